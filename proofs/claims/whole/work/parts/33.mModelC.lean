def f_X11_cost (S : Mm) (a1 : Int32) : Option (Int32 × Mm) :=
  ((f_X11_isWord S a1).bind fun r1 => (if r1 = 0 then some ((-1000000001), S) else ((f_X11_layLevels S a1).bind fun r3 => some (r3.1 160 0, r3))))
set_option maxRecDepth 100000 in
set_option maxHeartbeats 4000000 in
theorem t_X11_cost {S : Mm} {a1 : Int32} {out : Int32 × Mm} (h : f_X11_cost S a1 = some out) : Rs D_X11_cost [.ref 153, .int a1] S (some (.int out.1)) out.2 := by
  refine rs_of (by decide) rfl (Nat.le_of_ble_eq_true rfl) ?_
  unfold f_X11_cost at h
  show Ok D_X11_cost (0, 0) (0, 0) 0 [(0, .ref 153), (1, .int a1)] [] (St S) _
  refine ok_iload_n dX11_cost_0 1 rfl ?_
  obtain ⟨r1, e2, h⟩ := it_bind h
  refine okS_S (as := [.int a1]) (st := []) (r := some (.int r1)) (S' := S) dX11_cost_1 cv_X11_195 rfl (Nat.le_of_ble_eq_true rfl) ⟨⟨by decide, by decide⟩, rfl, rfl⟩ (t_X11_isWord e2) ?_
  show Ok D_X11_cost (0, 0) (0, 0) 4 [(0, .ref 153), (1, .int a1)] [.int r1] (St S) _
  refine ok_if_ne (tgt := 10) dX11_cost_4 (by decide) (fun hc => ?_) (fun hc => ?_)
  · replace h := it_neg hc h
    refine ok_aload_n dX11_cost_10 0 rfl ?_
    refine ok_iload_n dX11_cost_11 1 rfl ?_
    obtain ⟨r3, e4, h⟩ := it_bind h
    refine okS_V (as := [.int a1]) (st := []) (r := none) (S' := r3) dX11_cost_12 cv_X11_84 rfl po_153 (Nat.le_of_ble_eq_true rfl) ⟨⟨by decide, by decide⟩, rfl, rfl⟩ (t_X11_layLevels e4) ?_
    show Ok D_X11_cost (0, 0) (0, 0) 15 [(0, .ref 153), (1, .int a1)] [] (St r3) _
    refine ok_aload_n dX11_cost_15 0 rfl ?_
    refine okS_getR dX11_cost_16 fl_X11_32 pr_153_12 ?_
    refine ok_iconst (v := 0) dX11_cost_19 ic_0 ?_
    refine okS_ialoadL (j := 0) dX11_cost_20 pa_160 (by decide) tnl_0 ?_
    exact okS_ret dX11_cost_21 rfl rfl (by have e := Option.some.inj h; subst e; exact ⟨rfl, rfl⟩)
  · replace h := it_pos hc h
    refine ok_ldc (v := (-1000000001)) dX11_cost_7 wd_1127 ?_
    exact okS_ret dX11_cost_9 rfl rfl (by have e := Option.some.inj h; subst e; exact ⟨rfl, rfl⟩)
def lp_X11_steady_41 (k : Int32 → Int32 → Option (Int32)) (S : Mm) (c1 : Int32) (c2 : Int32) : Nat → Int32 → Int32 → Option (Int32)
  | 0, _, _ => none
  | fuel + 1, x3, x4 => (if (S.1 154 0) ≤ x4 then k x3 x4 else ((f_X11_unlikely S c1 x4 c2).bind fun r5 => lp_X11_steady_41 k S c1 c2 fuel (x3 + r5) (x4 + 1)))
def f_X11_steady (S : Mm) (a1 : Int32) (a2 : Int32) : Option (Int32) :=
  ((f_X11_isWord S a1).bind fun r1 => (if r1 = 0 then some (-1000000001) else ((f_X11_in S a2.toInt64 0 ((S.1 154 2).toInt64)).bind fun r3 => (if r3 = 0 then some (-1000000002) else lp_X11_steady_41 (fun y3_7 y4_8 => some y3_7) S a1 a2 100000 ((S.1 154 5) * a2) 0))))
set_option maxRecDepth 100000 in
set_option maxHeartbeats 4000000 in
theorem tlp_X11_steady_41 {k : Int32 → Int32 → Option (Int32)} {S : Mm} {c1 : Int32} {c2 : Int32} (hk : ∀ (x3 x4 : Int32) (out : Int32), k x3 x4 = some out → Ok D_X11_steady (0, 0) (0, 0) 69 [(0, .ref 153), (1, .int c1), (2, .int c2), (3, .int x3), (4, .int x4)] [] (St S) (An (some (.int out)) S)) : ∀ (fuel : Nat) (x3 x4 : Int32) (out : Int32), lp_X11_steady_41 k S c1 c2 fuel x3 x4 = some out → Ok D_X11_steady (0, 0) (0, 0) 41 [(0, .ref 153), (1, .int c1), (2, .int c2), (3, .int x3), (4, .int x4)] [] (St S) (An (some (.int out)) S) := by
  intro fuel
  induction fuel with
  | zero => intro x3 x4 out h; cases h
  | succ fuel ih =>
    intro x3 x4 out h
    rw [lp_X11_steady_41] at h
    refine ok_iload dX11_steady_41 4 rfl ?_
    refine ok_aload_n dX11_steady_43 0 rfl ?_
    refine okS_getR dX11_steady_44 fl_X11_7 pr_153_0 ?_
    refine ok_iconst (v := 0) dX11_steady_47 ic_0 ?_
    refine okS_ialoadL (j := 0) dX11_steady_48 pa_154 (by decide) tnl_0 ?_
    refine ok_icmp_ge (tgt := 69) dX11_steady_49 (by decide) (fun hc => ?_) (fun hc => ?_)
    · replace h := it_pos hc h
      refine ok_perm [0, 1, 2, 3, 4] rfl ?_
      exact hk _ _ _ h
    · replace h := it_neg hc h
      refine ok_iload_n dX11_steady_52 3 rfl ?_
      refine ok_aload_n dX11_steady_53 0 rfl ?_
      refine ok_iload_n dX11_steady_54 1 rfl ?_
      refine ok_iload dX11_steady_55 4 rfl ?_
      refine ok_iload_n dX11_steady_57 2 rfl ?_
      obtain ⟨r5, e6, h⟩ := it_bind h
      refine okS_V (as := [.int c1, .int x4, .int c2]) (st := [.int x3]) (r := some (.int r5)) (S' := S) dX11_steady_58 cv_X11_74 rfl po_153 (Nat.le_of_ble_eq_true rfl) ⟨⟨by decide, by decide⟩, rfl, rfl⟩ (t_X11_unlikely e6) ?_
      show Ok D_X11_steady (0, 0) (0, 0) 61 [(0, .ref 153), (1, .int c1), (2, .int c2), (3, .int x3), (4, .int x4)] [.int r5, .int x3] (St S) _
      refine ok_iadd dX11_steady_61 ?_
      refine ok_istore_n (L' := [(3, .int (x3 + r5)), (0, .ref 153), (1, .int c1), (2, .int c2), (4, .int x4)]) dX11_steady_62 (by decide) rfl ?_
      refine ok_iinc (v := x4 + 1) (L' := [(4, .int (x4 + 1)), (3, .int (x3 + r5)), (0, .ref 153), (1, .int c1), (2, .int c2)]) dX11_steady_63 4 rfl (ii_1 _) (by decide) rfl ?_
      refine ok_goto (tgt := 41) dX11_steady_66 (by decide) ?_
      refine ok_perm [2, 3, 4, 1, 0] rfl ?_
      exact ih _ _ _ h
set_option maxRecDepth 100000 in
set_option maxHeartbeats 4000000 in
theorem t_X11_steady {S : Mm} {a1 : Int32} {a2 : Int32} {out : Int32} (h : f_X11_steady S a1 a2 = some out) : Rs D_X11_steady [.ref 153, .int a1, .int a2] S (some (.int out)) S := by
  refine rs_of (by decide) rfl (Nat.le_of_ble_eq_true rfl) ?_
  unfold f_X11_steady at h
  show Ok D_X11_steady (0, 0) (0, 0) 0 [(0, .ref 153), (1, .int a1), (2, .int a2)] [] (St S) _
  refine ok_iload_n dX11_steady_0 1 rfl ?_
  obtain ⟨r1, e2, h⟩ := it_bind h
  refine okS_S (as := [.int a1]) (st := []) (r := some (.int r1)) (S' := S) dX11_steady_1 cv_X11_195 rfl (Nat.le_of_ble_eq_true rfl) ⟨⟨by decide, by decide⟩, rfl, rfl⟩ (t_X11_isWord e2) ?_
  show Ok D_X11_steady (0, 0) (0, 0) 4 [(0, .ref 153), (1, .int a1), (2, .int a2)] [.int r1] (St S) _
  refine ok_if_ne (tgt := 10) dX11_steady_4 (by decide) (fun hc => ?_) (fun hc => ?_)
  · replace h := it_neg hc h
    refine ok_iload_n dX11_steady_10 2 rfl ?_
    refine ok_i2l dX11_steady_11 ?_
    refine ok_lconst (v := 0) dX11_steady_12 (by decide) ?_
    refine ok_aload_n dX11_steady_13 0 rfl ?_
    refine okS_getR dX11_steady_14 fl_X11_7 pr_153_0 ?_
    refine ok_iconst (v := 2) dX11_steady_17 ic_2 ?_
    refine okS_ialoadL (j := 2) dX11_steady_18 pa_154 (by decide) tnl_2 ?_
    refine ok_i2l dX11_steady_19 ?_
    obtain ⟨r3, e4, h⟩ := it_bind h
    refine okS_S (as := [.long a2.toInt64, .long 0, .long ((S.1 154 2).toInt64)]) (st := []) (r := some (.int r3)) (S' := S) dX11_steady_20 cv_X11_94 rfl (Nat.le_of_ble_eq_true rfl) ⟨⟨by decide, by decide⟩, rfl, rfl⟩ (t_X11_in e4) ?_
    show Ok D_X11_steady (0, 0) (0, 0) 23 [(0, .ref 153), (1, .int a1), (2, .int a2)] [.int r3] (St S) _
    refine ok_if_ne (tgt := 29) dX11_steady_23 (by decide) (fun hc => ?_) (fun hc => ?_)
    · replace h := it_neg hc h
      refine ok_aload_n dX11_steady_29 0 rfl ?_
      refine okS_getR dX11_steady_30 fl_X11_7 pr_153_0 ?_
      refine ok_iconst (v := 5) dX11_steady_33 ic_5 ?_
      refine okS_ialoadL (j := 5) dX11_steady_34 pa_154 (by decide) tnl_5 ?_
      refine ok_iload_n dX11_steady_35 2 rfl ?_
      refine ok_imul dX11_steady_36 ?_
      refine ok_istore_n (L' := [(3, .int ((S.1 154 5) * a2)), (0, .ref 153), (1, .int a1), (2, .int a2)]) dX11_steady_37 (by decide) rfl ?_
      refine ok_iconst (v := 0) dX11_steady_38 ic_0 ?_
      refine ok_istore (L' := [(4, .int 0), (3, .int ((S.1 154 5) * a2)), (0, .ref 153), (1, .int a1), (2, .int a2)]) dX11_steady_39 (by decide) rfl ?_
      refine ok_perm [2, 3, 4, 1, 0] rfl ?_
      refine tlp_X11_steady_41 (fun y3_7 y4_8 out9 h => ?_) _ _ _ _ h
      refine ok_iload_n dX11_steady_69 3 rfl ?_
      exact okS_ret dX11_steady_70 rfl rfl (by have e := Option.some.inj h; subst e; exact ⟨rfl, rfl⟩)
    · replace h := it_pos hc h
      refine ok_ldc (v := (-1000000002)) dX11_steady_26 wd_998 ?_
      exact okS_ret dX11_steady_28 rfl rfl (by have e := Option.some.inj h; subst e; exact ⟨rfl, rfl⟩)
  · replace h := it_pos hc h
    refine ok_ldc (v := (-1000000001)) dX11_steady_7 wd_1127 ?_
    exact okS_ret dX11_steady_9 rfl rfl (by have e := Option.some.inj h; subst e; exact ⟨rfl, rfl⟩)
def lp_X11_within_4 (k : Int32 → Int32 → Option (Int32)) (S : Mm) (c1 : Int32) : Nat → Int32 → Int32 → Option (Int32)
  | 0, _, _ => none
  | fuel + 1, x2, x3 => (if (S.1 153 19) ≤ x3 then k x2 x3 else (if inb x3 160 then (if inb c1 160 then (if (S.1 162 x3.toNatClampNeg) = (S.1 162 c1.toNatClampNeg) then (if inb x3 160 then (if inb c1 160 then (if (S.1 163 x3.toNatClampNeg) = ((S.1 163 c1.toNatClampNeg) - 1) then (if inb c1 160 then ((f_X11_isIn S x3 (S.1 164 c1.toNatClampNeg)).bind fun r6 => (if r6 = 0 then lp_X11_within_4 k S c1 fuel x2 (x3 + 1) else lp_X11_within_4 k S c1 fuel x3 (x3 + 1))) else none) else lp_X11_within_4 k S c1 fuel x2 (x3 + 1)) else none) else none) else lp_X11_within_4 k S c1 fuel x2 (x3 + 1)) else none) else none))
def f_X11_within (S : Mm) (a1 : Int32) : Option (Int32) :=
  lp_X11_within_4 (fun y2_8 y3_9 => some y2_8) S a1 100000 (-1) 0
set_option maxRecDepth 100000 in
set_option maxHeartbeats 4000000 in
theorem tlp_X11_within_4 {k : Int32 → Int32 → Option (Int32)} {S : Mm} {c1 : Int32} (hk : ∀ (x2 x3 : Int32) (out : Int32), k x2 x3 = some out → Ok D_X11_within (0, 0) (0, 0) 82 [(0, .ref 153), (1, .int c1), (2, .int x2), (3, .int x3)] [] (St S) (An (some (.int out)) S)) : ∀ (fuel : Nat) (x2 x3 : Int32) (out : Int32), lp_X11_within_4 k S c1 fuel x2 x3 = some out → Ok D_X11_within (0, 0) (0, 0) 4 [(0, .ref 153), (1, .int c1), (2, .int x2), (3, .int x3)] [] (St S) (An (some (.int out)) S) := by
  intro fuel
  induction fuel with
  | zero => intro x2 x3 out h; cases h
  | succ fuel ih =>
    intro x2 x3 out h
    rw [lp_X11_within_4] at h
    refine ok_iload_n dX11_within_4 3 rfl ?_
    refine ok_aload_n dX11_within_5 0 rfl ?_
    refine okS_getI dX11_within_6 fl_X11_88 pi_153_19 ?_
    refine ok_icmp_ge (tgt := 82) dX11_within_9 (by decide) (fun hc => ?_) (fun hc => ?_)
    · replace h := it_pos hc h
      refine ok_perm [0, 1, 2, 3] rfl ?_
      exact hk _ _ _ h
    · replace h := it_neg hc h
      refine ok_aload_n dX11_within_12 0 rfl ?_
      refine okS_getR dX11_within_13 fl_X11_38 pr_153_14 ?_
      refine ok_iload_n dX11_within_16 3 rfl ?_
      obtain ⟨hi1, h⟩ := it_some h
      refine okS_iaload dX11_within_17 pa_162 hi1 ?_
      refine ok_aload_n dX11_within_18 0 rfl ?_
      refine okS_getR dX11_within_19 fl_X11_38 pr_153_14 ?_
      refine ok_iload_n dX11_within_22 1 rfl ?_
      obtain ⟨hi2, h⟩ := it_some h
      refine okS_iaload dX11_within_23 pa_162 hi2 ?_
      refine ok_icmp_ne (tgt := 62) dX11_within_24 (by decide) (fun hc => ?_) (fun hc => ?_)
      · replace h := it_neg hc h
        refine ok_iconst (v := 0) dX11_within_62 ic_0 ?_
        refine ok_istore (L' := [(4, .int 0), (0, .ref 153), (1, .int c1), (2, .int x2), (3, .int x3)]) dX11_within_63 (by decide) rfl ?_
        refine ok_iload dX11_within_65 0 rfl ?_
        refine ok_if_eq (tgt := 74) dX11_within_67 (by decide) (fun hc => ?_) (fun hc => absurd hc (by decide))
        refine ok_iload_n dX11_within_74 3 rfl ?_
        refine ok_istore_n (L' := [(2, .int x2), (4, .int 0), (0, .ref 153), (1, .int c1), (3, .int x3)]) dX11_within_75 (by decide) rfl ?_
        refine ok_iinc (v := x3 + 1) (L' := [(3, .int (x3 + 1)), (2, .int x2), (4, .int 0), (0, .ref 153), (1, .int c1)]) dX11_within_76 4 rfl (ii_1 _) (by decide) rfl ?_
        refine ok_goto (tgt := 4) dX11_within_79 (by decide) ?_
        refine ok_perm [3, 4, 1, 0] rfl ?_
        exact ih _ _ _ h
      · replace h := it_pos hc h
        refine ok_aload_n dX11_within_27 0 rfl ?_
        refine okS_getR dX11_within_28 fl_X11_41 pr_153_15 ?_
        refine ok_iload_n dX11_within_31 3 rfl ?_
        obtain ⟨hi3, h⟩ := it_some h
        refine okS_iaload dX11_within_32 pa_163 hi3 ?_
        refine ok_aload_n dX11_within_33 0 rfl ?_
        refine okS_getR dX11_within_34 fl_X11_41 pr_153_15 ?_
        refine ok_iload_n dX11_within_37 1 rfl ?_
        obtain ⟨hi4, h⟩ := it_some h
        refine okS_iaload dX11_within_38 pa_163 hi4 ?_
        refine ok_iconst (v := 1) dX11_within_39 ic_1 ?_
        refine ok_isub dX11_within_40 ?_
        refine ok_icmp_ne (tgt := 62) dX11_within_41 (by decide) (fun hc => ?_) (fun hc => ?_)
        · replace h := it_neg hc h
          refine ok_iconst (v := 0) dX11_within_62 ic_0 ?_
          refine ok_istore (L' := [(4, .int 0), (0, .ref 153), (1, .int c1), (2, .int x2), (3, .int x3)]) dX11_within_63 (by decide) rfl ?_
          refine ok_iload dX11_within_65 0 rfl ?_
          refine ok_if_eq (tgt := 74) dX11_within_67 (by decide) (fun hc => ?_) (fun hc => absurd hc (by decide))
          refine ok_iload_n dX11_within_74 3 rfl ?_
          refine ok_istore_n (L' := [(2, .int x2), (4, .int 0), (0, .ref 153), (1, .int c1), (3, .int x3)]) dX11_within_75 (by decide) rfl ?_
          refine ok_iinc (v := x3 + 1) (L' := [(3, .int (x3 + 1)), (2, .int x2), (4, .int 0), (0, .ref 153), (1, .int c1)]) dX11_within_76 4 rfl (ii_1 _) (by decide) rfl ?_
          refine ok_goto (tgt := 4) dX11_within_79 (by decide) ?_
          refine ok_perm [3, 4, 1, 0] rfl ?_
          exact ih _ _ _ h
        · replace h := it_pos hc h
          refine ok_aload_n dX11_within_44 0 rfl ?_
          refine ok_iload_n dX11_within_45 3 rfl ?_
          refine ok_aload_n dX11_within_46 0 rfl ?_
          refine okS_getR dX11_within_47 fl_X11_44 pr_153_16 ?_
          refine ok_iload_n dX11_within_50 1 rfl ?_
          obtain ⟨hi5, h⟩ := it_some h
          refine okS_iaload dX11_within_51 pa_164 hi5 ?_
          obtain ⟨r6, e7, h⟩ := it_bind h
          refine okS_V (as := [.int x3, .int (S.1 164 c1.toNatClampNeg)]) (st := []) (r := some (.int r6)) (S' := S) dX11_within_52 cv_X11_98 rfl po_153 (Nat.le_of_ble_eq_true rfl) ⟨⟨by decide, by decide⟩, rfl, rfl⟩ (t_X11_isIn e7) ?_
          show Ok D_X11_within (0, 0) (0, 0) 55 [(0, .ref 153), (1, .int c1), (2, .int x2), (3, .int x3)] [.int r6] (St S) _
          refine ok_if_eq (tgt := 62) dX11_within_55 (by decide) (fun hc => ?_) (fun hc => ?_)
          · replace h := it_pos hc h
            refine ok_iconst (v := 0) dX11_within_62 ic_0 ?_
            refine ok_istore (L' := [(4, .int 0), (0, .ref 153), (1, .int c1), (2, .int x2), (3, .int x3)]) dX11_within_63 (by decide) rfl ?_
            refine ok_iload dX11_within_65 0 rfl ?_
            refine ok_if_eq (tgt := 74) dX11_within_67 (by decide) (fun hc => ?_) (fun hc => absurd hc (by decide))
            refine ok_iload_n dX11_within_74 3 rfl ?_
            refine ok_istore_n (L' := [(2, .int x2), (4, .int 0), (0, .ref 153), (1, .int c1), (3, .int x3)]) dX11_within_75 (by decide) rfl ?_
            refine ok_iinc (v := x3 + 1) (L' := [(3, .int (x3 + 1)), (2, .int x2), (4, .int 0), (0, .ref 153), (1, .int c1)]) dX11_within_76 4 rfl (ii_1 _) (by decide) rfl ?_
            refine ok_goto (tgt := 4) dX11_within_79 (by decide) ?_
            refine ok_perm [3, 4, 1, 0] rfl ?_
            exact ih _ _ _ h
          · replace h := it_neg hc h
            refine ok_iconst (v := 1) dX11_within_58 ic_1 ?_
            refine ok_goto (tgt := 63) dX11_within_59 (by decide) ?_
            refine ok_istore (L' := [(4, .int 1), (0, .ref 153), (1, .int c1), (2, .int x2), (3, .int x3)]) dX11_within_63 (by decide) rfl ?_
            refine ok_iload dX11_within_65 0 rfl ?_
            refine ok_if_eq (tgt := 74) dX11_within_67 (by decide) (fun hc => absurd hc (by decide)) (fun hc => ?_)
            refine ok_iload_n dX11_within_70 4 rfl ?_
            refine ok_goto (tgt := 75) dX11_within_71 (by decide) ?_
            refine ok_istore_n (L' := [(2, .int x3), (4, .int 1), (0, .ref 153), (1, .int c1), (3, .int x3)]) dX11_within_75 (by decide) rfl ?_
            refine ok_iinc (v := x3 + 1) (L' := [(3, .int (x3 + 1)), (2, .int x3), (4, .int 1), (0, .ref 153), (1, .int c1)]) dX11_within_76 4 rfl (ii_1 _) (by decide) rfl ?_
            refine ok_goto (tgt := 4) dX11_within_79 (by decide) ?_
            refine ok_perm [3, 4, 1, 0] rfl ?_
            exact ih _ _ _ h
set_option maxRecDepth 100000 in
set_option maxHeartbeats 4000000 in
theorem t_X11_within {S : Mm} {a1 : Int32} {out : Int32} (h : f_X11_within S a1 = some out) : Rs D_X11_within [.ref 153, .int a1] S (some (.int out)) S := by
  refine rs_of (by decide) rfl (Nat.le_of_ble_eq_true rfl) ?_
  unfold f_X11_within at h
  show Ok D_X11_within (0, 0) (0, 0) 0 [(0, .ref 153), (1, .int a1)] [] (St S) _
  refine ok_iconst (v := (-1)) dX11_within_0 ic_m1 ?_
  refine ok_istore_n (L' := [(2, .int (-1)), (0, .ref 153), (1, .int a1)]) dX11_within_1 (by decide) rfl ?_
  refine ok_iconst (v := 0) dX11_within_2 ic_0 ?_
  refine ok_istore_n (L' := [(3, .int 0), (2, .int (-1)), (0, .ref 153), (1, .int a1)]) dX11_within_3 (by decide) rfl ?_
  refine ok_perm [2, 3, 1, 0] rfl ?_
  refine tlp_X11_within_4 (fun y2_8 y3_9 out10 h => ?_) _ _ _ _ h
  refine ok_iload_n dX11_within_82 2 rfl ?_
  exact okS_ret dX11_within_83 rfl rfl (by have e := Option.some.inj h; subst e; exact ⟨rfl, rfl⟩)
def lp_X11_weight_9 (k : Int32 → Int32 → Option (Int32)) (S : Mm) (c1 : Int32) : Nat → Int32 → Int32 → Option (Int32)
  | 0, _, _ => none
  | fuel + 1, x2, x3 => (if inb c1 160 then (if (S.1 165 c1.toNatClampNeg) < x3 then k x2 x3 else (if inb c1 160 then (if inb c1 160 then ((f_X11_unlikely S (S.1 162 c1.toNatClampNeg) x3 ((S.1 163 c1.toNatClampNeg) - 1)).bind fun r5 => (if inb c1 160 then (if inb c1 160 then ((f_X11_unlikely S (S.1 162 c1.toNatClampNeg) x3 (S.1 163 c1.toNatClampNeg)).bind fun r9 => lp_X11_weight_9 k S c1 fuel (x2 + (r5 - r9)) (x3 + 1)) else none) else none)) else none) else none)) else none)
def f_X11_weight (S : Mm) (a1 : Int32) : Option (Int32) :=
  (if inb a1 160 then lp_X11_weight_9 (fun y2_11 y3_12 => some y2_11) S a1 100000 0 (S.1 164 a1.toNatClampNeg) else none)
set_option maxRecDepth 100000 in
set_option maxHeartbeats 4000000 in
theorem tlp_X11_weight_9 {k : Int32 → Int32 → Option (Int32)} {S : Mm} {c1 : Int32} (hk : ∀ (x2 x3 : Int32) (out : Int32), k x2 x3 = some out → Ok D_X11_weight (0, 0) (0, 0) 65 [(0, .ref 153), (1, .int c1), (2, .int x2), (3, .int x3)] [] (St S) (An (some (.int out)) S)) : ∀ (fuel : Nat) (x2 x3 : Int32) (out : Int32), lp_X11_weight_9 k S c1 fuel x2 x3 = some out → Ok D_X11_weight (0, 0) (0, 0) 9 [(0, .ref 153), (1, .int c1), (2, .int x2), (3, .int x3)] [] (St S) (An (some (.int out)) S) := by
  intro fuel
  induction fuel with
  | zero => intro x2 x3 out h; cases h
  | succ fuel ih =>
    intro x2 x3 out h
    rw [lp_X11_weight_9] at h
    refine ok_iload_n dX11_weight_9 3 rfl ?_
    refine ok_aload_n dX11_weight_10 0 rfl ?_
    refine okS_getR dX11_weight_11 fl_X11_47 pr_153_17 ?_
    refine ok_iload_n dX11_weight_14 1 rfl ?_
    obtain ⟨hi2, h⟩ := it_some h
    refine okS_iaload dX11_weight_15 pa_165 hi2 ?_
    refine ok_icmp_gt (tgt := 65) dX11_weight_16 (by decide) (fun hc => ?_) (fun hc => ?_)
    · replace h := it_pos hc h
      refine ok_perm [0, 1, 2, 3] rfl ?_
      exact hk _ _ _ h
    · replace h := it_neg hc h
      refine ok_iload_n dX11_weight_19 2 rfl ?_
      refine ok_aload_n dX11_weight_20 0 rfl ?_
      refine ok_aload_n dX11_weight_21 0 rfl ?_
      refine okS_getR dX11_weight_22 fl_X11_38 pr_153_14 ?_
      refine ok_iload_n dX11_weight_25 1 rfl ?_
      obtain ⟨hi3, h⟩ := it_some h
      refine okS_iaload dX11_weight_26 pa_162 hi3 ?_
      refine ok_iload_n dX11_weight_27 3 rfl ?_
      refine ok_aload_n dX11_weight_28 0 rfl ?_
      refine okS_getR dX11_weight_29 fl_X11_41 pr_153_15 ?_
      refine ok_iload_n dX11_weight_32 1 rfl ?_
      obtain ⟨hi4, h⟩ := it_some h
      refine okS_iaload dX11_weight_33 pa_163 hi4 ?_
      refine ok_iconst (v := 1) dX11_weight_34 ic_1 ?_
      refine ok_isub dX11_weight_35 ?_
      obtain ⟨r5, e6, h⟩ := it_bind h
      refine okS_V (as := [.int (S.1 162 c1.toNatClampNeg), .int x3, .int ((S.1 163 c1.toNatClampNeg) - 1)]) (st := [.int x2]) (r := some (.int r5)) (S' := S) dX11_weight_36 cv_X11_74 rfl po_153 (Nat.le_of_ble_eq_true rfl) ⟨⟨by decide, by decide⟩, rfl, rfl⟩ (t_X11_unlikely e6) ?_
      show Ok D_X11_weight (0, 0) (0, 0) 39 [(0, .ref 153), (1, .int c1), (2, .int x2), (3, .int x3)] [.int r5, .int x2] (St S) _
      refine ok_aload_n dX11_weight_39 0 rfl ?_
      refine ok_aload_n dX11_weight_40 0 rfl ?_
      refine okS_getR dX11_weight_41 fl_X11_38 pr_153_14 ?_
      refine ok_iload_n dX11_weight_44 1 rfl ?_
      obtain ⟨hi7, h⟩ := it_some h
      refine okS_iaload dX11_weight_45 pa_162 hi7 ?_
      refine ok_iload_n dX11_weight_46 3 rfl ?_
      refine ok_aload_n dX11_weight_47 0 rfl ?_
      refine okS_getR dX11_weight_48 fl_X11_41 pr_153_15 ?_
      refine ok_iload_n dX11_weight_51 1 rfl ?_
      obtain ⟨hi8, h⟩ := it_some h
      refine okS_iaload dX11_weight_52 pa_163 hi8 ?_
      obtain ⟨r9, e10, h⟩ := it_bind h
      refine okS_V (as := [.int (S.1 162 c1.toNatClampNeg), .int x3, .int (S.1 163 c1.toNatClampNeg)]) (st := [.int r5, .int x2]) (r := some (.int r9)) (S' := S) dX11_weight_53 cv_X11_74 rfl po_153 (Nat.le_of_ble_eq_true rfl) ⟨⟨by decide, by decide⟩, rfl, rfl⟩ (t_X11_unlikely e10) ?_
      show Ok D_X11_weight (0, 0) (0, 0) 56 [(0, .ref 153), (1, .int c1), (2, .int x2), (3, .int x3)] [.int r9, .int r5, .int x2] (St S) _
      refine ok_isub dX11_weight_56 ?_
      refine ok_iadd dX11_weight_57 ?_
      refine ok_istore_n (L' := [(2, .int (x2 + (r5 - r9))), (0, .ref 153), (1, .int c1), (3, .int x3)]) dX11_weight_58 (by decide) rfl ?_
      refine ok_iinc (v := x3 + 1) (L' := [(3, .int (x3 + 1)), (2, .int (x2 + (r5 - r9))), (0, .ref 153), (1, .int c1)]) dX11_weight_59 3 rfl (ii_1 _) (by decide) rfl ?_
      refine ok_goto (tgt := 9) dX11_weight_62 (by decide) ?_
      refine ok_perm [2, 3, 1, 0] rfl ?_
      exact ih _ _ _ h
set_option maxRecDepth 100000 in
set_option maxHeartbeats 4000000 in
theorem t_X11_weight {S : Mm} {a1 : Int32} {out : Int32} (h : f_X11_weight S a1 = some out) : Rs D_X11_weight [.ref 153, .int a1] S (some (.int out)) S := by
  refine rs_of (by decide) rfl (Nat.le_of_ble_eq_true rfl) ?_
  unfold f_X11_weight at h
  show Ok D_X11_weight (0, 0) (0, 0) 0 [(0, .ref 153), (1, .int a1)] [] (St S) _
  refine ok_iconst (v := 0) dX11_weight_0 ic_0 ?_
  refine ok_istore_n (L' := [(2, .int 0), (0, .ref 153), (1, .int a1)]) dX11_weight_1 (by decide) rfl ?_
  refine ok_aload_n dX11_weight_2 1 rfl ?_
  refine okS_getR dX11_weight_3 fl_X11_44 pr_153_16 ?_
  refine ok_iload_n dX11_weight_6 2 rfl ?_
  obtain ⟨hi1, h⟩ := it_some h
  refine okS_iaload dX11_weight_7 pa_164 hi1 ?_
  refine ok_istore_n (L' := [(3, .int (S.1 164 a1.toNatClampNeg)), (2, .int 0), (0, .ref 153), (1, .int a1)]) dX11_weight_8 (by decide) rfl ?_
  refine ok_perm [2, 3, 1, 0] rfl ?_
  refine tlp_X11_weight_9 (fun y2_11 y3_12 out13 h => ?_) _ _ _ _ h
  refine ok_iload_n dX11_weight_65 2 rfl ?_
  exact okS_ret dX11_weight_66 rfl rfl (by have e := Option.some.inj h; subst e; exact ⟨rfl, rfl⟩)
def lp_X11_peak_14 (k : Int32 → Int32 → Option (Int32)) (S : Mm) (c1 : Int32) : Nat → Int32 → Int32 → Option (Int32)
  | 0, _, _ => none
  | fuel + 1, x2, x3 => (if inb c1 160 then (if (S.1 165 c1.toNatClampNeg) < x3 then k x2 x3 else (if inb c1 160 then ((f_X11_count S x3 (1 <<< ((S.1 162 c1.toNatClampNeg) &&& 31))).bind fun r5 => (if inb c1 160 then ((f_X11_count S x2 (1 <<< ((S.1 162 c1.toNatClampNeg) &&& 31))).bind fun r8 => (if r5 ≤ r8 then lp_X11_peak_14 k S c1 fuel x2 (x3 + 1) else lp_X11_peak_14 k S c1 fuel x3 (x3 + 1))) else none)) else none)) else none)
def f_X11_peak (S : Mm) (a1 : Int32) : Option (Int32) :=
  (if inb a1 160 then (if inb a1 160 then lp_X11_peak_14 (fun y2_10 y3_11 => some y2_10) S a1 100000 (S.1 164 a1.toNatClampNeg) (S.1 164 a1.toNatClampNeg) else none) else none)
set_option maxRecDepth 100000 in
set_option maxHeartbeats 4000000 in
theorem tlp_X11_peak_14 {k : Int32 → Int32 → Option (Int32)} {S : Mm} {c1 : Int32} (hk : ∀ (x2 x3 : Int32) (out : Int32), k x2 x3 = some out → Ok D_X11_peak (0, 0) (0, 0) 65 [(0, .ref 153), (1, .int c1), (2, .int x2), (3, .int x3)] [] (St S) (An (some (.int out)) S)) : ∀ (fuel : Nat) (x2 x3 : Int32) (out : Int32), lp_X11_peak_14 k S c1 fuel x2 x3 = some out → Ok D_X11_peak (0, 0) (0, 0) 14 [(0, .ref 153), (1, .int c1), (2, .int x2), (3, .int x3)] [] (St S) (An (some (.int out)) S) := by
  intro fuel
  induction fuel with
  | zero => intro x2 x3 out h; cases h
  | succ fuel ih =>
    intro x2 x3 out h
    rw [lp_X11_peak_14] at h
    refine ok_iload_n dX11_peak_14 3 rfl ?_
    refine ok_aload_n dX11_peak_15 0 rfl ?_
    refine okS_getR dX11_peak_16 fl_X11_47 pr_153_17 ?_
    refine ok_iload_n dX11_peak_19 1 rfl ?_
    obtain ⟨hi3, h⟩ := it_some h
    refine okS_iaload dX11_peak_20 pa_165 hi3 ?_
    refine ok_icmp_gt (tgt := 65) dX11_peak_21 (by decide) (fun hc => ?_) (fun hc => ?_)
    · replace h := it_pos hc h
      refine ok_perm [0, 1, 2, 3] rfl ?_
      exact hk _ _ _ h
    · replace h := it_neg hc h
      refine ok_aload_n dX11_peak_24 0 rfl ?_
      refine ok_iload_n dX11_peak_25 3 rfl ?_
      refine ok_iconst (v := 1) dX11_peak_26 ic_1 ?_
      refine ok_aload_n dX11_peak_27 0 rfl ?_
      refine okS_getR dX11_peak_28 fl_X11_38 pr_153_14 ?_
      refine ok_iload_n dX11_peak_31 1 rfl ?_
      obtain ⟨hi4, h⟩ := it_some h
      refine okS_iaload dX11_peak_32 pa_162 hi4 ?_
      refine ok_ishl dX11_peak_33 ?_
      obtain ⟨r5, e6, h⟩ := it_bind h
      refine okS_V (as := [.int x3, .int (1 <<< ((S.1 162 c1.toNatClampNeg) &&& 31))]) (st := []) (r := some (.int r5)) (S' := S) dX11_peak_34 cv_X11_66 rfl po_153 (Nat.le_of_ble_eq_true rfl) ⟨⟨by decide, by decide⟩, rfl, rfl⟩ (t_X11_count e6) ?_
      show Ok D_X11_peak (0, 0) (0, 0) 37 [(0, .ref 153), (1, .int c1), (2, .int x2), (3, .int x3)] [.int r5] (St S) _
      refine ok_aload_n dX11_peak_37 0 rfl ?_
      refine ok_iload_n dX11_peak_38 2 rfl ?_
      refine ok_iconst (v := 1) dX11_peak_39 ic_1 ?_
      refine ok_aload_n dX11_peak_40 0 rfl ?_
      refine okS_getR dX11_peak_41 fl_X11_38 pr_153_14 ?_
      refine ok_iload_n dX11_peak_44 1 rfl ?_
      obtain ⟨hi7, h⟩ := it_some h
      refine okS_iaload dX11_peak_45 pa_162 hi7 ?_
      refine ok_ishl dX11_peak_46 ?_
      obtain ⟨r8, e9, h⟩ := it_bind h
      refine okS_V (as := [.int x2, .int (1 <<< ((S.1 162 c1.toNatClampNeg) &&& 31))]) (st := [.int r5]) (r := some (.int r8)) (S' := S) dX11_peak_47 cv_X11_66 rfl po_153 (Nat.le_of_ble_eq_true rfl) ⟨⟨by decide, by decide⟩, rfl, rfl⟩ (t_X11_count e9) ?_
      show Ok D_X11_peak (0, 0) (0, 0) 50 [(0, .ref 153), (1, .int c1), (2, .int x2), (3, .int x3)] [.int r8, .int r5] (St S) _
      refine ok_icmp_le (tgt := 57) dX11_peak_50 (by decide) (fun hc => ?_) (fun hc => ?_)
      · replace h := it_pos hc h
        refine ok_iload_n dX11_peak_57 2 rfl ?_
        refine ok_istore_n (L' := [(2, .int x2), (0, .ref 153), (1, .int c1), (3, .int x3)]) dX11_peak_58 (by decide) rfl ?_
        refine ok_iinc (v := x3 + 1) (L' := [(3, .int (x3 + 1)), (2, .int x2), (0, .ref 153), (1, .int c1)]) dX11_peak_59 3 rfl (ii_1 _) (by decide) rfl ?_
        refine ok_goto (tgt := 14) dX11_peak_62 (by decide) ?_
        refine ok_perm [2, 3, 1, 0] rfl ?_
        exact ih _ _ _ h
      · replace h := it_neg hc h
        refine ok_iload_n dX11_peak_53 3 rfl ?_
        refine ok_goto (tgt := 58) dX11_peak_54 (by decide) ?_
        refine ok_istore_n (L' := [(2, .int x3), (0, .ref 153), (1, .int c1), (3, .int x3)]) dX11_peak_58 (by decide) rfl ?_
        refine ok_iinc (v := x3 + 1) (L' := [(3, .int (x3 + 1)), (2, .int x3), (0, .ref 153), (1, .int c1)]) dX11_peak_59 3 rfl (ii_1 _) (by decide) rfl ?_
        refine ok_goto (tgt := 14) dX11_peak_62 (by decide) ?_
        refine ok_perm [2, 3, 1, 0] rfl ?_
        exact ih _ _ _ h
set_option maxRecDepth 100000 in
set_option maxHeartbeats 4000000 in
theorem t_X11_peak {S : Mm} {a1 : Int32} {out : Int32} (h : f_X11_peak S a1 = some out) : Rs D_X11_peak [.ref 153, .int a1] S (some (.int out)) S := by
  refine rs_of (by decide) rfl (Nat.le_of_ble_eq_true rfl) ?_
  unfold f_X11_peak at h
  show Ok D_X11_peak (0, 0) (0, 0) 0 [(0, .ref 153), (1, .int a1)] [] (St S) _
  refine ok_aload_n dX11_peak_0 0 rfl ?_
  refine okS_getR dX11_peak_1 fl_X11_44 pr_153_16 ?_
  refine ok_iload_n dX11_peak_4 1 rfl ?_
  obtain ⟨hi1, h⟩ := it_some h
  refine okS_iaload dX11_peak_5 pa_164 hi1 ?_
  refine ok_istore_n (L' := [(2, .int (S.1 164 a1.toNatClampNeg)), (0, .ref 153), (1, .int a1)]) dX11_peak_6 (by decide) rfl ?_
  refine ok_aload_n dX11_peak_7 1 rfl ?_
  refine okS_getR dX11_peak_8 fl_X11_44 pr_153_16 ?_
  refine ok_iload_n dX11_peak_11 2 rfl ?_
  obtain ⟨hi2, h⟩ := it_some h
  refine okS_iaload dX11_peak_12 pa_164 hi2 ?_
  refine ok_istore_n (L' := [(3, .int (S.1 164 a1.toNatClampNeg)), (2, .int (S.1 164 a1.toNatClampNeg)), (0, .ref 153), (1, .int a1)]) dX11_peak_13 (by decide) rfl ?_
  refine ok_perm [2, 3, 1, 0] rfl ?_
  refine tlp_X11_peak_14 (fun y2_10 y3_11 out12 h => ?_) _ _ _ _ h
  refine ok_iload_n dX11_peak_65 2 rfl ?_
  exact okS_ret dX11_peak_66 rfl rfl (by have e := Option.some.inj h; subst e; exact ⟨rfl, rfl⟩)
def f_X11_flare (S : Mm) (a1 : Int32) (a2 : Int32) : Option (Int32 × Mm) :=
  ((f_X11_layHeaps S).bind fun r1 => ((f_X11_in r1 a1.toInt64 0 (((r1.1 153 19) - 1).toInt64)).bind fun r3 => (if r3 = 0 then some ((-1000000001), r1) else (if a2 = 0 then (if inb a1 160 then some (r1.1 162 a1.toNatClampNeg, r1) else none) else (if a2 = 1 then (if inb a1 160 then some (r1.1 163 a1.toNatClampNeg, r1) else none) else (if a2 = 2 then (if inb a1 160 then some (r1.1 164 a1.toNatClampNeg, r1) else none) else (if a2 = 3 then (if inb a1 160 then some (r1.1 165 a1.toNatClampNeg, r1) else none) else (if a2 = 4 then ((f_X11_within r1 a1).bind fun r14 => some (r14, r1)) else (if a2 = 5 then ((f_X11_weight r1 a1).bind fun r17 => some (r17 + 1000, r1)) else (if a2 = 6 then ((f_X11_peak r1 a1).bind fun r20 => some (r20, r1)) else (if a2 = 7 then ((f_X11_peak r1 a1).bind fun r23 => (if inb a1 160 then ((f_X11_count r1 r23 (1 <<< ((r1.1 162 a1.toNatClampNeg) &&& 31))).bind fun r26 => (if inb a1 160 then (if inb a1 160 then ((f_X11_count r1 (r1.1 165 a1.toNatClampNeg) (1 <<< ((r1.1 162 a1.toNatClampNeg) &&& 31))).bind fun r30 => some (r26 - r30, r1)) else none) else none)) else none)) else (if a2 = 8 then ((f_X11_storyOf r1 a1).bind fun r33 => some (r33, r1)) else some ((-1000000002), r1)))))))))))))
set_option maxRecDepth 100000 in
set_option maxHeartbeats 4000000 in
theorem t_X11_flare {S : Mm} {a1 : Int32} {a2 : Int32} {out : Int32 × Mm} (h : f_X11_flare S a1 a2 = some out) : Rs D_X11_flare [.ref 153, .int a1, .int a2] S (some (.int out.1)) out.2 := by
  refine rs_of (by decide) rfl (Nat.le_of_ble_eq_true rfl) ?_
  unfold f_X11_flare at h
  show Ok D_X11_flare (0, 0) (0, 0) 0 [(0, .ref 153), (1, .int a1), (2, .int a2)] [] (St S) _
  refine ok_aload_n dX11_flare_0 0 rfl ?_
  obtain ⟨r1, e2, h⟩ := it_bind h
  refine okS_V (as := []) (st := []) (r := none) (S' := r1) dX11_flare_1 cv_X11_108 rfl po_153 (Nat.le_of_ble_eq_true rfl) ⟨⟨by decide, by decide⟩, rfl, rfl⟩ (t_X11_layHeaps e2) ?_
  show Ok D_X11_flare (0, 0) (0, 0) 4 [(0, .ref 153), (1, .int a1), (2, .int a2)] [] (St r1) _
  refine ok_iload_n dX11_flare_4 1 rfl ?_
  refine ok_i2l dX11_flare_5 ?_
  refine ok_lconst (v := 0) dX11_flare_6 (by decide) ?_
  refine ok_aload_n dX11_flare_7 0 rfl ?_
  refine okS_getI dX11_flare_8 fl_X11_88 pi_153_19 ?_
  refine ok_iconst (v := 1) dX11_flare_11 ic_1 ?_
  refine ok_isub dX11_flare_12 ?_
  refine ok_i2l dX11_flare_13 ?_
  obtain ⟨r3, e4, h⟩ := it_bind h
  refine okS_S (as := [.long a1.toInt64, .long 0, .long (((r1.1 153 19) - 1).toInt64)]) (st := []) (r := some (.int r3)) (S' := r1) dX11_flare_14 cv_X11_94 rfl (Nat.le_of_ble_eq_true rfl) ⟨⟨by decide, by decide⟩, rfl, rfl⟩ (t_X11_in e4) ?_
  show Ok D_X11_flare (0, 0) (0, 0) 17 [(0, .ref 153), (1, .int a1), (2, .int a2)] [.int r3] (St r1) _
  refine ok_if_ne (tgt := 23) dX11_flare_17 (by decide) (fun hc => ?_) (fun hc => ?_)
  · replace h := it_neg hc h
    refine ok_iload_n dX11_flare_23 2 rfl ?_
    by_cases hx5 : a2 = 0
    · replace h := it_pos hx5 h
      refine ok_tableIn (tgt := 76) dX11_flare_24 (by rw [hx5]; decide) (by rw [hx5]; decide) (by rw [hx5]; rfl) (by decide) ?_
      refine ok_aload_n dX11_flare_76 0 rfl ?_
      refine okS_getR dX11_flare_77 fl_X11_38 pr_153_14 ?_
      refine ok_iload_n dX11_flare_80 1 rfl ?_
      obtain ⟨hi6, h⟩ := it_some h
      refine okS_iaload dX11_flare_81 pa_162 hi6 ?_
      exact okS_ret dX11_flare_82 rfl rfl (by have e := Option.some.inj h; subst e; exact ⟨rfl, rfl⟩)
    · replace h := it_neg hx5 h
      by_cases hx7 : a2 = 1
      · replace h := it_pos hx7 h
        refine ok_tableIn (tgt := 83) dX11_flare_24 (by rw [hx7]; decide) (by rw [hx7]; decide) (by rw [hx7]; rfl) (by decide) ?_
        refine ok_aload_n dX11_flare_83 0 rfl ?_
        refine okS_getR dX11_flare_84 fl_X11_41 pr_153_15 ?_
        refine ok_iload_n dX11_flare_87 1 rfl ?_
        obtain ⟨hi8, h⟩ := it_some h
        refine okS_iaload dX11_flare_88 pa_163 hi8 ?_
        exact okS_ret dX11_flare_89 rfl rfl (by have e := Option.some.inj h; subst e; exact ⟨rfl, rfl⟩)
      · replace h := it_neg hx7 h
        by_cases hx9 : a2 = 2
        · replace h := it_pos hx9 h
          refine ok_tableIn (tgt := 90) dX11_flare_24 (by rw [hx9]; decide) (by rw [hx9]; decide) (by rw [hx9]; rfl) (by decide) ?_
          refine ok_aload_n dX11_flare_90 0 rfl ?_
          refine okS_getR dX11_flare_91 fl_X11_44 pr_153_16 ?_
          refine ok_iload_n dX11_flare_94 1 rfl ?_
          obtain ⟨hi10, h⟩ := it_some h
          refine okS_iaload dX11_flare_95 pa_164 hi10 ?_
          exact okS_ret dX11_flare_96 rfl rfl (by have e := Option.some.inj h; subst e; exact ⟨rfl, rfl⟩)
        · replace h := it_neg hx9 h
          by_cases hx11 : a2 = 3
          · replace h := it_pos hx11 h
            refine ok_tableIn (tgt := 97) dX11_flare_24 (by rw [hx11]; decide) (by rw [hx11]; decide) (by rw [hx11]; rfl) (by decide) ?_
            refine ok_aload_n dX11_flare_97 0 rfl ?_
            refine okS_getR dX11_flare_98 fl_X11_47 pr_153_17 ?_
            refine ok_iload_n dX11_flare_101 1 rfl ?_
            obtain ⟨hi12, h⟩ := it_some h
            refine okS_iaload dX11_flare_102 pa_165 hi12 ?_
            exact okS_ret dX11_flare_103 rfl rfl (by have e := Option.some.inj h; subst e; exact ⟨rfl, rfl⟩)
          · replace h := it_neg hx11 h
            by_cases hx13 : a2 = 4
            · replace h := it_pos hx13 h
              refine ok_tableIn (tgt := 104) dX11_flare_24 (by rw [hx13]; decide) (by rw [hx13]; decide) (by rw [hx13]; rfl) (by decide) ?_
              refine ok_aload_n dX11_flare_104 0 rfl ?_
              refine ok_iload_n dX11_flare_105 1 rfl ?_
              obtain ⟨r14, e15, h⟩ := it_bind h
              refine okS_V (as := [.int a1]) (st := []) (r := some (.int r14)) (S' := r1) dX11_flare_106 cv_X11_198 rfl po_153 (Nat.le_of_ble_eq_true rfl) ⟨⟨by decide, by decide⟩, rfl, rfl⟩ (t_X11_within e15) ?_
              show Ok D_X11_flare (0, 0) (0, 0) 109 [(0, .ref 153), (1, .int a1), (2, .int a2)] [.int r14] (St r1) _
              exact okS_ret dX11_flare_109 rfl rfl (by have e := Option.some.inj h; subst e; exact ⟨rfl, rfl⟩)
            · replace h := it_neg hx13 h
              by_cases hx16 : a2 = 5
              · replace h := it_pos hx16 h
                refine ok_tableIn (tgt := 110) dX11_flare_24 (by rw [hx16]; decide) (by rw [hx16]; decide) (by rw [hx16]; rfl) (by decide) ?_
                refine ok_aload_n dX11_flare_110 0 rfl ?_
                refine ok_iload_n dX11_flare_111 1 rfl ?_
                obtain ⟨r17, e18, h⟩ := it_bind h
                refine okS_V (as := [.int a1]) (st := []) (r := some (.int r17)) (S' := r1) dX11_flare_112 cv_X11_201 rfl po_153 (Nat.le_of_ble_eq_true rfl) ⟨⟨by decide, by decide⟩, rfl, rfl⟩ (t_X11_weight e18) ?_
                show Ok D_X11_flare (0, 0) (0, 0) 115 [(0, .ref 153), (1, .int a1), (2, .int a2)] [.int r17] (St r1) _
                refine ok_sipush (v := 1000) dX11_flare_115 si_1000 ?_
                refine ok_iadd dX11_flare_118 ?_
                exact okS_ret dX11_flare_119 rfl rfl (by have e := Option.some.inj h; subst e; exact ⟨rfl, rfl⟩)
              · replace h := it_neg hx16 h
                by_cases hx19 : a2 = 6
                · replace h := it_pos hx19 h
                  refine ok_tableIn (tgt := 120) dX11_flare_24 (by rw [hx19]; decide) (by rw [hx19]; decide) (by rw [hx19]; rfl) (by decide) ?_
                  refine ok_aload_n dX11_flare_120 0 rfl ?_
                  refine ok_iload_n dX11_flare_121 1 rfl ?_
                  obtain ⟨r20, e21, h⟩ := it_bind h
                  refine okS_V (as := [.int a1]) (st := []) (r := some (.int r20)) (S' := r1) dX11_flare_122 cv_X11_204 rfl po_153 (Nat.le_of_ble_eq_true rfl) ⟨⟨by decide, by decide⟩, rfl, rfl⟩ (t_X11_peak e21) ?_
                  show Ok D_X11_flare (0, 0) (0, 0) 125 [(0, .ref 153), (1, .int a1), (2, .int a2)] [.int r20] (St r1) _
                  exact okS_ret dX11_flare_125 rfl rfl (by have e := Option.some.inj h; subst e; exact ⟨rfl, rfl⟩)
                · replace h := it_neg hx19 h
                  by_cases hx22 : a2 = 7
                  · replace h := it_pos hx22 h
                    refine ok_tableIn (tgt := 126) dX11_flare_24 (by rw [hx22]; decide) (by rw [hx22]; decide) (by rw [hx22]; rfl) (by decide) ?_
                    refine ok_aload_n dX11_flare_126 0 rfl ?_
                    refine ok_aload_n dX11_flare_127 0 rfl ?_
                    refine ok_iload_n dX11_flare_128 1 rfl ?_
                    obtain ⟨r23, e24, h⟩ := it_bind h
                    refine okS_V (as := [.int a1]) (st := [.ref 153]) (r := some (.int r23)) (S' := r1) dX11_flare_129 cv_X11_204 rfl po_153 (Nat.le_of_ble_eq_true rfl) ⟨⟨by decide, by decide⟩, rfl, rfl⟩ (t_X11_peak e24) ?_
                    show Ok D_X11_flare (0, 0) (0, 0) 132 [(0, .ref 153), (1, .int a1), (2, .int a2)] [.int r23, .ref 153] (St r1) _
                    refine ok_iconst (v := 1) dX11_flare_132 ic_1 ?_
                    refine ok_aload_n dX11_flare_133 0 rfl ?_
                    refine okS_getR dX11_flare_134 fl_X11_38 pr_153_14 ?_
                    refine ok_iload_n dX11_flare_137 1 rfl ?_
                    obtain ⟨hi25, h⟩ := it_some h
                    refine okS_iaload dX11_flare_138 pa_162 hi25 ?_
                    refine ok_ishl dX11_flare_139 ?_
                    obtain ⟨r26, e27, h⟩ := it_bind h
                    refine okS_V (as := [.int r23, .int (1 <<< ((r1.1 162 a1.toNatClampNeg) &&& 31))]) (st := []) (r := some (.int r26)) (S' := r1) dX11_flare_140 cv_X11_66 rfl po_153 (Nat.le_of_ble_eq_true rfl) ⟨⟨by decide, by decide⟩, rfl, rfl⟩ (t_X11_count e27) ?_
                    show Ok D_X11_flare (0, 0) (0, 0) 143 [(0, .ref 153), (1, .int a1), (2, .int a2)] [.int r26] (St r1) _
                    refine ok_aload_n dX11_flare_143 0 rfl ?_
                    refine ok_aload_n dX11_flare_144 0 rfl ?_
                    refine okS_getR dX11_flare_145 fl_X11_47 pr_153_17 ?_
                    refine ok_iload_n dX11_flare_148 1 rfl ?_
                    obtain ⟨hi28, h⟩ := it_some h
                    refine okS_iaload dX11_flare_149 pa_165 hi28 ?_
                    refine ok_iconst (v := 1) dX11_flare_150 ic_1 ?_
                    refine ok_aload_n dX11_flare_151 0 rfl ?_
                    refine okS_getR dX11_flare_152 fl_X11_38 pr_153_14 ?_
                    refine ok_iload_n dX11_flare_155 1 rfl ?_
                    obtain ⟨hi29, h⟩ := it_some h
                    refine okS_iaload dX11_flare_156 pa_162 hi29 ?_
                    refine ok_ishl dX11_flare_157 ?_
                    obtain ⟨r30, e31, h⟩ := it_bind h
                    refine okS_V (as := [.int (r1.1 165 a1.toNatClampNeg), .int (1 <<< ((r1.1 162 a1.toNatClampNeg) &&& 31))]) (st := [.int r26]) (r := some (.int r30)) (S' := r1) dX11_flare_158 cv_X11_66 rfl po_153 (Nat.le_of_ble_eq_true rfl) ⟨⟨by decide, by decide⟩, rfl, rfl⟩ (t_X11_count e31) ?_
                    show Ok D_X11_flare (0, 0) (0, 0) 161 [(0, .ref 153), (1, .int a1), (2, .int a2)] [.int r30, .int r26] (St r1) _
                    refine ok_isub dX11_flare_161 ?_
                    exact okS_ret dX11_flare_162 rfl rfl (by have e := Option.some.inj h; subst e; exact ⟨rfl, rfl⟩)
                  · replace h := it_neg hx22 h
                    by_cases hx32 : a2 = 8
                    · replace h := it_pos hx32 h
                      refine ok_tableIn (tgt := 163) dX11_flare_24 (by rw [hx32]; decide) (by rw [hx32]; decide) (by rw [hx32]; rfl) (by decide) ?_
                      refine ok_aload_n dX11_flare_163 0 rfl ?_
                      refine ok_iload_n dX11_flare_164 1 rfl ?_
                      obtain ⟨r33, e34, h⟩ := it_bind h
                      refine okS_V (as := [.int a1]) (st := []) (r := some (.int r33)) (S' := r1) dX11_flare_165 cv_X11_207 rfl po_153 (Nat.le_of_ble_eq_true rfl) ⟨⟨by decide, by decide⟩, rfl, rfl⟩ (t_X11_storyOf e34) ?_
                      show Ok D_X11_flare (0, 0) (0, 0) 168 [(0, .ref 153), (1, .int a1), (2, .int a2)] [.int r33] (St r1) _
                      exact okS_ret dX11_flare_168 rfl rfl (by have e := Option.some.inj h; subst e; exact ⟨rfl, rfl⟩)
                    · replace h := it_neg hx32 h
                      refine ok_tableOut (tgt := 169) dX11_flare_24 (sw_out a2 (by intro n h1 h2; rcases (show n = 0 ∨ n = 1 ∨ n = 2 ∨ n = 3 ∨ n = 4 ∨ n = 5 ∨ n = 6 ∨ n = 7 ∨ n = 8 by omega) with rfl | rfl | rfl | rfl | rfl | rfl | rfl | rfl | rfl <;> assumption)) (by decide) ?_
                      refine ok_ldc (v := (-1000000002)) dX11_flare_169 wd_998 ?_
                      exact okS_ret dX11_flare_171 rfl rfl (by have e := Option.some.inj h; subst e; exact ⟨rfl, rfl⟩)
  · replace h := it_pos hc h
    refine ok_ldc (v := (-1000000001)) dX11_flare_20 wd_1127 ?_
    exact okS_ret dX11_flare_22 rfl rfl (by have e := Option.some.inj h; subst e; exact ⟨rfl, rfl⟩)
def lp_X11_story_34 (k : Int32 → Int32 → Int32 → Int32 → Int32 → Option (Int32 × Mm)) (S : Mm) (c1 : Int32) (c2 : Int32) : Nat → Int32 → Int32 → Int32 → Int32 → Int32 → Option (Int32 × Mm)
  | 0, _, _, _, _, _ => none
  | fuel + 1, x3, x4, x5, x6, x7 => (if (S.1 153 19) ≤ x7 then k x3 x4 x5 x6 x7 else ((f_X11_storyOf S x7).bind fun r5 => (if r5 = c1 then (if inb x7 160 then (if inb x7 160 then (if x5 ≤ (S.1 164 x7.toNatClampNeg) then (if inb x7 160 then (if (S.1 165 x7.toNatClampNeg) ≤ x6 then lp_X11_story_34 k S c1 c2 fuel (x3 + 1) (x4 ||| (1 <<< ((S.1 162 x7.toNatClampNeg) &&& 31))) x5 x6 (x7 + 1) else (if inb x7 160 then lp_X11_story_34 k S c1 c2 fuel (x3 + 1) (x4 ||| (1 <<< ((S.1 162 x7.toNatClampNeg) &&& 31))) x5 (S.1 165 x7.toNatClampNeg) (x7 + 1) else none)) else none) else (if inb x7 160 then (if inb x7 160 then (if (S.1 165 x7.toNatClampNeg) ≤ x6 then lp_X11_story_34 k S c1 c2 fuel (x3 + 1) (x4 ||| (1 <<< ((S.1 162 x7.toNatClampNeg) &&& 31))) (S.1 164 x7.toNatClampNeg) x6 (x7 + 1) else (if inb x7 160 then lp_X11_story_34 k S c1 c2 fuel (x3 + 1) (x4 ||| (1 <<< ((S.1 162 x7.toNatClampNeg) &&& 31))) (S.1 164 x7.toNatClampNeg) (S.1 165 x7.toNatClampNeg) (x7 + 1) else none)) else none) else none)) else none) else none) else lp_X11_story_34 k S c1 c2 fuel x3 x4 x5 x6 (x7 + 1))))
def f_X11_story (S : Mm) (a1 : Int32) (a2 : Int32) : Option (Int32 × Mm) :=
  ((f_X11_stories S).bind fun r1 => ((f_X11_in r1.2 a1.toInt64 0 ((r1.1 - 1).toInt64)).bind fun r3 => (if r3 = 0 then some ((-1000000001), r1.2) else lp_X11_story_34 (fun y3_14 y4_15 y5_16 y6_17 y7_18 => (if a2 = 0 then some (y3_14, r1.2) else (if a2 = 1 then some (y4_15, r1.2) else (if a2 = 2 then some (y5_16, r1.2) else (if a2 = 3 then some (y6_17, r1.2) else some ((-1000000002), r1.2)))))) r1.2 a1 a2 100000 0 0 12 0 0)))
set_option maxRecDepth 100000 in
set_option maxHeartbeats 4000000 in
theorem tlp_X11_story_34 {k : Int32 → Int32 → Int32 → Int32 → Int32 → Option (Int32 × Mm)} {S : Mm} {c1 : Int32} {c2 : Int32} (hk : ∀ (x3 x4 x5 x6 x7 : Int32) (out : Int32 × Mm), k x3 x4 x5 x6 x7 = some out → Ok D_X11_story (0, 0) (0, 0) 128 [(0, .ref 153), (1, .int c1), (2, .int c2), (3, .int x3), (4, .int x4), (5, .int x5), (6, .int x6), (7, .int x7)] [] (St S) (An (some (.int out.1)) out.2)) : ∀ (fuel : Nat) (x3 x4 x5 x6 x7 : Int32) (out : Int32 × Mm), lp_X11_story_34 k S c1 c2 fuel x3 x4 x5 x6 x7 = some out → Ok D_X11_story (0, 0) (0, 0) 34 [(0, .ref 153), (1, .int c1), (2, .int c2), (3, .int x3), (4, .int x4), (5, .int x5), (6, .int x6), (7, .int x7)] [] (St S) (An (some (.int out.1)) out.2) := by
  intro fuel
  induction fuel with
  | zero => intro x3 x4 x5 x6 x7 out h; cases h
  | succ fuel ih =>
    intro x3 x4 x5 x6 x7 out h
    rw [lp_X11_story_34] at h
    refine ok_iload dX11_story_34 7 rfl ?_
    refine ok_aload_n dX11_story_36 0 rfl ?_
    refine okS_getI dX11_story_37 fl_X11_88 pi_153_19 ?_
    refine ok_icmp_ge (tgt := 128) dX11_story_40 (by decide) (fun hc => ?_) (fun hc => ?_)
    · replace h := it_pos hc h
      refine ok_perm [0, 1, 2, 3, 4, 5, 6, 7] rfl ?_
      exact hk _ _ _ _ _ _ h
    · replace h := it_neg hc h
      refine ok_aload_n dX11_story_43 0 rfl ?_
      refine ok_iload dX11_story_44 7 rfl ?_
      obtain ⟨r5, e6, h⟩ := it_bind h
      refine okS_V (as := [.int x7]) (st := []) (r := some (.int r5)) (S' := S) dX11_story_46 cv_X11_207 rfl po_153 (Nat.le_of_ble_eq_true rfl) ⟨⟨by decide, by decide⟩, rfl, rfl⟩ (t_X11_storyOf e6) ?_
      show Ok D_X11_story (0, 0) (0, 0) 49 [(0, .ref 153), (1, .int c1), (2, .int c2), (3, .int x3), (4, .int x4), (5, .int x5), (6, .int x6), (7, .int x7)] [.int r5] (St S) _
      refine ok_iload_n dX11_story_49 1 rfl ?_
      refine ok_icmp_ne (tgt := 122) dX11_story_50 (by decide) (fun hc => ?_) (fun hc => ?_)
      · replace h := it_neg hc h
        refine ok_iinc (v := x7 + 1) (L' := [(7, .int (x7 + 1)), (0, .ref 153), (1, .int c1), (2, .int c2), (3, .int x3), (4, .int x4), (5, .int x5), (6, .int x6)]) dX11_story_122 7 rfl (ii_1 _) (by decide) rfl ?_
        refine ok_goto (tgt := 34) dX11_story_125 (by decide) ?_
        refine ok_perm [1, 2, 3, 4, 5, 6, 7, 0] rfl ?_
        exact ih _ _ _ _ _ _ h
      · replace h := it_pos hc h
        refine ok_iinc (v := x3 + 1) (L' := [(3, .int (x3 + 1)), (0, .ref 153), (1, .int c1), (2, .int c2), (4, .int x4), (5, .int x5), (6, .int x6), (7, .int x7)]) dX11_story_53 3 rfl (ii_1 _) (by decide) rfl ?_
        refine ok_iload dX11_story_56 4 rfl ?_
        refine ok_iconst (v := 1) dX11_story_58 ic_1 ?_
        refine ok_aload_n dX11_story_59 1 rfl ?_
        refine okS_getR dX11_story_60 fl_X11_38 pr_153_14 ?_
        refine ok_iload dX11_story_63 7 rfl ?_
        obtain ⟨hi7, h⟩ := it_some h
        refine okS_iaload dX11_story_65 pa_162 hi7 ?_
        refine ok_ishl dX11_story_66 ?_
        refine ok_ior dX11_story_67 ?_
        refine ok_istore (L' := [(4, .int (x4 ||| (1 <<< ((S.1 162 x7.toNatClampNeg) &&& 31)))), (3, .int (x3 + 1)), (0, .ref 153), (1, .int c1), (2, .int c2), (5, .int x5), (6, .int x6), (7, .int x7)]) dX11_story_68 (by decide) rfl ?_
        refine ok_aload_n dX11_story_70 2 rfl ?_
        refine okS_getR dX11_story_71 fl_X11_44 pr_153_16 ?_
        refine ok_iload dX11_story_74 7 rfl ?_
        obtain ⟨hi8, h⟩ := it_some h
        refine okS_iaload dX11_story_76 pa_164 hi8 ?_
        refine ok_iload dX11_story_77 5 rfl ?_
        refine ok_icmp_ge (tgt := 92) dX11_story_79 (by decide) (fun hc => ?_) (fun hc => ?_)
        · replace h := it_pos hc h
          refine ok_iload dX11_story_92 5 rfl ?_
          refine ok_istore (L' := [(5, .int x5), (4, .int (x4 ||| (1 <<< ((S.1 162 x7.toNatClampNeg) &&& 31)))), (3, .int (x3 + 1)), (0, .ref 153), (1, .int c1), (2, .int c2), (6, .int x6), (7, .int x7)]) dX11_story_94 (by decide) rfl ?_
          refine ok_aload_n dX11_story_96 3 rfl ?_
          refine okS_getR dX11_story_97 fl_X11_47 pr_153_17 ?_
          refine ok_iload dX11_story_100 7 rfl ?_
          obtain ⟨hi9, h⟩ := it_some h
          refine okS_iaload dX11_story_102 pa_165 hi9 ?_
          refine ok_iload dX11_story_103 6 rfl ?_
          refine ok_icmp_le (tgt := 118) dX11_story_105 (by decide) (fun hc => ?_) (fun hc => ?_)
          · replace h := it_pos hc h
            refine ok_iload dX11_story_118 6 rfl ?_
            refine ok_istore (L' := [(6, .int x6), (5, .int x5), (4, .int (x4 ||| (1 <<< ((S.1 162 x7.toNatClampNeg) &&& 31)))), (3, .int (x3 + 1)), (0, .ref 153), (1, .int c1), (2, .int c2), (7, .int x7)]) dX11_story_120 (by decide) rfl ?_
            refine ok_iinc (v := x7 + 1) (L' := [(7, .int (x7 + 1)), (6, .int x6), (5, .int x5), (4, .int (x4 ||| (1 <<< ((S.1 162 x7.toNatClampNeg) &&& 31)))), (3, .int (x3 + 1)), (0, .ref 153), (1, .int c1), (2, .int c2)]) dX11_story_122 7 rfl (ii_1 _) (by decide) rfl ?_
            refine ok_goto (tgt := 34) dX11_story_125 (by decide) ?_
            refine ok_perm [5, 6, 7, 4, 3, 2, 1, 0] rfl ?_
            exact ih _ _ _ _ _ _ h
          · replace h := it_neg hc h
            refine ok_aload_n dX11_story_108 3 rfl ?_
            refine okS_getR dX11_story_109 fl_X11_47 pr_153_17 ?_
            refine ok_iload dX11_story_112 7 rfl ?_
            obtain ⟨hi10, h⟩ := it_some h
            refine okS_iaload dX11_story_114 pa_165 hi10 ?_
            refine ok_goto (tgt := 120) dX11_story_115 (by decide) ?_
            refine ok_istore (L' := [(6, .int (S.1 165 x7.toNatClampNeg)), (5, .int x5), (4, .int (x4 ||| (1 <<< ((S.1 162 x7.toNatClampNeg) &&& 31)))), (3, .int (x3 + 1)), (0, .ref 153), (1, .int c1), (2, .int c2), (7, .int x7)]) dX11_story_120 (by decide) rfl ?_
            refine ok_iinc (v := x7 + 1) (L' := [(7, .int (x7 + 1)), (6, .int (S.1 165 x7.toNatClampNeg)), (5, .int x5), (4, .int (x4 ||| (1 <<< ((S.1 162 x7.toNatClampNeg) &&& 31)))), (3, .int (x3 + 1)), (0, .ref 153), (1, .int c1), (2, .int c2)]) dX11_story_122 7 rfl (ii_1 _) (by decide) rfl ?_
            refine ok_goto (tgt := 34) dX11_story_125 (by decide) ?_
            refine ok_perm [5, 6, 7, 4, 3, 2, 1, 0] rfl ?_
            exact ih _ _ _ _ _ _ h
        · replace h := it_neg hc h
          refine ok_aload_n dX11_story_82 2 rfl ?_
          refine okS_getR dX11_story_83 fl_X11_44 pr_153_16 ?_
          refine ok_iload dX11_story_86 7 rfl ?_
          obtain ⟨hi11, h⟩ := it_some h
          refine okS_iaload dX11_story_88 pa_164 hi11 ?_
          refine ok_goto (tgt := 94) dX11_story_89 (by decide) ?_
          refine ok_istore (L' := [(5, .int (S.1 164 x7.toNatClampNeg)), (4, .int (x4 ||| (1 <<< ((S.1 162 x7.toNatClampNeg) &&& 31)))), (3, .int (x3 + 1)), (0, .ref 153), (1, .int c1), (2, .int c2), (6, .int x6), (7, .int x7)]) dX11_story_94 (by decide) rfl ?_
          refine ok_aload_n dX11_story_96 3 rfl ?_
          refine okS_getR dX11_story_97 fl_X11_47 pr_153_17 ?_
          refine ok_iload dX11_story_100 7 rfl ?_
          obtain ⟨hi12, h⟩ := it_some h
          refine okS_iaload dX11_story_102 pa_165 hi12 ?_
          refine ok_iload dX11_story_103 6 rfl ?_
          refine ok_icmp_le (tgt := 118) dX11_story_105 (by decide) (fun hc => ?_) (fun hc => ?_)
          · replace h := it_pos hc h
            refine ok_iload dX11_story_118 6 rfl ?_
            refine ok_istore (L' := [(6, .int x6), (5, .int (S.1 164 x7.toNatClampNeg)), (4, .int (x4 ||| (1 <<< ((S.1 162 x7.toNatClampNeg) &&& 31)))), (3, .int (x3 + 1)), (0, .ref 153), (1, .int c1), (2, .int c2), (7, .int x7)]) dX11_story_120 (by decide) rfl ?_
            refine ok_iinc (v := x7 + 1) (L' := [(7, .int (x7 + 1)), (6, .int x6), (5, .int (S.1 164 x7.toNatClampNeg)), (4, .int (x4 ||| (1 <<< ((S.1 162 x7.toNatClampNeg) &&& 31)))), (3, .int (x3 + 1)), (0, .ref 153), (1, .int c1), (2, .int c2)]) dX11_story_122 7 rfl (ii_1 _) (by decide) rfl ?_
            refine ok_goto (tgt := 34) dX11_story_125 (by decide) ?_
            refine ok_perm [5, 6, 7, 4, 3, 2, 1, 0] rfl ?_
            exact ih _ _ _ _ _ _ h
          · replace h := it_neg hc h
            refine ok_aload_n dX11_story_108 3 rfl ?_
            refine okS_getR dX11_story_109 fl_X11_47 pr_153_17 ?_
            refine ok_iload dX11_story_112 7 rfl ?_
            obtain ⟨hi13, h⟩ := it_some h
            refine okS_iaload dX11_story_114 pa_165 hi13 ?_
            refine ok_goto (tgt := 120) dX11_story_115 (by decide) ?_
            refine ok_istore (L' := [(6, .int (S.1 165 x7.toNatClampNeg)), (5, .int (S.1 164 x7.toNatClampNeg)), (4, .int (x4 ||| (1 <<< ((S.1 162 x7.toNatClampNeg) &&& 31)))), (3, .int (x3 + 1)), (0, .ref 153), (1, .int c1), (2, .int c2), (7, .int x7)]) dX11_story_120 (by decide) rfl ?_
            refine ok_iinc (v := x7 + 1) (L' := [(7, .int (x7 + 1)), (6, .int (S.1 165 x7.toNatClampNeg)), (5, .int (S.1 164 x7.toNatClampNeg)), (4, .int (x4 ||| (1 <<< ((S.1 162 x7.toNatClampNeg) &&& 31)))), (3, .int (x3 + 1)), (0, .ref 153), (1, .int c1), (2, .int c2)]) dX11_story_122 7 rfl (ii_1 _) (by decide) rfl ?_
            refine ok_goto (tgt := 34) dX11_story_125 (by decide) ?_
            refine ok_perm [5, 6, 7, 4, 3, 2, 1, 0] rfl ?_
            exact ih _ _ _ _ _ _ h
set_option maxRecDepth 100000 in
set_option maxHeartbeats 4000000 in
theorem t_X11_story {S : Mm} {a1 : Int32} {a2 : Int32} {out : Int32 × Mm} (h : f_X11_story S a1 a2 = some out) : Rs D_X11_story [.ref 153, .int a1, .int a2] S (some (.int out.1)) out.2 := by
  refine rs_of (by decide) rfl (Nat.le_of_ble_eq_true rfl) ?_
  unfold f_X11_story at h
  show Ok D_X11_story (0, 0) (0, 0) 0 [(0, .ref 153), (1, .int a1), (2, .int a2)] [] (St S) _
  refine ok_iload_n dX11_story_0 1 rfl ?_
  refine ok_i2l dX11_story_1 ?_
  refine ok_lconst (v := 0) dX11_story_2 (by decide) ?_
  refine ok_aload_n dX11_story_3 0 rfl ?_
  obtain ⟨r1, e2, h⟩ := it_bind h
  refine okS_V (as := []) (st := [.long 0, .long a1.toInt64]) (r := some (.int r1.1)) (S' := r1.2) dX11_story_4 cv_X11_179 rfl po_153 (Nat.le_of_ble_eq_true rfl) ⟨⟨by decide, by decide⟩, rfl, rfl⟩ (t_X11_stories e2) ?_
  show Ok D_X11_story (0, 0) (0, 0) 7 [(0, .ref 153), (1, .int a1), (2, .int a2)] [.int r1.1, .long 0, .long a1.toInt64] (St r1.2) _
  refine ok_iconst (v := 1) dX11_story_7 ic_1 ?_
  refine ok_isub dX11_story_8 ?_
  refine ok_i2l dX11_story_9 ?_
  obtain ⟨r3, e4, h⟩ := it_bind h
  refine okS_S (as := [.long a1.toInt64, .long 0, .long ((r1.1 - 1).toInt64)]) (st := []) (r := some (.int r3)) (S' := r1.2) dX11_story_10 cv_X11_94 rfl (Nat.le_of_ble_eq_true rfl) ⟨⟨by decide, by decide⟩, rfl, rfl⟩ (t_X11_in e4) ?_
  show Ok D_X11_story (0, 0) (0, 0) 13 [(0, .ref 153), (1, .int a1), (2, .int a2)] [.int r3] (St r1.2) _
  refine ok_if_ne (tgt := 19) dX11_story_13 (by decide) (fun hc => ?_) (fun hc => ?_)
  · replace h := it_neg hc h
    refine ok_iconst (v := 0) dX11_story_19 ic_0 ?_
    refine ok_istore_n (L' := [(3, .int 0), (0, .ref 153), (1, .int a1), (2, .int a2)]) dX11_story_20 (by decide) rfl ?_
    refine ok_iconst (v := 0) dX11_story_21 ic_0 ?_
    refine ok_istore (L' := [(4, .int 0), (3, .int 0), (0, .ref 153), (1, .int a1), (2, .int a2)]) dX11_story_22 (by decide) rfl ?_
    refine ok_bipush (v := 12) dX11_story_24 bi_12 ?_
    refine ok_istore (L' := [(5, .int 12), (4, .int 0), (3, .int 0), (0, .ref 153), (1, .int a1), (2, .int a2)]) dX11_story_26 (by decide) rfl ?_
    refine ok_iconst (v := 0) dX11_story_28 ic_0 ?_
    refine ok_istore (L' := [(6, .int 0), (5, .int 12), (4, .int 0), (3, .int 0), (0, .ref 153), (1, .int a1), (2, .int a2)]) dX11_story_29 (by decide) rfl ?_
    refine ok_iconst (v := 0) dX11_story_31 ic_0 ?_
    refine ok_istore (L' := [(7, .int 0), (6, .int 0), (5, .int 12), (4, .int 0), (3, .int 0), (0, .ref 153), (1, .int a1), (2, .int a2)]) dX11_story_32 (by decide) rfl ?_
    refine ok_perm [5, 6, 7, 4, 3, 2, 1, 0] rfl ?_
    refine tlp_X11_story_34 (fun y3_14 y4_15 y5_16 y6_17 y7_18 out19 h => ?_) _ _ _ _ _ _ _ h
    refine ok_iload_n dX11_story_128 2 rfl ?_
    refine ok_if_ne (tgt := 136) dX11_story_129 (by decide) (fun hc => ?_) (fun hc => ?_)
    · replace h := it_neg hc h
      refine ok_iload_n dX11_story_136 2 rfl ?_
      refine ok_iconst (v := 1) dX11_story_137 ic_1 ?_
      refine ok_icmp_ne (tgt := 146) dX11_story_138 (by decide) (fun hc => ?_) (fun hc => ?_)
      · replace h := it_neg hc h
        refine ok_iload_n dX11_story_146 2 rfl ?_
        refine ok_iconst (v := 2) dX11_story_147 ic_2 ?_
        refine ok_icmp_ne (tgt := 156) dX11_story_148 (by decide) (fun hc => ?_) (fun hc => ?_)
        · replace h := it_neg hc h
          refine ok_iload_n dX11_story_156 2 rfl ?_
          refine ok_iconst (v := 3) dX11_story_157 ic_3 ?_
          refine ok_icmp_ne (tgt := 166) dX11_story_158 (by decide) (fun hc => ?_) (fun hc => ?_)
          · replace h := it_neg hc h
            refine ok_ldc (v := (-1000000002)) dX11_story_166 wd_998 ?_
            exact okS_ret dX11_story_168 rfl rfl (by have e := Option.some.inj h; subst e; exact ⟨rfl, rfl⟩)
          · replace h := it_pos hc h
            refine ok_iload dX11_story_161 6 rfl ?_
            refine ok_goto (tgt := 168) dX11_story_163 (by decide) ?_
            exact okS_ret dX11_story_168 rfl rfl (by have e := Option.some.inj h; subst e; exact ⟨rfl, rfl⟩)
        · replace h := it_pos hc h
          refine ok_iload dX11_story_151 5 rfl ?_
          refine ok_goto (tgt := 168) dX11_story_153 (by decide) ?_
          exact okS_ret dX11_story_168 rfl rfl (by have e := Option.some.inj h; subst e; exact ⟨rfl, rfl⟩)
      · replace h := it_pos hc h
        refine ok_iload dX11_story_141 4 rfl ?_
        refine ok_goto (tgt := 168) dX11_story_143 (by decide) ?_
        exact okS_ret dX11_story_168 rfl rfl (by have e := Option.some.inj h; subst e; exact ⟨rfl, rfl⟩)
    · replace h := it_pos hc h
      refine ok_iload_n dX11_story_132 3 rfl ?_
      refine ok_goto (tgt := 168) dX11_story_133 (by decide) ?_
      exact okS_ret dX11_story_168 rfl rfl (by have e := Option.some.inj h; subst e; exact ⟨rfl, rfl⟩)
  · replace h := it_pos hc h
    refine ok_ldc (v := (-1000000001)) dX11_story_16 wd_1127 ?_
    exact okS_ret dX11_story_18 rfl rfl (by have e := Option.some.inj h; subst e; exact ⟨rfl, rfl⟩)
def f_X11_together (S : Mm) (a1 : Int32) (a2 : Int32) : Option (Int32) :=
  ((f_X11_isWord S a1).bind fun r1 => (if r1 = 0 then some (-1000000001) else ((f_X11_isWord S a2).bind fun r3 => (if r3 = 0 then some (-1000000001) else ((f_X11_count S (-1) ((1 <<< (a1 &&& 31)) ||| (1 <<< (a2 &&& 31)))).bind fun r5 => some r5)))))
set_option maxRecDepth 100000 in
set_option maxHeartbeats 4000000 in
theorem t_X11_together {S : Mm} {a1 : Int32} {a2 : Int32} {out : Int32} (h : f_X11_together S a1 a2 = some out) : Rs D_X11_together [.ref 153, .int a1, .int a2] S (some (.int out)) S := by
  refine rs_of (by decide) rfl (Nat.le_of_ble_eq_true rfl) ?_
  unfold f_X11_together at h
  show Ok D_X11_together (0, 0) (0, 0) 0 [(0, .ref 153), (1, .int a1), (2, .int a2)] [] (St S) _
  refine ok_iload_n dX11_together_0 1 rfl ?_
  obtain ⟨r1, e2, h⟩ := it_bind h
  refine okS_S (as := [.int a1]) (st := []) (r := some (.int r1)) (S' := S) dX11_together_1 cv_X11_195 rfl (Nat.le_of_ble_eq_true rfl) ⟨⟨by decide, by decide⟩, rfl, rfl⟩ (t_X11_isWord e2) ?_
  show Ok D_X11_together (0, 0) (0, 0) 4 [(0, .ref 153), (1, .int a1), (2, .int a2)] [.int r1] (St S) _
  refine ok_if_eq (tgt := 29) dX11_together_4 (by decide) (fun hc => ?_) (fun hc => ?_)
  · replace h := it_pos hc h
    refine ok_ldc (v := (-1000000001)) dX11_together_29 wd_1127 ?_
    exact okS_ret dX11_together_31 rfl rfl (by have e := Option.some.inj h; subst e; exact ⟨rfl, rfl⟩)
  · replace h := it_neg hc h
    refine ok_iload_n dX11_together_7 2 rfl ?_
    obtain ⟨r3, e4, h⟩ := it_bind h
    refine okS_S (as := [.int a2]) (st := []) (r := some (.int r3)) (S' := S) dX11_together_8 cv_X11_195 rfl (Nat.le_of_ble_eq_true rfl) ⟨⟨by decide, by decide⟩, rfl, rfl⟩ (t_X11_isWord e4) ?_
    show Ok D_X11_together (0, 0) (0, 0) 11 [(0, .ref 153), (1, .int a1), (2, .int a2)] [.int r3] (St S) _
    refine ok_if_eq (tgt := 29) dX11_together_11 (by decide) (fun hc => ?_) (fun hc => ?_)
    · replace h := it_pos hc h
      refine ok_ldc (v := (-1000000001)) dX11_together_29 wd_1127 ?_
      exact okS_ret dX11_together_31 rfl rfl (by have e := Option.some.inj h; subst e; exact ⟨rfl, rfl⟩)
    · replace h := it_neg hc h
      refine ok_aload_n dX11_together_14 0 rfl ?_
      refine ok_iconst (v := (-1)) dX11_together_15 ic_m1 ?_
      refine ok_iconst (v := 1) dX11_together_16 ic_1 ?_
      refine ok_iload_n dX11_together_17 1 rfl ?_
      refine ok_ishl dX11_together_18 ?_
      refine ok_iconst (v := 1) dX11_together_19 ic_1 ?_
      refine ok_iload_n dX11_together_20 2 rfl ?_
      refine ok_ishl dX11_together_21 ?_
      refine ok_ior dX11_together_22 ?_
      obtain ⟨r5, e6, h⟩ := it_bind h
      refine okS_V (as := [.int (-1), .int ((1 <<< (a1 &&& 31)) ||| (1 <<< (a2 &&& 31)))]) (st := []) (r := some (.int r5)) (S' := S) dX11_together_23 cv_X11_66 rfl po_153 (Nat.le_of_ble_eq_true rfl) ⟨⟨by decide, by decide⟩, rfl, rfl⟩ (t_X11_count e6) ?_
      show Ok D_X11_together (0, 0) (0, 0) 26 [(0, .ref 153), (1, .int a1), (2, .int a2)] [.int r5] (St S) _
      refine ok_goto (tgt := 31) dX11_together_26 (by decide) ?_
      exact okS_ret dX11_together_31 rfl rfl (by have e := Option.some.inj h; subst e; exact ⟨rfl, rfl⟩)
def f_X11_piece (S : Mm) (a1 : Int32) (a2 : Int32) : Option (Int32 × Mm) :=
  ((f_X11_isDay S a1).bind fun r1 => (if r1 = 0 then some ((-1000000001), S) else ((f_X11_in S a2.toInt64 0 255).bind fun r3 => (if r3 = 0 then some ((-1000000002), S) else (if (S.1 154 1) = 40 then some ((-1000000004), S) else ((f_X11_remember S).bind fun r5 => ((f_X11_add r5 a1 a2).bind fun r7 => some ((r7.1 154 1) - 1, r7))))))))
set_option maxRecDepth 100000 in
set_option maxHeartbeats 4000000 in
theorem t_X11_piece {S : Mm} {a1 : Int32} {a2 : Int32} {out : Int32 × Mm} (h : f_X11_piece S a1 a2 = some out) : Rs D_X11_piece [.ref 153, .int a1, .int a2] S (some (.int out.1)) out.2 := by
  refine rs_of (by decide) rfl (Nat.le_of_ble_eq_true rfl) ?_
  unfold f_X11_piece at h
  show Ok D_X11_piece (0, 0) (0, 0) 0 [(0, .ref 153), (1, .int a1), (2, .int a2)] [] (St S) _
  refine ok_aload_n dX11_piece_0 0 rfl ?_
  refine ok_iload_n dX11_piece_1 1 rfl ?_
  obtain ⟨r1, e2, h⟩ := it_bind h
  refine okS_V (as := [.int a1]) (st := []) (r := some (.int r1)) (S' := S) dX11_piece_2 cv_X11_164 rfl po_153 (Nat.le_of_ble_eq_true rfl) ⟨⟨by decide, by decide⟩, rfl, rfl⟩ (t_X11_isDay e2) ?_
  show Ok D_X11_piece (0, 0) (0, 0) 5 [(0, .ref 153), (1, .int a1), (2, .int a2)] [.int r1] (St S) _
  refine ok_if_ne (tgt := 11) dX11_piece_5 (by decide) (fun hc => ?_) (fun hc => ?_)
  · replace h := it_neg hc h
    refine ok_iload_n dX11_piece_11 2 rfl ?_
    refine ok_i2l dX11_piece_12 ?_
    refine ok_lconst (v := 0) dX11_piece_13 (by decide) ?_
    refine ok_ldc2 (v := 255) dX11_piece_14 wd_994 ?_
    obtain ⟨r3, e4, h⟩ := it_bind h
    refine okS_S (as := [.long a2.toInt64, .long 0, .long 255]) (st := []) (r := some (.int r3)) (S' := S) dX11_piece_17 cv_X11_94 rfl (Nat.le_of_ble_eq_true rfl) ⟨⟨by decide, by decide⟩, rfl, rfl⟩ (t_X11_in e4) ?_
    show Ok D_X11_piece (0, 0) (0, 0) 20 [(0, .ref 153), (1, .int a1), (2, .int a2)] [.int r3] (St S) _
    refine ok_if_ne (tgt := 26) dX11_piece_20 (by decide) (fun hc => ?_) (fun hc => ?_)
    · replace h := it_neg hc h
      refine ok_aload_n dX11_piece_26 0 rfl ?_
      refine okS_getR dX11_piece_27 fl_X11_7 pr_153_0 ?_
      refine ok_iconst (v := 1) dX11_piece_30 ic_1 ?_
      refine okS_ialoadL (j := 1) dX11_piece_31 pa_154 (by decide) tnl_1 ?_
      refine ok_bipush (v := 40) dX11_piece_32 bi_40 ?_
      refine ok_icmp_ne (tgt := 40) dX11_piece_34 (by decide) (fun hc => ?_) (fun hc => ?_)
      · replace h := it_neg hc h
        refine ok_aload_n dX11_piece_40 0 rfl ?_
        obtain ⟨r5, e6, h⟩ := it_bind h
        refine okS_V (as := []) (st := []) (r := none) (S' := r5) dX11_piece_41 cv_X11_153 rfl po_153 (Nat.le_of_ble_eq_true rfl) ⟨⟨by decide, by decide⟩, rfl, rfl⟩ (t_X11_remember e6) ?_
        show Ok D_X11_piece (0, 0) (0, 0) 44 [(0, .ref 153), (1, .int a1), (2, .int a2)] [] (St r5) _
        refine ok_aload_n dX11_piece_44 0 rfl ?_
        refine ok_iload_n dX11_piece_45 1 rfl ?_
        refine ok_iload_n dX11_piece_46 2 rfl ?_
        obtain ⟨r7, e8, h⟩ := it_bind h
        refine okS_V (as := [.int a1, .int a2]) (st := []) (r := none) (S' := r7) dX11_piece_47 cv_X11_156 rfl po_153 (Nat.le_of_ble_eq_true rfl) ⟨⟨by decide, by decide⟩, rfl, rfl⟩ (t_X11_add e8) ?_
        show Ok D_X11_piece (0, 0) (0, 0) 50 [(0, .ref 153), (1, .int a1), (2, .int a2)] [] (St r7) _
        refine ok_aload_n dX11_piece_50 0 rfl ?_
        refine okS_getR dX11_piece_51 fl_X11_7 pr_153_0 ?_
        refine ok_iconst (v := 1) dX11_piece_54 ic_1 ?_
        refine okS_ialoadL (j := 1) dX11_piece_55 pa_154 (by decide) tnl_1 ?_
        refine ok_iconst (v := 1) dX11_piece_56 ic_1 ?_
        refine ok_isub dX11_piece_57 ?_
        exact okS_ret dX11_piece_58 rfl rfl (by have e := Option.some.inj h; subst e; exact ⟨rfl, rfl⟩)
      · replace h := it_pos hc h
        refine ok_ldc (v := (-1000000004)) dX11_piece_37 wd_999 ?_
        exact okS_ret dX11_piece_39 rfl rfl (by have e := Option.some.inj h; subst e; exact ⟨rfl, rfl⟩)
    · replace h := it_pos hc h
      refine ok_ldc (v := (-1000000002)) dX11_piece_23 wd_998 ?_
      exact okS_ret dX11_piece_25 rfl rfl (by have e := Option.some.inj h; subst e; exact ⟨rfl, rfl⟩)
  · replace h := it_pos hc h
    refine ok_ldc (v := (-1000000001)) dX11_piece_8 wd_1127 ?_
    exact okS_ret dX11_piece_10 rfl rfl (by have e := Option.some.inj h; subst e; exact ⟨rfl, rfl⟩)
def lp_X11_take_17 (k : Int32 → Mm → Option (Int32 × Mm)) (c1 : Int32) : Nat → Int32 → Mm → Option (Int32 × Mm)
  | 0, _, _ => none
  | fuel + 1, x2, S => (if ((S.1 154 1) - 1) ≤ x2 then k x2 S else (if inb ((6 + x2) + 1) 1634 then (if inb (6 + x2) 1634 then (if inb ((46 + x2) + 1) 1634 then (if inb (46 + x2) 1634 then lp_X11_take_17 k c1 fuel (x2 + 1) (wr (wr S 154 (6 + x2).toNatClampNeg (S.1 154 ((6 + x2) + 1).toNatClampNeg)) 154 (46 + x2).toNatClampNeg ((wr S 154 (6 + x2).toNatClampNeg (S.1 154 ((6 + x2) + 1).toNatClampNeg)).1 154 ((46 + x2) + 1).toNatClampNeg)) else none) else none) else none) else none))
def f_X11_take (S : Mm) (a1 : Int32) : Option (Int32 × Mm) :=
  ((f_X11_isPiece S a1).bind fun r1 => (if r1 = 0 then some ((-1000000001), S) else ((f_X11_remember S).bind fun r3 => lp_X11_take_17 (fun y2_9 S10 => some ((wr S10 154 1 ((S10.1 154 1) - 1)).1 154 1, wr S10 154 1 ((S10.1 154 1) - 1))) a1 100000 a1 r3)))
set_option maxRecDepth 100000 in
set_option maxHeartbeats 4000000 in
theorem tlp_X11_take_17 {k : Int32 → Mm → Option (Int32 × Mm)} {c1 : Int32} (hk : ∀ (x2 : Int32) (S : Mm) (out : Int32 × Mm), k x2 S = some out → Ok D_X11_take (0, 0) (0, 0) 75 [(0, .ref 153), (1, .int c1), (2, .int x2)] [] (St S) (An (some (.int out.1)) out.2)) : ∀ (fuel : Nat) (x2 : Int32) (S : Mm) (out : Int32 × Mm), lp_X11_take_17 k c1 fuel x2 S = some out → Ok D_X11_take (0, 0) (0, 0) 17 [(0, .ref 153), (1, .int c1), (2, .int x2)] [] (St S) (An (some (.int out.1)) out.2) := by
  intro fuel
  induction fuel with
  | zero => intro x2 S out h; cases h
  | succ fuel ih =>
    intro x2 S out h
    rw [lp_X11_take_17] at h
    refine ok_iload_n dX11_take_17 2 rfl ?_
    refine ok_aload_n dX11_take_18 0 rfl ?_
    refine okS_getR dX11_take_19 fl_X11_7 pr_153_0 ?_
    refine ok_iconst (v := 1) dX11_take_22 ic_1 ?_
    refine okS_ialoadL (j := 1) dX11_take_23 pa_154 (by decide) tnl_1 ?_
    refine ok_iconst (v := 1) dX11_take_24 ic_1 ?_
    refine ok_isub dX11_take_25 ?_
    refine ok_icmp_ge (tgt := 75) dX11_take_26 (by decide) (fun hc => ?_) (fun hc => ?_)
    · replace h := it_pos hc h
      refine ok_perm [0, 1, 2] rfl ?_
      exact hk _ _ _ h
    · replace h := it_neg hc h
      refine ok_aload_n dX11_take_29 0 rfl ?_
      refine okS_getR dX11_take_30 fl_X11_7 pr_153_0 ?_
      refine ok_bipush (v := 6) dX11_take_33 bi_6 ?_
      refine ok_iload_n dX11_take_35 2 rfl ?_
      refine ok_iadd dX11_take_36 ?_
      refine ok_aload_n dX11_take_37 0 rfl ?_
      refine okS_getR dX11_take_38 fl_X11_7 pr_153_0 ?_
      refine ok_bipush (v := 6) dX11_take_41 bi_6 ?_
      refine ok_iload_n dX11_take_43 2 rfl ?_
      refine ok_iadd dX11_take_44 ?_
      refine ok_iconst (v := 1) dX11_take_45 ic_1 ?_
      refine ok_iadd dX11_take_46 ?_
      obtain ⟨hi5, h⟩ := it_some h
      refine okS_iaload dX11_take_47 pa_154 hi5 ?_
      obtain ⟨hi6, h⟩ := it_some h
      refine okS_iastore dX11_take_48 pa_154 hi6 ?_
      refine ok_aload_n dX11_take_49 0 rfl ?_
      refine okS_getR dX11_take_50 fl_X11_7 pr_153_0 ?_
      refine ok_bipush (v := 46) dX11_take_53 bi_46 ?_
      refine ok_iload_n dX11_take_55 2 rfl ?_
      refine ok_iadd dX11_take_56 ?_
      refine ok_aload_n dX11_take_57 0 rfl ?_
      refine okS_getR dX11_take_58 fl_X11_7 pr_153_0 ?_
      refine ok_bipush (v := 46) dX11_take_61 bi_46 ?_
      refine ok_iload_n dX11_take_63 2 rfl ?_
      refine ok_iadd dX11_take_64 ?_
      refine ok_iconst (v := 1) dX11_take_65 ic_1 ?_
      refine ok_iadd dX11_take_66 ?_
      obtain ⟨hi7, h⟩ := it_some h
      refine okS_iaload dX11_take_67 pa_154 hi7 ?_
      obtain ⟨hi8, h⟩ := it_some h
      refine okS_iastore dX11_take_68 pa_154 hi8 ?_
      refine ok_iinc (v := x2 + 1) (L' := [(2, .int (x2 + 1)), (0, .ref 153), (1, .int c1)]) dX11_take_69 2 rfl (ii_1 _) (by decide) rfl ?_
      refine ok_goto (tgt := 17) dX11_take_72 (by decide) ?_
      refine ok_perm [1, 2, 0] rfl ?_
      exact ih _ _ _ h
set_option maxRecDepth 100000 in
set_option maxHeartbeats 4000000 in
theorem t_X11_take {S : Mm} {a1 : Int32} {out : Int32 × Mm} (h : f_X11_take S a1 = some out) : Rs D_X11_take [.ref 153, .int a1] S (some (.int out.1)) out.2 := by
  refine rs_of (by decide) rfl (Nat.le_of_ble_eq_true rfl) ?_
  unfold f_X11_take at h
  show Ok D_X11_take (0, 0) (0, 0) 0 [(0, .ref 153), (1, .int a1)] [] (St S) _
  refine ok_aload_n dX11_take_0 0 rfl ?_
  refine ok_iload_n dX11_take_1 1 rfl ?_
  obtain ⟨r1, e2, h⟩ := it_bind h
  refine okS_V (as := [.int a1]) (st := []) (r := some (.int r1)) (S' := S) dX11_take_2 cv_X11_185 rfl po_153 (Nat.le_of_ble_eq_true rfl) ⟨⟨by decide, by decide⟩, rfl, rfl⟩ (t_X11_isPiece e2) ?_
  show Ok D_X11_take (0, 0) (0, 0) 5 [(0, .ref 153), (1, .int a1)] [.int r1] (St S) _
  refine ok_if_ne (tgt := 11) dX11_take_5 (by decide) (fun hc => ?_) (fun hc => ?_)
  · replace h := it_neg hc h
    refine ok_aload_n dX11_take_11 0 rfl ?_
    obtain ⟨r3, e4, h⟩ := it_bind h
    refine okS_V (as := []) (st := []) (r := none) (S' := r3) dX11_take_12 cv_X11_153 rfl po_153 (Nat.le_of_ble_eq_true rfl) ⟨⟨by decide, by decide⟩, rfl, rfl⟩ (t_X11_remember e4) ?_
    show Ok D_X11_take (0, 0) (0, 0) 15 [(0, .ref 153), (1, .int a1)] [] (St r3) _
    refine ok_iload_n dX11_take_15 1 rfl ?_
    refine ok_istore_n (L' := [(2, .int a1), (0, .ref 153), (1, .int a1)]) dX11_take_16 (by decide) rfl ?_
    refine ok_perm [1, 2, 0] rfl ?_
    refine tlp_X11_take_17 (fun y2_9 S10 out11 h => ?_) _ _ _ _ h
    refine ok_aload_n dX11_take_75 0 rfl ?_
    refine okS_getR dX11_take_76 fl_X11_7 pr_153_0 ?_
    refine ok_iconst (v := 1) dX11_take_79 ic_1 ?_
    refine ok_dup2 dX11_take_80 rfl rfl ?_
    refine okS_ialoadL (j := 1) dX11_take_81 pa_154 (by decide) tnl_1 ?_
    refine ok_iconst (v := 1) dX11_take_82 ic_1 ?_
    refine ok_isub dX11_take_83 ?_
    refine okS_iastoreL (j := 1) dX11_take_84 pa_154 (by decide) tnl_1 ?_
    refine ok_aload_n dX11_take_85 0 rfl ?_
    refine okS_getR dX11_take_86 fl_X11_7 pr_153_0 ?_
    refine ok_iconst (v := 1) dX11_take_89 ic_1 ?_
    refine okS_ialoadL (j := 1) dX11_take_90 pa_154 (by decide) tnl_1 ?_
    exact okS_ret dX11_take_91 rfl rfl (by have e := Option.some.inj h; subst e; exact ⟨rfl, rfl⟩)
  · replace h := it_pos hc h
    refine ok_ldc (v := (-1000000001)) dX11_take_8 wd_1127 ?_
    exact okS_ret dX11_take_10 rfl rfl (by have e := Option.some.inj h; subst e; exact ⟨rfl, rfl⟩)
def f_X11_move (S : Mm) (a1 : Int32) (a2 : Int32) : Option (Int32 × Mm) :=
  ((f_X11_isPiece S a1).bind fun r1 => (if r1 = 0 then some ((-1000000001), S) else ((f_X11_isDay S a2).bind fun r3 => (if r3 = 0 then some ((-1000000001), S) else ((f_X11_remember S).bind fun r5 => (if inb (6 + a1) 1634 then (if inb (6 + a1) 1634 then some (r5.1 154 (6 + a1).toNatClampNeg, wr r5 154 (6 + a1).toNatClampNeg a2) else none) else none))))))
set_option maxRecDepth 100000 in
set_option maxHeartbeats 4000000 in
theorem t_X11_move {S : Mm} {a1 : Int32} {a2 : Int32} {out : Int32 × Mm} (h : f_X11_move S a1 a2 = some out) : Rs D_X11_move [.ref 153, .int a1, .int a2] S (some (.int out.1)) out.2 := by
  refine rs_of (by decide) rfl (Nat.le_of_ble_eq_true rfl) ?_
  unfold f_X11_move at h
  show Ok D_X11_move (0, 0) (0, 0) 0 [(0, .ref 153), (1, .int a1), (2, .int a2)] [] (St S) _
  refine ok_aload_n dX11_move_0 0 rfl ?_
  refine ok_iload_n dX11_move_1 1 rfl ?_
  obtain ⟨r1, e2, h⟩ := it_bind h
  refine okS_V (as := [.int a1]) (st := []) (r := some (.int r1)) (S' := S) dX11_move_2 cv_X11_185 rfl po_153 (Nat.le_of_ble_eq_true rfl) ⟨⟨by decide, by decide⟩, rfl, rfl⟩ (t_X11_isPiece e2) ?_
  show Ok D_X11_move (0, 0) (0, 0) 5 [(0, .ref 153), (1, .int a1), (2, .int a2)] [.int r1] (St S) _
  refine ok_if_eq (tgt := 16) dX11_move_5 (by decide) (fun hc => ?_) (fun hc => ?_)
  · replace h := it_pos hc h
    refine ok_ldc (v := (-1000000001)) dX11_move_16 wd_1127 ?_
    exact okS_ret dX11_move_18 rfl rfl (by have e := Option.some.inj h; subst e; exact ⟨rfl, rfl⟩)
  · replace h := it_neg hc h
    refine ok_aload_n dX11_move_8 0 rfl ?_
    refine ok_iload_n dX11_move_9 2 rfl ?_
    obtain ⟨r3, e4, h⟩ := it_bind h
    refine okS_V (as := [.int a2]) (st := []) (r := some (.int r3)) (S' := S) dX11_move_10 cv_X11_164 rfl po_153 (Nat.le_of_ble_eq_true rfl) ⟨⟨by decide, by decide⟩, rfl, rfl⟩ (t_X11_isDay e4) ?_
    show Ok D_X11_move (0, 0) (0, 0) 13 [(0, .ref 153), (1, .int a1), (2, .int a2)] [.int r3] (St S) _
    refine ok_if_ne (tgt := 19) dX11_move_13 (by decide) (fun hc => ?_) (fun hc => ?_)
    · replace h := it_neg hc h
      refine ok_aload_n dX11_move_19 0 rfl ?_
      obtain ⟨r5, e6, h⟩ := it_bind h
      refine okS_V (as := []) (st := []) (r := none) (S' := r5) dX11_move_20 cv_X11_153 rfl po_153 (Nat.le_of_ble_eq_true rfl) ⟨⟨by decide, by decide⟩, rfl, rfl⟩ (t_X11_remember e6) ?_
      show Ok D_X11_move (0, 0) (0, 0) 23 [(0, .ref 153), (1, .int a1), (2, .int a2)] [] (St r5) _
      refine ok_aload_n dX11_move_23 0 rfl ?_
      refine okS_getR dX11_move_24 fl_X11_7 pr_153_0 ?_
      refine ok_bipush (v := 6) dX11_move_27 bi_6 ?_
      refine ok_iload_n dX11_move_29 1 rfl ?_
      refine ok_iadd dX11_move_30 ?_
      obtain ⟨hi7, h⟩ := it_some h
      refine okS_iaload dX11_move_31 pa_154 hi7 ?_
      refine ok_istore_n (L' := [(3, .int (r5.1 154 (6 + a1).toNatClampNeg)), (0, .ref 153), (1, .int a1), (2, .int a2)]) dX11_move_32 (by decide) rfl ?_
      refine ok_aload_n dX11_move_33 1 rfl ?_
      refine okS_getR dX11_move_34 fl_X11_7 pr_153_0 ?_
      refine ok_bipush (v := 6) dX11_move_37 bi_6 ?_
      refine ok_iload_n dX11_move_39 2 rfl ?_
      refine ok_iadd dX11_move_40 ?_
      refine ok_iload_n dX11_move_41 3 rfl ?_
      obtain ⟨hi8, h⟩ := it_some h
      refine okS_iastore dX11_move_42 pa_154 hi8 ?_
      refine ok_iload_n dX11_move_43 0 rfl ?_
      exact okS_ret dX11_move_44 rfl rfl (by have e := Option.some.inj h; subst e; exact ⟨rfl, rfl⟩)
    · replace h := it_pos hc h
      refine ok_ldc (v := (-1000000001)) dX11_move_16 wd_1127 ?_
      exact okS_ret dX11_move_18 rfl rfl (by have e := Option.some.inj h; subst e; exact ⟨rfl, rfl⟩)
def lp_X11_days_17 (k : Int32 → Option (Int32 × Mm)) (S : Mm) (c1 : Int32) : Nat → Int32 → Option (Int32 × Mm)
  | 0, _ => none
  | fuel + 1, x2 => (if (S.1 154 1) ≤ x2 then k x2 else (if inb (6 + x2) 1634 then (if (S.1 154 (6 + x2).toNatClampNeg) < c1 then lp_X11_days_17 k S c1 fuel (x2 + 1) else some ((-1000000003), S)) else none))
def f_X11_days (S : Mm) (a1 : Int32) : Option (Int32 × Mm) :=
  ((f_X11_in S a1.toInt64 1 12).bind fun r1 => (if r1 = 0 then some ((-1000000002), S) else lp_X11_days_17 (fun y2_4 => ((f_X11_remember S).bind fun r6 => some (r6.1 154 0, wr r6 154 0 a1))) S a1 100000 0))
set_option maxRecDepth 100000 in
set_option maxHeartbeats 4000000 in
theorem tlp_X11_days_17 {k : Int32 → Option (Int32 × Mm)} {S : Mm} {c1 : Int32} (hk : ∀ (x2 : Int32) (out : Int32 × Mm), k x2 = some out → Ok D_X11_days (0, 0) (0, 0) 49 [(0, .ref 153), (1, .int c1), (2, .int x2)] [] (St S) (An (some (.int out.1)) out.2)) : ∀ (fuel : Nat) (x2 : Int32) (out : Int32 × Mm), lp_X11_days_17 k S c1 fuel x2 = some out → Ok D_X11_days (0, 0) (0, 0) 17 [(0, .ref 153), (1, .int c1), (2, .int x2)] [] (St S) (An (some (.int out.1)) out.2) := by
  intro fuel
  induction fuel with
  | zero => intro x2 out h; cases h
  | succ fuel ih =>
    intro x2 out h
    rw [lp_X11_days_17] at h
    refine ok_iload_n dX11_days_17 2 rfl ?_
    refine ok_aload_n dX11_days_18 0 rfl ?_
    refine okS_getR dX11_days_19 fl_X11_7 pr_153_0 ?_
    refine ok_iconst (v := 1) dX11_days_22 ic_1 ?_
    refine okS_ialoadL (j := 1) dX11_days_23 pa_154 (by decide) tnl_1 ?_
    refine ok_icmp_ge (tgt := 49) dX11_days_24 (by decide) (fun hc => ?_) (fun hc => ?_)
    · replace h := it_pos hc h
      refine ok_perm [0, 1, 2] rfl ?_
      exact hk _ _ h
    · replace h := it_neg hc h
      refine ok_aload_n dX11_days_27 0 rfl ?_
      refine okS_getR dX11_days_28 fl_X11_7 pr_153_0 ?_
      refine ok_bipush (v := 6) dX11_days_31 bi_6 ?_
      refine ok_iload_n dX11_days_33 2 rfl ?_
      refine ok_iadd dX11_days_34 ?_
      obtain ⟨hi3, h⟩ := it_some h
      refine okS_iaload dX11_days_35 pa_154 hi3 ?_
      refine ok_iload_n dX11_days_36 1 rfl ?_
      refine ok_icmp_lt (tgt := 43) dX11_days_37 (by decide) (fun hc => ?_) (fun hc => ?_)
      · replace h := it_pos hc h
        refine ok_iinc (v := x2 + 1) (L' := [(2, .int (x2 + 1)), (0, .ref 153), (1, .int c1)]) dX11_days_43 2 rfl (ii_1 _) (by decide) rfl ?_
        refine ok_goto (tgt := 17) dX11_days_46 (by decide) ?_
        refine ok_perm [1, 2, 0] rfl ?_
        exact ih _ _ h
      · replace h := it_neg hc h
        refine ok_ldc (v := (-1000000003)) dX11_days_40 wd_1201 ?_
        exact okS_ret dX11_days_42 rfl rfl (by have e := Option.some.inj h; subst e; exact ⟨rfl, rfl⟩)
set_option maxRecDepth 100000 in
set_option maxHeartbeats 4000000 in
theorem t_X11_days {S : Mm} {a1 : Int32} {out : Int32 × Mm} (h : f_X11_days S a1 = some out) : Rs D_X11_days [.ref 153, .int a1] S (some (.int out.1)) out.2 := by
  refine rs_of (by decide) rfl (Nat.le_of_ble_eq_true rfl) ?_
  unfold f_X11_days at h
  show Ok D_X11_days (0, 0) (0, 0) 0 [(0, .ref 153), (1, .int a1)] [] (St S) _
  refine ok_iload_n dX11_days_0 1 rfl ?_
  refine ok_i2l dX11_days_1 ?_
  refine ok_lconst (v := 1) dX11_days_2 (by decide) ?_
  refine ok_ldc2 (v := 12) dX11_days_3 wd_1200 ?_
  obtain ⟨r1, e2, h⟩ := it_bind h
  refine okS_S (as := [.long a1.toInt64, .long 1, .long 12]) (st := []) (r := some (.int r1)) (S' := S) dX11_days_6 cv_X11_94 rfl (Nat.le_of_ble_eq_true rfl) ⟨⟨by decide, by decide⟩, rfl, rfl⟩ (t_X11_in e2) ?_
  show Ok D_X11_days (0, 0) (0, 0) 9 [(0, .ref 153), (1, .int a1)] [.int r1] (St S) _
  refine ok_if_ne (tgt := 15) dX11_days_9 (by decide) (fun hc => ?_) (fun hc => ?_)
  · replace h := it_neg hc h
    refine ok_iconst (v := 0) dX11_days_15 ic_0 ?_
    refine ok_istore_n (L' := [(2, .int 0), (0, .ref 153), (1, .int a1)]) dX11_days_16 (by decide) rfl ?_
    refine ok_perm [1, 2, 0] rfl ?_
    refine tlp_X11_days_17 (fun y2_4 out5 h => ?_) _ _ _ h
    refine ok_aload_n dX11_days_49 0 rfl ?_
    obtain ⟨r6, e7, h⟩ := it_bind h
    refine okS_V (as := []) (st := []) (r := none) (S' := r6) dX11_days_50 cv_X11_153 rfl po_153 (Nat.le_of_ble_eq_true rfl) ⟨⟨by decide, by decide⟩, rfl, rfl⟩ (t_X11_remember e7) ?_
    show Ok D_X11_days (0, 0) (0, 0) 53 [(0, .ref 153), (1, .int a1), (2, .int y2_4)] [] (St r6) _
    refine ok_aload_n dX11_days_53 0 rfl ?_
    refine okS_getR dX11_days_54 fl_X11_7 pr_153_0 ?_
    refine ok_iconst (v := 0) dX11_days_57 ic_0 ?_
    refine okS_ialoadL (j := 0) dX11_days_58 pa_154 (by decide) tnl_0 ?_
    refine ok_istore_n (L' := [(2, .int (r6.1 154 0)), (0, .ref 153), (1, .int a1)]) dX11_days_59 (by decide) rfl ?_
    refine ok_aload_n dX11_days_60 1 rfl ?_
    refine okS_getR dX11_days_61 fl_X11_7 pr_153_0 ?_
    refine ok_iconst (v := 0) dX11_days_64 ic_0 ?_
    refine ok_iload_n dX11_days_65 2 rfl ?_
    refine okS_iastoreL (j := 0) dX11_days_66 pa_154 (by decide) tnl_0 ?_
    refine ok_iload_n dX11_days_67 0 rfl ?_
    exact okS_ret dX11_days_68 rfl rfl (by have e := Option.some.inj h; subst e; exact ⟨rfl, rfl⟩)
  · replace h := it_pos hc h
    refine ok_ldc (v := (-1000000002)) dX11_days_12 wd_998 ?_
    exact okS_ret dX11_days_14 rfl rfl (by have e := Option.some.inj h; subst e; exact ⟨rfl, rfl⟩)
def f_X11_term (S : Mm) (a1 : Int32) (a2 : Int32) : Option (Int32 × Mm) :=
  ((f_X11_in S a1.toInt64 0 3).bind fun r1 => (if r1 = 0 then some ((-1000000002), S) else (if a1 = 3 then (if a1 = 0 then ((f_X11_in S a2.toInt64 0 3).bind fun r33 => (if r33 = 0 then some ((-1000000002), S) else ((f_X11_remember S).bind fun r35 => (if inb (2 + a1) 1634 then (if inb (2 + a1) 1634 then some (r35.1 154 (2 + a1).toNatClampNeg, wr r35 154 (2 + a1).toNatClampNeg a2) else none) else none)))) else (if a1 = 3 then ((f_X11_in S a2.toInt64 0 99).bind fun r27 => (if r27 = 0 then some ((-1000000002), S) else ((f_X11_remember S).bind fun r29 => (if inb (2 + a1) 1634 then (if inb (2 + a1) 1634 then some (r29.1 154 (2 + a1).toNatClampNeg, wr r29 154 (2 + a1).toNatClampNeg a2) else none) else none)))) else ((f_X11_in S a2.toInt64 0 9).bind fun r21 => (if r21 = 0 then some ((-1000000002), S) else ((f_X11_remember S).bind fun r23 => (if inb (2 + a1) 1634 then (if inb (2 + a1) 1634 then some (r23.1 154 (2 + a1).toNatClampNeg, wr r23 154 (2 + a1).toNatClampNeg a2) else none) else none)))))) else (if a1 = 0 then ((f_X11_in S a2.toInt64 1 3).bind fun r15 => (if r15 = 0 then some ((-1000000002), S) else ((f_X11_remember S).bind fun r17 => (if inb (2 + a1) 1634 then (if inb (2 + a1) 1634 then some (r17.1 154 (2 + a1).toNatClampNeg, wr r17 154 (2 + a1).toNatClampNeg a2) else none) else none)))) else (if a1 = 3 then ((f_X11_in S a2.toInt64 1 99).bind fun r9 => (if r9 = 0 then some ((-1000000002), S) else ((f_X11_remember S).bind fun r11 => (if inb (2 + a1) 1634 then (if inb (2 + a1) 1634 then some (r11.1 154 (2 + a1).toNatClampNeg, wr r11 154 (2 + a1).toNatClampNeg a2) else none) else none)))) else ((f_X11_in S a2.toInt64 1 9).bind fun r3 => (if r3 = 0 then some ((-1000000002), S) else ((f_X11_remember S).bind fun r5 => (if inb (2 + a1) 1634 then (if inb (2 + a1) 1634 then some (r5.1 154 (2 + a1).toNatClampNeg, wr r5 154 (2 + a1).toNatClampNeg a2) else none) else none)))))))))
set_option maxRecDepth 100000 in
set_option maxHeartbeats 4000000 in
theorem t_X11_term {S : Mm} {a1 : Int32} {a2 : Int32} {out : Int32 × Mm} (h : f_X11_term S a1 a2 = some out) : Rs D_X11_term [.ref 153, .int a1, .int a2] S (some (.int out.1)) out.2 := by
  refine rs_of (by decide) rfl (Nat.le_of_ble_eq_true rfl) ?_
  unfold f_X11_term at h
  show Ok D_X11_term (0, 0) (0, 0) 0 [(0, .ref 153), (1, .int a1), (2, .int a2)] [] (St S) _
  refine ok_iload_n dX11_term_0 1 rfl ?_
  refine ok_i2l dX11_term_1 ?_
  refine ok_lconst (v := 0) dX11_term_2 (by decide) ?_
  refine ok_ldc2 (v := 3) dX11_term_3 wd_1206 ?_
  obtain ⟨r1, e2, h⟩ := it_bind h
  refine okS_S (as := [.long a1.toInt64, .long 0, .long 3]) (st := []) (r := some (.int r1)) (S' := S) dX11_term_6 cv_X11_94 rfl (Nat.le_of_ble_eq_true rfl) ⟨⟨by decide, by decide⟩, rfl, rfl⟩ (t_X11_in e2) ?_
  show Ok D_X11_term (0, 0) (0, 0) 9 [(0, .ref 153), (1, .int a1), (2, .int a2)] [.int r1] (St S) _
  refine ok_if_eq (tgt := 54) dX11_term_9 (by decide) (fun hc => ?_) (fun hc => ?_)
  · replace h := it_pos hc h
    refine ok_ldc (v := (-1000000002)) dX11_term_54 wd_998 ?_
    exact okS_ret dX11_term_56 rfl rfl (by have e := Option.some.inj h; subst e; exact ⟨rfl, rfl⟩)
  · replace h := it_neg hc h
    refine ok_iload_n dX11_term_12 2 rfl ?_
    refine ok_i2l dX11_term_13 ?_
    refine ok_iload_n dX11_term_14 1 rfl ?_
    refine ok_iconst (v := 3) dX11_term_15 ic_3 ?_
    refine ok_icmp_ne (tgt := 23) dX11_term_16 (by decide) (fun hc => ?_) (fun hc => ?_)
    · replace h := it_neg hc h
      refine ok_lconst (v := 1) dX11_term_23 (by decide) ?_
      refine ok_iload_n dX11_term_24 1 rfl ?_
      refine ok_if_ne (tgt := 34) dX11_term_25 (by decide) (fun hc => ?_) (fun hc => ?_)
      · replace h := it_neg hc h
        refine ok_iload_n dX11_term_34 1 rfl ?_
        refine ok_iconst (v := 3) dX11_term_35 ic_3 ?_
        refine ok_icmp_ne (tgt := 45) dX11_term_36 (by decide) (fun hc => ?_) (fun hc => ?_)
        · replace h := it_neg hc h
          refine ok_ldc2 (v := 9) dX11_term_45 wd_1208 ?_
          obtain ⟨r3, e4, h⟩ := it_bind h
          refine okS_S (as := [.long a2.toInt64, .long 1, .long 9]) (st := []) (r := some (.int r3)) (S' := S) dX11_term_48 cv_X11_94 rfl (Nat.le_of_ble_eq_true rfl) ⟨⟨by decide, by decide⟩, rfl, rfl⟩ (t_X11_in e4) ?_
          show Ok D_X11_term (0, 0) (0, 0) 51 [(0, .ref 153), (1, .int a1), (2, .int a2)] [.int r3] (St S) _
          refine ok_if_ne (tgt := 57) dX11_term_51 (by decide) (fun hc => ?_) (fun hc => ?_)
          · replace h := it_neg hc h
            refine ok_aload_n dX11_term_57 0 rfl ?_
            obtain ⟨r5, e6, h⟩ := it_bind h
            refine okS_V (as := []) (st := []) (r := none) (S' := r5) dX11_term_58 cv_X11_153 rfl po_153 (Nat.le_of_ble_eq_true rfl) ⟨⟨by decide, by decide⟩, rfl, rfl⟩ (t_X11_remember e6) ?_
            show Ok D_X11_term (0, 0) (0, 0) 61 [(0, .ref 153), (1, .int a1), (2, .int a2)] [] (St r5) _
            refine ok_aload_n dX11_term_61 0 rfl ?_
            refine okS_getR dX11_term_62 fl_X11_7 pr_153_0 ?_
            refine ok_iconst (v := 2) dX11_term_65 ic_2 ?_
            refine ok_iload_n dX11_term_66 1 rfl ?_
            refine ok_iadd dX11_term_67 ?_
            obtain ⟨hi7, h⟩ := it_some h
            refine okS_iaload dX11_term_68 pa_154 hi7 ?_
            refine ok_istore_n (L' := [(3, .int (r5.1 154 (2 + a1).toNatClampNeg)), (0, .ref 153), (1, .int a1), (2, .int a2)]) dX11_term_69 (by decide) rfl ?_
            refine ok_aload_n dX11_term_70 1 rfl ?_
            refine okS_getR dX11_term_71 fl_X11_7 pr_153_0 ?_
            refine ok_iconst (v := 2) dX11_term_74 ic_2 ?_
            refine ok_iload_n dX11_term_75 2 rfl ?_
            refine ok_iadd dX11_term_76 ?_
            refine ok_iload_n dX11_term_77 3 rfl ?_
            obtain ⟨hi8, h⟩ := it_some h
            refine okS_iastore dX11_term_78 pa_154 hi8 ?_
            refine ok_iload_n dX11_term_79 0 rfl ?_
            exact okS_ret dX11_term_80 rfl rfl (by have e := Option.some.inj h; subst e; exact ⟨rfl, rfl⟩)
          · replace h := it_pos hc h
            refine ok_ldc (v := (-1000000002)) dX11_term_54 wd_998 ?_
            exact okS_ret dX11_term_56 rfl rfl (by have e := Option.some.inj h; subst e; exact ⟨rfl, rfl⟩)
        · replace h := it_pos hc h
          refine ok_ldc2 (v := 99) dX11_term_39 wd_1207 ?_
          refine ok_goto (tgt := 48) dX11_term_42 (by decide) ?_
          obtain ⟨r9, e10, h⟩ := it_bind h
          refine okS_S (as := [.long a2.toInt64, .long 1, .long 99]) (st := []) (r := some (.int r9)) (S' := S) dX11_term_48 cv_X11_94 rfl (Nat.le_of_ble_eq_true rfl) ⟨⟨by decide, by decide⟩, rfl, rfl⟩ (t_X11_in e10) ?_
          show Ok D_X11_term (0, 0) (0, 0) 51 [(0, .ref 153), (1, .int a1), (2, .int a2)] [.int r9] (St S) _
          refine ok_if_ne (tgt := 57) dX11_term_51 (by decide) (fun hc => ?_) (fun hc => ?_)
          · replace h := it_neg hc h
            refine ok_aload_n dX11_term_57 0 rfl ?_
            obtain ⟨r11, e12, h⟩ := it_bind h
            refine okS_V (as := []) (st := []) (r := none) (S' := r11) dX11_term_58 cv_X11_153 rfl po_153 (Nat.le_of_ble_eq_true rfl) ⟨⟨by decide, by decide⟩, rfl, rfl⟩ (t_X11_remember e12) ?_
            show Ok D_X11_term (0, 0) (0, 0) 61 [(0, .ref 153), (1, .int a1), (2, .int a2)] [] (St r11) _
            refine ok_aload_n dX11_term_61 0 rfl ?_
            refine okS_getR dX11_term_62 fl_X11_7 pr_153_0 ?_
            refine ok_iconst (v := 2) dX11_term_65 ic_2 ?_
            refine ok_iload_n dX11_term_66 1 rfl ?_
            refine ok_iadd dX11_term_67 ?_
            obtain ⟨hi13, h⟩ := it_some h
            refine okS_iaload dX11_term_68 pa_154 hi13 ?_
            refine ok_istore_n (L' := [(3, .int (r11.1 154 (2 + a1).toNatClampNeg)), (0, .ref 153), (1, .int a1), (2, .int a2)]) dX11_term_69 (by decide) rfl ?_
            refine ok_aload_n dX11_term_70 1 rfl ?_
            refine okS_getR dX11_term_71 fl_X11_7 pr_153_0 ?_
            refine ok_iconst (v := 2) dX11_term_74 ic_2 ?_
            refine ok_iload_n dX11_term_75 2 rfl ?_
            refine ok_iadd dX11_term_76 ?_
            refine ok_iload_n dX11_term_77 3 rfl ?_
            obtain ⟨hi14, h⟩ := it_some h
            refine okS_iastore dX11_term_78 pa_154 hi14 ?_
            refine ok_iload_n dX11_term_79 0 rfl ?_
            exact okS_ret dX11_term_80 rfl rfl (by have e := Option.some.inj h; subst e; exact ⟨rfl, rfl⟩)
          · replace h := it_pos hc h
            refine ok_ldc (v := (-1000000002)) dX11_term_54 wd_998 ?_
            exact okS_ret dX11_term_56 rfl rfl (by have e := Option.some.inj h; subst e; exact ⟨rfl, rfl⟩)
      · replace h := it_pos hc h
        refine ok_ldc2 (v := 3) dX11_term_28 wd_1206 ?_
        refine ok_goto (tgt := 48) dX11_term_31 (by decide) ?_
        obtain ⟨r15, e16, h⟩ := it_bind h
        refine okS_S (as := [.long a2.toInt64, .long 1, .long 3]) (st := []) (r := some (.int r15)) (S' := S) dX11_term_48 cv_X11_94 rfl (Nat.le_of_ble_eq_true rfl) ⟨⟨by decide, by decide⟩, rfl, rfl⟩ (t_X11_in e16) ?_
        show Ok D_X11_term (0, 0) (0, 0) 51 [(0, .ref 153), (1, .int a1), (2, .int a2)] [.int r15] (St S) _
        refine ok_if_ne (tgt := 57) dX11_term_51 (by decide) (fun hc => ?_) (fun hc => ?_)
        · replace h := it_neg hc h
          refine ok_aload_n dX11_term_57 0 rfl ?_
          obtain ⟨r17, e18, h⟩ := it_bind h
          refine okS_V (as := []) (st := []) (r := none) (S' := r17) dX11_term_58 cv_X11_153 rfl po_153 (Nat.le_of_ble_eq_true rfl) ⟨⟨by decide, by decide⟩, rfl, rfl⟩ (t_X11_remember e18) ?_
          show Ok D_X11_term (0, 0) (0, 0) 61 [(0, .ref 153), (1, .int a1), (2, .int a2)] [] (St r17) _
          refine ok_aload_n dX11_term_61 0 rfl ?_
          refine okS_getR dX11_term_62 fl_X11_7 pr_153_0 ?_
          refine ok_iconst (v := 2) dX11_term_65 ic_2 ?_
          refine ok_iload_n dX11_term_66 1 rfl ?_
          refine ok_iadd dX11_term_67 ?_
          obtain ⟨hi19, h⟩ := it_some h
          refine okS_iaload dX11_term_68 pa_154 hi19 ?_
          refine ok_istore_n (L' := [(3, .int (r17.1 154 (2 + a1).toNatClampNeg)), (0, .ref 153), (1, .int a1), (2, .int a2)]) dX11_term_69 (by decide) rfl ?_
          refine ok_aload_n dX11_term_70 1 rfl ?_
          refine okS_getR dX11_term_71 fl_X11_7 pr_153_0 ?_
          refine ok_iconst (v := 2) dX11_term_74 ic_2 ?_
          refine ok_iload_n dX11_term_75 2 rfl ?_
          refine ok_iadd dX11_term_76 ?_
          refine ok_iload_n dX11_term_77 3 rfl ?_
          obtain ⟨hi20, h⟩ := it_some h
          refine okS_iastore dX11_term_78 pa_154 hi20 ?_
          refine ok_iload_n dX11_term_79 0 rfl ?_
          exact okS_ret dX11_term_80 rfl rfl (by have e := Option.some.inj h; subst e; exact ⟨rfl, rfl⟩)
        · replace h := it_pos hc h
          refine ok_ldc (v := (-1000000002)) dX11_term_54 wd_998 ?_
          exact okS_ret dX11_term_56 rfl rfl (by have e := Option.some.inj h; subst e; exact ⟨rfl, rfl⟩)
    · replace h := it_pos hc h
      refine ok_lconst (v := 0) dX11_term_19 (by decide) ?_
      refine ok_goto (tgt := 24) dX11_term_20 (by decide) ?_
      refine ok_iload_n dX11_term_24 1 rfl ?_
      refine ok_if_ne (tgt := 34) dX11_term_25 (by decide) (fun hc => ?_) (fun hc => ?_)
      · replace h := it_neg hc h
        refine ok_iload_n dX11_term_34 1 rfl ?_
        refine ok_iconst (v := 3) dX11_term_35 ic_3 ?_
        refine ok_icmp_ne (tgt := 45) dX11_term_36 (by decide) (fun hc => ?_) (fun hc => ?_)
        · replace h := it_neg hc h
          refine ok_ldc2 (v := 9) dX11_term_45 wd_1208 ?_
          obtain ⟨r21, e22, h⟩ := it_bind h
          refine okS_S (as := [.long a2.toInt64, .long 0, .long 9]) (st := []) (r := some (.int r21)) (S' := S) dX11_term_48 cv_X11_94 rfl (Nat.le_of_ble_eq_true rfl) ⟨⟨by decide, by decide⟩, rfl, rfl⟩ (t_X11_in e22) ?_
          show Ok D_X11_term (0, 0) (0, 0) 51 [(0, .ref 153), (1, .int a1), (2, .int a2)] [.int r21] (St S) _
          refine ok_if_ne (tgt := 57) dX11_term_51 (by decide) (fun hc => ?_) (fun hc => ?_)
          · replace h := it_neg hc h
            refine ok_aload_n dX11_term_57 0 rfl ?_
            obtain ⟨r23, e24, h⟩ := it_bind h
            refine okS_V (as := []) (st := []) (r := none) (S' := r23) dX11_term_58 cv_X11_153 rfl po_153 (Nat.le_of_ble_eq_true rfl) ⟨⟨by decide, by decide⟩, rfl, rfl⟩ (t_X11_remember e24) ?_
            show Ok D_X11_term (0, 0) (0, 0) 61 [(0, .ref 153), (1, .int a1), (2, .int a2)] [] (St r23) _
            refine ok_aload_n dX11_term_61 0 rfl ?_
            refine okS_getR dX11_term_62 fl_X11_7 pr_153_0 ?_
            refine ok_iconst (v := 2) dX11_term_65 ic_2 ?_
            refine ok_iload_n dX11_term_66 1 rfl ?_
            refine ok_iadd dX11_term_67 ?_
            obtain ⟨hi25, h⟩ := it_some h
            refine okS_iaload dX11_term_68 pa_154 hi25 ?_
            refine ok_istore_n (L' := [(3, .int (r23.1 154 (2 + a1).toNatClampNeg)), (0, .ref 153), (1, .int a1), (2, .int a2)]) dX11_term_69 (by decide) rfl ?_
            refine ok_aload_n dX11_term_70 1 rfl ?_
            refine okS_getR dX11_term_71 fl_X11_7 pr_153_0 ?_
            refine ok_iconst (v := 2) dX11_term_74 ic_2 ?_
            refine ok_iload_n dX11_term_75 2 rfl ?_
            refine ok_iadd dX11_term_76 ?_
            refine ok_iload_n dX11_term_77 3 rfl ?_
            obtain ⟨hi26, h⟩ := it_some h
            refine okS_iastore dX11_term_78 pa_154 hi26 ?_
            refine ok_iload_n dX11_term_79 0 rfl ?_
            exact okS_ret dX11_term_80 rfl rfl (by have e := Option.some.inj h; subst e; exact ⟨rfl, rfl⟩)
          · replace h := it_pos hc h
            refine ok_ldc (v := (-1000000002)) dX11_term_54 wd_998 ?_
            exact okS_ret dX11_term_56 rfl rfl (by have e := Option.some.inj h; subst e; exact ⟨rfl, rfl⟩)
        · replace h := it_pos hc h
          refine ok_ldc2 (v := 99) dX11_term_39 wd_1207 ?_
          refine ok_goto (tgt := 48) dX11_term_42 (by decide) ?_
          obtain ⟨r27, e28, h⟩ := it_bind h
          refine okS_S (as := [.long a2.toInt64, .long 0, .long 99]) (st := []) (r := some (.int r27)) (S' := S) dX11_term_48 cv_X11_94 rfl (Nat.le_of_ble_eq_true rfl) ⟨⟨by decide, by decide⟩, rfl, rfl⟩ (t_X11_in e28) ?_
          show Ok D_X11_term (0, 0) (0, 0) 51 [(0, .ref 153), (1, .int a1), (2, .int a2)] [.int r27] (St S) _
          refine ok_if_ne (tgt := 57) dX11_term_51 (by decide) (fun hc => ?_) (fun hc => ?_)
          · replace h := it_neg hc h
            refine ok_aload_n dX11_term_57 0 rfl ?_
            obtain ⟨r29, e30, h⟩ := it_bind h
            refine okS_V (as := []) (st := []) (r := none) (S' := r29) dX11_term_58 cv_X11_153 rfl po_153 (Nat.le_of_ble_eq_true rfl) ⟨⟨by decide, by decide⟩, rfl, rfl⟩ (t_X11_remember e30) ?_
            show Ok D_X11_term (0, 0) (0, 0) 61 [(0, .ref 153), (1, .int a1), (2, .int a2)] [] (St r29) _
            refine ok_aload_n dX11_term_61 0 rfl ?_
            refine okS_getR dX11_term_62 fl_X11_7 pr_153_0 ?_
            refine ok_iconst (v := 2) dX11_term_65 ic_2 ?_
            refine ok_iload_n dX11_term_66 1 rfl ?_
            refine ok_iadd dX11_term_67 ?_
            obtain ⟨hi31, h⟩ := it_some h
            refine okS_iaload dX11_term_68 pa_154 hi31 ?_
            refine ok_istore_n (L' := [(3, .int (r29.1 154 (2 + a1).toNatClampNeg)), (0, .ref 153), (1, .int a1), (2, .int a2)]) dX11_term_69 (by decide) rfl ?_
            refine ok_aload_n dX11_term_70 1 rfl ?_
            refine okS_getR dX11_term_71 fl_X11_7 pr_153_0 ?_
            refine ok_iconst (v := 2) dX11_term_74 ic_2 ?_
            refine ok_iload_n dX11_term_75 2 rfl ?_
            refine ok_iadd dX11_term_76 ?_
            refine ok_iload_n dX11_term_77 3 rfl ?_
            obtain ⟨hi32, h⟩ := it_some h
            refine okS_iastore dX11_term_78 pa_154 hi32 ?_
            refine ok_iload_n dX11_term_79 0 rfl ?_
            exact okS_ret dX11_term_80 rfl rfl (by have e := Option.some.inj h; subst e; exact ⟨rfl, rfl⟩)
          · replace h := it_pos hc h
            refine ok_ldc (v := (-1000000002)) dX11_term_54 wd_998 ?_
            exact okS_ret dX11_term_56 rfl rfl (by have e := Option.some.inj h; subst e; exact ⟨rfl, rfl⟩)
      · replace h := it_pos hc h
        refine ok_ldc2 (v := 3) dX11_term_28 wd_1206 ?_
        refine ok_goto (tgt := 48) dX11_term_31 (by decide) ?_
        obtain ⟨r33, e34, h⟩ := it_bind h
        refine okS_S (as := [.long a2.toInt64, .long 0, .long 3]) (st := []) (r := some (.int r33)) (S' := S) dX11_term_48 cv_X11_94 rfl (Nat.le_of_ble_eq_true rfl) ⟨⟨by decide, by decide⟩, rfl, rfl⟩ (t_X11_in e34) ?_
        show Ok D_X11_term (0, 0) (0, 0) 51 [(0, .ref 153), (1, .int a1), (2, .int a2)] [.int r33] (St S) _
        refine ok_if_ne (tgt := 57) dX11_term_51 (by decide) (fun hc => ?_) (fun hc => ?_)
        · replace h := it_neg hc h
          refine ok_aload_n dX11_term_57 0 rfl ?_
          obtain ⟨r35, e36, h⟩ := it_bind h
          refine okS_V (as := []) (st := []) (r := none) (S' := r35) dX11_term_58 cv_X11_153 rfl po_153 (Nat.le_of_ble_eq_true rfl) ⟨⟨by decide, by decide⟩, rfl, rfl⟩ (t_X11_remember e36) ?_
          show Ok D_X11_term (0, 0) (0, 0) 61 [(0, .ref 153), (1, .int a1), (2, .int a2)] [] (St r35) _
          refine ok_aload_n dX11_term_61 0 rfl ?_
          refine okS_getR dX11_term_62 fl_X11_7 pr_153_0 ?_
          refine ok_iconst (v := 2) dX11_term_65 ic_2 ?_
          refine ok_iload_n dX11_term_66 1 rfl ?_
          refine ok_iadd dX11_term_67 ?_
          obtain ⟨hi37, h⟩ := it_some h
          refine okS_iaload dX11_term_68 pa_154 hi37 ?_
          refine ok_istore_n (L' := [(3, .int (r35.1 154 (2 + a1).toNatClampNeg)), (0, .ref 153), (1, .int a1), (2, .int a2)]) dX11_term_69 (by decide) rfl ?_
          refine ok_aload_n dX11_term_70 1 rfl ?_
          refine okS_getR dX11_term_71 fl_X11_7 pr_153_0 ?_
          refine ok_iconst (v := 2) dX11_term_74 ic_2 ?_
          refine ok_iload_n dX11_term_75 2 rfl ?_
          refine ok_iadd dX11_term_76 ?_
          refine ok_iload_n dX11_term_77 3 rfl ?_
          obtain ⟨hi38, h⟩ := it_some h
          refine okS_iastore dX11_term_78 pa_154 hi38 ?_
          refine ok_iload_n dX11_term_79 0 rfl ?_
          exact okS_ret dX11_term_80 rfl rfl (by have e := Option.some.inj h; subst e; exact ⟨rfl, rfl⟩)
        · replace h := it_pos hc h
          refine ok_ldc (v := (-1000000002)) dX11_term_54 wd_998 ?_
          exact okS_ret dX11_term_56 rfl rfl (by have e := Option.some.inj h; subst e; exact ⟨rfl, rfl⟩)
def f_X11_draw (S : Mm) (a1 : Int32) : Option (Int32 × Mm) :=
  (if ¬ a1 = 0 then some ((((wr S 153 3 ((((((S.1 153 3).toInt64) * 1103515245) + 12345) - ((((S.1 153 3).toInt64) * 1103515245) + 12345) / 2147483648 * 2147483648).toInt32)).1 153 3) / 65536) - (((wr S 153 3 ((((((S.1 153 3).toInt64) * 1103515245) + 12345) - ((((S.1 153 3).toInt64) * 1103515245) + 12345) / 2147483648 * 2147483648).toInt32)).1 153 3) / 65536) / a1 * a1, wr S 153 3 ((((((S.1 153 3).toInt64) * 1103515245) + 12345) - ((((S.1 153 3).toInt64) * 1103515245) + 12345) / 2147483648 * 2147483648).toInt32)) else none)
set_option maxRecDepth 100000 in
set_option maxHeartbeats 4000000 in
theorem t_X11_draw {S : Mm} {a1 : Int32} {out : Int32 × Mm} (h : f_X11_draw S a1 = some out) : Rs D_X11_draw [.ref 153, .int a1] S (some (.int out.1)) out.2 := by
  refine rs_of (by decide) rfl (Nat.le_of_ble_eq_true rfl) ?_
  unfold f_X11_draw at h
  show Ok D_X11_draw (0, 0) (0, 0) 0 [(0, .ref 153), (1, .int a1)] [] (St S) _
  refine ok_aload_n dX11_draw_0 0 rfl ?_
  refine ok_aload_n dX11_draw_1 0 rfl ?_
  refine okS_getI dX11_draw_2 fl_X11_173 pi_153_3 ?_
  refine ok_i2l dX11_draw_5 ?_
  refine ok_ldc2 (v := 1103515245) dX11_draw_6 wd_1217 ?_
  refine ok_lmul dX11_draw_9 ?_
  refine ok_ldc2 (v := 12345) dX11_draw_10 wd_1218 ?_
  refine ok_ladd dX11_draw_13 ?_
  refine ok_ldc2 (v := 2147483648) dX11_draw_14 wd_1219 ?_
  refine ok_lrem dX11_draw_17 (by decide) ?_
  refine ok_l2i dX11_draw_18 ?_
  refine okS_putI dX11_draw_19 fl_X11_173 pi_153_3 ⟨rfl, rfl⟩ ?_
  refine ok_aload_n dX11_draw_22 0 rfl ?_
  refine okS_getI dX11_draw_23 fl_X11_173 pi_153_3 ?_
  refine ok_ldc (v := 65536) dX11_draw_26 wd_1220 ?_
  refine ok_idiv dX11_draw_28 (by decide) ?_
  refine ok_iload_n dX11_draw_29 1 rfl ?_
  obtain ⟨hi, h⟩ := it_some h
  refine ok_irem dX11_draw_30 hi ?_
  exact okS_ret dX11_draw_31 rfl rfl (by have e := Option.some.inj h; subst e; exact ⟨rfl, rfl⟩)
def lp_X11_drift_17 (k : Int32 → Mm → Option (Int32 × Mm)) (c1 : Int32) : Nat → Int32 → Mm → Option (Int32 × Mm)
  | 0, _, _ => none
  | fuel + 1, x2, S => (if c1 ≤ x2 then k x2 S else (if 40 ≤ (S.1 154 1) then k x2 S else ((f_X11_remember S).bind fun r3 => ((f_X11_draw r3 (r3.1 154 0)).bind fun r5 => ((f_X11_draw r5.2 256).bind fun r7 => ((f_X11_add r7.2 r5.1 r7.1).bind fun r9 => lp_X11_drift_17 k c1 fuel (x2 + 1) r9))))))
def f_X11_drift (S : Mm) (a1 : Int32) : Option (Int32 × Mm) :=
  ((f_X11_in S a1.toInt64 1 12).bind fun r1 => (if r1 = 0 then some ((-1000000002), S) else lp_X11_drift_17 (fun y2_11 S12 => some (S12.1 154 1, S12)) a1 100000 0 S))
set_option maxRecDepth 100000 in
set_option maxHeartbeats 4000000 in
theorem tlp_X11_drift_17 {k : Int32 → Mm → Option (Int32 × Mm)} {c1 : Int32} (hk : ∀ (x2 : Int32) (S : Mm) (out : Int32 × Mm), k x2 S = some out → Ok D_X11_drift (0, 0) (0, 0) 66 [(0, .ref 153), (1, .int c1), (2, .int x2)] [] (St S) (An (some (.int out.1)) out.2)) : ∀ (fuel : Nat) (x2 : Int32) (S : Mm) (out : Int32 × Mm), lp_X11_drift_17 k c1 fuel x2 S = some out → Ok D_X11_drift (0, 0) (0, 0) 17 [(0, .ref 153), (1, .int c1), (2, .int x2)] [] (St S) (An (some (.int out.1)) out.2) := by
  intro fuel
  induction fuel with
  | zero => intro x2 S out h; cases h
  | succ fuel ih =>
    intro x2 S out h
    rw [lp_X11_drift_17] at h
    refine ok_iload_n dX11_drift_17 2 rfl ?_
    refine ok_iload_n dX11_drift_18 1 rfl ?_
    refine ok_icmp_ge (tgt := 66) dX11_drift_19 (by decide) (fun hc => ?_) (fun hc => ?_)
    · replace h := it_pos hc h
      refine ok_perm [0, 1, 2] rfl ?_
      exact hk _ _ _ h
    · replace h := it_neg hc h
      refine ok_aload_n dX11_drift_22 0 rfl ?_
      refine okS_getR dX11_drift_23 fl_X11_7 pr_153_0 ?_
      refine ok_iconst (v := 1) dX11_drift_26 ic_1 ?_
      refine okS_ialoadL (j := 1) dX11_drift_27 pa_154 (by decide) tnl_1 ?_
      refine ok_bipush (v := 40) dX11_drift_28 bi_40 ?_
      refine ok_icmp_ge (tgt := 66) dX11_drift_30 (by decide) (fun hc => ?_) (fun hc => ?_)
      · replace h := it_pos hc h
        refine ok_perm [0, 1, 2] rfl ?_
        exact hk _ _ _ h
      · replace h := it_neg hc h
        refine ok_aload_n dX11_drift_33 0 rfl ?_
        obtain ⟨r3, e4, h⟩ := it_bind h
        refine okS_V (as := []) (st := []) (r := none) (S' := r3) dX11_drift_34 cv_X11_153 rfl po_153 (Nat.le_of_ble_eq_true rfl) ⟨⟨by decide, by decide⟩, rfl, rfl⟩ (t_X11_remember e4) ?_
        show Ok D_X11_drift (0, 0) (0, 0) 37 [(0, .ref 153), (1, .int c1), (2, .int x2)] [] (St r3) _
        refine ok_aload_n dX11_drift_37 0 rfl ?_
        refine ok_aload_n dX11_drift_38 0 rfl ?_
        refine okS_getR dX11_drift_39 fl_X11_7 pr_153_0 ?_
        refine ok_iconst (v := 0) dX11_drift_42 ic_0 ?_
        refine okS_ialoadL (j := 0) dX11_drift_43 pa_154 (by decide) tnl_0 ?_
        obtain ⟨r5, e6, h⟩ := it_bind h
        refine okS_V (as := [.int (r3.1 154 0)]) (st := []) (r := some (.int r5.1)) (S' := r5.2) dX11_drift_44 cv_X11_226 rfl po_153 (Nat.le_of_ble_eq_true rfl) ⟨⟨by decide, by decide⟩, rfl, rfl⟩ (t_X11_draw e6) ?_
        show Ok D_X11_drift (0, 0) (0, 0) 47 [(0, .ref 153), (1, .int c1), (2, .int x2)] [.int r5.1] (St r5.2) _
        refine ok_istore_n (L' := [(3, .int r5.1), (0, .ref 153), (1, .int c1), (2, .int x2)]) dX11_drift_47 (by decide) rfl ?_
        refine ok_aload_n dX11_drift_48 1 rfl ?_
        refine ok_iload_n dX11_drift_49 0 rfl ?_
        refine ok_aload_n dX11_drift_50 1 rfl ?_
        refine ok_sipush (v := 256) dX11_drift_51 si_256 ?_
        obtain ⟨r7, e8, h⟩ := it_bind h
        refine okS_V (as := [.int 256]) (st := [.int r5.1, .ref 153]) (r := some (.int r7.1)) (S' := r7.2) dX11_drift_54 cv_X11_226 rfl po_153 (Nat.le_of_ble_eq_true rfl) ⟨⟨by decide, by decide⟩, rfl, rfl⟩ (t_X11_draw e8) ?_
        show Ok D_X11_drift (0, 0) (0, 0) 57 [(3, .int r5.1), (0, .ref 153), (1, .int c1), (2, .int x2)] [.int r7.1, .int r5.1, .ref 153] (St r7.2) _
        obtain ⟨r9, e10, h⟩ := it_bind h
        refine okS_V (as := [.int r5.1, .int r7.1]) (st := []) (r := none) (S' := r9) dX11_drift_57 cv_X11_156 rfl po_153 (Nat.le_of_ble_eq_true rfl) ⟨⟨by decide, by decide⟩, rfl, rfl⟩ (t_X11_add e10) ?_
        show Ok D_X11_drift (0, 0) (0, 0) 60 [(3, .int r5.1), (0, .ref 153), (1, .int c1), (2, .int x2)] [] (St r9) _
        refine ok_iinc (v := x2 + 1) (L' := [(2, .int (x2 + 1)), (3, .int r5.1), (0, .ref 153), (1, .int c1)]) dX11_drift_60 3 rfl (ii_1 _) (by decide) rfl ?_
        refine ok_goto (tgt := 17) dX11_drift_63 (by decide) ?_
        refine ok_perm [2, 3, 0] rfl ?_
        exact ih _ _ _ h
set_option maxRecDepth 100000 in
set_option maxHeartbeats 4000000 in
theorem t_X11_drift {S : Mm} {a1 : Int32} {out : Int32 × Mm} (h : f_X11_drift S a1 = some out) : Rs D_X11_drift [.ref 153, .int a1] S (some (.int out.1)) out.2 := by
  refine rs_of (by decide) rfl (Nat.le_of_ble_eq_true rfl) ?_
  unfold f_X11_drift at h
  show Ok D_X11_drift (0, 0) (0, 0) 0 [(0, .ref 153), (1, .int a1)] [] (St S) _
  refine ok_iload_n dX11_drift_0 1 rfl ?_
  refine ok_i2l dX11_drift_1 ?_
  refine ok_lconst (v := 1) dX11_drift_2 (by decide) ?_
  refine ok_ldc2 (v := 12) dX11_drift_3 wd_1200 ?_
  obtain ⟨r1, e2, h⟩ := it_bind h
  refine okS_S (as := [.long a1.toInt64, .long 1, .long 12]) (st := []) (r := some (.int r1)) (S' := S) dX11_drift_6 cv_X11_94 rfl (Nat.le_of_ble_eq_true rfl) ⟨⟨by decide, by decide⟩, rfl, rfl⟩ (t_X11_in e2) ?_
  show Ok D_X11_drift (0, 0) (0, 0) 9 [(0, .ref 153), (1, .int a1)] [.int r1] (St S) _
  refine ok_if_ne (tgt := 15) dX11_drift_9 (by decide) (fun hc => ?_) (fun hc => ?_)
  · replace h := it_neg hc h
    refine ok_iconst (v := 0) dX11_drift_15 ic_0 ?_
    refine ok_istore_n (L' := [(2, .int 0), (0, .ref 153), (1, .int a1)]) dX11_drift_16 (by decide) rfl ?_
    refine ok_perm [1, 2, 0] rfl ?_
    refine tlp_X11_drift_17 (fun y2_11 S12 out13 h => ?_) _ _ _ _ h
    refine ok_aload_n dX11_drift_66 0 rfl ?_
    refine okS_getR dX11_drift_67 fl_X11_7 pr_153_0 ?_
    refine ok_iconst (v := 1) dX11_drift_70 ic_1 ?_
    refine okS_ialoadL (j := 1) dX11_drift_71 pa_154 (by decide) tnl_1 ?_
    exact okS_ret dX11_drift_72 rfl rfl (by have e := Option.some.inj h; subst e; exact ⟨rfl, rfl⟩)
  · replace h := it_pos hc h
    refine ok_ldc (v := (-1000000002)) dX11_drift_12 wd_998 ?_
    exact okS_ret dX11_drift_14 rfl rfl (by have e := Option.some.inj h; subst e; exact ⟨rfl, rfl⟩)
def lp_X11_undo_28 (k : Int32 → Mm → Option (Int32 × Mm)) (c1 : Int32) : Nat → Int32 → Mm → Option (Int32 × Mm)
  | 0, _, _ => none
  | fuel + 1, x2, S => (if 16 < (x2 + c1) then k x2 S else ((f_X11_copyRow S (86 * (x2 + c1)) (86 * x2)).bind fun r3 => lp_X11_undo_28 k c1 fuel (x2 + 1) r3))
def f_X11_undo (S : Mm) (a1 : Int32) : Option (Int32 × Mm) :=
  ((f_X11_in S a1.toInt64 1 16).bind fun r1 => (if r1 = 0 then some ((-1000000002), S) else (if a1 ≤ (S.1 153 1) then lp_X11_undo_28 (fun y2_5 S6 => some ((wr S6 153 1 ((S6.1 153 1) - a1)).1 154 1, wr S6 153 1 ((S6.1 153 1) - a1))) a1 100000 0 S else some ((-1000000003), S))))
set_option maxRecDepth 100000 in
set_option maxHeartbeats 4000000 in
theorem tlp_X11_undo_28 {k : Int32 → Mm → Option (Int32 × Mm)} {c1 : Int32} (hk : ∀ (x2 : Int32) (S : Mm) (out : Int32 × Mm), k x2 S = some out → Ok D_X11_undo (0, 0) (0, 0) 56 [(0, .ref 153), (1, .int c1), (2, .int x2)] [] (St S) (An (some (.int out.1)) out.2)) : ∀ (fuel : Nat) (x2 : Int32) (S : Mm) (out : Int32 × Mm), lp_X11_undo_28 k c1 fuel x2 S = some out → Ok D_X11_undo (0, 0) (0, 0) 28 [(0, .ref 153), (1, .int c1), (2, .int x2)] [] (St S) (An (some (.int out.1)) out.2) := by
  intro fuel
  induction fuel with
  | zero => intro x2 S out h; cases h
  | succ fuel ih =>
    intro x2 S out h
    rw [lp_X11_undo_28] at h
    refine ok_iload_n dX11_undo_28 2 rfl ?_
    refine ok_iload_n dX11_undo_29 1 rfl ?_
    refine ok_iadd dX11_undo_30 ?_
    refine ok_bipush (v := 16) dX11_undo_31 bi_16 ?_
    refine ok_icmp_gt (tgt := 56) dX11_undo_33 (by decide) (fun hc => ?_) (fun hc => ?_)
    · replace h := it_pos hc h
      refine ok_perm [0, 1, 2] rfl ?_
      exact hk _ _ _ h
    · replace h := it_neg hc h
      refine ok_aload_n dX11_undo_36 0 rfl ?_
      refine ok_bipush (v := 86) dX11_undo_37 bi_86 ?_
      refine ok_iload_n dX11_undo_39 2 rfl ?_
      refine ok_iload_n dX11_undo_40 1 rfl ?_
      refine ok_iadd dX11_undo_41 ?_
      refine ok_imul dX11_undo_42 ?_
      refine ok_bipush (v := 86) dX11_undo_43 bi_86 ?_
      refine ok_iload_n dX11_undo_45 2 rfl ?_
      refine ok_imul dX11_undo_46 ?_
      obtain ⟨r3, e4, h⟩ := it_bind h
      refine okS_V (as := [.int (86 * (x2 + c1)), .int (86 * x2)]) (st := []) (r := none) (S' := r3) dX11_undo_47 cv_X11_59 rfl po_153 (Nat.le_of_ble_eq_true rfl) ⟨⟨by decide, by decide⟩, rfl, rfl⟩ (t_X11_copyRow e4) ?_
      show Ok D_X11_undo (0, 0) (0, 0) 50 [(0, .ref 153), (1, .int c1), (2, .int x2)] [] (St r3) _
      refine ok_iinc (v := x2 + 1) (L' := [(2, .int (x2 + 1)), (0, .ref 153), (1, .int c1)]) dX11_undo_50 2 rfl (ii_1 _) (by decide) rfl ?_
      refine ok_goto (tgt := 28) dX11_undo_53 (by decide) ?_
      refine ok_perm [1, 2, 0] rfl ?_
      exact ih _ _ _ h
set_option maxRecDepth 100000 in
set_option maxHeartbeats 4000000 in
theorem t_X11_undo {S : Mm} {a1 : Int32} {out : Int32 × Mm} (h : f_X11_undo S a1 = some out) : Rs D_X11_undo [.ref 153, .int a1] S (some (.int out.1)) out.2 := by
  refine rs_of (by decide) rfl (Nat.le_of_ble_eq_true rfl) ?_
  unfold f_X11_undo at h
  show Ok D_X11_undo (0, 0) (0, 0) 0 [(0, .ref 153), (1, .int a1)] [] (St S) _
  refine ok_iload_n dX11_undo_0 1 rfl ?_
  refine ok_i2l dX11_undo_1 ?_
  refine ok_lconst (v := 1) dX11_undo_2 (by decide) ?_
  refine ok_ldc2 (v := 16) dX11_undo_3 wd_1225 ?_
  obtain ⟨r1, e2, h⟩ := it_bind h
  refine okS_S (as := [.long a1.toInt64, .long 1, .long 16]) (st := []) (r := some (.int r1)) (S' := S) dX11_undo_6 cv_X11_94 rfl (Nat.le_of_ble_eq_true rfl) ⟨⟨by decide, by decide⟩, rfl, rfl⟩ (t_X11_in e2) ?_
  show Ok D_X11_undo (0, 0) (0, 0) 9 [(0, .ref 153), (1, .int a1)] [.int r1] (St S) _
  refine ok_if_ne (tgt := 15) dX11_undo_9 (by decide) (fun hc => ?_) (fun hc => ?_)
  · replace h := it_neg hc h
    refine ok_iload_n dX11_undo_15 1 rfl ?_
    refine ok_aload_n dX11_undo_16 0 rfl ?_
    refine okS_getI dX11_undo_17 fl_X11_63 pi_153_1 ?_
    refine ok_icmp_le (tgt := 26) dX11_undo_20 (by decide) (fun hc => ?_) (fun hc => ?_)
    · replace h := it_pos hc h
      refine ok_iconst (v := 0) dX11_undo_26 ic_0 ?_
      refine ok_istore_n (L' := [(2, .int 0), (0, .ref 153), (1, .int a1)]) dX11_undo_27 (by decide) rfl ?_
      refine ok_perm [1, 2, 0] rfl ?_
      refine tlp_X11_undo_28 (fun y2_5 S6 out7 h => ?_) _ _ _ _ h
      refine ok_aload_n dX11_undo_56 0 rfl ?_
      refine ok_dup dX11_undo_57 rfl ?_
      refine okS_getI dX11_undo_58 fl_X11_63 pi_153_1 ?_
      refine ok_iload_n dX11_undo_61 1 rfl ?_
      refine ok_isub dX11_undo_62 ?_
      refine okS_putI dX11_undo_63 fl_X11_63 pi_153_1 ⟨rfl, rfl⟩ ?_
      refine ok_aload_n dX11_undo_66 0 rfl ?_
      refine okS_getR dX11_undo_67 fl_X11_7 pr_153_0 ?_
      refine ok_iconst (v := 1) dX11_undo_70 ic_1 ?_
      refine okS_ialoadL (j := 1) dX11_undo_71 pa_154 (by decide) tnl_1 ?_
      exact okS_ret dX11_undo_72 rfl rfl (by have e := Option.some.inj h; subst e; exact ⟨rfl, rfl⟩)
    · replace h := it_neg hc h
      refine ok_ldc (v := (-1000000003)) dX11_undo_23 wd_1201 ?_
      exact okS_ret dX11_undo_25 rfl rfl (by have e := Option.some.inj h; subst e; exact ⟨rfl, rfl⟩)
  · replace h := it_pos hc h
    refine ok_ldc (v := (-1000000002)) dX11_undo_12 wd_998 ?_
    exact okS_ret dX11_undo_14 rfl rfl (by have e := Option.some.inj h; subst e; exact ⟨rfl, rfl⟩)
def f_X11_write (S : Mm) (a1 : Int32) (a2 : Int32) (a3 : Int32) : Option (Int32 × Mm) :=
  ((f_X11_isWord S a1).bind fun r1 => (if r1 = 0 then some ((-1000000001), S) else ((f_X11_isDay S a2).bind fun r3 => (if r3 = 0 then some ((-1000000001), S) else (if (S.1 153 11) = 20 then some ((-1000000004), S) else (if inb (S.1 153 11) 20 then (if inb ((wr S 157 (S.1 153 11).toNatClampNeg a1).1 153 11) 20 then (if inb ((wr (wr S 157 (S.1 153 11).toNatClampNeg a1) 158 ((wr S 157 (S.1 153 11).toNatClampNeg a1).1 153 11).toNatClampNeg a2).1 153 11) 20 then some ((wr (wr (wr (wr S 157 (S.1 153 11).toNatClampNeg a1) 158 ((wr S 157 (S.1 153 11).toNatClampNeg a1).1 153 11).toNatClampNeg a2) 159 ((wr (wr S 157 (S.1 153 11).toNatClampNeg a1) 158 ((wr S 157 (S.1 153 11).toNatClampNeg a1).1 153 11).toNatClampNeg a2).1 153 11).toNatClampNeg a3) 153 11 (((wr (wr (wr S 157 (S.1 153 11).toNatClampNeg a1) 158 ((wr S 157 (S.1 153 11).toNatClampNeg a1).1 153 11).toNatClampNeg a2) 159 ((wr (wr S 157 (S.1 153 11).toNatClampNeg a1) 158 ((wr S 157 (S.1 153 11).toNatClampNeg a1).1 153 11).toNatClampNeg a2).1 153 11).toNatClampNeg a3).1 153 11) + 1)).1 153 11, wr (wr (wr (wr S 157 (S.1 153 11).toNatClampNeg a1) 158 ((wr S 157 (S.1 153 11).toNatClampNeg a1).1 153 11).toNatClampNeg a2) 159 ((wr (wr S 157 (S.1 153 11).toNatClampNeg a1) 158 ((wr S 157 (S.1 153 11).toNatClampNeg a1).1 153 11).toNatClampNeg a2).1 153 11).toNatClampNeg a3) 153 11 (((wr (wr (wr S 157 (S.1 153 11).toNatClampNeg a1) 158 ((wr S 157 (S.1 153 11).toNatClampNeg a1).1 153 11).toNatClampNeg a2) 159 ((wr (wr S 157 (S.1 153 11).toNatClampNeg a1) 158 ((wr S 157 (S.1 153 11).toNatClampNeg a1).1 153 11).toNatClampNeg a2).1 153 11).toNatClampNeg a3).1 153 11) + 1)) else none) else none) else none))))))
set_option maxRecDepth 100000 in
set_option maxHeartbeats 4000000 in
theorem t_X11_write {S : Mm} {a1 : Int32} {a2 : Int32} {a3 : Int32} {out : Int32 × Mm} (h : f_X11_write S a1 a2 a3 = some out) : Rs D_X11_write [.ref 153, .int a1, .int a2, .int a3] S (some (.int out.1)) out.2 := by
  refine rs_of (by decide) rfl (Nat.le_of_ble_eq_true rfl) ?_
  unfold f_X11_write at h
  show Ok D_X11_write (0, 0) (0, 0) 0 [(0, .ref 153), (1, .int a1), (2, .int a2), (3, .int a3)] [] (St S) _
  refine ok_iload_n dX11_write_0 1 rfl ?_
  obtain ⟨r1, e2, h⟩ := it_bind h
  refine okS_S (as := [.int a1]) (st := []) (r := some (.int r1)) (S' := S) dX11_write_1 cv_X11_195 rfl (Nat.le_of_ble_eq_true rfl) ⟨⟨by decide, by decide⟩, rfl, rfl⟩ (t_X11_isWord e2) ?_
  show Ok D_X11_write (0, 0) (0, 0) 4 [(0, .ref 153), (1, .int a1), (2, .int a2), (3, .int a3)] [.int r1] (St S) _
  refine ok_if_eq (tgt := 15) dX11_write_4 (by decide) (fun hc => ?_) (fun hc => ?_)
  · replace h := it_pos hc h
    refine ok_ldc (v := (-1000000001)) dX11_write_15 wd_1127 ?_
    exact okS_ret dX11_write_17 rfl rfl (by have e := Option.some.inj h; subst e; exact ⟨rfl, rfl⟩)
  · replace h := it_neg hc h
    refine ok_aload_n dX11_write_7 0 rfl ?_
    refine ok_iload_n dX11_write_8 2 rfl ?_
    obtain ⟨r3, e4, h⟩ := it_bind h
    refine okS_V (as := [.int a2]) (st := []) (r := some (.int r3)) (S' := S) dX11_write_9 cv_X11_164 rfl po_153 (Nat.le_of_ble_eq_true rfl) ⟨⟨by decide, by decide⟩, rfl, rfl⟩ (t_X11_isDay e4) ?_
    show Ok D_X11_write (0, 0) (0, 0) 12 [(0, .ref 153), (1, .int a1), (2, .int a2), (3, .int a3)] [.int r3] (St S) _
    refine ok_if_ne (tgt := 18) dX11_write_12 (by decide) (fun hc => ?_) (fun hc => ?_)
    · replace h := it_neg hc h
      refine ok_aload_n dX11_write_18 0 rfl ?_
      refine okS_getI dX11_write_19 fl_X11_161 pi_153_11 ?_
      refine ok_bipush (v := 20) dX11_write_22 bi_20 ?_
      refine ok_icmp_ne (tgt := 30) dX11_write_24 (by decide) (fun hc => ?_) (fun hc => ?_)
      · replace h := it_neg hc h
        refine ok_aload_n dX11_write_30 0 rfl ?_
        refine okS_getR dX11_write_31 fl_X11_23 pr_153_8 ?_
        refine ok_aload_n dX11_write_34 0 rfl ?_
        refine okS_getI dX11_write_35 fl_X11_161 pi_153_11 ?_
        refine ok_iload_n dX11_write_38 1 rfl ?_
        obtain ⟨hi5, h⟩ := it_some h
        refine okS_iastore dX11_write_39 pa_157 hi5 ?_
        refine ok_aload_n dX11_write_40 0 rfl ?_
        refine okS_getR dX11_write_41 fl_X11_26 pr_153_9 ?_
        refine ok_aload_n dX11_write_44 0 rfl ?_
        refine okS_getI dX11_write_45 fl_X11_161 pi_153_11 ?_
        refine ok_iload_n dX11_write_48 2 rfl ?_
        obtain ⟨hi6, h⟩ := it_some h
        refine okS_iastore dX11_write_49 pa_158 hi6 ?_
        refine ok_aload_n dX11_write_50 0 rfl ?_
        refine okS_getR dX11_write_51 fl_X11_29 pr_153_10 ?_
        refine ok_aload_n dX11_write_54 0 rfl ?_
        refine okS_getI dX11_write_55 fl_X11_161 pi_153_11 ?_
        refine ok_iload_n dX11_write_58 3 rfl ?_
        obtain ⟨hi7, h⟩ := it_some h
        refine okS_iastore dX11_write_59 pa_159 hi7 ?_
        refine ok_aload_n dX11_write_60 0 rfl ?_
        refine ok_dup dX11_write_61 rfl ?_
        refine okS_getI dX11_write_62 fl_X11_161 pi_153_11 ?_
        refine ok_iconst (v := 1) dX11_write_65 ic_1 ?_
        refine ok_iadd dX11_write_66 ?_
        refine okS_putI dX11_write_67 fl_X11_161 pi_153_11 ⟨rfl, rfl⟩ ?_
        refine ok_aload_n dX11_write_70 0 rfl ?_
        refine okS_getI dX11_write_71 fl_X11_161 pi_153_11 ?_
        exact okS_ret dX11_write_74 rfl rfl (by have e := Option.some.inj h; subst e; exact ⟨rfl, rfl⟩)
      · replace h := it_pos hc h
        refine ok_ldc (v := (-1000000004)) dX11_write_27 wd_999 ?_
        exact okS_ret dX11_write_29 rfl rfl (by have e := Option.some.inj h; subst e; exact ⟨rfl, rfl⟩)
    · replace h := it_pos hc h
      refine ok_ldc (v := (-1000000001)) dX11_write_15 wd_1127 ?_
      exact okS_ret dX11_write_17 rfl rfl (by have e := Option.some.inj h; subst e; exact ⟨rfl, rfl⟩)
def f_X11_tear (S : Mm)  : Option (Int32 × Mm) :=
  some (S.1 153 11, wr S 153 11 0)
set_option maxRecDepth 100000 in
set_option maxHeartbeats 4000000 in
theorem t_X11_tear {S : Mm} {out : Int32 × Mm} (h : f_X11_tear S  = some out) : Rs D_X11_tear [.ref 153] S (some (.int out.1)) out.2 := by
  refine rs_of (by decide) rfl (Nat.le_of_ble_eq_true rfl) ?_
  unfold f_X11_tear at h
  show Ok D_X11_tear (0, 0) (0, 0) 0 [(0, .ref 153)] [] (St S) _
  refine ok_aload_n dX11_tear_0 0 rfl ?_
  refine okS_getI dX11_tear_1 fl_X11_161 pi_153_11 ?_
  refine ok_istore_n (L' := [(1, .int (S.1 153 11)), (0, .ref 153)]) dX11_tear_4 (by decide) rfl ?_
  refine ok_aload_n dX11_tear_5 1 rfl ?_
  refine ok_iconst (v := 0) dX11_tear_6 ic_0 ?_
  refine okS_putI dX11_tear_7 fl_X11_161 pi_153_11 ⟨rfl, rfl⟩ ?_
  refine ok_iload_n dX11_tear_10 0 rfl ?_
  exact okS_ret dX11_tear_11 rfl rfl (by have e := Option.some.inj h; subst e; exact ⟨rfl, rfl⟩)
def f_X11_seed (S : Mm) (a1 : Int32) : Option (Int32 × Mm) :=
  (if 0 ≤ a1 then some (S.1 153 3, wr S 153 3 a1) else some ((-1000000002), S))
set_option maxRecDepth 100000 in
set_option maxHeartbeats 4000000 in
theorem t_X11_seed {S : Mm} {a1 : Int32} {out : Int32 × Mm} (h : f_X11_seed S a1 = some out) : Rs D_X11_seed [.ref 153, .int a1] S (some (.int out.1)) out.2 := by
  refine rs_of (by decide) rfl (Nat.le_of_ble_eq_true rfl) ?_
  unfold f_X11_seed at h
  show Ok D_X11_seed (0, 0) (0, 0) 0 [(0, .ref 153), (1, .int a1)] [] (St S) _
  refine ok_iload_n dX11_seed_0 1 rfl ?_
  refine ok_if_ge (tgt := 7) dX11_seed_1 (by decide) (fun hc => ?_) (fun hc => ?_)
  · replace h := it_pos hc h
    refine ok_aload_n dX11_seed_7 0 rfl ?_
    refine okS_getI dX11_seed_8 fl_X11_173 pi_153_3 ?_
    refine ok_istore_n (L' := [(2, .int (S.1 153 3)), (0, .ref 153), (1, .int a1)]) dX11_seed_11 (by decide) rfl ?_
    refine ok_aload_n dX11_seed_12 1 rfl ?_
    refine ok_iload_n dX11_seed_13 2 rfl ?_
    refine okS_putI dX11_seed_14 fl_X11_173 pi_153_3 ⟨rfl, rfl⟩ ?_
    refine ok_iload_n dX11_seed_17 0 rfl ?_
    exact okS_ret dX11_seed_18 rfl rfl (by have e := Option.some.inj h; subst e; exact ⟨rfl, rfl⟩)
  · replace h := it_neg hc h
    refine ok_ldc (v := (-1000000002)) dX11_seed_4 wd_998 ?_
    exact okS_ret dX11_seed_6 rfl rfl (by have e := Option.some.inj h; subst e; exact ⟨rfl, rfl⟩)
def f_X11_keep (S : Mm) (a1 : Int32) : Option (Int32 × Mm) :=
  ((f_X11_in S a1.toInt64 0 1).bind fun r1 => (if r1 = 0 then some ((-1000000001), S) else ((f_X11_copyRow S 0 (1462 + (86 * a1))).bind fun r3 => (if inb a1 2 then some (1, wr (wr (wr r3 155 a1.toNatClampNeg (r3.1 153 3)) 153 2 (((wr r3 155 a1.toNatClampNeg (r3.1 153 3)).1 153 2) ||| (1 <<< (a1 &&& 31)))) 153 1 0) else none))))
set_option maxRecDepth 100000 in
set_option maxHeartbeats 4000000 in
theorem t_X11_keep {S : Mm} {a1 : Int32} {out : Int32 × Mm} (h : f_X11_keep S a1 = some out) : Rs D_X11_keep [.ref 153, .int a1] S (some (.int out.1)) out.2 := by
  refine rs_of (by decide) rfl (Nat.le_of_ble_eq_true rfl) ?_
  unfold f_X11_keep at h
  show Ok D_X11_keep (0, 0) (0, 0) 0 [(0, .ref 153), (1, .int a1)] [] (St S) _
  refine ok_iload_n dX11_keep_0 1 rfl ?_
  refine ok_i2l dX11_keep_1 ?_
  refine ok_lconst (v := 0) dX11_keep_2 (by decide) ?_
  refine ok_lconst (v := 1) dX11_keep_3 (by decide) ?_
  obtain ⟨r1, e2, h⟩ := it_bind h
  refine okS_S (as := [.long a1.toInt64, .long 0, .long 1]) (st := []) (r := some (.int r1)) (S' := S) dX11_keep_4 cv_X11_94 rfl (Nat.le_of_ble_eq_true rfl) ⟨⟨by decide, by decide⟩, rfl, rfl⟩ (t_X11_in e2) ?_
  show Ok D_X11_keep (0, 0) (0, 0) 7 [(0, .ref 153), (1, .int a1)] [.int r1] (St S) _
  refine ok_if_ne (tgt := 13) dX11_keep_7 (by decide) (fun hc => ?_) (fun hc => ?_)
  · replace h := it_neg hc h
    refine ok_aload_n dX11_keep_13 0 rfl ?_
    refine ok_iconst (v := 0) dX11_keep_14 ic_0 ?_
    refine ok_sipush (v := 1462) dX11_keep_15 si_1462 ?_
    refine ok_bipush (v := 86) dX11_keep_18 bi_86 ?_
    refine ok_iload_n dX11_keep_20 1 rfl ?_
    refine ok_imul dX11_keep_21 ?_
    refine ok_iadd dX11_keep_22 ?_
    obtain ⟨r3, e4, h⟩ := it_bind h
    refine okS_V (as := [.int 0, .int (1462 + (86 * a1))]) (st := []) (r := none) (S' := r3) dX11_keep_23 cv_X11_59 rfl po_153 (Nat.le_of_ble_eq_true rfl) ⟨⟨by decide, by decide⟩, rfl, rfl⟩ (t_X11_copyRow e4) ?_
    show Ok D_X11_keep (0, 0) (0, 0) 26 [(0, .ref 153), (1, .int a1)] [] (St r3) _
    refine ok_aload_n dX11_keep_26 0 rfl ?_
    refine okS_getR dX11_keep_27 fl_X11_13 pr_153_4 ?_
    refine ok_iload_n dX11_keep_30 1 rfl ?_
    refine ok_aload_n dX11_keep_31 0 rfl ?_
    refine okS_getI dX11_keep_32 fl_X11_173 pi_153_3 ?_
    obtain ⟨hi5, h⟩ := it_some h
    refine okS_iastore dX11_keep_35 pa_155 hi5 ?_
    refine ok_aload_n dX11_keep_36 0 rfl ?_
    refine ok_dup dX11_keep_37 rfl ?_
    refine okS_getI dX11_keep_38 fl_X11_231 pi_153_2 ?_
    refine ok_iconst (v := 1) dX11_keep_41 ic_1 ?_
    refine ok_iload_n dX11_keep_42 1 rfl ?_
    refine ok_ishl dX11_keep_43 ?_
    refine ok_ior dX11_keep_44 ?_
    refine okS_putI dX11_keep_45 fl_X11_231 pi_153_2 ⟨rfl, rfl⟩ ?_
    refine ok_aload_n dX11_keep_48 0 rfl ?_
    refine ok_iconst (v := 0) dX11_keep_49 ic_0 ?_
    refine okS_putI dX11_keep_50 fl_X11_63 pi_153_1 ⟨rfl, rfl⟩ ?_
    refine ok_iconst (v := 1) dX11_keep_53 ic_1 ?_
    exact okS_ret dX11_keep_54 rfl rfl (by have e := Option.some.inj h; subst e; exact ⟨rfl, rfl⟩)
  · replace h := it_pos hc h
    refine ok_ldc (v := (-1000000001)) dX11_keep_10 wd_1127 ?_
    exact okS_ret dX11_keep_12 rfl rfl (by have e := Option.some.inj h; subst e; exact ⟨rfl, rfl⟩)
def f_X11_goBack (S : Mm) (a1 : Int32) : Option (Int32 × Mm) :=
  ((f_X11_in S a1.toInt64 0 1).bind fun r1 => (if r1 = 0 then some ((-1000000001), S) else ((f_X11_has S (S.1 153 2) a1).bind fun r3 => (if r3 = 0 then some ((-1000000003), S) else ((f_X11_copyRow S (1462 + (86 * a1)) 0).bind fun r5 => (if inb a1 2 then some (1, wr (wr r5 153 3 (r5.1 155 a1.toNatClampNeg)) 153 1 0) else none))))))
set_option maxRecDepth 100000 in
set_option maxHeartbeats 4000000 in
theorem t_X11_goBack {S : Mm} {a1 : Int32} {out : Int32 × Mm} (h : f_X11_goBack S a1 = some out) : Rs D_X11_goBack [.ref 153, .int a1] S (some (.int out.1)) out.2 := by
  refine rs_of (by decide) rfl (Nat.le_of_ble_eq_true rfl) ?_
  unfold f_X11_goBack at h
  show Ok D_X11_goBack (0, 0) (0, 0) 0 [(0, .ref 153), (1, .int a1)] [] (St S) _
  refine ok_iload_n dX11_goBack_0 1 rfl ?_
  refine ok_i2l dX11_goBack_1 ?_
  refine ok_lconst (v := 0) dX11_goBack_2 (by decide) ?_
  refine ok_lconst (v := 1) dX11_goBack_3 (by decide) ?_
  obtain ⟨r1, e2, h⟩ := it_bind h
  refine okS_S (as := [.long a1.toInt64, .long 0, .long 1]) (st := []) (r := some (.int r1)) (S' := S) dX11_goBack_4 cv_X11_94 rfl (Nat.le_of_ble_eq_true rfl) ⟨⟨by decide, by decide⟩, rfl, rfl⟩ (t_X11_in e2) ?_
  show Ok D_X11_goBack (0, 0) (0, 0) 7 [(0, .ref 153), (1, .int a1)] [.int r1] (St S) _
  refine ok_if_ne (tgt := 13) dX11_goBack_7 (by decide) (fun hc => ?_) (fun hc => ?_)
  · replace h := it_neg hc h
    refine ok_aload_n dX11_goBack_13 0 rfl ?_
    refine okS_getI dX11_goBack_14 fl_X11_231 pi_153_2 ?_
    refine ok_iload_n dX11_goBack_17 1 rfl ?_
    obtain ⟨r3, e4, h⟩ := it_bind h
    refine okS_S (as := [.int (S.1 153 2), .int a1]) (st := []) (r := some (.int r3)) (S' := S) dX11_goBack_18 cv_X11_234 rfl (Nat.le_of_ble_eq_true rfl) ⟨⟨by decide, by decide⟩, rfl, rfl⟩ (t_X11_has e4) ?_
    show Ok D_X11_goBack (0, 0) (0, 0) 21 [(0, .ref 153), (1, .int a1)] [.int r3] (St S) _
    refine ok_if_ne (tgt := 27) dX11_goBack_21 (by decide) (fun hc => ?_) (fun hc => ?_)
    · replace h := it_neg hc h
      refine ok_aload_n dX11_goBack_27 0 rfl ?_
      refine ok_sipush (v := 1462) dX11_goBack_28 si_1462 ?_
      refine ok_bipush (v := 86) dX11_goBack_31 bi_86 ?_
      refine ok_iload_n dX11_goBack_33 1 rfl ?_
      refine ok_imul dX11_goBack_34 ?_
      refine ok_iadd dX11_goBack_35 ?_
      refine ok_iconst (v := 0) dX11_goBack_36 ic_0 ?_
      obtain ⟨r5, e6, h⟩ := it_bind h
      refine okS_V (as := [.int (1462 + (86 * a1)), .int 0]) (st := []) (r := none) (S' := r5) dX11_goBack_37 cv_X11_59 rfl po_153 (Nat.le_of_ble_eq_true rfl) ⟨⟨by decide, by decide⟩, rfl, rfl⟩ (t_X11_copyRow e6) ?_
      show Ok D_X11_goBack (0, 0) (0, 0) 40 [(0, .ref 153), (1, .int a1)] [] (St r5) _
      refine ok_aload_n dX11_goBack_40 0 rfl ?_
      refine ok_aload_n dX11_goBack_41 0 rfl ?_
      refine okS_getR dX11_goBack_42 fl_X11_13 pr_153_4 ?_
      refine ok_iload_n dX11_goBack_45 1 rfl ?_
      obtain ⟨hi7, h⟩ := it_some h
      refine okS_iaload dX11_goBack_46 pa_155 hi7 ?_
      refine okS_putI dX11_goBack_47 fl_X11_173 pi_153_3 ⟨rfl, rfl⟩ ?_
      refine ok_aload_n dX11_goBack_50 0 rfl ?_
      refine ok_iconst (v := 0) dX11_goBack_51 ic_0 ?_
      refine okS_putI dX11_goBack_52 fl_X11_63 pi_153_1 ⟨rfl, rfl⟩ ?_
      refine ok_iconst (v := 1) dX11_goBack_55 ic_1 ?_
      exact okS_ret dX11_goBack_56 rfl rfl (by have e := Option.some.inj h; subst e; exact ⟨rfl, rfl⟩)
    · replace h := it_pos hc h
      refine ok_ldc (v := (-1000000003)) dX11_goBack_24 wd_1201 ?_
      exact okS_ret dX11_goBack_26 rfl rfl (by have e := Option.some.inj h; subst e; exact ⟨rfl, rfl⟩)
  · replace h := it_pos hc h
    refine ok_ldc (v := (-1000000001)) dX11_goBack_10 wd_1127 ?_
    exact okS_ret dX11_goBack_12 rfl rfl (by have e := Option.some.inj h; subst e; exact ⟨rfl, rfl⟩)
