def f_X11_dayAt (S : Mm) (a1 : Int32) : Option (Int32) :=
  (if (S.1 153 6) ≤ (a1 + 1) then (if inb a1 60 then (if (S.1 156 a1.toNatClampNeg) = 49 then (if inb a1 60 then some ((S.1 156 a1.toNatClampNeg) - 48) else none) else (if inb a1 60 then some ((S.1 156 a1.toNatClampNeg) - 48) else none)) else none) else (if inb (a1 + 1) 60 then (if inb a1 60 then (if (S.1 156 a1.toNatClampNeg) = 49 then (if (S.1 156 (a1 + 1).toNatClampNeg) = 48 then some ((10 + (S.1 156 (a1 + 1).toNatClampNeg)) - 48) else (if (S.1 156 (a1 + 1).toNatClampNeg) = 49 then some ((10 + (S.1 156 (a1 + 1).toNatClampNeg)) - 48) else (if inb a1 60 then some ((S.1 156 a1.toNatClampNeg) - 48) else none))) else (if inb a1 60 then some ((S.1 156 a1.toNatClampNeg) - 48) else none)) else none) else none))
set_option maxRecDepth 100000 in
set_option maxHeartbeats 4000000 in
theorem t_X11_dayAt {S : Mm} {a1 : Int32} {out : Int32} (h : f_X11_dayAt S a1 = some out) : Rs D_X11_dayAt [.ref 153, .int a1] S (some (.int out)) S := by
  refine rs_of (by decide) rfl (Nat.le_of_ble_eq_true rfl) ?_
  unfold f_X11_dayAt at h
  show Ok D_X11_dayAt (0, 0) (0, 0) 0 [(0, .ref 153), (1, .int a1)] [] (St S) _
  refine ok_iload_n dX11_dayAt_0 1 rfl ?_
  refine ok_iconst (v := 1) dX11_dayAt_1 ic_1 ?_
  refine ok_iadd dX11_dayAt_2 ?_
  refine ok_aload_n dX11_dayAt_3 0 rfl ?_
  refine okS_getI dX11_dayAt_4 fl_X11_119 pi_153_6 ?_
  refine ok_icmp_ge (tgt := 21) dX11_dayAt_7 (by decide) (fun hc => ?_) (fun hc => ?_)
  · replace h := it_pos hc h
    refine ok_iconst (v := (-1)) dX11_dayAt_21 ic_m1 ?_
    refine ok_istore_n (L' := [(2, .int (-1)), (0, .ref 153), (1, .int a1)]) dX11_dayAt_22 (by decide) rfl ?_
    refine ok_aload_n dX11_dayAt_23 1 rfl ?_
    refine okS_getR dX11_dayAt_24 fl_X11_16 pr_153_5 ?_
    refine ok_iload_n dX11_dayAt_27 2 rfl ?_
    obtain ⟨hi1, h⟩ := it_some h
    refine okS_iaload dX11_dayAt_28 pa_156 hi1 ?_
    refine ok_bipush (v := 49) dX11_dayAt_29 bi_49 ?_
    refine ok_icmp_ne (tgt := 50) dX11_dayAt_31 (by decide) (fun hc => ?_) (fun hc => ?_)
    · replace h := it_neg hc h
      refine ok_iconst (v := 0) dX11_dayAt_50 ic_0 ?_
      refine ok_istore_n (L' := [(3, .int 0), (2, .int (-1)), (0, .ref 153), (1, .int a1)]) dX11_dayAt_51 (by decide) rfl ?_
      refine ok_iload_n dX11_dayAt_52 0 rfl ?_
      refine ok_if_eq (tgt := 66) dX11_dayAt_53 (by decide) (fun hc => ?_) (fun hc => absurd hc (by decide))
      refine ok_aload_n dX11_dayAt_66 2 rfl ?_
      refine okS_getR dX11_dayAt_67 fl_X11_16 pr_153_5 ?_
      refine ok_iload_n dX11_dayAt_70 3 rfl ?_
      obtain ⟨hi2, h⟩ := it_some h
      refine okS_iaload dX11_dayAt_71 pa_156 hi2 ?_
      refine ok_bipush (v := 48) dX11_dayAt_72 bi_48 ?_
      refine ok_isub dX11_dayAt_74 ?_
      exact okS_ret dX11_dayAt_75 rfl rfl (by have e := Option.some.inj h; subst e; exact ⟨rfl, rfl⟩)
    · replace h := it_pos hc h
      refine ok_iload_n dX11_dayAt_34 0 rfl ?_
      refine ok_bipush (v := 48) dX11_dayAt_35 bi_48 ?_
      refine ok_icmp_eq (tgt := 46) dX11_dayAt_37 (by decide) (fun hc => absurd hc (by decide)) (fun hc => ?_)
      refine ok_iload_n dX11_dayAt_40 0 rfl ?_
      refine ok_bipush (v := 49) dX11_dayAt_41 bi_49 ?_
      refine ok_icmp_ne (tgt := 50) dX11_dayAt_43 (by decide) (fun hc => ?_) (fun hc => absurd hc (by decide))
      refine ok_iconst (v := 0) dX11_dayAt_50 ic_0 ?_
      refine ok_istore_n (L' := [(3, .int 0), (2, .int (-1)), (0, .ref 153), (1, .int a1)]) dX11_dayAt_51 (by decide) rfl ?_
      refine ok_iload_n dX11_dayAt_52 0 rfl ?_
      refine ok_if_eq (tgt := 66) dX11_dayAt_53 (by decide) (fun hc => ?_) (fun hc => absurd hc (by decide))
      refine ok_aload_n dX11_dayAt_66 2 rfl ?_
      refine okS_getR dX11_dayAt_67 fl_X11_16 pr_153_5 ?_
      refine ok_iload_n dX11_dayAt_70 3 rfl ?_
      obtain ⟨hi3, h⟩ := it_some h
      refine okS_iaload dX11_dayAt_71 pa_156 hi3 ?_
      refine ok_bipush (v := 48) dX11_dayAt_72 bi_48 ?_
      refine ok_isub dX11_dayAt_74 ?_
      exact okS_ret dX11_dayAt_75 rfl rfl (by have e := Option.some.inj h; subst e; exact ⟨rfl, rfl⟩)
  · replace h := it_neg hc h
    refine ok_aload_n dX11_dayAt_10 0 rfl ?_
    refine okS_getR dX11_dayAt_11 fl_X11_16 pr_153_5 ?_
    refine ok_iload_n dX11_dayAt_14 1 rfl ?_
    refine ok_iconst (v := 1) dX11_dayAt_15 ic_1 ?_
    refine ok_iadd dX11_dayAt_16 ?_
    obtain ⟨hi4, h⟩ := it_some h
    refine okS_iaload dX11_dayAt_17 pa_156 hi4 ?_
    refine ok_goto (tgt := 22) dX11_dayAt_18 (by decide) ?_
    refine ok_istore_n (L' := [(2, .int (S.1 156 (a1 + 1).toNatClampNeg)), (0, .ref 153), (1, .int a1)]) dX11_dayAt_22 (by decide) rfl ?_
    refine ok_aload_n dX11_dayAt_23 1 rfl ?_
    refine okS_getR dX11_dayAt_24 fl_X11_16 pr_153_5 ?_
    refine ok_iload_n dX11_dayAt_27 2 rfl ?_
    obtain ⟨hi5, h⟩ := it_some h
    refine okS_iaload dX11_dayAt_28 pa_156 hi5 ?_
    refine ok_bipush (v := 49) dX11_dayAt_29 bi_49 ?_
    refine ok_icmp_ne (tgt := 50) dX11_dayAt_31 (by decide) (fun hc => ?_) (fun hc => ?_)
    · replace h := it_neg hc h
      refine ok_iconst (v := 0) dX11_dayAt_50 ic_0 ?_
      refine ok_istore_n (L' := [(3, .int 0), (2, .int (S.1 156 (a1 + 1).toNatClampNeg)), (0, .ref 153), (1, .int a1)]) dX11_dayAt_51 (by decide) rfl ?_
      refine ok_iload_n dX11_dayAt_52 0 rfl ?_
      refine ok_if_eq (tgt := 66) dX11_dayAt_53 (by decide) (fun hc => ?_) (fun hc => absurd hc (by decide))
      refine ok_aload_n dX11_dayAt_66 2 rfl ?_
      refine okS_getR dX11_dayAt_67 fl_X11_16 pr_153_5 ?_
      refine ok_iload_n dX11_dayAt_70 3 rfl ?_
      obtain ⟨hi6, h⟩ := it_some h
      refine okS_iaload dX11_dayAt_71 pa_156 hi6 ?_
      refine ok_bipush (v := 48) dX11_dayAt_72 bi_48 ?_
      refine ok_isub dX11_dayAt_74 ?_
      exact okS_ret dX11_dayAt_75 rfl rfl (by have e := Option.some.inj h; subst e; exact ⟨rfl, rfl⟩)
    · replace h := it_pos hc h
      refine ok_iload_n dX11_dayAt_34 0 rfl ?_
      refine ok_bipush (v := 48) dX11_dayAt_35 bi_48 ?_
      refine ok_icmp_eq (tgt := 46) dX11_dayAt_37 (by decide) (fun hc => ?_) (fun hc => ?_)
      · replace h := it_pos hc h
        refine ok_iconst (v := 1) dX11_dayAt_46 ic_1 ?_
        refine ok_goto (tgt := 51) dX11_dayAt_47 (by decide) ?_
        refine ok_istore_n (L' := [(3, .int 1), (2, .int (S.1 156 (a1 + 1).toNatClampNeg)), (0, .ref 153), (1, .int a1)]) dX11_dayAt_51 (by decide) rfl ?_
        refine ok_iload_n dX11_dayAt_52 0 rfl ?_
        refine ok_if_eq (tgt := 66) dX11_dayAt_53 (by decide) (fun hc => absurd hc (by decide)) (fun hc => ?_)
        refine ok_bipush (v := 10) dX11_dayAt_56 bi_10 ?_
        refine ok_iload_n dX11_dayAt_58 1 rfl ?_
        refine ok_iadd dX11_dayAt_59 ?_
        refine ok_bipush (v := 48) dX11_dayAt_60 bi_48 ?_
        refine ok_isub dX11_dayAt_62 ?_
        refine ok_goto (tgt := 75) dX11_dayAt_63 (by decide) ?_
        exact okS_ret dX11_dayAt_75 rfl rfl (by have e := Option.some.inj h; subst e; exact ⟨rfl, rfl⟩)
      · replace h := it_neg hc h
        refine ok_iload_n dX11_dayAt_40 0 rfl ?_
        refine ok_bipush (v := 49) dX11_dayAt_41 bi_49 ?_
        refine ok_icmp_ne (tgt := 50) dX11_dayAt_43 (by decide) (fun hc => ?_) (fun hc => ?_)
        · replace h := it_neg hc h
          refine ok_iconst (v := 0) dX11_dayAt_50 ic_0 ?_
          refine ok_istore_n (L' := [(3, .int 0), (2, .int (S.1 156 (a1 + 1).toNatClampNeg)), (0, .ref 153), (1, .int a1)]) dX11_dayAt_51 (by decide) rfl ?_
          refine ok_iload_n dX11_dayAt_52 0 rfl ?_
          refine ok_if_eq (tgt := 66) dX11_dayAt_53 (by decide) (fun hc => ?_) (fun hc => absurd hc (by decide))
          refine ok_aload_n dX11_dayAt_66 2 rfl ?_
          refine okS_getR dX11_dayAt_67 fl_X11_16 pr_153_5 ?_
          refine ok_iload_n dX11_dayAt_70 3 rfl ?_
          obtain ⟨hi7, h⟩ := it_some h
          refine okS_iaload dX11_dayAt_71 pa_156 hi7 ?_
          refine ok_bipush (v := 48) dX11_dayAt_72 bi_48 ?_
          refine ok_isub dX11_dayAt_74 ?_
          exact okS_ret dX11_dayAt_75 rfl rfl (by have e := Option.some.inj h; subst e; exact ⟨rfl, rfl⟩)
        · replace h := it_pos hc h
          refine ok_iconst (v := 1) dX11_dayAt_46 ic_1 ?_
          refine ok_goto (tgt := 51) dX11_dayAt_47 (by decide) ?_
          refine ok_istore_n (L' := [(3, .int 1), (2, .int (S.1 156 (a1 + 1).toNatClampNeg)), (0, .ref 153), (1, .int a1)]) dX11_dayAt_51 (by decide) rfl ?_
          refine ok_iload_n dX11_dayAt_52 0 rfl ?_
          refine ok_if_eq (tgt := 66) dX11_dayAt_53 (by decide) (fun hc => absurd hc (by decide)) (fun hc => ?_)
          refine ok_bipush (v := 10) dX11_dayAt_56 bi_10 ?_
          refine ok_iload_n dX11_dayAt_58 1 rfl ?_
          refine ok_iadd dX11_dayAt_59 ?_
          refine ok_bipush (v := 48) dX11_dayAt_60 bi_48 ?_
          refine ok_isub dX11_dayAt_62 ?_
          refine ok_goto (tgt := 75) dX11_dayAt_63 (by decide) ?_
          exact okS_ret dX11_dayAt_75 rfl rfl (by have e := Option.some.inj h; subst e; exact ⟨rfl, rfl⟩)
def f_X11_faultOf (S : Mm) (a1 : Int32) : Option (Int32) :=
  (if inb a1 60 then (if (S.1 153 20) = 0 then ((f_X11_isFigure S (S.1 156 a1.toNatClampNeg)).bind fun r3 => (if r3 = 0 then some 1 else ((f_X11_dayAt S a1).bind fun r5 => (if r5 < (S.1 154 0) then (if ((S.1 154 1) + (S.1 153 23)) = 40 then some 3 else some 0) else some 2)))) else (if (S.1 153 20) = 1 then (if (S.1 156 a1.toNatClampNeg) = 48 then some 0 else (if (S.1 156 a1.toNatClampNeg) = 49 then some 0 else (if (S.1 156 a1.toNatClampNeg) = 58 then some 0 else some 1))) else (if (S.1 153 20) = 2 then (if (S.1 156 a1.toNatClampNeg) = 58 then some 0 else some 1) else ((f_X11_in S ((S.1 156 a1.toNatClampNeg).toInt64) 97 104).bind fun r9 => (if r9 = 0 then (if (S.1 156 a1.toNatClampNeg) = 59 then some 0 else some 1) else some 0))))) else none)
set_option maxRecDepth 100000 in
set_option maxHeartbeats 4000000 in
theorem t_X11_faultOf {S : Mm} {a1 : Int32} {out : Int32} (h : f_X11_faultOf S a1 = some out) : Rs D_X11_faultOf [.ref 153, .int a1] S (some (.int out)) S := by
  refine rs_of (by decide) rfl (Nat.le_of_ble_eq_true rfl) ?_
  unfold f_X11_faultOf at h
  show Ok D_X11_faultOf (0, 0) (0, 0) 0 [(0, .ref 153), (1, .int a1)] [] (St S) _
  refine ok_aload_n dX11_faultOf_0 0 rfl ?_
  refine okS_getR dX11_faultOf_1 fl_X11_16 pr_153_5 ?_
  refine ok_iload_n dX11_faultOf_4 1 rfl ?_
  obtain ⟨hi1, h⟩ := it_some h
  refine okS_iaload dX11_faultOf_5 pa_156 hi1 ?_
  refine ok_istore_n (L' := [(2, .int (S.1 156 a1.toNatClampNeg)), (0, .ref 153), (1, .int a1)]) dX11_faultOf_6 (by decide) rfl ?_
  refine ok_aload_n dX11_faultOf_7 1 rfl ?_
  refine okS_getI dX11_faultOf_8 fl_X11_122 pi_153_20 ?_
  by_cases hx2 : (S.1 153 20) = 0
  · replace h := it_pos hx2 h
    refine ok_tableIn (tgt := 36) dX11_faultOf_11 (by rw [hx2]; decide) (by rw [hx2]; decide) (by rw [hx2]; rfl) (by decide) ?_
    refine ok_iload_n dX11_faultOf_36 0 rfl ?_
    obtain ⟨r3, e4, h⟩ := it_bind h
    refine okS_S (as := [.int (S.1 156 a1.toNatClampNeg)]) (st := []) (r := some (.int r3)) (S' := S) dX11_faultOf_37 cv_X11_125 rfl (Nat.le_of_ble_eq_true rfl) ⟨⟨by decide, by decide⟩, rfl, rfl⟩ (t_X11_isFigure e4) ?_
    show Ok D_X11_faultOf (0, 0) (0, 0) 40 [(2, .int (S.1 156 a1.toNatClampNeg)), (0, .ref 153), (1, .int a1)] [.int r3] (St S) _
    refine ok_if_ne (tgt := 47) dX11_faultOf_40 (by decide) (fun hc => ?_) (fun hc => ?_)
    · replace h := it_neg hc h
      refine ok_aload_n dX11_faultOf_47 1 rfl ?_
      refine ok_iload_n dX11_faultOf_48 2 rfl ?_
      obtain ⟨r5, e6, h⟩ := it_bind h
      refine okS_V (as := [.int a1]) (st := []) (r := some (.int r5)) (S' := S) dX11_faultOf_49 cv_X11_128 rfl po_153 (Nat.le_of_ble_eq_true rfl) ⟨⟨by decide, by decide⟩, rfl, rfl⟩ (t_X11_dayAt e6) ?_
      show Ok D_X11_faultOf (0, 0) (0, 0) 52 [(2, .int (S.1 156 a1.toNatClampNeg)), (0, .ref 153), (1, .int a1)] [.int r5] (St S) _
      refine ok_aload_n dX11_faultOf_52 1 rfl ?_
      refine okS_getR dX11_faultOf_53 fl_X11_7 pr_153_0 ?_
      refine ok_iconst (v := 0) dX11_faultOf_56 ic_0 ?_
      refine okS_ialoadL (j := 0) dX11_faultOf_57 pa_154 (by decide) tnl_0 ?_
      refine ok_icmp_lt (tgt := 65) dX11_faultOf_58 (by decide) (fun hc => ?_) (fun hc => ?_)
      · replace h := it_pos hc h
        refine ok_aload_n dX11_faultOf_65 1 rfl ?_
        refine okS_getR dX11_faultOf_66 fl_X11_7 pr_153_0 ?_
        refine ok_iconst (v := 1) dX11_faultOf_69 ic_1 ?_
        refine okS_ialoadL (j := 1) dX11_faultOf_70 pa_154 (by decide) tnl_1 ?_
        refine ok_aload_n dX11_faultOf_71 1 rfl ?_
        refine okS_getI dX11_faultOf_72 fl_X11_132 pi_153_23 ?_
        refine ok_iadd dX11_faultOf_75 ?_
        refine ok_bipush (v := 40) dX11_faultOf_76 bi_40 ?_
        refine ok_icmp_ne (tgt := 85) dX11_faultOf_78 (by decide) (fun hc => ?_) (fun hc => ?_)
        · replace h := it_neg hc h
          refine ok_iconst (v := 0) dX11_faultOf_85 ic_0 ?_
          exact okS_ret dX11_faultOf_86 rfl rfl (by have e := Option.some.inj h; subst e; exact ⟨rfl, rfl⟩)
        · replace h := it_pos hc h
          refine ok_iconst (v := 3) dX11_faultOf_81 ic_3 ?_
          refine ok_goto (tgt := 86) dX11_faultOf_82 (by decide) ?_
          exact okS_ret dX11_faultOf_86 rfl rfl (by have e := Option.some.inj h; subst e; exact ⟨rfl, rfl⟩)
      · replace h := it_neg hc h
        refine ok_iconst (v := 2) dX11_faultOf_61 ic_2 ?_
        refine ok_goto (tgt := 86) dX11_faultOf_62 (by decide) ?_
        exact okS_ret dX11_faultOf_86 rfl rfl (by have e := Option.some.inj h; subst e; exact ⟨rfl, rfl⟩)
    · replace h := it_pos hc h
      refine ok_iconst (v := 1) dX11_faultOf_43 ic_1 ?_
      refine ok_goto (tgt := 86) dX11_faultOf_44 (by decide) ?_
      exact okS_ret dX11_faultOf_86 rfl rfl (by have e := Option.some.inj h; subst e; exact ⟨rfl, rfl⟩)
  · replace h := it_neg hx2 h
    by_cases hx7 : (S.1 153 20) = 1
    · replace h := it_pos hx7 h
      refine ok_tableIn (tgt := 87) dX11_faultOf_11 (by rw [hx7]; decide) (by rw [hx7]; decide) (by rw [hx7]; rfl) (by decide) ?_
      refine ok_iload_n dX11_faultOf_87 0 rfl ?_
      refine ok_bipush (v := 48) dX11_faultOf_88 bi_48 ?_
      refine ok_icmp_eq (tgt := 105) dX11_faultOf_90 (by decide) (fun hc => ?_) (fun hc => ?_)
      · replace h := it_pos hc h
        refine ok_iconst (v := 0) dX11_faultOf_105 ic_0 ?_
        refine ok_goto (tgt := 110) dX11_faultOf_106 (by decide) ?_
        exact okS_ret dX11_faultOf_110 rfl rfl (by have e := Option.some.inj h; subst e; exact ⟨rfl, rfl⟩)
      · replace h := it_neg hc h
        refine ok_iload_n dX11_faultOf_93 0 rfl ?_
        refine ok_bipush (v := 49) dX11_faultOf_94 bi_49 ?_
        refine ok_icmp_eq (tgt := 105) dX11_faultOf_96 (by decide) (fun hc => ?_) (fun hc => ?_)
        · replace h := it_pos hc h
          refine ok_iconst (v := 0) dX11_faultOf_105 ic_0 ?_
          refine ok_goto (tgt := 110) dX11_faultOf_106 (by decide) ?_
          exact okS_ret dX11_faultOf_110 rfl rfl (by have e := Option.some.inj h; subst e; exact ⟨rfl, rfl⟩)
        · replace h := it_neg hc h
          refine ok_iload_n dX11_faultOf_99 0 rfl ?_
          refine ok_bipush (v := 58) dX11_faultOf_100 bi_58 ?_
          refine ok_icmp_ne (tgt := 109) dX11_faultOf_102 (by decide) (fun hc => ?_) (fun hc => ?_)
          · replace h := it_neg hc h
            refine ok_iconst (v := 1) dX11_faultOf_109 ic_1 ?_
            exact okS_ret dX11_faultOf_110 rfl rfl (by have e := Option.some.inj h; subst e; exact ⟨rfl, rfl⟩)
          · replace h := it_pos hc h
            refine ok_iconst (v := 0) dX11_faultOf_105 ic_0 ?_
            refine ok_goto (tgt := 110) dX11_faultOf_106 (by decide) ?_
            exact okS_ret dX11_faultOf_110 rfl rfl (by have e := Option.some.inj h; subst e; exact ⟨rfl, rfl⟩)
    · replace h := it_neg hx7 h
      by_cases hx8 : (S.1 153 20) = 2
      · replace h := it_pos hx8 h
        refine ok_tableIn (tgt := 111) dX11_faultOf_11 (by rw [hx8]; decide) (by rw [hx8]; decide) (by rw [hx8]; rfl) (by decide) ?_
        refine ok_iload_n dX11_faultOf_111 0 rfl ?_
        refine ok_bipush (v := 58) dX11_faultOf_112 bi_58 ?_
        refine ok_icmp_ne (tgt := 121) dX11_faultOf_114 (by decide) (fun hc => ?_) (fun hc => ?_)
        · replace h := it_neg hc h
          refine ok_iconst (v := 1) dX11_faultOf_121 ic_1 ?_
          exact okS_ret dX11_faultOf_122 rfl rfl (by have e := Option.some.inj h; subst e; exact ⟨rfl, rfl⟩)
        · replace h := it_pos hc h
          refine ok_iconst (v := 0) dX11_faultOf_117 ic_0 ?_
          refine ok_goto (tgt := 122) dX11_faultOf_118 (by decide) ?_
          exact okS_ret dX11_faultOf_122 rfl rfl (by have e := Option.some.inj h; subst e; exact ⟨rfl, rfl⟩)
      · replace h := it_neg hx8 h
        refine ok_tableOut (tgt := 123) dX11_faultOf_11 (sw_out (S.1 153 20) (by intro n h1 h2; rcases (show n = 0 ∨ n = 1 ∨ n = 2 by omega) with rfl | rfl | rfl <;> assumption)) (by decide) ?_
        refine ok_iload_n dX11_faultOf_123 0 rfl ?_
        refine ok_i2l dX11_faultOf_124 ?_
        refine ok_ldc2 (v := 97) dX11_faultOf_125 wd_1021 ?_
        refine ok_ldc2 (v := 104) dX11_faultOf_128 wd_1022 ?_
        obtain ⟨r9, e10, h⟩ := it_bind h
        refine okS_S (as := [.long ((S.1 156 a1.toNatClampNeg).toInt64), .long 97, .long 104]) (st := []) (r := some (.int r9)) (S' := S) dX11_faultOf_131 cv_X11_94 rfl (Nat.le_of_ble_eq_true rfl) ⟨⟨by decide, by decide⟩, rfl, rfl⟩ (t_X11_in e10) ?_
        show Ok D_X11_faultOf (0, 0) (0, 0) 134 [(2, .int (S.1 156 a1.toNatClampNeg)), (0, .ref 153), (1, .int a1)] [.int r9] (St S) _
        refine ok_if_ne (tgt := 143) dX11_faultOf_134 (by decide) (fun hc => ?_) (fun hc => ?_)
        · replace h := it_neg hc h
          refine ok_iconst (v := 0) dX11_faultOf_143 ic_0 ?_
          refine ok_goto (tgt := 148) dX11_faultOf_144 (by decide) ?_
          exact okS_ret dX11_faultOf_148 rfl rfl (by have e := Option.some.inj h; subst e; exact ⟨rfl, rfl⟩)
        · replace h := it_pos hc h
          refine ok_iload_n dX11_faultOf_137 0 rfl ?_
          refine ok_bipush (v := 59) dX11_faultOf_138 bi_59 ?_
          refine ok_icmp_ne (tgt := 147) dX11_faultOf_140 (by decide) (fun hc => ?_) (fun hc => ?_)
          · replace h := it_neg hc h
            refine ok_iconst (v := 1) dX11_faultOf_147 ic_1 ?_
            exact okS_ret dX11_faultOf_148 rfl rfl (by have e := Option.some.inj h; subst e; exact ⟨rfl, rfl⟩)
          · replace h := it_pos hc h
            refine ok_iconst (v := 0) dX11_faultOf_143 ic_0 ?_
            refine ok_goto (tgt := 148) dX11_faultOf_144 (by decide) ?_
            exact okS_ret dX11_faultOf_148 rfl rfl (by have e := Option.some.inj h; subst e; exact ⟨rfl, rfl⟩)
def f_X11_goOn (S : Mm) (a1 : Int32) : Option (Mm) :=
  (if inb a1 60 then (if (S.1 153 20) = 0 then ((f_X11_dayAt S a1).bind fun r4 => (if inb (S.1 153 23) 40 then (if inb ((wr S 167 (S.1 153 23).toNatClampNeg r4).1 153 23) 40 then (if (S.1 156 a1.toNatClampNeg) = 49 then some (wr (wr (wr S 167 (S.1 153 23).toNatClampNeg r4) 168 ((wr S 167 (S.1 153 23).toNatClampNeg r4).1 153 23).toNatClampNeg 0) 153 20 1) else some (wr (wr (wr S 167 (S.1 153 23).toNatClampNeg r4) 168 ((wr S 167 (S.1 153 23).toNatClampNeg r4).1 153 23).toNatClampNeg 0) 153 20 2)) else none) else none)) else (if 3 ≤ (S.1 153 20) then (if (S.1 156 a1.toNatClampNeg) = 59 then some (wr (wr S 153 23 ((S.1 153 23) + 1)) 153 20 0) else (if inb (S.1 153 23) 40 then (if inb (S.1 153 23) 40 then some (wr S 168 (S.1 153 23).toNatClampNeg ((S.1 168 (S.1 153 23).toNatClampNeg) ||| (1 <<< (((S.1 156 a1.toNatClampNeg) - 97) &&& 31)))) else none) else none)) else (if (S.1 156 a1.toNatClampNeg) = 58 then some (wr S 153 20 3) else some (wr S 153 20 2)))) else none)
set_option maxRecDepth 100000 in
set_option maxHeartbeats 4000000 in
theorem t_X11_goOn {S : Mm} {a1 : Int32} {out : Mm} (h : f_X11_goOn S a1 = some out) : Rs D_X11_goOn [.ref 153, .int a1] S none out := by
  refine rs_of (by decide) rfl (Nat.le_of_ble_eq_true rfl) ?_
  unfold f_X11_goOn at h
  show Ok D_X11_goOn (0, 0) (0, 0) 0 [(0, .ref 153), (1, .int a1)] [] (St S) _
  refine ok_aload_n dX11_goOn_0 0 rfl ?_
  refine okS_getR dX11_goOn_1 fl_X11_16 pr_153_5 ?_
  refine ok_iload_n dX11_goOn_4 1 rfl ?_
  obtain ⟨hi1, h⟩ := it_some h
  refine okS_iaload dX11_goOn_5 pa_156 hi1 ?_
  refine ok_istore_n (L' := [(2, .int (S.1 156 a1.toNatClampNeg)), (0, .ref 153), (1, .int a1)]) dX11_goOn_6 (by decide) rfl ?_
  refine ok_aload_n dX11_goOn_7 1 rfl ?_
  refine okS_getI dX11_goOn_8 fl_X11_122 pi_153_20 ?_
  refine ok_if_ne (tgt := 56) dX11_goOn_11 (by decide) (fun hc => ?_) (fun hc => ?_)
  · replace h := it_neg hc h
    refine ok_aload_n dX11_goOn_56 1 rfl ?_
    refine okS_getI dX11_goOn_57 fl_X11_122 pi_153_20 ?_
    refine ok_iconst (v := 3) dX11_goOn_60 ic_3 ?_
    refine ok_icmp_ge (tgt := 82) dX11_goOn_61 (by decide) (fun hc => ?_) (fun hc => ?_)
    · replace h := it_pos hc h
      refine ok_iload_n dX11_goOn_82 0 rfl ?_
      refine ok_bipush (v := 59) dX11_goOn_83 bi_59 ?_
      refine ok_icmp_ne (tgt := 106) dX11_goOn_85 (by decide) (fun hc => ?_) (fun hc => ?_)
      · replace h := it_neg hc h
        refine ok_aload_n dX11_goOn_106 1 rfl ?_
        refine okS_getR dX11_goOn_107 fl_X11_56 pr_153_22 ?_
        refine ok_aload_n dX11_goOn_110 1 rfl ?_
        refine okS_getI dX11_goOn_111 fl_X11_132 pi_153_23 ?_
        refine ok_dup2 dX11_goOn_114 rfl rfl ?_
        obtain ⟨hi2, h⟩ := it_some h
        refine okS_iaload dX11_goOn_115 pa_168 hi2 ?_
        refine ok_iconst (v := 1) dX11_goOn_116 ic_1 ?_
        refine ok_iload_n dX11_goOn_117 0 rfl ?_
        refine ok_bipush (v := 97) dX11_goOn_118 bi_97 ?_
        refine ok_isub dX11_goOn_120 ?_
        refine ok_ishl dX11_goOn_121 ?_
        refine ok_ior dX11_goOn_122 ?_
        obtain ⟨hi3, h⟩ := it_some h
        refine okS_iastore dX11_goOn_123 pa_168 hi3 ?_
        exact okS_retv dX11_goOn_124 rfl (by have e := Option.some.inj h; subst e; exact ⟨rfl, rfl⟩)
      · replace h := it_pos hc h
        refine ok_aload_n dX11_goOn_88 1 rfl ?_
        refine ok_dup dX11_goOn_89 rfl ?_
        refine okS_getI dX11_goOn_90 fl_X11_132 pi_153_23 ?_
        refine ok_iconst (v := 1) dX11_goOn_93 ic_1 ?_
        refine ok_iadd dX11_goOn_94 ?_
        refine okS_putI dX11_goOn_95 fl_X11_132 pi_153_23 ⟨rfl, rfl⟩ ?_
        refine ok_aload_n dX11_goOn_98 1 rfl ?_
        refine ok_iconst (v := 0) dX11_goOn_99 ic_0 ?_
        refine okS_putI dX11_goOn_100 fl_X11_122 pi_153_20 ⟨rfl, rfl⟩ ?_
        refine ok_goto (tgt := 124) dX11_goOn_103 (by decide) ?_
        exact okS_retv dX11_goOn_124 rfl (by have e := Option.some.inj h; subst e; exact ⟨rfl, rfl⟩)
    · replace h := it_neg hc h
      refine ok_aload_n dX11_goOn_64 1 rfl ?_
      refine ok_iload_n dX11_goOn_65 0 rfl ?_
      refine ok_bipush (v := 58) dX11_goOn_66 bi_58 ?_
      refine ok_icmp_ne (tgt := 75) dX11_goOn_68 (by decide) (fun hc => ?_) (fun hc => ?_)
      · replace h := it_neg hc h
        refine ok_iconst (v := 2) dX11_goOn_75 ic_2 ?_
        refine okS_putI dX11_goOn_76 fl_X11_122 pi_153_20 ⟨rfl, rfl⟩ ?_
        refine ok_goto (tgt := 124) dX11_goOn_79 (by decide) ?_
        exact okS_retv dX11_goOn_124 rfl (by have e := Option.some.inj h; subst e; exact ⟨rfl, rfl⟩)
      · replace h := it_pos hc h
        refine ok_iconst (v := 3) dX11_goOn_71 ic_3 ?_
        refine ok_goto (tgt := 76) dX11_goOn_72 (by decide) ?_
        refine okS_putI dX11_goOn_76 fl_X11_122 pi_153_20 ⟨rfl, rfl⟩ ?_
        refine ok_goto (tgt := 124) dX11_goOn_79 (by decide) ?_
        exact okS_retv dX11_goOn_124 rfl (by have e := Option.some.inj h; subst e; exact ⟨rfl, rfl⟩)
  · replace h := it_pos hc h
    refine ok_aload_n dX11_goOn_14 1 rfl ?_
    refine okS_getR dX11_goOn_15 fl_X11_53 pr_153_21 ?_
    refine ok_aload_n dX11_goOn_18 1 rfl ?_
    refine okS_getI dX11_goOn_19 fl_X11_132 pi_153_23 ?_
    refine ok_aload_n dX11_goOn_22 1 rfl ?_
    refine ok_iload_n dX11_goOn_23 2 rfl ?_
    obtain ⟨r4, e5, h⟩ := it_bind h
    refine okS_V (as := [.int a1]) (st := [.int (S.1 153 23), .ref 167]) (r := some (.int r4)) (S' := S) dX11_goOn_24 cv_X11_128 rfl po_153 (Nat.le_of_ble_eq_true rfl) ⟨⟨by decide, by decide⟩, rfl, rfl⟩ (t_X11_dayAt e5) ?_
    show Ok D_X11_goOn (0, 0) (0, 0) 27 [(2, .int (S.1 156 a1.toNatClampNeg)), (0, .ref 153), (1, .int a1)] [.int r4, .int (S.1 153 23), .ref 167] (St S) _
    obtain ⟨hi6, h⟩ := it_some h
    refine okS_iastore dX11_goOn_27 pa_167 hi6 ?_
    refine ok_aload_n dX11_goOn_28 1 rfl ?_
    refine okS_getR dX11_goOn_29 fl_X11_56 pr_153_22 ?_
    refine ok_aload_n dX11_goOn_32 1 rfl ?_
    refine okS_getI dX11_goOn_33 fl_X11_132 pi_153_23 ?_
    refine ok_iconst (v := 0) dX11_goOn_36 ic_0 ?_
    obtain ⟨hi7, h⟩ := it_some h
    refine okS_iastore dX11_goOn_37 pa_168 hi7 ?_
    refine ok_aload_n dX11_goOn_38 1 rfl ?_
    refine ok_iload_n dX11_goOn_39 0 rfl ?_
    refine ok_bipush (v := 49) dX11_goOn_40 bi_49 ?_
    refine ok_icmp_ne (tgt := 49) dX11_goOn_42 (by decide) (fun hc => ?_) (fun hc => ?_)
    · replace h := it_neg hc h
      refine ok_iconst (v := 2) dX11_goOn_49 ic_2 ?_
      refine okS_putI dX11_goOn_50 fl_X11_122 pi_153_20 ⟨rfl, rfl⟩ ?_
      refine ok_goto (tgt := 124) dX11_goOn_53 (by decide) ?_
      exact okS_retv dX11_goOn_124 rfl (by have e := Option.some.inj h; subst e; exact ⟨rfl, rfl⟩)
    · replace h := it_pos hc h
      refine ok_iconst (v := 1) dX11_goOn_45 ic_1 ?_
      refine ok_goto (tgt := 50) dX11_goOn_46 (by decide) ?_
      refine okS_putI dX11_goOn_50 fl_X11_122 pi_153_20 ⟨rfl, rfl⟩ ?_
      refine ok_goto (tgt := 124) dX11_goOn_53 (by decide) ?_
      exact okS_retv dX11_goOn_124 rfl (by have e := Option.some.inj h; subst e; exact ⟨rfl, rfl⟩)
def lp_X11_readText_12 (k : Int32 → Mm → Option (Int32 × Mm)) : Nat → Int32 → Mm → Option (Int32 × Mm)
  | 0, _, _ => none
  | fuel + 1, x1, S => (if (S.1 153 6) ≤ x1 then k x1 S else ((f_X11_faultOf S x1).bind fun r1 => (if r1 ≤ 0 then ((f_X11_goOn S x1).bind fun r3 => lp_X11_readText_12 k fuel (x1 + 1) r3) else some (r1, wr S 153 7 x1))))
def f_X11_readText (S : Mm)  : Option (Int32 × Mm) :=
  lp_X11_readText_12 (fun y1_5 S6 => (if (S6.1 153 20) = 0 then (if ((wr S6 153 7 (-1)).1 153 20) = 0 then some (0, wr S6 153 7 (-1)) else some (1, wr S6 153 7 (-1))) else (if ((wr S6 153 7 (S6.1 153 6)).1 153 20) = 0 then some (0, wr S6 153 7 (S6.1 153 6)) else some (1, wr S6 153 7 (S6.1 153 6))))) 100000 0 (wr (wr S 153 20 0) 153 23 0)
set_option maxRecDepth 100000 in
set_option maxHeartbeats 4000000 in
theorem tlp_X11_readText_12 {k : Int32 → Mm → Option (Int32 × Mm)} (hk : ∀ (x1 : Int32) (S : Mm) (out : Int32 × Mm), k x1 S = some out → Ok D_X11_readText (0, 0) (0, 0) 48 [(0, .ref 153), (1, .int x1)] [] (St S) (An (some (.int out.1)) out.2)) : ∀ (fuel : Nat) (x1 : Int32) (S : Mm) (out : Int32 × Mm), lp_X11_readText_12 k fuel x1 S = some out → Ok D_X11_readText (0, 0) (0, 0) 12 [(0, .ref 153), (1, .int x1)] [] (St S) (An (some (.int out.1)) out.2) := by
  intro fuel
  induction fuel with
  | zero => intro x1 S out h; cases h
  | succ fuel ih =>
    intro x1 S out h
    rw [lp_X11_readText_12] at h
    refine ok_iload_n dX11_readText_12 1 rfl ?_
    refine ok_aload_n dX11_readText_13 0 rfl ?_
    refine okS_getI dX11_readText_14 fl_X11_119 pi_153_6 ?_
    refine ok_icmp_ge (tgt := 48) dX11_readText_17 (by decide) (fun hc => ?_) (fun hc => ?_)
    · replace h := it_pos hc h
      refine ok_perm [0, 1] rfl ?_
      exact hk _ _ _ h
    · replace h := it_neg hc h
      refine ok_aload_n dX11_readText_20 0 rfl ?_
      refine ok_iload_n dX11_readText_21 1 rfl ?_
      obtain ⟨r1, e2, h⟩ := it_bind h
      refine okS_V (as := [.int x1]) (st := []) (r := some (.int r1)) (S' := S) dX11_readText_22 cv_X11_139 rfl po_153 (Nat.le_of_ble_eq_true rfl) ⟨⟨by decide, by decide⟩, rfl, rfl⟩ (t_X11_faultOf e2) ?_
      show Ok D_X11_readText (0, 0) (0, 0) 25 [(0, .ref 153), (1, .int x1)] [.int r1] (St S) _
      refine ok_istore_n (L' := [(2, .int r1), (0, .ref 153), (1, .int x1)]) dX11_readText_25 (by decide) rfl ?_
      refine ok_iload_n dX11_readText_26 0 rfl ?_
      refine ok_if_le (tgt := 37) dX11_readText_27 (by decide) (fun hc => ?_) (fun hc => ?_)
      · replace h := it_pos hc h
        refine ok_aload_n dX11_readText_37 1 rfl ?_
        refine ok_iload_n dX11_readText_38 2 rfl ?_
        obtain ⟨r3, e4, h⟩ := it_bind h
        refine okS_V (as := [.int x1]) (st := []) (r := none) (S' := r3) dX11_readText_39 cv_X11_142 rfl po_153 (Nat.le_of_ble_eq_true rfl) ⟨⟨by decide, by decide⟩, rfl, rfl⟩ (t_X11_goOn e4) ?_
        show Ok D_X11_readText (0, 0) (0, 0) 42 [(2, .int r1), (0, .ref 153), (1, .int x1)] [] (St r3) _
        refine ok_iinc (v := x1 + 1) (L' := [(1, .int (x1 + 1)), (2, .int r1), (0, .ref 153)]) dX11_readText_42 2 rfl (ii_1 _) (by decide) rfl ?_
        refine ok_goto (tgt := 12) dX11_readText_45 (by decide) ?_
        refine ok_perm [2, 0] rfl ?_
        exact ih _ _ _ h
      · replace h := it_neg hc h
        refine ok_aload_n dX11_readText_30 1 rfl ?_
        refine ok_iload_n dX11_readText_31 2 rfl ?_
        refine okS_putI dX11_readText_32 fl_X11_19 pi_153_7 ⟨rfl, rfl⟩ ?_
        refine ok_iload_n dX11_readText_35 0 rfl ?_
        exact okS_ret dX11_readText_36 rfl rfl (by have e := Option.some.inj h; subst e; exact ⟨rfl, rfl⟩)
set_option maxRecDepth 100000 in
set_option maxHeartbeats 4000000 in
theorem t_X11_readText {S : Mm} {out : Int32 × Mm} (h : f_X11_readText S  = some out) : Rs D_X11_readText [.ref 153] S (some (.int out.1)) out.2 := by
  refine rs_of (by decide) rfl (Nat.le_of_ble_eq_true rfl) ?_
  unfold f_X11_readText at h
  show Ok D_X11_readText (0, 0) (0, 0) 0 [(0, .ref 153)] [] (St S) _
  refine ok_aload_n dX11_readText_0 0 rfl ?_
  refine ok_iconst (v := 0) dX11_readText_1 ic_0 ?_
  refine okS_putI dX11_readText_2 fl_X11_122 pi_153_20 ⟨rfl, rfl⟩ ?_
  refine ok_aload_n dX11_readText_5 0 rfl ?_
  refine ok_iconst (v := 0) dX11_readText_6 ic_0 ?_
  refine okS_putI dX11_readText_7 fl_X11_132 pi_153_23 ⟨rfl, rfl⟩ ?_
  refine ok_iconst (v := 0) dX11_readText_10 ic_0 ?_
  refine ok_istore_n (L' := [(1, .int 0), (0, .ref 153)]) dX11_readText_11 (by decide) rfl ?_
  refine ok_perm [1, 0] rfl ?_
  refine tlp_X11_readText_12 (fun y1_5 S6 out7 h => ?_) _ _ _ _ h
  refine ok_aload_n dX11_readText_48 0 rfl ?_
  refine ok_aload_n dX11_readText_49 0 rfl ?_
  refine okS_getI dX11_readText_50 fl_X11_122 pi_153_20 ?_
  refine ok_if_ne (tgt := 60) dX11_readText_53 (by decide) (fun hc => ?_) (fun hc => ?_)
  · replace h := it_neg hc h
    refine ok_aload_n dX11_readText_60 0 rfl ?_
    refine okS_getI dX11_readText_61 fl_X11_119 pi_153_6 ?_
    refine okS_putI dX11_readText_64 fl_X11_19 pi_153_7 ⟨rfl, rfl⟩ ?_
    refine ok_aload_n dX11_readText_67 0 rfl ?_
    refine okS_getI dX11_readText_68 fl_X11_122 pi_153_20 ?_
    refine ok_if_ne (tgt := 78) dX11_readText_71 (by decide) (fun hc => ?_) (fun hc => ?_)
    · replace h := it_neg hc h
      refine ok_iconst (v := 1) dX11_readText_78 ic_1 ?_
      exact okS_ret dX11_readText_79 rfl rfl (by have e := Option.some.inj h; subst e; exact ⟨rfl, rfl⟩)
    · replace h := it_pos hc h
      refine ok_iconst (v := 0) dX11_readText_74 ic_0 ?_
      refine ok_goto (tgt := 79) dX11_readText_75 (by decide) ?_
      exact okS_ret dX11_readText_79 rfl rfl (by have e := Option.some.inj h; subst e; exact ⟨rfl, rfl⟩)
  · replace h := it_pos hc h
    refine ok_iconst (v := (-1)) dX11_readText_56 ic_m1 ?_
    refine ok_goto (tgt := 64) dX11_readText_57 (by decide) ?_
    refine okS_putI dX11_readText_64 fl_X11_19 pi_153_7 ⟨rfl, rfl⟩ ?_
    refine ok_aload_n dX11_readText_67 0 rfl ?_
    refine okS_getI dX11_readText_68 fl_X11_122 pi_153_20 ?_
    refine ok_if_ne (tgt := 78) dX11_readText_71 (by decide) (fun hc => ?_) (fun hc => ?_)
    · replace h := it_neg hc h
      refine ok_iconst (v := 1) dX11_readText_78 ic_1 ?_
      exact okS_ret dX11_readText_79 rfl rfl (by have e := Option.some.inj h; subst e; exact ⟨rfl, rfl⟩)
    · replace h := it_pos hc h
      refine ok_iconst (v := 0) dX11_readText_74 ic_0 ?_
      refine ok_goto (tgt := 79) dX11_readText_75 (by decide) ?_
      exact okS_ret dX11_readText_79 rfl rfl (by have e := Option.some.inj h; subst e; exact ⟨rfl, rfl⟩)
def f_X11_feed (S : Mm) (a1 : Int32) : Option (Int32 × Mm) :=
  ((f_X11_in S a1.toInt64 0 255).bind fun r1 => (if r1 = 0 then some ((-1000000002), S) else (if (S.1 153 6) = 60 then some ((-1000000004), S) else (if inb (S.1 153 6) 60 then some ((wr (wr S 156 (S.1 153 6).toNatClampNeg a1) 153 6 (((wr S 156 (S.1 153 6).toNatClampNeg a1).1 153 6) + 1)).1 153 6, wr (wr S 156 (S.1 153 6).toNatClampNeg a1) 153 6 (((wr S 156 (S.1 153 6).toNatClampNeg a1).1 153 6) + 1)) else none))))
set_option maxRecDepth 100000 in
set_option maxHeartbeats 4000000 in
theorem t_X11_feed {S : Mm} {a1 : Int32} {out : Int32 × Mm} (h : f_X11_feed S a1 = some out) : Rs D_X11_feed [.ref 153, .int a1] S (some (.int out.1)) out.2 := by
  refine rs_of (by decide) rfl (Nat.le_of_ble_eq_true rfl) ?_
  unfold f_X11_feed at h
  show Ok D_X11_feed (0, 0) (0, 0) 0 [(0, .ref 153), (1, .int a1)] [] (St S) _
  refine ok_iload_n dX11_feed_0 1 rfl ?_
  refine ok_i2l dX11_feed_1 ?_
  refine ok_lconst (v := 0) dX11_feed_2 (by decide) ?_
  refine ok_ldc2 (v := 255) dX11_feed_3 wd_994 ?_
  obtain ⟨r1, e2, h⟩ := it_bind h
  refine okS_S (as := [.long a1.toInt64, .long 0, .long 255]) (st := []) (r := some (.int r1)) (S' := S) dX11_feed_6 cv_X11_94 rfl (Nat.le_of_ble_eq_true rfl) ⟨⟨by decide, by decide⟩, rfl, rfl⟩ (t_X11_in e2) ?_
  show Ok D_X11_feed (0, 0) (0, 0) 9 [(0, .ref 153), (1, .int a1)] [.int r1] (St S) _
  refine ok_if_ne (tgt := 15) dX11_feed_9 (by decide) (fun hc => ?_) (fun hc => ?_)
  · replace h := it_neg hc h
    refine ok_aload_n dX11_feed_15 0 rfl ?_
    refine okS_getI dX11_feed_16 fl_X11_119 pi_153_6 ?_
    refine ok_bipush (v := 60) dX11_feed_19 bi_60 ?_
    refine ok_icmp_ne (tgt := 27) dX11_feed_21 (by decide) (fun hc => ?_) (fun hc => ?_)
    · replace h := it_neg hc h
      refine ok_aload_n dX11_feed_27 0 rfl ?_
      refine okS_getR dX11_feed_28 fl_X11_16 pr_153_5 ?_
      refine ok_aload_n dX11_feed_31 0 rfl ?_
      refine okS_getI dX11_feed_32 fl_X11_119 pi_153_6 ?_
      refine ok_iload_n dX11_feed_35 1 rfl ?_
      obtain ⟨hi3, h⟩ := it_some h
      refine okS_iastore dX11_feed_36 pa_156 hi3 ?_
      refine ok_aload_n dX11_feed_37 0 rfl ?_
      refine ok_dup dX11_feed_38 rfl ?_
      refine okS_getI dX11_feed_39 fl_X11_119 pi_153_6 ?_
      refine ok_iconst (v := 1) dX11_feed_42 ic_1 ?_
      refine ok_iadd dX11_feed_43 ?_
      refine okS_putI dX11_feed_44 fl_X11_119 pi_153_6 ⟨rfl, rfl⟩ ?_
      refine ok_aload_n dX11_feed_47 0 rfl ?_
      refine okS_getI dX11_feed_48 fl_X11_119 pi_153_6 ?_
      exact okS_ret dX11_feed_51 rfl rfl (by have e := Option.some.inj h; subst e; exact ⟨rfl, rfl⟩)
    · replace h := it_pos hc h
      refine ok_ldc (v := (-1000000004)) dX11_feed_24 wd_999 ?_
      exact okS_ret dX11_feed_26 rfl rfl (by have e := Option.some.inj h; subst e; exact ⟨rfl, rfl⟩)
  · replace h := it_pos hc h
    refine ok_ldc (v := (-1000000002)) dX11_feed_12 wd_998 ?_
    exact okS_ret dX11_feed_14 rfl rfl (by have e := Option.some.inj h; subst e; exact ⟨rfl, rfl⟩)
def f_X11_add (S : Mm) (a1 : Int32) (a2 : Int32) : Option (Mm) :=
  (if inb (6 + (S.1 154 1)) 1634 then (if inb (46 + ((wr S 154 (6 + (S.1 154 1)).toNatClampNeg a1).1 154 1)) 1634 then some (wr (wr (wr S 154 (6 + (S.1 154 1)).toNatClampNeg a1) 154 (46 + ((wr S 154 (6 + (S.1 154 1)).toNatClampNeg a1).1 154 1)).toNatClampNeg a2) 154 1 (((wr (wr S 154 (6 + (S.1 154 1)).toNatClampNeg a1) 154 (46 + ((wr S 154 (6 + (S.1 154 1)).toNatClampNeg a1).1 154 1)).toNatClampNeg a2).1 154 1) + 1)) else none) else none)
set_option maxRecDepth 100000 in
set_option maxHeartbeats 4000000 in
theorem t_X11_add {S : Mm} {a1 : Int32} {a2 : Int32} {out : Mm} (h : f_X11_add S a1 a2 = some out) : Rs D_X11_add [.ref 153, .int a1, .int a2] S none out := by
  refine rs_of (by decide) rfl (Nat.le_of_ble_eq_true rfl) ?_
  unfold f_X11_add at h
  show Ok D_X11_add (0, 0) (0, 0) 0 [(0, .ref 153), (1, .int a1), (2, .int a2)] [] (St S) _
  refine ok_aload_n dX11_add_0 0 rfl ?_
  refine okS_getR dX11_add_1 fl_X11_7 pr_153_0 ?_
  refine ok_bipush (v := 6) dX11_add_4 bi_6 ?_
  refine ok_aload_n dX11_add_6 0 rfl ?_
  refine okS_getR dX11_add_7 fl_X11_7 pr_153_0 ?_
  refine ok_iconst (v := 1) dX11_add_10 ic_1 ?_
  refine okS_ialoadL (j := 1) dX11_add_11 pa_154 (by decide) tnl_1 ?_
  refine ok_iadd dX11_add_12 ?_
  refine ok_iload_n dX11_add_13 1 rfl ?_
  obtain ⟨hi1, h⟩ := it_some h
  refine okS_iastore dX11_add_14 pa_154 hi1 ?_
  refine ok_aload_n dX11_add_15 0 rfl ?_
  refine okS_getR dX11_add_16 fl_X11_7 pr_153_0 ?_
  refine ok_bipush (v := 46) dX11_add_19 bi_46 ?_
  refine ok_aload_n dX11_add_21 0 rfl ?_
  refine okS_getR dX11_add_22 fl_X11_7 pr_153_0 ?_
  refine ok_iconst (v := 1) dX11_add_25 ic_1 ?_
  refine okS_ialoadL (j := 1) dX11_add_26 pa_154 (by decide) tnl_1 ?_
  refine ok_iadd dX11_add_27 ?_
  refine ok_iload_n dX11_add_28 2 rfl ?_
  obtain ⟨hi2, h⟩ := it_some h
  refine okS_iastore dX11_add_29 pa_154 hi2 ?_
  refine ok_aload_n dX11_add_30 0 rfl ?_
  refine okS_getR dX11_add_31 fl_X11_7 pr_153_0 ?_
  refine ok_iconst (v := 1) dX11_add_34 ic_1 ?_
  refine ok_dup2 dX11_add_35 rfl rfl ?_
  refine okS_ialoadL (j := 1) dX11_add_36 pa_154 (by decide) tnl_1 ?_
  refine ok_iconst (v := 1) dX11_add_37 ic_1 ?_
  refine ok_iadd dX11_add_38 ?_
  refine okS_iastoreL (j := 1) dX11_add_39 pa_154 (by decide) tnl_1 ?_
  exact okS_retv dX11_add_40 rfl (by have e := Option.some.inj h; subst e; exact ⟨rfl, rfl⟩)
def lp_X11_pieces_25 (k : Int32 → Mm → Option (Int32 × Mm)) (c1 : Int32) : Nat → Int32 → Mm → Option (Int32 × Mm)
  | 0, _, _ => none
  | fuel + 1, x2, S => (if (S.1 153 23) ≤ x2 then k x2 S else (if inb x2 40 then (if inb x2 40 then ((f_X11_add S (S.1 167 x2.toNatClampNeg) (S.1 168 x2.toNatClampNeg)).bind fun r7 => lp_X11_pieces_25 k c1 fuel (x2 + 1) r7) else none) else none))
def f_X11_pieces (S : Mm)  : Option (Int32 × Mm) :=
  ((f_X11_readText S).bind fun r1 => (if r1.1 ≤ 0 then ((f_X11_remember (wr r1.2 153 6 0)).bind fun r3 => lp_X11_pieces_25 (fun y2_9 S10 => some (S10.1 154 1, S10)) r1.1 100000 0 r3) else some ((-10) - r1.1, wr r1.2 153 6 0)))
set_option maxRecDepth 100000 in
set_option maxHeartbeats 4000000 in
theorem tlp_X11_pieces_25 {k : Int32 → Mm → Option (Int32 × Mm)} {c1 : Int32} (hk : ∀ (x2 : Int32) (S : Mm) (out : Int32 × Mm), k x2 S = some out → Ok D_X11_pieces (0, 0) (0, 0) 55 [(0, .ref 153), (1, .int c1), (2, .int x2)] [] (St S) (An (some (.int out.1)) out.2)) : ∀ (fuel : Nat) (x2 : Int32) (S : Mm) (out : Int32 × Mm), lp_X11_pieces_25 k c1 fuel x2 S = some out → Ok D_X11_pieces (0, 0) (0, 0) 25 [(0, .ref 153), (1, .int c1), (2, .int x2)] [] (St S) (An (some (.int out.1)) out.2) := by
  intro fuel
  induction fuel with
  | zero => intro x2 S out h; cases h
  | succ fuel ih =>
    intro x2 S out h
    rw [lp_X11_pieces_25] at h
    refine ok_iload_n dX11_pieces_25 2 rfl ?_
    refine ok_aload_n dX11_pieces_26 0 rfl ?_
    refine okS_getI dX11_pieces_27 fl_X11_132 pi_153_23 ?_
    refine ok_icmp_ge (tgt := 55) dX11_pieces_30 (by decide) (fun hc => ?_) (fun hc => ?_)
    · replace h := it_pos hc h
      refine ok_perm [0, 1, 2] rfl ?_
      exact hk _ _ _ h
    · replace h := it_neg hc h
      refine ok_aload_n dX11_pieces_33 0 rfl ?_
      refine ok_aload_n dX11_pieces_34 0 rfl ?_
      refine okS_getR dX11_pieces_35 fl_X11_53 pr_153_21 ?_
      refine ok_iload_n dX11_pieces_38 2 rfl ?_
      obtain ⟨hi5, h⟩ := it_some h
      refine okS_iaload dX11_pieces_39 pa_167 hi5 ?_
      refine ok_aload_n dX11_pieces_40 0 rfl ?_
      refine okS_getR dX11_pieces_41 fl_X11_56 pr_153_22 ?_
      refine ok_iload_n dX11_pieces_44 2 rfl ?_
      obtain ⟨hi6, h⟩ := it_some h
      refine okS_iaload dX11_pieces_45 pa_168 hi6 ?_
      obtain ⟨r7, e8, h⟩ := it_bind h
      refine okS_V (as := [.int (S.1 167 x2.toNatClampNeg), .int (S.1 168 x2.toNatClampNeg)]) (st := []) (r := none) (S' := r7) dX11_pieces_46 cv_X11_156 rfl po_153 (Nat.le_of_ble_eq_true rfl) ⟨⟨by decide, by decide⟩, rfl, rfl⟩ (t_X11_add e8) ?_
      show Ok D_X11_pieces (0, 0) (0, 0) 49 [(0, .ref 153), (1, .int c1), (2, .int x2)] [] (St r7) _
      refine ok_iinc (v := x2 + 1) (L' := [(2, .int (x2 + 1)), (0, .ref 153), (1, .int c1)]) dX11_pieces_49 2 rfl (ii_1 _) (by decide) rfl ?_
      refine ok_goto (tgt := 25) dX11_pieces_52 (by decide) ?_
      refine ok_perm [1, 2, 0] rfl ?_
      exact ih _ _ _ h
set_option maxRecDepth 100000 in
set_option maxHeartbeats 4000000 in
theorem t_X11_pieces {S : Mm} {out : Int32 × Mm} (h : f_X11_pieces S  = some out) : Rs D_X11_pieces [.ref 153] S (some (.int out.1)) out.2 := by
  refine rs_of (by decide) rfl (Nat.le_of_ble_eq_true rfl) ?_
  unfold f_X11_pieces at h
  show Ok D_X11_pieces (0, 0) (0, 0) 0 [(0, .ref 153)] [] (St S) _
  refine ok_aload_n dX11_pieces_0 0 rfl ?_
  obtain ⟨r1, e2, h⟩ := it_bind h
  refine okS_V (as := []) (st := []) (r := some (.int r1.1)) (S' := r1.2) dX11_pieces_1 cv_X11_149 rfl po_153 (Nat.le_of_ble_eq_true rfl) ⟨⟨by decide, by decide⟩, rfl, rfl⟩ (t_X11_readText e2) ?_
  show Ok D_X11_pieces (0, 0) (0, 0) 4 [(0, .ref 153)] [.int r1.1] (St r1.2) _
  refine ok_istore_n (L' := [(1, .int r1.1), (0, .ref 153)]) dX11_pieces_4 (by decide) rfl ?_
  refine ok_aload_n dX11_pieces_5 1 rfl ?_
  refine ok_iconst (v := 0) dX11_pieces_6 ic_0 ?_
  refine okS_putI dX11_pieces_7 fl_X11_119 pi_153_6 ⟨rfl, rfl⟩ ?_
  refine ok_iload_n dX11_pieces_10 0 rfl ?_
  refine ok_if_le (tgt := 19) dX11_pieces_11 (by decide) (fun hc => ?_) (fun hc => ?_)
  · replace h := it_pos hc h
    refine ok_aload_n dX11_pieces_19 1 rfl ?_
    obtain ⟨r3, e4, h⟩ := it_bind h
    refine okS_V (as := []) (st := []) (r := none) (S' := r3) dX11_pieces_20 cv_X11_153 rfl po_153 (Nat.le_of_ble_eq_true rfl) ⟨⟨by decide, by decide⟩, rfl, rfl⟩ (t_X11_remember e4) ?_
    show Ok D_X11_pieces (0, 0) (0, 0) 23 [(1, .int r1.1), (0, .ref 153)] [] (St r3) _
    refine ok_iconst (v := 0) dX11_pieces_23 ic_0 ?_
    refine ok_istore_n (L' := [(2, .int 0), (1, .int r1.1), (0, .ref 153)]) dX11_pieces_24 (by decide) rfl ?_
    refine ok_perm [2, 1, 0] rfl ?_
    refine tlp_X11_pieces_25 (fun y2_9 S10 out11 h => ?_) _ _ _ _ h
    refine ok_aload_n dX11_pieces_55 0 rfl ?_
    refine okS_getR dX11_pieces_56 fl_X11_7 pr_153_0 ?_
    refine ok_iconst (v := 1) dX11_pieces_59 ic_1 ?_
    refine okS_ialoadL (j := 1) dX11_pieces_60 pa_154 (by decide) tnl_1 ?_
    exact okS_ret dX11_pieces_61 rfl rfl (by have e := Option.some.inj h; subst e; exact ⟨rfl, rfl⟩)
  · replace h := it_neg hc h
    refine ok_bipush (v := (-10)) dX11_pieces_14 bi_m10 ?_
    refine ok_iload_n dX11_pieces_16 0 rfl ?_
    refine ok_isub dX11_pieces_17 ?_
    exact okS_ret dX11_pieces_18 rfl rfl (by have e := Option.some.inj h; subst e; exact ⟨rfl, rfl⟩)
def f_X11_fault (S : Mm)  : Option (Int32) :=
  some (S.1 153 7)
set_option maxRecDepth 100000 in
set_option maxHeartbeats 4000000 in
theorem t_X11_fault {S : Mm} {out : Int32} (h : f_X11_fault S  = some out) : Rs D_X11_fault [.ref 153] S (some (.int out)) S := by
  refine rs_of (by decide) rfl (Nat.le_of_ble_eq_true rfl) ?_
  unfold f_X11_fault at h
  show Ok D_X11_fault (0, 0) (0, 0) 0 [(0, .ref 153)] [] (St S) _
  refine ok_aload_n dX11_fault_0 0 rfl ?_
  refine okS_getI dX11_fault_1 fl_X11_19 pi_153_7 ?_
  exact okS_ret dX11_fault_4 rfl rfl (by have e := Option.some.inj h; subst e; exact ⟨rfl, rfl⟩)
def f_X11_isDay (S : Mm) (a1 : Int32) : Option (Int32) :=
  ((f_X11_in S a1.toInt64 0 (((S.1 154 0) - 1).toInt64)).bind fun r1 => (if r1 = 0 ∨ r1 = 1 then some r1 else none))
set_option maxRecDepth 100000 in
set_option maxHeartbeats 4000000 in
theorem t_X11_isDay {S : Mm} {a1 : Int32} {out : Int32} (h : f_X11_isDay S a1 = some out) : Rs D_X11_isDay [.ref 153, .int a1] S (some (.int out)) S := by
  refine rs_of (by decide) rfl (Nat.le_of_ble_eq_true rfl) ?_
  unfold f_X11_isDay at h
  show Ok D_X11_isDay (0, 0) (0, 0) 0 [(0, .ref 153), (1, .int a1)] [] (St S) _
  refine ok_iload_n dX11_isDay_0 1 rfl ?_
  refine ok_i2l dX11_isDay_1 ?_
  refine ok_lconst (v := 0) dX11_isDay_2 (by decide) ?_
  refine ok_aload_n dX11_isDay_3 0 rfl ?_
  refine okS_getR dX11_isDay_4 fl_X11_7 pr_153_0 ?_
  refine ok_iconst (v := 0) dX11_isDay_7 ic_0 ?_
  refine okS_ialoadL (j := 0) dX11_isDay_8 pa_154 (by decide) tnl_0 ?_
  refine ok_iconst (v := 1) dX11_isDay_9 ic_1 ?_
  refine ok_isub dX11_isDay_10 ?_
  refine ok_i2l dX11_isDay_11 ?_
  obtain ⟨r1, e2, h⟩ := it_bind h
  refine okS_S (as := [.long a1.toInt64, .long 0, .long (((S.1 154 0) - 1).toInt64)]) (st := []) (r := some (.int r1)) (S' := S) dX11_isDay_12 cv_X11_94 rfl (Nat.le_of_ble_eq_true rfl) ⟨⟨by decide, by decide⟩, rfl, rfl⟩ (t_X11_in e2) ?_
  show Ok D_X11_isDay (0, 0) (0, 0) 15 [(0, .ref 153), (1, .int a1)] [.int r1] (St S) _
  obtain ⟨hb, h⟩ := it_some h
  exact okS_ret dX11_isDay_15 rfl (nb hb) (by have e := Option.some.inj h; subst e; exact ⟨rfl, rfl⟩)
def f_X11_isWord (S : Mm) (a1 : Int32) : Option (Int32) :=
  ((f_X11_in S a1.toInt64 0 7).bind fun r1 => (if r1 = 0 ∨ r1 = 1 then some r1 else none))
set_option maxRecDepth 100000 in
set_option maxHeartbeats 4000000 in
theorem t_X11_isWord {S : Mm} {a1 : Int32} {out : Int32} (h : f_X11_isWord S a1 = some out) : Rs D_X11_isWord [.int a1] S (some (.int out)) S := by
  refine rs_of (by decide) rfl (Nat.le_of_ble_eq_true rfl) ?_
  unfold f_X11_isWord at h
  show Ok D_X11_isWord (0, 0) (0, 0) 0 [(0, .int a1)] [] (St S) _
  refine ok_iload_n dX11_isWord_0 0 rfl ?_
  refine ok_i2l dX11_isWord_1 ?_
  refine ok_lconst (v := 0) dX11_isWord_2 (by decide) ?_
  refine ok_ldc2 (v := 7) dX11_isWord_3 wd_1147 ?_
  obtain ⟨r1, e2, h⟩ := it_bind h
  refine okS_S (as := [.long a1.toInt64, .long 0, .long 7]) (st := []) (r := some (.int r1)) (S' := S) dX11_isWord_6 cv_X11_94 rfl (Nat.le_of_ble_eq_true rfl) ⟨⟨by decide, by decide⟩, rfl, rfl⟩ (t_X11_in e2) ?_
  show Ok D_X11_isWord (0, 0) (0, 0) 9 [(0, .int a1)] [.int r1] (St S) _
  obtain ⟨hb, h⟩ := it_some h
  exact okS_ret dX11_isWord_9 rfl (nb hb) (by have e := Option.some.inj h; subst e; exact ⟨rfl, rfl⟩)
def lp_X11_wrong_2 (k : Int32 → Mm → Option (Int32 × Mm)) : Nat → Int32 → Mm → Option (Int32 × Mm)
  | 0, _, _ => none
  | fuel + 1, x1, S => (if (S.1 153 11) ≤ x1 then k x1 S else (if inb x1 20 then ((f_X11_isDay S (S.1 158 x1.toNatClampNeg)).bind fun r2 => (if r2 = 0 then some (x1, S) else (if inb x1 20 then (if inb x1 20 then ((f_X11_levelOf S (S.1 157 x1.toNatClampNeg) (S.1 158 x1.toNatClampNeg)).bind fun r6 => (if inb x1 20 then (if r6.1 = (r6.2.1 159 x1.toNatClampNeg) then lp_X11_wrong_2 k fuel (x1 + 1) r6.2 else some (x1, r6.2)) else none)) else none) else none))) else none))
def f_X11_wrong (S : Mm)  : Option (Int32 × Mm) :=
  lp_X11_wrong_2 (fun y1_9 S10 => some ((-1), S10)) 100000 0 S
set_option maxRecDepth 100000 in
set_option maxHeartbeats 4000000 in
theorem tlp_X11_wrong_2 {k : Int32 → Mm → Option (Int32 × Mm)} (hk : ∀ (x1 : Int32) (S : Mm) (out : Int32 × Mm), k x1 S = some out → Ok D_X11_wrong (0, 0) (0, 0) 56 [(0, .ref 153), (1, .int x1)] [] (St S) (An (some (.int out.1)) out.2)) : ∀ (fuel : Nat) (x1 : Int32) (S : Mm) (out : Int32 × Mm), lp_X11_wrong_2 k fuel x1 S = some out → Ok D_X11_wrong (0, 0) (0, 0) 2 [(0, .ref 153), (1, .int x1)] [] (St S) (An (some (.int out.1)) out.2) := by
  intro fuel
  induction fuel with
  | zero => intro x1 S out h; cases h
  | succ fuel ih =>
    intro x1 S out h
    rw [lp_X11_wrong_2] at h
    refine ok_iload_n dX11_wrong_2 1 rfl ?_
    refine ok_aload_n dX11_wrong_3 0 rfl ?_
    refine okS_getI dX11_wrong_4 fl_X11_161 pi_153_11 ?_
    refine ok_icmp_ge (tgt := 56) dX11_wrong_7 (by decide) (fun hc => ?_) (fun hc => ?_)
    · replace h := it_pos hc h
      refine ok_perm [0, 1] rfl ?_
      exact hk _ _ _ h
    · replace h := it_neg hc h
      refine ok_aload_n dX11_wrong_10 0 rfl ?_
      refine ok_aload_n dX11_wrong_11 0 rfl ?_
      refine okS_getR dX11_wrong_12 fl_X11_26 pr_153_9 ?_
      refine ok_iload_n dX11_wrong_15 1 rfl ?_
      obtain ⟨hi1, h⟩ := it_some h
      refine okS_iaload dX11_wrong_16 pa_158 hi1 ?_
      obtain ⟨r2, e3, h⟩ := it_bind h
      refine okS_V (as := [.int (S.1 158 x1.toNatClampNeg)]) (st := []) (r := some (.int r2)) (S' := S) dX11_wrong_17 cv_X11_164 rfl po_153 (Nat.le_of_ble_eq_true rfl) ⟨⟨by decide, by decide⟩, rfl, rfl⟩ (t_X11_isDay e3) ?_
      show Ok D_X11_wrong (0, 0) (0, 0) 20 [(0, .ref 153), (1, .int x1)] [.int r2] (St S) _
      refine ok_if_eq (tgt := 48) dX11_wrong_20 (by decide) (fun hc => ?_) (fun hc => ?_)
      · replace h := it_pos hc h
        refine ok_iload_n dX11_wrong_48 1 rfl ?_
        exact okS_ret dX11_wrong_49 rfl rfl (by have e := Option.some.inj h; subst e; exact ⟨rfl, rfl⟩)
      · replace h := it_neg hc h
        refine ok_aload_n dX11_wrong_23 0 rfl ?_
        refine ok_aload_n dX11_wrong_24 0 rfl ?_
        refine okS_getR dX11_wrong_25 fl_X11_23 pr_153_8 ?_
        refine ok_iload_n dX11_wrong_28 1 rfl ?_
        obtain ⟨hi4, h⟩ := it_some h
        refine okS_iaload dX11_wrong_29 pa_157 hi4 ?_
        refine ok_aload_n dX11_wrong_30 0 rfl ?_
        refine okS_getR dX11_wrong_31 fl_X11_26 pr_153_9 ?_
        refine ok_iload_n dX11_wrong_34 1 rfl ?_
        obtain ⟨hi5, h⟩ := it_some h
        refine okS_iaload dX11_wrong_35 pa_158 hi5 ?_
        obtain ⟨r6, e7, h⟩ := it_bind h
        refine okS_V (as := [.int (S.1 157 x1.toNatClampNeg), .int (S.1 158 x1.toNatClampNeg)]) (st := []) (r := some (.int r6.1)) (S' := r6.2) dX11_wrong_36 cv_X11_167 rfl po_153 (Nat.le_of_ble_eq_true rfl) ⟨⟨by decide, by decide⟩, rfl, rfl⟩ (t_X11_levelOf e7) ?_
        show Ok D_X11_wrong (0, 0) (0, 0) 39 [(0, .ref 153), (1, .int x1)] [.int r6.1] (St r6.2) _
        refine ok_aload_n dX11_wrong_39 0 rfl ?_
        refine okS_getR dX11_wrong_40 fl_X11_29 pr_153_10 ?_
        refine ok_iload_n dX11_wrong_43 1 rfl ?_
        obtain ⟨hi8, h⟩ := it_some h
        refine okS_iaload dX11_wrong_44 pa_159 hi8 ?_
        refine ok_icmp_eq (tgt := 50) dX11_wrong_45 (by decide) (fun hc => ?_) (fun hc => ?_)
        · replace h := it_pos hc h
          refine ok_iinc (v := x1 + 1) (L' := [(1, .int (x1 + 1)), (0, .ref 153)]) dX11_wrong_50 1 rfl (ii_1 _) (by decide) rfl ?_
          refine ok_goto (tgt := 2) dX11_wrong_53 (by decide) ?_
          refine ok_perm [1, 0] rfl ?_
          exact ih _ _ _ h
        · replace h := it_neg hc h
          refine ok_iload_n dX11_wrong_48 1 rfl ?_
          exact okS_ret dX11_wrong_49 rfl rfl (by have e := Option.some.inj h; subst e; exact ⟨rfl, rfl⟩)
set_option maxRecDepth 100000 in
set_option maxHeartbeats 4000000 in
theorem t_X11_wrong {S : Mm} {out : Int32 × Mm} (h : f_X11_wrong S  = some out) : Rs D_X11_wrong [.ref 153] S (some (.int out.1)) out.2 := by
  refine rs_of (by decide) rfl (Nat.le_of_ble_eq_true rfl) ?_
  unfold f_X11_wrong at h
  show Ok D_X11_wrong (0, 0) (0, 0) 0 [(0, .ref 153)] [] (St S) _
  refine ok_iconst (v := 0) dX11_wrong_0 ic_0 ?_
  refine ok_istore_n (L' := [(1, .int 0), (0, .ref 153)]) dX11_wrong_1 (by decide) rfl ?_
  refine ok_perm [1, 0] rfl ?_
  refine tlp_X11_wrong_2 (fun y1_9 S10 out11 h => ?_) _ _ _ _ h
  refine ok_iconst (v := (-1)) dX11_wrong_56 ic_m1 ?_
  exact okS_ret dX11_wrong_57 rfl rfl (by have e := Option.some.inj h; subst e; exact ⟨rfl, rfl⟩)
def f_X11_flaresNow (S : Mm)  : Option (Int32 × Mm) :=
  ((f_X11_layFlares S).bind fun r1 => some (r1.1 153 19, r1))
set_option maxRecDepth 100000 in
set_option maxHeartbeats 4000000 in
theorem t_X11_flaresNow {S : Mm} {out : Int32 × Mm} (h : f_X11_flaresNow S  = some out) : Rs D_X11_flaresNow [.ref 153] S (some (.int out.1)) out.2 := by
  refine rs_of (by decide) rfl (Nat.le_of_ble_eq_true rfl) ?_
  unfold f_X11_flaresNow at h
  show Ok D_X11_flaresNow (0, 0) (0, 0) 0 [(0, .ref 153)] [] (St S) _
  refine ok_aload_n dX11_flaresNow_0 0 rfl ?_
  obtain ⟨r1, e2, h⟩ := it_bind h
  refine okS_V (as := []) (st := []) (r := none) (S' := r1) dX11_flaresNow_1 cv_X11_102 rfl po_153 (Nat.le_of_ble_eq_true rfl) ⟨⟨by decide, by decide⟩, rfl, rfl⟩ (t_X11_layFlares e2) ?_
  show Ok D_X11_flaresNow (0, 0) (0, 0) 4 [(0, .ref 153)] [] (St r1) _
  refine ok_aload_n dX11_flaresNow_4 0 rfl ?_
  refine okS_getI dX11_flaresNow_5 fl_X11_88 pi_153_19 ?_
  exact okS_ret dX11_flaresNow_8 rfl rfl (by have e := Option.some.inj h; subst e; exact ⟨rfl, rfl⟩)
def f_X11_toldMore (S : Mm) (a1 : Int32) : Option (Int32 × Mm) :=
  (if a1 = 8 then some (S.1 153 6, S) else (if a1 = 9 then some (S.1 153 11, S) else (if a1 = 10 then ((f_X11_wrong S).bind fun r4 => some (r4.1, r4.2)) else (if a1 = 11 then some (S.1 153 1, S) else (if a1 = 12 then some (S.1 153 3, S) else some ((-1000000002), S))))))
set_option maxRecDepth 100000 in
set_option maxHeartbeats 4000000 in
theorem t_X11_toldMore {S : Mm} {a1 : Int32} {out : Int32 × Mm} (h : f_X11_toldMore S a1 = some out) : Rs D_X11_toldMore [.ref 153, .int a1] S (some (.int out.1)) out.2 := by
  refine rs_of (by decide) rfl (Nat.le_of_ble_eq_true rfl) ?_
  unfold f_X11_toldMore at h
  show Ok D_X11_toldMore (0, 0) (0, 0) 0 [(0, .ref 153), (1, .int a1)] [] (St S) _
  refine ok_iload_n dX11_toldMore_0 1 rfl ?_
  by_cases hx1 : a1 = 8
  · replace h := it_pos hx1 h
    refine ok_tableIn (tgt := 36) dX11_toldMore_1 (by rw [hx1]; decide) (by rw [hx1]; decide) (by rw [hx1]; rfl) (by decide) ?_
    refine ok_aload_n dX11_toldMore_36 0 rfl ?_
    refine okS_getI dX11_toldMore_37 fl_X11_119 pi_153_6 ?_
    exact okS_ret dX11_toldMore_40 rfl rfl (by have e := Option.some.inj h; subst e; exact ⟨rfl, rfl⟩)
  · replace h := it_neg hx1 h
    by_cases hx2 : a1 = 9
    · replace h := it_pos hx2 h
      refine ok_tableIn (tgt := 41) dX11_toldMore_1 (by rw [hx2]; decide) (by rw [hx2]; decide) (by rw [hx2]; rfl) (by decide) ?_
      refine ok_aload_n dX11_toldMore_41 0 rfl ?_
      refine okS_getI dX11_toldMore_42 fl_X11_161 pi_153_11 ?_
      exact okS_ret dX11_toldMore_45 rfl rfl (by have e := Option.some.inj h; subst e; exact ⟨rfl, rfl⟩)
    · replace h := it_neg hx2 h
      by_cases hx3 : a1 = 10
      · replace h := it_pos hx3 h
        refine ok_tableIn (tgt := 46) dX11_toldMore_1 (by rw [hx3]; decide) (by rw [hx3]; decide) (by rw [hx3]; rfl) (by decide) ?_
        refine ok_aload_n dX11_toldMore_46 0 rfl ?_
        obtain ⟨r4, e5, h⟩ := it_bind h
        refine okS_V (as := []) (st := []) (r := some (.int r4.1)) (S' := r4.2) dX11_toldMore_47 cv_X11_170 rfl po_153 (Nat.le_of_ble_eq_true rfl) ⟨⟨by decide, by decide⟩, rfl, rfl⟩ (t_X11_wrong e5) ?_
        show Ok D_X11_toldMore (0, 0) (0, 0) 50 [(0, .ref 153), (1, .int a1)] [.int r4.1] (St r4.2) _
        exact okS_ret dX11_toldMore_50 rfl rfl (by have e := Option.some.inj h; subst e; exact ⟨rfl, rfl⟩)
      · replace h := it_neg hx3 h
        by_cases hx6 : a1 = 11
        · replace h := it_pos hx6 h
          refine ok_tableIn (tgt := 51) dX11_toldMore_1 (by rw [hx6]; decide) (by rw [hx6]; decide) (by rw [hx6]; rfl) (by decide) ?_
          refine ok_aload_n dX11_toldMore_51 0 rfl ?_
          refine okS_getI dX11_toldMore_52 fl_X11_63 pi_153_1 ?_
          exact okS_ret dX11_toldMore_55 rfl rfl (by have e := Option.some.inj h; subst e; exact ⟨rfl, rfl⟩)
        · replace h := it_neg hx6 h
          by_cases hx7 : a1 = 12
          · replace h := it_pos hx7 h
            refine ok_tableIn (tgt := 56) dX11_toldMore_1 (by rw [hx7]; decide) (by rw [hx7]; decide) (by rw [hx7]; rfl) (by decide) ?_
            refine ok_aload_n dX11_toldMore_56 0 rfl ?_
            refine okS_getI dX11_toldMore_57 fl_X11_173 pi_153_3 ?_
            exact okS_ret dX11_toldMore_60 rfl rfl (by have e := Option.some.inj h; subst e; exact ⟨rfl, rfl⟩)
          · replace h := it_neg hx7 h
            refine ok_tableOut (tgt := 61) dX11_toldMore_1 (sw_out a1 (by intro n h1 h2; rcases (show n = 8 ∨ n = 9 ∨ n = 10 ∨ n = 11 ∨ n = 12 by omega) with rfl | rfl | rfl | rfl | rfl <;> assumption)) (by decide) ?_
            refine ok_ldc (v := (-1000000002)) dX11_toldMore_61 wd_998 ?_
            exact okS_ret dX11_toldMore_63 rfl rfl (by have e := Option.some.inj h; subst e; exact ⟨rfl, rfl⟩)
def f_X11_told (S : Mm) (a1 : Int32) : Option (Int32 × Mm) :=
  (if a1 = 0 then (if inb a1 1634 then some (S.1 154 a1.toNatClampNeg, S) else none) else (if a1 = 1 then (if inb a1 1634 then some (S.1 154 a1.toNatClampNeg, S) else none) else (if a1 = 2 then ((f_X11_flaresNow S).bind fun r6 => some (r6.1, r6.2)) else (if a1 = 3 then ((f_X11_stories S).bind fun r9 => some (r9.1, r9.2)) else (if a1 = 4 then (if inb ((2 + a1) - 4) 1634 then some (S.1 154 ((2 + a1) - 4).toNatClampNeg, S) else none) else (if a1 = 5 then (if inb ((2 + a1) - 4) 1634 then some (S.1 154 ((2 + a1) - 4).toNatClampNeg, S) else none) else (if a1 = 6 then (if inb ((2 + a1) - 4) 1634 then some (S.1 154 ((2 + a1) - 4).toNatClampNeg, S) else none) else (if a1 = 7 then (if inb ((2 + a1) - 4) 1634 then some (S.1 154 ((2 + a1) - 4).toNatClampNeg, S) else none) else ((f_X11_toldMore S a1).bind fun r19 => some (r19.1, r19.2))))))))))
set_option maxRecDepth 100000 in
set_option maxHeartbeats 4000000 in
theorem t_X11_told {S : Mm} {a1 : Int32} {out : Int32 × Mm} (h : f_X11_told S a1 = some out) : Rs D_X11_told [.ref 153, .int a1] S (some (.int out.1)) out.2 := by
  refine rs_of (by decide) rfl (Nat.le_of_ble_eq_true rfl) ?_
  unfold f_X11_told at h
  show Ok D_X11_told (0, 0) (0, 0) 0 [(0, .ref 153), (1, .int a1)] [] (St S) _
  refine ok_iload_n dX11_told_0 1 rfl ?_
  by_cases hx1 : a1 = 0
  · replace h := it_pos hx1 h
    refine ok_tableIn (tgt := 48) dX11_told_1 (by rw [hx1]; decide) (by rw [hx1]; decide) (by rw [hx1]; rfl) (by decide) ?_
    refine ok_aload_n dX11_told_48 0 rfl ?_
    refine okS_getR dX11_told_49 fl_X11_7 pr_153_0 ?_
    refine ok_iload_n dX11_told_52 1 rfl ?_
    obtain ⟨hi2, h⟩ := it_some h
    refine okS_iaload dX11_told_53 pa_154 hi2 ?_
    exact okS_ret dX11_told_54 rfl rfl (by have e := Option.some.inj h; subst e; exact ⟨rfl, rfl⟩)
  · replace h := it_neg hx1 h
    by_cases hx3 : a1 = 1
    · replace h := it_pos hx3 h
      refine ok_tableIn (tgt := 48) dX11_told_1 (by rw [hx3]; decide) (by rw [hx3]; decide) (by rw [hx3]; rfl) (by decide) ?_
      refine ok_aload_n dX11_told_48 0 rfl ?_
      refine okS_getR dX11_told_49 fl_X11_7 pr_153_0 ?_
      refine ok_iload_n dX11_told_52 1 rfl ?_
      obtain ⟨hi4, h⟩ := it_some h
      refine okS_iaload dX11_told_53 pa_154 hi4 ?_
      exact okS_ret dX11_told_54 rfl rfl (by have e := Option.some.inj h; subst e; exact ⟨rfl, rfl⟩)
    · replace h := it_neg hx3 h
      by_cases hx5 : a1 = 2
      · replace h := it_pos hx5 h
        refine ok_tableIn (tgt := 55) dX11_told_1 (by rw [hx5]; decide) (by rw [hx5]; decide) (by rw [hx5]; rfl) (by decide) ?_
        refine ok_aload_n dX11_told_55 0 rfl ?_
        obtain ⟨r6, e7, h⟩ := it_bind h
        refine okS_V (as := []) (st := []) (r := some (.int r6.1)) (S' := r6.2) dX11_told_56 cv_X11_176 rfl po_153 (Nat.le_of_ble_eq_true rfl) ⟨⟨by decide, by decide⟩, rfl, rfl⟩ (t_X11_flaresNow e7) ?_
        show Ok D_X11_told (0, 0) (0, 0) 59 [(0, .ref 153), (1, .int a1)] [.int r6.1] (St r6.2) _
        exact okS_ret dX11_told_59 rfl rfl (by have e := Option.some.inj h; subst e; exact ⟨rfl, rfl⟩)
      · replace h := it_neg hx5 h
        by_cases hx8 : a1 = 3
        · replace h := it_pos hx8 h
          refine ok_tableIn (tgt := 60) dX11_told_1 (by rw [hx8]; decide) (by rw [hx8]; decide) (by rw [hx8]; rfl) (by decide) ?_
          refine ok_aload_n dX11_told_60 0 rfl ?_
          obtain ⟨r9, e10, h⟩ := it_bind h
          refine okS_V (as := []) (st := []) (r := some (.int r9.1)) (S' := r9.2) dX11_told_61 cv_X11_179 rfl po_153 (Nat.le_of_ble_eq_true rfl) ⟨⟨by decide, by decide⟩, rfl, rfl⟩ (t_X11_stories e10) ?_
          show Ok D_X11_told (0, 0) (0, 0) 64 [(0, .ref 153), (1, .int a1)] [.int r9.1] (St r9.2) _
          exact okS_ret dX11_told_64 rfl rfl (by have e := Option.some.inj h; subst e; exact ⟨rfl, rfl⟩)
        · replace h := it_neg hx8 h
          by_cases hx11 : a1 = 4
          · replace h := it_pos hx11 h
            refine ok_tableIn (tgt := 65) dX11_told_1 (by rw [hx11]; decide) (by rw [hx11]; decide) (by rw [hx11]; rfl) (by decide) ?_
            refine ok_aload_n dX11_told_65 0 rfl ?_
            refine okS_getR dX11_told_66 fl_X11_7 pr_153_0 ?_
            refine ok_iconst (v := 2) dX11_told_69 ic_2 ?_
            refine ok_iload_n dX11_told_70 1 rfl ?_
            refine ok_iadd dX11_told_71 ?_
            refine ok_iconst (v := 4) dX11_told_72 ic_4 ?_
            refine ok_isub dX11_told_73 ?_
            obtain ⟨hi12, h⟩ := it_some h
            refine okS_iaload dX11_told_74 pa_154 hi12 ?_
            exact okS_ret dX11_told_75 rfl rfl (by have e := Option.some.inj h; subst e; exact ⟨rfl, rfl⟩)
          · replace h := it_neg hx11 h
            by_cases hx13 : a1 = 5
            · replace h := it_pos hx13 h
              refine ok_tableIn (tgt := 65) dX11_told_1 (by rw [hx13]; decide) (by rw [hx13]; decide) (by rw [hx13]; rfl) (by decide) ?_
              refine ok_aload_n dX11_told_65 0 rfl ?_
              refine okS_getR dX11_told_66 fl_X11_7 pr_153_0 ?_
              refine ok_iconst (v := 2) dX11_told_69 ic_2 ?_
              refine ok_iload_n dX11_told_70 1 rfl ?_
              refine ok_iadd dX11_told_71 ?_
              refine ok_iconst (v := 4) dX11_told_72 ic_4 ?_
              refine ok_isub dX11_told_73 ?_
              obtain ⟨hi14, h⟩ := it_some h
              refine okS_iaload dX11_told_74 pa_154 hi14 ?_
              exact okS_ret dX11_told_75 rfl rfl (by have e := Option.some.inj h; subst e; exact ⟨rfl, rfl⟩)
            · replace h := it_neg hx13 h
              by_cases hx15 : a1 = 6
              · replace h := it_pos hx15 h
                refine ok_tableIn (tgt := 65) dX11_told_1 (by rw [hx15]; decide) (by rw [hx15]; decide) (by rw [hx15]; rfl) (by decide) ?_
                refine ok_aload_n dX11_told_65 0 rfl ?_
                refine okS_getR dX11_told_66 fl_X11_7 pr_153_0 ?_
                refine ok_iconst (v := 2) dX11_told_69 ic_2 ?_
                refine ok_iload_n dX11_told_70 1 rfl ?_
                refine ok_iadd dX11_told_71 ?_
                refine ok_iconst (v := 4) dX11_told_72 ic_4 ?_
                refine ok_isub dX11_told_73 ?_
                obtain ⟨hi16, h⟩ := it_some h
                refine okS_iaload dX11_told_74 pa_154 hi16 ?_
                exact okS_ret dX11_told_75 rfl rfl (by have e := Option.some.inj h; subst e; exact ⟨rfl, rfl⟩)
              · replace h := it_neg hx15 h
                by_cases hx17 : a1 = 7
                · replace h := it_pos hx17 h
                  refine ok_tableIn (tgt := 65) dX11_told_1 (by rw [hx17]; decide) (by rw [hx17]; decide) (by rw [hx17]; rfl) (by decide) ?_
                  refine ok_aload_n dX11_told_65 0 rfl ?_
                  refine okS_getR dX11_told_66 fl_X11_7 pr_153_0 ?_
                  refine ok_iconst (v := 2) dX11_told_69 ic_2 ?_
                  refine ok_iload_n dX11_told_70 1 rfl ?_
                  refine ok_iadd dX11_told_71 ?_
                  refine ok_iconst (v := 4) dX11_told_72 ic_4 ?_
                  refine ok_isub dX11_told_73 ?_
                  obtain ⟨hi18, h⟩ := it_some h
                  refine okS_iaload dX11_told_74 pa_154 hi18 ?_
                  exact okS_ret dX11_told_75 rfl rfl (by have e := Option.some.inj h; subst e; exact ⟨rfl, rfl⟩)
                · replace h := it_neg hx17 h
                  refine ok_tableOut (tgt := 76) dX11_told_1 (sw_out a1 (by intro n h1 h2; rcases (show n = 0 ∨ n = 1 ∨ n = 2 ∨ n = 3 ∨ n = 4 ∨ n = 5 ∨ n = 6 ∨ n = 7 by omega) with rfl | rfl | rfl | rfl | rfl | rfl | rfl | rfl <;> assumption)) (by decide) ?_
                  refine ok_aload_n dX11_told_76 0 rfl ?_
                  refine ok_iload_n dX11_told_77 1 rfl ?_
                  obtain ⟨r19, e20, h⟩ := it_bind h
                  refine okS_V (as := [.int a1]) (st := []) (r := some (.int r19.1)) (S' := r19.2) dX11_told_78 cv_X11_182 rfl po_153 (Nat.le_of_ble_eq_true rfl) ⟨⟨by decide, by decide⟩, rfl, rfl⟩ (t_X11_toldMore e20) ?_
                  show Ok D_X11_told (0, 0) (0, 0) 81 [(0, .ref 153), (1, .int a1)] [.int r19.1] (St r19.2) _
                  exact okS_ret dX11_told_81 rfl rfl (by have e := Option.some.inj h; subst e; exact ⟨rfl, rfl⟩)
def f_X11_isPiece (S : Mm) (a1 : Int32) : Option (Int32) :=
  ((f_X11_in S a1.toInt64 0 (((S.1 154 1) - 1).toInt64)).bind fun r1 => (if r1 = 0 ∨ r1 = 1 then some r1 else none))
set_option maxRecDepth 100000 in
set_option maxHeartbeats 4000000 in
theorem t_X11_isPiece {S : Mm} {a1 : Int32} {out : Int32} (h : f_X11_isPiece S a1 = some out) : Rs D_X11_isPiece [.ref 153, .int a1] S (some (.int out)) S := by
  refine rs_of (by decide) rfl (Nat.le_of_ble_eq_true rfl) ?_
  unfold f_X11_isPiece at h
  show Ok D_X11_isPiece (0, 0) (0, 0) 0 [(0, .ref 153), (1, .int a1)] [] (St S) _
  refine ok_iload_n dX11_isPiece_0 1 rfl ?_
  refine ok_i2l dX11_isPiece_1 ?_
  refine ok_lconst (v := 0) dX11_isPiece_2 (by decide) ?_
  refine ok_aload_n dX11_isPiece_3 0 rfl ?_
  refine okS_getR dX11_isPiece_4 fl_X11_7 pr_153_0 ?_
  refine ok_iconst (v := 1) dX11_isPiece_7 ic_1 ?_
  refine okS_ialoadL (j := 1) dX11_isPiece_8 pa_154 (by decide) tnl_1 ?_
  refine ok_iconst (v := 1) dX11_isPiece_9 ic_1 ?_
  refine ok_isub dX11_isPiece_10 ?_
  refine ok_i2l dX11_isPiece_11 ?_
  obtain ⟨r1, e2, h⟩ := it_bind h
  refine okS_S (as := [.long a1.toInt64, .long 0, .long (((S.1 154 1) - 1).toInt64)]) (st := []) (r := some (.int r1)) (S' := S) dX11_isPiece_12 cv_X11_94 rfl (Nat.le_of_ble_eq_true rfl) ⟨⟨by decide, by decide⟩, rfl, rfl⟩ (t_X11_in e2) ?_
  show Ok D_X11_isPiece (0, 0) (0, 0) 15 [(0, .ref 153), (1, .int a1)] [.int r1] (St S) _
  obtain ⟨hb, h⟩ := it_some h
  exact okS_ret dX11_isPiece_15 rfl (nb hb) (by have e := Option.some.inj h; subst e; exact ⟨rfl, rfl⟩)
def f_X11_at (S : Mm) (a1 : Int32) (a2 : Int32) : Option (Int32) :=
  ((f_X11_isPiece S a1).bind fun r1 => (if r1 = 0 then some (-1000000001) else (if a2 = 0 then (if inb (6 + a1) 1634 then some (S.1 154 (6 + a1).toNatClampNeg) else none) else (if a2 = 1 then (if inb (46 + a1) 1634 then some (S.1 154 (46 + a1).toNatClampNeg) else none) else some (-1000000002)))))
set_option maxRecDepth 100000 in
set_option maxHeartbeats 4000000 in
theorem t_X11_at {S : Mm} {a1 : Int32} {a2 : Int32} {out : Int32} (h : f_X11_at S a1 a2 = some out) : Rs D_X11_at [.ref 153, .int a1, .int a2] S (some (.int out)) S := by
  refine rs_of (by decide) rfl (Nat.le_of_ble_eq_true rfl) ?_
  unfold f_X11_at at h
  show Ok D_X11_at (0, 0) (0, 0) 0 [(0, .ref 153), (1, .int a1), (2, .int a2)] [] (St S) _
  refine ok_aload_n dX11_at_0 0 rfl ?_
  refine ok_iload_n dX11_at_1 1 rfl ?_
  obtain ⟨r1, e2, h⟩ := it_bind h
  refine okS_V (as := [.int a1]) (st := []) (r := some (.int r1)) (S' := S) dX11_at_2 cv_X11_185 rfl po_153 (Nat.le_of_ble_eq_true rfl) ⟨⟨by decide, by decide⟩, rfl, rfl⟩ (t_X11_isPiece e2) ?_
  show Ok D_X11_at (0, 0) (0, 0) 5 [(0, .ref 153), (1, .int a1), (2, .int a2)] [.int r1] (St S) _
  refine ok_if_ne (tgt := 11) dX11_at_5 (by decide) (fun hc => ?_) (fun hc => ?_)
  · replace h := it_neg hc h
    refine ok_iload_n dX11_at_11 2 rfl ?_
    refine ok_if_ne (tgt := 27) dX11_at_12 (by decide) (fun hc => ?_) (fun hc => ?_)
    · replace h := it_neg hc h
      refine ok_iload_n dX11_at_27 2 rfl ?_
      refine ok_iconst (v := 1) dX11_at_28 ic_1 ?_
      refine ok_icmp_ne (tgt := 44) dX11_at_29 (by decide) (fun hc => ?_) (fun hc => ?_)
      · replace h := it_neg hc h
        refine ok_ldc (v := (-1000000002)) dX11_at_44 wd_998 ?_
        exact okS_ret dX11_at_46 rfl rfl (by have e := Option.some.inj h; subst e; exact ⟨rfl, rfl⟩)
      · replace h := it_pos hc h
        refine ok_aload_n dX11_at_32 0 rfl ?_
        refine okS_getR dX11_at_33 fl_X11_7 pr_153_0 ?_
        refine ok_bipush (v := 46) dX11_at_36 bi_46 ?_
        refine ok_iload_n dX11_at_38 1 rfl ?_
        refine ok_iadd dX11_at_39 ?_
        obtain ⟨hi3, h⟩ := it_some h
        refine okS_iaload dX11_at_40 pa_154 hi3 ?_
        refine ok_goto (tgt := 46) dX11_at_41 (by decide) ?_
        exact okS_ret dX11_at_46 rfl rfl (by have e := Option.some.inj h; subst e; exact ⟨rfl, rfl⟩)
    · replace h := it_pos hc h
      refine ok_aload_n dX11_at_15 0 rfl ?_
      refine okS_getR dX11_at_16 fl_X11_7 pr_153_0 ?_
      refine ok_bipush (v := 6) dX11_at_19 bi_6 ?_
      refine ok_iload_n dX11_at_21 1 rfl ?_
      refine ok_iadd dX11_at_22 ?_
      obtain ⟨hi4, h⟩ := it_some h
      refine okS_iaload dX11_at_23 pa_154 hi4 ?_
      refine ok_goto (tgt := 46) dX11_at_24 (by decide) ?_
      exact okS_ret dX11_at_46 rfl rfl (by have e := Option.some.inj h; subst e; exact ⟨rfl, rfl⟩)
  · replace h := it_pos hc h
    refine ok_ldc (v := (-1000000001)) dX11_at_8 wd_1127 ?_
    exact okS_ret dX11_at_10 rfl rfl (by have e := Option.some.inj h; subst e; exact ⟨rfl, rfl⟩)
def lp_X11_hot_4 (k : Int32 → Int32 → Mm → Option (Int32 × Mm)) (c1 : Int32) : Nat → Int32 → Int32 → Mm → Option (Int32 × Mm)
  | 0, _, _, _ => none
  | fuel + 1, x2, x3, S => (if 8 ≤ x3 then k x2 x3 S else ((f_X11_levelOf S x3 c1).bind fun r1 => (if r1.1 ≤ 0 then lp_X11_hot_4 k c1 fuel (x2 ||| 0) (x3 + 1) r1.2 else lp_X11_hot_4 k c1 fuel (x2 ||| (1 <<< (x3 &&& 31))) (x3 + 1) r1.2)))
def f_X11_hot (S : Mm) (a1 : Int32) : Option (Int32 × Mm) :=
  lp_X11_hot_4 (fun y2_3 y3_4 S5 => some (y2_3, S5)) a1 100000 0 0 S
set_option maxRecDepth 100000 in
set_option maxHeartbeats 4000000 in
theorem tlp_X11_hot_4 {k : Int32 → Int32 → Mm → Option (Int32 × Mm)} {c1 : Int32} (hk : ∀ (x2 x3 : Int32) (S : Mm) (out : Int32 × Mm), k x2 x3 S = some out → Ok D_X11_hot (0, 0) (0, 0) 35 [(0, .ref 153), (1, .int c1), (2, .int x2), (3, .int x3)] [] (St S) (An (some (.int out.1)) out.2)) : ∀ (fuel : Nat) (x2 x3 : Int32) (S : Mm) (out : Int32 × Mm), lp_X11_hot_4 k c1 fuel x2 x3 S = some out → Ok D_X11_hot (0, 0) (0, 0) 4 [(0, .ref 153), (1, .int c1), (2, .int x2), (3, .int x3)] [] (St S) (An (some (.int out.1)) out.2) := by
  intro fuel
  induction fuel with
  | zero => intro x2 x3 S out h; cases h
  | succ fuel ih =>
    intro x2 x3 S out h
    rw [lp_X11_hot_4] at h
    refine ok_iload_n dX11_hot_4 3 rfl ?_
    refine ok_bipush (v := 8) dX11_hot_5 bi_8 ?_
    refine ok_icmp_ge (tgt := 35) dX11_hot_7 (by decide) (fun hc => ?_) (fun hc => ?_)
    · replace h := it_pos hc h
      refine ok_perm [0, 1, 2, 3] rfl ?_
      exact hk _ _ _ _ h
    · replace h := it_neg hc h
      refine ok_iload_n dX11_hot_10 2 rfl ?_
      refine ok_aload_n dX11_hot_11 0 rfl ?_
      refine ok_iload_n dX11_hot_12 3 rfl ?_
      refine ok_iload_n dX11_hot_13 1 rfl ?_
      obtain ⟨r1, e2, h⟩ := it_bind h
      refine okS_V (as := [.int x3, .int c1]) (st := [.int x2]) (r := some (.int r1.1)) (S' := r1.2) dX11_hot_14 cv_X11_167 rfl po_153 (Nat.le_of_ble_eq_true rfl) ⟨⟨by decide, by decide⟩, rfl, rfl⟩ (t_X11_levelOf e2) ?_
      show Ok D_X11_hot (0, 0) (0, 0) 17 [(0, .ref 153), (1, .int c1), (2, .int x2), (3, .int x3)] [.int r1.1, .int x2] (St r1.2) _
      refine ok_if_le (tgt := 26) dX11_hot_17 (by decide) (fun hc => ?_) (fun hc => ?_)
      · replace h := it_pos hc h
        refine ok_iconst (v := 0) dX11_hot_26 ic_0 ?_
        refine ok_ior dX11_hot_27 ?_
        refine ok_istore_n (L' := [(2, .int (x2 ||| 0)), (0, .ref 153), (1, .int c1), (3, .int x3)]) dX11_hot_28 (by decide) rfl ?_
        refine ok_iinc (v := x3 + 1) (L' := [(3, .int (x3 + 1)), (2, .int (x2 ||| 0)), (0, .ref 153), (1, .int c1)]) dX11_hot_29 3 rfl (ii_1 _) (by decide) rfl ?_
        refine ok_goto (tgt := 4) dX11_hot_32 (by decide) ?_
        refine ok_perm [2, 3, 1, 0] rfl ?_
        exact ih _ _ _ _ h
      · replace h := it_neg hc h
        refine ok_iconst (v := 1) dX11_hot_20 ic_1 ?_
        refine ok_iload_n dX11_hot_21 3 rfl ?_
        refine ok_ishl dX11_hot_22 ?_
        refine ok_goto (tgt := 27) dX11_hot_23 (by decide) ?_
        refine ok_ior dX11_hot_27 ?_
        refine ok_istore_n (L' := [(2, .int (x2 ||| (1 <<< (x3 &&& 31)))), (0, .ref 153), (1, .int c1), (3, .int x3)]) dX11_hot_28 (by decide) rfl ?_
        refine ok_iinc (v := x3 + 1) (L' := [(3, .int (x3 + 1)), (2, .int (x2 ||| (1 <<< (x3 &&& 31)))), (0, .ref 153), (1, .int c1)]) dX11_hot_29 3 rfl (ii_1 _) (by decide) rfl ?_
        refine ok_goto (tgt := 4) dX11_hot_32 (by decide) ?_
        refine ok_perm [2, 3, 1, 0] rfl ?_
        exact ih _ _ _ _ h
set_option maxRecDepth 100000 in
set_option maxHeartbeats 4000000 in
theorem t_X11_hot {S : Mm} {a1 : Int32} {out : Int32 × Mm} (h : f_X11_hot S a1 = some out) : Rs D_X11_hot [.ref 153, .int a1] S (some (.int out.1)) out.2 := by
  refine rs_of (by decide) rfl (Nat.le_of_ble_eq_true rfl) ?_
  unfold f_X11_hot at h
  show Ok D_X11_hot (0, 0) (0, 0) 0 [(0, .ref 153), (1, .int a1)] [] (St S) _
  refine ok_iconst (v := 0) dX11_hot_0 ic_0 ?_
  refine ok_istore_n (L' := [(2, .int 0), (0, .ref 153), (1, .int a1)]) dX11_hot_1 (by decide) rfl ?_
  refine ok_iconst (v := 0) dX11_hot_2 ic_0 ?_
  refine ok_istore_n (L' := [(3, .int 0), (2, .int 0), (0, .ref 153), (1, .int a1)]) dX11_hot_3 (by decide) rfl ?_
  refine ok_perm [2, 3, 1, 0] rfl ?_
  refine tlp_X11_hot_4 (fun y2_3 y3_4 S5 out6 h => ?_) _ _ _ _ _ h
  refine ok_iload_n dX11_hot_35 2 rfl ?_
  exact okS_ret dX11_hot_36 rfl rfl (by have e := Option.some.inj h; subst e; exact ⟨rfl, rfl⟩)
def lp_X11_topOf_7 (k : Int32 → Int32 → Int32 → Mm → Option (Int32 × Mm)) (c1 : Int32) : Nat → Int32 → Int32 → Int32 → Mm → Option (Int32 × Mm)
  | 0, _, _, _, _ => none
  | fuel + 1, x2, x3, x4, S => (if 8 ≤ x4 then k x2 x3 x4 S else ((f_X11_levelOf S x4 c1).bind fun r1 => (if r1.1 = 0 then (if 0 ≤ x3 then (if 0 ≤ x3 then lp_X11_topOf_7 k c1 fuel x2 x3 (x4 + 1) r1.2 else lp_X11_topOf_7 k c1 fuel x2 0 (x4 + 1) r1.2) else (if 0 ≤ x3 then lp_X11_topOf_7 k c1 fuel x4 x3 (x4 + 1) r1.2 else lp_X11_topOf_7 k c1 fuel x4 0 (x4 + 1) r1.2)) else ((f_X11_count r1.2 c1 (1 <<< (x4 &&& 31))).bind fun r3 => (if ((100 * r1.1) + r3) ≤ x3 then (if ((100 * r1.1) + r3) ≤ x3 then lp_X11_topOf_7 k c1 fuel x2 x3 (x4 + 1) r1.2 else lp_X11_topOf_7 k c1 fuel x2 ((100 * r1.1) + r3) (x4 + 1) r1.2) else (if ((100 * r1.1) + r3) ≤ x3 then lp_X11_topOf_7 k c1 fuel x4 x3 (x4 + 1) r1.2 else lp_X11_topOf_7 k c1 fuel x4 ((100 * r1.1) + r3) (x4 + 1) r1.2))))))
def f_X11_topOf (S : Mm) (a1 : Int32) : Option (Int32 × Mm) :=
  lp_X11_topOf_7 (fun y2_5 y3_6 y4_7 S8 => some (y2_5, S8)) a1 100000 (-1) 0 0 S
set_option maxRecDepth 100000 in
set_option maxHeartbeats 4000000 in
theorem tlp_X11_topOf_7 {k : Int32 → Int32 → Int32 → Mm → Option (Int32 × Mm)} {c1 : Int32} (hk : ∀ (x2 x3 x4 : Int32) (S : Mm) (out : Int32 × Mm), k x2 x3 x4 S = some out → Ok D_X11_topOf (0, 0) (0, 0) 81 [(0, .ref 153), (1, .int c1), (2, .int x2), (3, .int x3), (4, .int x4)] [] (St S) (An (some (.int out.1)) out.2)) : ∀ (fuel : Nat) (x2 x3 x4 : Int32) (S : Mm) (out : Int32 × Mm), lp_X11_topOf_7 k c1 fuel x2 x3 x4 S = some out → Ok D_X11_topOf (0, 0) (0, 0) 7 [(0, .ref 153), (1, .int c1), (2, .int x2), (3, .int x3), (4, .int x4)] [] (St S) (An (some (.int out.1)) out.2) := by
  intro fuel
  induction fuel with
  | zero => intro x2 x3 x4 S out h; cases h
  | succ fuel ih =>
    intro x2 x3 x4 S out h
    rw [lp_X11_topOf_7] at h
    refine ok_iload dX11_topOf_7 4 rfl ?_
    refine ok_bipush (v := 8) dX11_topOf_9 bi_8 ?_
    refine ok_icmp_ge (tgt := 81) dX11_topOf_11 (by decide) (fun hc => ?_) (fun hc => ?_)
    · replace h := it_pos hc h
      refine ok_perm [0, 1, 2, 3, 4] rfl ?_
      exact hk _ _ _ _ _ h
    · replace h := it_neg hc h
      refine ok_aload_n dX11_topOf_14 0 rfl ?_
      refine ok_iload dX11_topOf_15 4 rfl ?_
      refine ok_iload_n dX11_topOf_17 1 rfl ?_
      obtain ⟨r1, e2, h⟩ := it_bind h
      refine okS_V (as := [.int x4, .int c1]) (st := []) (r := some (.int r1.1)) (S' := r1.2) dX11_topOf_18 cv_X11_167 rfl po_153 (Nat.le_of_ble_eq_true rfl) ⟨⟨by decide, by decide⟩, rfl, rfl⟩ (t_X11_levelOf e2) ?_
      show Ok D_X11_topOf (0, 0) (0, 0) 21 [(0, .ref 153), (1, .int c1), (2, .int x2), (3, .int x3), (4, .int x4)] [.int r1.1] (St r1.2) _
      refine ok_istore (L' := [(5, .int r1.1), (0, .ref 153), (1, .int c1), (2, .int x2), (3, .int x3), (4, .int x4)]) dX11_topOf_21 (by decide) rfl ?_
      refine ok_iload dX11_topOf_23 0 rfl ?_
      refine ok_if_ne (tgt := 32) dX11_topOf_25 (by decide) (fun hc => ?_) (fun hc => ?_)
      · replace h := it_neg hc h
        refine ok_bipush (v := 100) dX11_topOf_32 bi_100 ?_
        refine ok_iload dX11_topOf_34 0 rfl ?_
        refine ok_imul dX11_topOf_36 ?_
        refine ok_aload_n dX11_topOf_37 1 rfl ?_
        refine ok_iload_n dX11_topOf_38 2 rfl ?_
        refine ok_iconst (v := 1) dX11_topOf_39 ic_1 ?_
        refine ok_iload dX11_topOf_40 5 rfl ?_
        refine ok_ishl dX11_topOf_42 ?_
        obtain ⟨r3, e4, h⟩ := it_bind h
        refine okS_V (as := [.int c1, .int (1 <<< (x4 &&& 31))]) (st := [.int (100 * r1.1)]) (r := some (.int r3)) (S' := r1.2) dX11_topOf_43 cv_X11_66 rfl po_153 (Nat.le_of_ble_eq_true rfl) ⟨⟨by decide, by decide⟩, rfl, rfl⟩ (t_X11_count e4) ?_
        show Ok D_X11_topOf (0, 0) (0, 0) 46 [(5, .int r1.1), (0, .ref 153), (1, .int c1), (2, .int x2), (3, .int x3), (4, .int x4)] [.int r3, .int (100 * r1.1)] (St r1.2) _
        refine ok_iadd dX11_topOf_46 ?_
        refine ok_istore (L' := [(6, .int ((100 * r1.1) + r3)), (5, .int r1.1), (0, .ref 153), (1, .int c1), (2, .int x2), (3, .int x3), (4, .int x4)]) dX11_topOf_47 (by decide) rfl ?_
        refine ok_iload dX11_topOf_49 0 rfl ?_
        refine ok_iload_n dX11_topOf_51 5 rfl ?_
        refine ok_icmp_le (tgt := 60) dX11_topOf_52 (by decide) (fun hc => ?_) (fun hc => ?_)
        · replace h := it_pos hc h
          refine ok_iload_n dX11_topOf_60 4 rfl ?_
          refine ok_istore_n (L' := [(2, .int x2), (6, .int ((100 * r1.1) + r3)), (5, .int r1.1), (0, .ref 153), (1, .int c1), (3, .int x3), (4, .int x4)]) dX11_topOf_61 (by decide) rfl ?_
          refine ok_iload dX11_topOf_62 1 rfl ?_
          refine ok_iload_n dX11_topOf_64 5 rfl ?_
          refine ok_icmp_le (tgt := 73) dX11_topOf_65 (by decide) (fun hc => ?_) (fun hc => ?_)
          · replace h := it_pos hc h
            refine ok_iload_n dX11_topOf_73 5 rfl ?_
            refine ok_istore_n (L' := [(3, .int x3), (2, .int x2), (6, .int ((100 * r1.1) + r3)), (5, .int r1.1), (0, .ref 153), (1, .int c1), (4, .int x4)]) dX11_topOf_74 (by decide) rfl ?_
            refine ok_iinc (v := x4 + 1) (L' := [(4, .int (x4 + 1)), (3, .int x3), (2, .int x2), (6, .int ((100 * r1.1) + r3)), (5, .int r1.1), (0, .ref 153), (1, .int c1)]) dX11_topOf_75 6 rfl (ii_1 _) (by decide) rfl ?_
            refine ok_goto (tgt := 7) dX11_topOf_78 (by decide) ?_
            refine ok_perm [5, 6, 2, 1, 0] rfl ?_
            exact ih _ _ _ _ _ h
          · replace h := it_neg hc h
            refine ok_iload dX11_topOf_68 1 rfl ?_
            refine ok_goto (tgt := 74) dX11_topOf_70 (by decide) ?_
            refine ok_istore_n (L' := [(3, .int ((100 * r1.1) + r3)), (2, .int x2), (6, .int ((100 * r1.1) + r3)), (5, .int r1.1), (0, .ref 153), (1, .int c1), (4, .int x4)]) dX11_topOf_74 (by decide) rfl ?_
            refine ok_iinc (v := x4 + 1) (L' := [(4, .int (x4 + 1)), (3, .int ((100 * r1.1) + r3)), (2, .int x2), (6, .int ((100 * r1.1) + r3)), (5, .int r1.1), (0, .ref 153), (1, .int c1)]) dX11_topOf_75 6 rfl (ii_1 _) (by decide) rfl ?_
            refine ok_goto (tgt := 7) dX11_topOf_78 (by decide) ?_
            refine ok_perm [5, 6, 2, 1, 0] rfl ?_
            exact ih _ _ _ _ _ h
        · replace h := it_neg hc h
          refine ok_iload dX11_topOf_55 6 rfl ?_
          refine ok_goto (tgt := 61) dX11_topOf_57 (by decide) ?_
          refine ok_istore_n (L' := [(2, .int x4), (6, .int ((100 * r1.1) + r3)), (5, .int r1.1), (0, .ref 153), (1, .int c1), (3, .int x3), (4, .int x4)]) dX11_topOf_61 (by decide) rfl ?_
          refine ok_iload dX11_topOf_62 1 rfl ?_
          refine ok_iload_n dX11_topOf_64 5 rfl ?_
          refine ok_icmp_le (tgt := 73) dX11_topOf_65 (by decide) (fun hc => ?_) (fun hc => ?_)
          · replace h := it_pos hc h
            refine ok_iload_n dX11_topOf_73 5 rfl ?_
            refine ok_istore_n (L' := [(3, .int x3), (2, .int x4), (6, .int ((100 * r1.1) + r3)), (5, .int r1.1), (0, .ref 153), (1, .int c1), (4, .int x4)]) dX11_topOf_74 (by decide) rfl ?_
            refine ok_iinc (v := x4 + 1) (L' := [(4, .int (x4 + 1)), (3, .int x3), (2, .int x4), (6, .int ((100 * r1.1) + r3)), (5, .int r1.1), (0, .ref 153), (1, .int c1)]) dX11_topOf_75 6 rfl (ii_1 _) (by decide) rfl ?_
            refine ok_goto (tgt := 7) dX11_topOf_78 (by decide) ?_
            refine ok_perm [5, 6, 2, 1, 0] rfl ?_
            exact ih _ _ _ _ _ h
          · replace h := it_neg hc h
            refine ok_iload dX11_topOf_68 1 rfl ?_
            refine ok_goto (tgt := 74) dX11_topOf_70 (by decide) ?_
            refine ok_istore_n (L' := [(3, .int ((100 * r1.1) + r3)), (2, .int x4), (6, .int ((100 * r1.1) + r3)), (5, .int r1.1), (0, .ref 153), (1, .int c1), (4, .int x4)]) dX11_topOf_74 (by decide) rfl ?_
            refine ok_iinc (v := x4 + 1) (L' := [(4, .int (x4 + 1)), (3, .int ((100 * r1.1) + r3)), (2, .int x4), (6, .int ((100 * r1.1) + r3)), (5, .int r1.1), (0, .ref 153), (1, .int c1)]) dX11_topOf_75 6 rfl (ii_1 _) (by decide) rfl ?_
            refine ok_goto (tgt := 7) dX11_topOf_78 (by decide) ?_
            refine ok_perm [5, 6, 2, 1, 0] rfl ?_
            exact ih _ _ _ _ _ h
      · replace h := it_pos hc h
        refine ok_iconst (v := 0) dX11_topOf_28 ic_0 ?_
        refine ok_goto (tgt := 47) dX11_topOf_29 (by decide) ?_
        refine ok_istore (L' := [(6, .int 0), (5, .int r1.1), (0, .ref 153), (1, .int c1), (2, .int x2), (3, .int x3), (4, .int x4)]) dX11_topOf_47 (by decide) rfl ?_
        refine ok_iload dX11_topOf_49 0 rfl ?_
        refine ok_iload_n dX11_topOf_51 5 rfl ?_
        refine ok_icmp_le (tgt := 60) dX11_topOf_52 (by decide) (fun hc => ?_) (fun hc => ?_)
        · replace h := it_pos hc h
          refine ok_iload_n dX11_topOf_60 4 rfl ?_
          refine ok_istore_n (L' := [(2, .int x2), (6, .int 0), (5, .int r1.1), (0, .ref 153), (1, .int c1), (3, .int x3), (4, .int x4)]) dX11_topOf_61 (by decide) rfl ?_
          refine ok_iload dX11_topOf_62 1 rfl ?_
          refine ok_iload_n dX11_topOf_64 5 rfl ?_
          refine ok_icmp_le (tgt := 73) dX11_topOf_65 (by decide) (fun hc => ?_) (fun hc => ?_)
          · replace h := it_pos hc h
            refine ok_iload_n dX11_topOf_73 5 rfl ?_
            refine ok_istore_n (L' := [(3, .int x3), (2, .int x2), (6, .int 0), (5, .int r1.1), (0, .ref 153), (1, .int c1), (4, .int x4)]) dX11_topOf_74 (by decide) rfl ?_
            refine ok_iinc (v := x4 + 1) (L' := [(4, .int (x4 + 1)), (3, .int x3), (2, .int x2), (6, .int 0), (5, .int r1.1), (0, .ref 153), (1, .int c1)]) dX11_topOf_75 6 rfl (ii_1 _) (by decide) rfl ?_
            refine ok_goto (tgt := 7) dX11_topOf_78 (by decide) ?_
            refine ok_perm [5, 6, 2, 1, 0] rfl ?_
            exact ih _ _ _ _ _ h
          · replace h := it_neg hc h
            refine ok_iload dX11_topOf_68 1 rfl ?_
            refine ok_goto (tgt := 74) dX11_topOf_70 (by decide) ?_
            refine ok_istore_n (L' := [(3, .int 0), (2, .int x2), (6, .int 0), (5, .int r1.1), (0, .ref 153), (1, .int c1), (4, .int x4)]) dX11_topOf_74 (by decide) rfl ?_
            refine ok_iinc (v := x4 + 1) (L' := [(4, .int (x4 + 1)), (3, .int 0), (2, .int x2), (6, .int 0), (5, .int r1.1), (0, .ref 153), (1, .int c1)]) dX11_topOf_75 6 rfl (ii_1 _) (by decide) rfl ?_
            refine ok_goto (tgt := 7) dX11_topOf_78 (by decide) ?_
            refine ok_perm [5, 6, 2, 1, 0] rfl ?_
            exact ih _ _ _ _ _ h
        · replace h := it_neg hc h
          refine ok_iload dX11_topOf_55 6 rfl ?_
          refine ok_goto (tgt := 61) dX11_topOf_57 (by decide) ?_
          refine ok_istore_n (L' := [(2, .int x4), (6, .int 0), (5, .int r1.1), (0, .ref 153), (1, .int c1), (3, .int x3), (4, .int x4)]) dX11_topOf_61 (by decide) rfl ?_
          refine ok_iload dX11_topOf_62 1 rfl ?_
          refine ok_iload_n dX11_topOf_64 5 rfl ?_
          refine ok_icmp_le (tgt := 73) dX11_topOf_65 (by decide) (fun hc => ?_) (fun hc => ?_)
          · replace h := it_pos hc h
            refine ok_iload_n dX11_topOf_73 5 rfl ?_
            refine ok_istore_n (L' := [(3, .int x3), (2, .int x4), (6, .int 0), (5, .int r1.1), (0, .ref 153), (1, .int c1), (4, .int x4)]) dX11_topOf_74 (by decide) rfl ?_
            refine ok_iinc (v := x4 + 1) (L' := [(4, .int (x4 + 1)), (3, .int x3), (2, .int x4), (6, .int 0), (5, .int r1.1), (0, .ref 153), (1, .int c1)]) dX11_topOf_75 6 rfl (ii_1 _) (by decide) rfl ?_
            refine ok_goto (tgt := 7) dX11_topOf_78 (by decide) ?_
            refine ok_perm [5, 6, 2, 1, 0] rfl ?_
            exact ih _ _ _ _ _ h
          · replace h := it_neg hc h
            refine ok_iload dX11_topOf_68 1 rfl ?_
            refine ok_goto (tgt := 74) dX11_topOf_70 (by decide) ?_
            refine ok_istore_n (L' := [(3, .int 0), (2, .int x4), (6, .int 0), (5, .int r1.1), (0, .ref 153), (1, .int c1), (4, .int x4)]) dX11_topOf_74 (by decide) rfl ?_
            refine ok_iinc (v := x4 + 1) (L' := [(4, .int (x4 + 1)), (3, .int 0), (2, .int x4), (6, .int 0), (5, .int r1.1), (0, .ref 153), (1, .int c1)]) dX11_topOf_75 6 rfl (ii_1 _) (by decide) rfl ?_
            refine ok_goto (tgt := 7) dX11_topOf_78 (by decide) ?_
            refine ok_perm [5, 6, 2, 1, 0] rfl ?_
            exact ih _ _ _ _ _ h
set_option maxRecDepth 100000 in
set_option maxHeartbeats 4000000 in
theorem t_X11_topOf {S : Mm} {a1 : Int32} {out : Int32 × Mm} (h : f_X11_topOf S a1 = some out) : Rs D_X11_topOf [.ref 153, .int a1] S (some (.int out.1)) out.2 := by
  refine rs_of (by decide) rfl (Nat.le_of_ble_eq_true rfl) ?_
  unfold f_X11_topOf at h
  show Ok D_X11_topOf (0, 0) (0, 0) 0 [(0, .ref 153), (1, .int a1)] [] (St S) _
  refine ok_iconst (v := (-1)) dX11_topOf_0 ic_m1 ?_
  refine ok_istore_n (L' := [(2, .int (-1)), (0, .ref 153), (1, .int a1)]) dX11_topOf_1 (by decide) rfl ?_
  refine ok_iconst (v := 0) dX11_topOf_2 ic_0 ?_
  refine ok_istore_n (L' := [(3, .int 0), (2, .int (-1)), (0, .ref 153), (1, .int a1)]) dX11_topOf_3 (by decide) rfl ?_
  refine ok_iconst (v := 0) dX11_topOf_4 ic_0 ?_
  refine ok_istore (L' := [(4, .int 0), (3, .int 0), (2, .int (-1)), (0, .ref 153), (1, .int a1)]) dX11_topOf_5 (by decide) rfl ?_
  refine ok_perm [3, 4, 2, 1, 0] rfl ?_
  refine tlp_X11_topOf_7 (fun y2_5 y3_6 y4_7 S8 out9 h => ?_) _ _ _ _ _ _ h
  refine ok_iload_n dX11_topOf_81 2 rfl ?_
  exact okS_ret dX11_topOf_82 rfl rfl (by have e := Option.some.inj h; subst e; exact ⟨rfl, rfl⟩)
def f_X11_day (S : Mm) (a1 : Int32) (a2 : Int32) : Option (Int32 × Mm) :=
  ((f_X11_isDay S a1).bind fun r1 => (if r1 = 0 then some ((-1000000001), S) else (if a2 = 0 then ((f_X11_count S a1 0).bind fun r4 => some (r4, S)) else (if a2 = 1 then ((f_X11_hot S a1).bind fun r7 => some (r7.1, r7.2)) else (if a2 = 2 then ((f_X11_topOf S a1).bind fun r10 => some (r10.1, r10.2)) else some ((-1000000002), S))))))
set_option maxRecDepth 100000 in
set_option maxHeartbeats 4000000 in
theorem t_X11_day {S : Mm} {a1 : Int32} {a2 : Int32} {out : Int32 × Mm} (h : f_X11_day S a1 a2 = some out) : Rs D_X11_day [.ref 153, .int a1, .int a2] S (some (.int out.1)) out.2 := by
  refine rs_of (by decide) rfl (Nat.le_of_ble_eq_true rfl) ?_
  unfold f_X11_day at h
  show Ok D_X11_day (0, 0) (0, 0) 0 [(0, .ref 153), (1, .int a1), (2, .int a2)] [] (St S) _
  refine ok_aload_n dX11_day_0 0 rfl ?_
  refine ok_iload_n dX11_day_1 1 rfl ?_
  obtain ⟨r1, e2, h⟩ := it_bind h
  refine okS_V (as := [.int a1]) (st := []) (r := some (.int r1)) (S' := S) dX11_day_2 cv_X11_164 rfl po_153 (Nat.le_of_ble_eq_true rfl) ⟨⟨by decide, by decide⟩, rfl, rfl⟩ (t_X11_isDay e2) ?_
  show Ok D_X11_day (0, 0) (0, 0) 5 [(0, .ref 153), (1, .int a1), (2, .int a2)] [.int r1] (St S) _
  refine ok_if_ne (tgt := 11) dX11_day_5 (by decide) (fun hc => ?_) (fun hc => ?_)
  · replace h := it_neg hc h
    refine ok_iload_n dX11_day_11 2 rfl ?_
    by_cases hx3 : a2 = 0
    · replace h := it_pos hx3 h
      refine ok_tableIn (tgt := 40) dX11_day_12 (by rw [hx3]; decide) (by rw [hx3]; decide) (by rw [hx3]; rfl) (by decide) ?_
      refine ok_aload_n dX11_day_40 0 rfl ?_
      refine ok_iload_n dX11_day_41 1 rfl ?_
      refine ok_iconst (v := 0) dX11_day_42 ic_0 ?_
      obtain ⟨r4, e5, h⟩ := it_bind h
      refine okS_V (as := [.int a1, .int 0]) (st := []) (r := some (.int r4)) (S' := S) dX11_day_43 cv_X11_66 rfl po_153 (Nat.le_of_ble_eq_true rfl) ⟨⟨by decide, by decide⟩, rfl, rfl⟩ (t_X11_count e5) ?_
      show Ok D_X11_day (0, 0) (0, 0) 46 [(0, .ref 153), (1, .int a1), (2, .int a2)] [.int r4] (St S) _
      exact okS_ret dX11_day_46 rfl rfl (by have e := Option.some.inj h; subst e; exact ⟨rfl, rfl⟩)
    · replace h := it_neg hx3 h
      by_cases hx6 : a2 = 1
      · replace h := it_pos hx6 h
        refine ok_tableIn (tgt := 47) dX11_day_12 (by rw [hx6]; decide) (by rw [hx6]; decide) (by rw [hx6]; rfl) (by decide) ?_
        refine ok_aload_n dX11_day_47 0 rfl ?_
        refine ok_iload_n dX11_day_48 1 rfl ?_
        obtain ⟨r7, e8, h⟩ := it_bind h
        refine okS_V (as := [.int a1]) (st := []) (r := some (.int r7.1)) (S' := r7.2) dX11_day_49 cv_X11_189 rfl po_153 (Nat.le_of_ble_eq_true rfl) ⟨⟨by decide, by decide⟩, rfl, rfl⟩ (t_X11_hot e8) ?_
        show Ok D_X11_day (0, 0) (0, 0) 52 [(0, .ref 153), (1, .int a1), (2, .int a2)] [.int r7.1] (St r7.2) _
        exact okS_ret dX11_day_52 rfl rfl (by have e := Option.some.inj h; subst e; exact ⟨rfl, rfl⟩)
      · replace h := it_neg hx6 h
        by_cases hx9 : a2 = 2
        · replace h := it_pos hx9 h
          refine ok_tableIn (tgt := 53) dX11_day_12 (by rw [hx9]; decide) (by rw [hx9]; decide) (by rw [hx9]; rfl) (by decide) ?_
          refine ok_aload_n dX11_day_53 0 rfl ?_
          refine ok_iload_n dX11_day_54 1 rfl ?_
          obtain ⟨r10, e11, h⟩ := it_bind h
          refine okS_V (as := [.int a1]) (st := []) (r := some (.int r10.1)) (S' := r10.2) dX11_day_55 cv_X11_192 rfl po_153 (Nat.le_of_ble_eq_true rfl) ⟨⟨by decide, by decide⟩, rfl, rfl⟩ (t_X11_topOf e11) ?_
          show Ok D_X11_day (0, 0) (0, 0) 58 [(0, .ref 153), (1, .int a1), (2, .int a2)] [.int r10.1] (St r10.2) _
          exact okS_ret dX11_day_58 rfl rfl (by have e := Option.some.inj h; subst e; exact ⟨rfl, rfl⟩)
        · replace h := it_neg hx9 h
          refine ok_tableOut (tgt := 59) dX11_day_12 (sw_out a2 (by intro n h1 h2; rcases (show n = 0 ∨ n = 1 ∨ n = 2 by omega) with rfl | rfl | rfl <;> assumption)) (by decide) ?_
          refine ok_ldc (v := (-1000000002)) dX11_day_59 wd_998 ?_
          exact okS_ret dX11_day_61 rfl rfl (by have e := Option.some.inj h; subst e; exact ⟨rfl, rfl⟩)
  · replace h := it_pos hc h
    refine ok_ldc (v := (-1000000001)) dX11_day_8 wd_1127 ?_
    exact okS_ret dX11_day_10 rfl rfl (by have e := Option.some.inj h; subst e; exact ⟨rfl, rfl⟩)
def f_X11_word (S : Mm) (a1 : Int32) (a2 : Int32) (a3 : Int32) : Option (Int32 × Mm) :=
  ((f_X11_isWord S a1).bind fun r1 => (if r1 = 0 then some ((-1000000001), S) else ((f_X11_isDay S a2).bind fun r3 => (if r3 = 0 then some ((-1000000001), S) else (if a3 = 0 then ((f_X11_count S a2 (1 <<< (a1 &&& 31))).bind fun r6 => some (r6, S)) else (if a3 = 1 then ((f_X11_levelOf S a1 a2).bind fun r9 => some (r9.1, r9.2)) else (if a3 = 2 then (if (S.1 154 2) < (a3 - 2) then some ((-1), S) else ((f_X11_wanted S a1 a2 (a3 - 2)).bind fun r12 => some (r12, S))) else (if a3 = 3 then (if (S.1 154 2) < (a3 - 2) then some ((-1), S) else ((f_X11_wanted S a1 a2 (a3 - 2)).bind fun r15 => some (r15, S))) else (if a3 = 4 then (if (S.1 154 2) < (a3 - 2) then some ((-1), S) else ((f_X11_wanted S a1 a2 (a3 - 2)).bind fun r18 => some (r18, S))) else (if a3 = 5 then (if (S.1 154 2) < (a3 - 2) then some ((-1), S) else ((f_X11_wanted S a1 a2 (a3 - 2)).bind fun r21 => some (r21, S))) else some ((-1000000002), S)))))))))))
set_option maxRecDepth 100000 in
set_option maxHeartbeats 4000000 in
theorem t_X11_word {S : Mm} {a1 : Int32} {a2 : Int32} {a3 : Int32} {out : Int32 × Mm} (h : f_X11_word S a1 a2 a3 = some out) : Rs D_X11_word [.ref 153, .int a1, .int a2, .int a3] S (some (.int out.1)) out.2 := by
  refine rs_of (by decide) rfl (Nat.le_of_ble_eq_true rfl) ?_
  unfold f_X11_word at h
  show Ok D_X11_word (0, 0) (0, 0) 0 [(0, .ref 153), (1, .int a1), (2, .int a2), (3, .int a3)] [] (St S) _
  refine ok_iload_n dX11_word_0 1 rfl ?_
  obtain ⟨r1, e2, h⟩ := it_bind h
  refine okS_S (as := [.int a1]) (st := []) (r := some (.int r1)) (S' := S) dX11_word_1 cv_X11_195 rfl (Nat.le_of_ble_eq_true rfl) ⟨⟨by decide, by decide⟩, rfl, rfl⟩ (t_X11_isWord e2) ?_
  show Ok D_X11_word (0, 0) (0, 0) 4 [(0, .ref 153), (1, .int a1), (2, .int a2), (3, .int a3)] [.int r1] (St S) _
  refine ok_if_eq (tgt := 15) dX11_word_4 (by decide) (fun hc => ?_) (fun hc => ?_)
  · replace h := it_pos hc h
    refine ok_ldc (v := (-1000000001)) dX11_word_15 wd_1127 ?_
    exact okS_ret dX11_word_17 rfl rfl (by have e := Option.some.inj h; subst e; exact ⟨rfl, rfl⟩)
  · replace h := it_neg hc h
    refine ok_aload_n dX11_word_7 0 rfl ?_
    refine ok_iload_n dX11_word_8 2 rfl ?_
    obtain ⟨r3, e4, h⟩ := it_bind h
    refine okS_V (as := [.int a2]) (st := []) (r := some (.int r3)) (S' := S) dX11_word_9 cv_X11_164 rfl po_153 (Nat.le_of_ble_eq_true rfl) ⟨⟨by decide, by decide⟩, rfl, rfl⟩ (t_X11_isDay e4) ?_
    show Ok D_X11_word (0, 0) (0, 0) 12 [(0, .ref 153), (1, .int a1), (2, .int a2), (3, .int a3)] [.int r3] (St S) _
    refine ok_if_ne (tgt := 18) dX11_word_12 (by decide) (fun hc => ?_) (fun hc => ?_)
    · replace h := it_neg hc h
      refine ok_iload_n dX11_word_18 3 rfl ?_
      by_cases hx5 : a3 = 0
      · replace h := it_pos hx5 h
        refine ok_tableIn (tgt := 56) dX11_word_19 (by rw [hx5]; decide) (by rw [hx5]; decide) (by rw [hx5]; rfl) (by decide) ?_
        refine ok_aload_n dX11_word_56 0 rfl ?_
        refine ok_iload_n dX11_word_57 2 rfl ?_
        refine ok_iconst (v := 1) dX11_word_58 ic_1 ?_
        refine ok_iload_n dX11_word_59 1 rfl ?_
        refine ok_ishl dX11_word_60 ?_
        obtain ⟨r6, e7, h⟩ := it_bind h
        refine okS_V (as := [.int a2, .int (1 <<< (a1 &&& 31))]) (st := []) (r := some (.int r6)) (S' := S) dX11_word_61 cv_X11_66 rfl po_153 (Nat.le_of_ble_eq_true rfl) ⟨⟨by decide, by decide⟩, rfl, rfl⟩ (t_X11_count e7) ?_
        show Ok D_X11_word (0, 0) (0, 0) 64 [(0, .ref 153), (1, .int a1), (2, .int a2), (3, .int a3)] [.int r6] (St S) _
        exact okS_ret dX11_word_64 rfl rfl (by have e := Option.some.inj h; subst e; exact ⟨rfl, rfl⟩)
      · replace h := it_neg hx5 h
        by_cases hx8 : a3 = 1
        · replace h := it_pos hx8 h
          refine ok_tableIn (tgt := 65) dX11_word_19 (by rw [hx8]; decide) (by rw [hx8]; decide) (by rw [hx8]; rfl) (by decide) ?_
          refine ok_aload_n dX11_word_65 0 rfl ?_
          refine ok_iload_n dX11_word_66 1 rfl ?_
          refine ok_iload_n dX11_word_67 2 rfl ?_
          obtain ⟨r9, e10, h⟩ := it_bind h
          refine okS_V (as := [.int a1, .int a2]) (st := []) (r := some (.int r9.1)) (S' := r9.2) dX11_word_68 cv_X11_167 rfl po_153 (Nat.le_of_ble_eq_true rfl) ⟨⟨by decide, by decide⟩, rfl, rfl⟩ (t_X11_levelOf e10) ?_
          show Ok D_X11_word (0, 0) (0, 0) 71 [(0, .ref 153), (1, .int a1), (2, .int a2), (3, .int a3)] [.int r9.1] (St r9.2) _
          exact okS_ret dX11_word_71 rfl rfl (by have e := Option.some.inj h; subst e; exact ⟨rfl, rfl⟩)
        · replace h := it_neg hx8 h
          by_cases hx11 : a3 = 2
          · replace h := it_pos hx11 h
            refine ok_tableIn (tgt := 72) dX11_word_19 (by rw [hx11]; decide) (by rw [hx11]; decide) (by rw [hx11]; rfl) (by decide) ?_
            refine ok_iload_n dX11_word_72 3 rfl ?_
            refine ok_iconst (v := 2) dX11_word_73 ic_2 ?_
            refine ok_isub dX11_word_74 ?_
            refine ok_aload_n dX11_word_75 0 rfl ?_
            refine okS_getR dX11_word_76 fl_X11_7 pr_153_0 ?_
            refine ok_iconst (v := 2) dX11_word_79 ic_2 ?_
            refine okS_ialoadL (j := 2) dX11_word_80 pa_154 (by decide) tnl_2 ?_
            refine ok_icmp_gt (tgt := 96) dX11_word_81 (by decide) (fun hc => ?_) (fun hc => ?_)
            · replace h := it_pos hc h
              refine ok_iconst (v := (-1)) dX11_word_96 ic_m1 ?_
              exact okS_ret dX11_word_97 rfl rfl (by have e := Option.some.inj h; subst e; exact ⟨rfl, rfl⟩)
            · replace h := it_neg hc h
              refine ok_aload_n dX11_word_84 0 rfl ?_
              refine ok_iload_n dX11_word_85 1 rfl ?_
              refine ok_iload_n dX11_word_86 2 rfl ?_
              refine ok_iload_n dX11_word_87 3 rfl ?_
              refine ok_iconst (v := 2) dX11_word_88 ic_2 ?_
              refine ok_isub dX11_word_89 ?_
              obtain ⟨r12, e13, h⟩ := it_bind h
              refine okS_V (as := [.int a1, .int a2, .int (a3 - 2)]) (st := []) (r := some (.int r12)) (S' := S) dX11_word_90 cv_X11_70 rfl po_153 (Nat.le_of_ble_eq_true rfl) ⟨⟨by decide, by decide⟩, rfl, rfl⟩ (t_X11_wanted e13) ?_
              show Ok D_X11_word (0, 0) (0, 0) 93 [(0, .ref 153), (1, .int a1), (2, .int a2), (3, .int a3)] [.int r12] (St S) _
              refine ok_goto (tgt := 97) dX11_word_93 (by decide) ?_
              exact okS_ret dX11_word_97 rfl rfl (by have e := Option.some.inj h; subst e; exact ⟨rfl, rfl⟩)
          · replace h := it_neg hx11 h
            by_cases hx14 : a3 = 3
            · replace h := it_pos hx14 h
              refine ok_tableIn (tgt := 72) dX11_word_19 (by rw [hx14]; decide) (by rw [hx14]; decide) (by rw [hx14]; rfl) (by decide) ?_
              refine ok_iload_n dX11_word_72 3 rfl ?_
              refine ok_iconst (v := 2) dX11_word_73 ic_2 ?_
              refine ok_isub dX11_word_74 ?_
              refine ok_aload_n dX11_word_75 0 rfl ?_
              refine okS_getR dX11_word_76 fl_X11_7 pr_153_0 ?_
              refine ok_iconst (v := 2) dX11_word_79 ic_2 ?_
              refine okS_ialoadL (j := 2) dX11_word_80 pa_154 (by decide) tnl_2 ?_
              refine ok_icmp_gt (tgt := 96) dX11_word_81 (by decide) (fun hc => ?_) (fun hc => ?_)
              · replace h := it_pos hc h
                refine ok_iconst (v := (-1)) dX11_word_96 ic_m1 ?_
                exact okS_ret dX11_word_97 rfl rfl (by have e := Option.some.inj h; subst e; exact ⟨rfl, rfl⟩)
              · replace h := it_neg hc h
                refine ok_aload_n dX11_word_84 0 rfl ?_
                refine ok_iload_n dX11_word_85 1 rfl ?_
                refine ok_iload_n dX11_word_86 2 rfl ?_
                refine ok_iload_n dX11_word_87 3 rfl ?_
                refine ok_iconst (v := 2) dX11_word_88 ic_2 ?_
                refine ok_isub dX11_word_89 ?_
                obtain ⟨r15, e16, h⟩ := it_bind h
                refine okS_V (as := [.int a1, .int a2, .int (a3 - 2)]) (st := []) (r := some (.int r15)) (S' := S) dX11_word_90 cv_X11_70 rfl po_153 (Nat.le_of_ble_eq_true rfl) ⟨⟨by decide, by decide⟩, rfl, rfl⟩ (t_X11_wanted e16) ?_
                show Ok D_X11_word (0, 0) (0, 0) 93 [(0, .ref 153), (1, .int a1), (2, .int a2), (3, .int a3)] [.int r15] (St S) _
                refine ok_goto (tgt := 97) dX11_word_93 (by decide) ?_
                exact okS_ret dX11_word_97 rfl rfl (by have e := Option.some.inj h; subst e; exact ⟨rfl, rfl⟩)
            · replace h := it_neg hx14 h
              by_cases hx17 : a3 = 4
              · replace h := it_pos hx17 h
                refine ok_tableIn (tgt := 72) dX11_word_19 (by rw [hx17]; decide) (by rw [hx17]; decide) (by rw [hx17]; rfl) (by decide) ?_
                refine ok_iload_n dX11_word_72 3 rfl ?_
                refine ok_iconst (v := 2) dX11_word_73 ic_2 ?_
                refine ok_isub dX11_word_74 ?_
                refine ok_aload_n dX11_word_75 0 rfl ?_
                refine okS_getR dX11_word_76 fl_X11_7 pr_153_0 ?_
                refine ok_iconst (v := 2) dX11_word_79 ic_2 ?_
                refine okS_ialoadL (j := 2) dX11_word_80 pa_154 (by decide) tnl_2 ?_
                refine ok_icmp_gt (tgt := 96) dX11_word_81 (by decide) (fun hc => ?_) (fun hc => ?_)
                · replace h := it_pos hc h
                  refine ok_iconst (v := (-1)) dX11_word_96 ic_m1 ?_
                  exact okS_ret dX11_word_97 rfl rfl (by have e := Option.some.inj h; subst e; exact ⟨rfl, rfl⟩)
                · replace h := it_neg hc h
                  refine ok_aload_n dX11_word_84 0 rfl ?_
                  refine ok_iload_n dX11_word_85 1 rfl ?_
                  refine ok_iload_n dX11_word_86 2 rfl ?_
                  refine ok_iload_n dX11_word_87 3 rfl ?_
                  refine ok_iconst (v := 2) dX11_word_88 ic_2 ?_
                  refine ok_isub dX11_word_89 ?_
                  obtain ⟨r18, e19, h⟩ := it_bind h
                  refine okS_V (as := [.int a1, .int a2, .int (a3 - 2)]) (st := []) (r := some (.int r18)) (S' := S) dX11_word_90 cv_X11_70 rfl po_153 (Nat.le_of_ble_eq_true rfl) ⟨⟨by decide, by decide⟩, rfl, rfl⟩ (t_X11_wanted e19) ?_
                  show Ok D_X11_word (0, 0) (0, 0) 93 [(0, .ref 153), (1, .int a1), (2, .int a2), (3, .int a3)] [.int r18] (St S) _
                  refine ok_goto (tgt := 97) dX11_word_93 (by decide) ?_
                  exact okS_ret dX11_word_97 rfl rfl (by have e := Option.some.inj h; subst e; exact ⟨rfl, rfl⟩)
              · replace h := it_neg hx17 h
                by_cases hx20 : a3 = 5
                · replace h := it_pos hx20 h
                  refine ok_tableIn (tgt := 72) dX11_word_19 (by rw [hx20]; decide) (by rw [hx20]; decide) (by rw [hx20]; rfl) (by decide) ?_
                  refine ok_iload_n dX11_word_72 3 rfl ?_
                  refine ok_iconst (v := 2) dX11_word_73 ic_2 ?_
                  refine ok_isub dX11_word_74 ?_
                  refine ok_aload_n dX11_word_75 0 rfl ?_
                  refine okS_getR dX11_word_76 fl_X11_7 pr_153_0 ?_
                  refine ok_iconst (v := 2) dX11_word_79 ic_2 ?_
                  refine okS_ialoadL (j := 2) dX11_word_80 pa_154 (by decide) tnl_2 ?_
                  refine ok_icmp_gt (tgt := 96) dX11_word_81 (by decide) (fun hc => ?_) (fun hc => ?_)
                  · replace h := it_pos hc h
                    refine ok_iconst (v := (-1)) dX11_word_96 ic_m1 ?_
                    exact okS_ret dX11_word_97 rfl rfl (by have e := Option.some.inj h; subst e; exact ⟨rfl, rfl⟩)
                  · replace h := it_neg hc h
                    refine ok_aload_n dX11_word_84 0 rfl ?_
                    refine ok_iload_n dX11_word_85 1 rfl ?_
                    refine ok_iload_n dX11_word_86 2 rfl ?_
                    refine ok_iload_n dX11_word_87 3 rfl ?_
                    refine ok_iconst (v := 2) dX11_word_88 ic_2 ?_
                    refine ok_isub dX11_word_89 ?_
                    obtain ⟨r21, e22, h⟩ := it_bind h
                    refine okS_V (as := [.int a1, .int a2, .int (a3 - 2)]) (st := []) (r := some (.int r21)) (S' := S) dX11_word_90 cv_X11_70 rfl po_153 (Nat.le_of_ble_eq_true rfl) ⟨⟨by decide, by decide⟩, rfl, rfl⟩ (t_X11_wanted e22) ?_
                    show Ok D_X11_word (0, 0) (0, 0) 93 [(0, .ref 153), (1, .int a1), (2, .int a2), (3, .int a3)] [.int r21] (St S) _
                    refine ok_goto (tgt := 97) dX11_word_93 (by decide) ?_
                    exact okS_ret dX11_word_97 rfl rfl (by have e := Option.some.inj h; subst e; exact ⟨rfl, rfl⟩)
                · replace h := it_neg hx20 h
                  refine ok_tableOut (tgt := 98) dX11_word_19 (sw_out a3 (by intro n h1 h2; rcases (show n = 0 ∨ n = 1 ∨ n = 2 ∨ n = 3 ∨ n = 4 ∨ n = 5 by omega) with rfl | rfl | rfl | rfl | rfl | rfl <;> assumption)) (by decide) ?_
                  refine ok_ldc (v := (-1000000002)) dX11_word_98 wd_998 ?_
                  exact okS_ret dX11_word_100 rfl rfl (by have e := Option.some.inj h; subst e; exact ⟨rfl, rfl⟩)
    · replace h := it_pos hc h
      refine ok_ldc (v := (-1000000001)) dX11_word_15 wd_1127 ?_
      exact okS_ret dX11_word_17 rfl rfl (by have e := Option.some.inj h; subst e; exact ⟨rfl, rfl⟩)
