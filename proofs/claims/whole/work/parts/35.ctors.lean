theorem kR_kd {M : Mem} {o j a : Nat} {v : Option Nat} : (mR M o j v).2.1 a = M.2.1 a := rfl
theorem kI_kd {M : Mem} {o j a : Nat} {v : Int32} : (mI M o j v).2.1 a = M.2.1 a := rfl
theorem kI_R {M : Mem} {o j a b : Nat} {v : Int32} : (mI M o j v).2.2.2 a b = M.2.2.2 a b := rfl
theorem kr_set {M : Mem} {o j : Nat} {v : Option Nat} : (mR M o j v).2.2.2 o j = v := u2_s _ _ _ _
theorem kr_ne {M : Mem} {o j a b : Nat} {v : Option Nat} (h : ¬ (a = o ∧ b = j)) : (mR M o j v).2.2.2 a b = M.2.2.2 a b := if_neg h
theorem kn_new {M : Mem} {d : Kd} {n : Nat} (hn : M.1 = n) : (mNew M d).2.1 n = d := if_pos hn.symm
theorem kn_old {M : Mem} {d : Kd} {a : Nat} (h : a < M.1) : (mNew M d).2.1 a = M.2.1 a := if_neg (Nat.ne_of_lt h)
theorem kg_old {M : Mem} {N K a : Nat} (h : a < M.1) : (mGrid M N K).2.1 a = M.2.1 a := if_pos h
theorem kr_old {M : Mem} {d : Kd} {a j : Nat} (h : a < M.1) : (mNew M d).2.2.2 a j = M.2.2.2 a j := if_neg (Nat.ne_of_lt h)
theorem kq_old {M : Mem} {N K a j : Nat} (h : a < M.1) : (mGrid M N K).2.2.2 a j = M.2.2.2 a j := if_pos h
theorem nw_kd {M : Mem} {o a : Nat} (h : a < M.1) : (nwNews M o).2.1 a = M.2.1 a := by
  show (if a = M.1 + 1 + 1 then _ else if a = M.1 + 1 then _ else if a = M.1 then _ else M.2.1 a) = M.2.1 a
  rw [if_neg (by omega), if_neg (by omega), if_neg (by omega)]
theorem nw_R {M : Mem} {o a j : Nat} (h : a < M.1) (hne : a ≠ o) : (nwNews M o).2.2.2 a j = M.2.2.2 a j := by
  show u2 (fun k j => if k = M.1 + 1 + 1 then none else u2 (fun k j => if k = M.1 + 1 then none else u2 (fun k j => if k = M.1 then none else M.2.2.2 k j) o 0 (some M.1) k j) o 1 (some (M.1 + 1)) k j) o 2 (some (M.1 + 2)) a j = _
  rw [u2_k _ _ hne, if_neg (by omega), u2_k _ _ hne, if_neg (by omega), u2_k _ _ hne, if_neg (by omega)]
def cm_0 : Mem := (0, fun _ => (0, 0), fun _ _ => 0, fun _ _ => none)
theorem cn_0 : cm_0.1 = 0 := rfl
def cm_1 : Mem := mNew cm_0 (10, 9)
theorem cn_1 : cm_1.1 = 1 := by rw [cm_1]; show cm_0.1 + 1 = 1; rw [cn_0]
def cm_2 : Mem := mNew cm_1 (6, 5)
theorem cn_2 : cm_2.1 = 2 := by rw [cm_2]; show cm_1.1 + 1 = 2; rw [cn_1]
def cm_3 : Mem := nwNews cm_2 1
theorem cn_3 : cm_3.1 = 5 := by rw [cm_3]; show cm_2.1 + 1 + 1 + 1 = 5; rw [cn_2]
theorem ck_2_1 : cm_2.2.1 1 = (6, 5) := by rw [cm_2]; exact kn_new (M := cm_1) cn_1
theorem ck_1_0 : cm_1.2.1 0 = (10, 9) := by rw [cm_1]; exact kn_new (M := cm_0) cn_0
theorem ck_2_0 : cm_2.2.1 0 = (10, 9) := by rw [cm_2]; exact (kn_old (M := cm_1) (by rw [cn_1]; decide)).trans ck_1_0
theorem ck_3_0 : cm_3.2.1 0 = (10, 9) := by rw [cm_3]; exact (nw_kd (M := cm_2) (by rw [cn_2]; decide)).trans ck_2_0
def cm_4 : Mem := mR cm_3 0 0 (some 1)
theorem cn_4 : cm_4.1 = 5 := by rw [cm_4]; exact cn_3
def cm_5 : Mem := mNew cm_4 (2, 4)
theorem cn_5 : cm_5.1 = 6 := by rw [cm_5]; show cm_4.1 + 1 = 6; rw [cn_4]
def cm_6 : Mem := mNew cm_5 (8, 8)
theorem cn_6 : cm_6.1 = 7 := by rw [cm_6]; show cm_5.1 + 1 = 7; rw [cn_5]
def cm_7 : Mem := mNew cm_6 (12, 12)
theorem cn_7 : cm_7.1 = 8 := by rw [cm_7]; show cm_6.1 + 1 = 8; rw [cn_6]
theorem ck_6_6 : cm_6.2.1 6 = (8, 8) := by rw [cm_6]; exact kn_new (M := cm_5) cn_5
theorem ck_7_6 : cm_7.2.1 6 = (8, 8) := by rw [cm_7]; exact (kn_old (M := cm_6) (by rw [cn_6]; decide)).trans ck_6_6
def cm_8 : Mem := mR cm_7 6 0 (some 7)
theorem cn_8 : cm_8.1 = 8 := by rw [cm_8]; exact cn_7
def cm_9 : Mem := mGrid cm_8 8 12
theorem cn_9 : cm_9.1 = 17 := by rw [cm_9]; show cm_8.1 + 1 + 8 = 17; rw [cn_8]
theorem ck_8_6 : cm_8.2.1 6 = (8, 8) := by rw [cm_8]; exact (kR_kd).trans ck_7_6
theorem ck_9_6 : cm_9.2.1 6 = (8, 8) := by rw [cm_9]; exact (kg_old (M := cm_8) (by rw [cn_8]; decide)).trans ck_8_6
def cm_10 : Mem := mR cm_9 6 1 (some 8)
theorem cn_10 : cm_10.1 = 17 := by rw [cm_10]; exact cn_9
def cm_11 : Mem := mGrid cm_10 8 12
theorem cn_11 : cm_11.1 = 26 := by rw [cm_11]; show cm_10.1 + 1 + 8 = 26; rw [cn_10]
theorem ck_10_6 : cm_10.2.1 6 = (8, 8) := by rw [cm_10]; exact (kR_kd).trans ck_9_6
theorem ck_11_6 : cm_11.2.1 6 = (8, 8) := by rw [cm_11]; exact (kg_old (M := cm_10) (by rw [cn_10]; decide)).trans ck_10_6
def cm_12 : Mem := mR cm_11 6 2 (some 17)
theorem cn_12 : cm_12.1 = 26 := by rw [cm_12]; exact cn_11
theorem ck_12_6 : cm_12.2.1 6 = (8, 8) := by rw [cm_12]; exact (kR_kd).trans ck_11_6
def cm_13 : Mem := mI cm_12 6 3 0
theorem cn_13 : cm_13.1 = 26 := by rw [cm_13]; exact cn_12
theorem ck_13_6 : cm_13.2.1 6 = (8, 8) := by rw [cm_13]; exact (kI_kd).trans ck_12_6
def cm_14 : Mem := mI cm_13 6 4 0
theorem cn_14 : cm_14.1 = 26 := by rw [cm_14]; exact cn_13
theorem ck_14_6 : cm_14.2.1 6 = (8, 8) := by rw [cm_14]; exact (kI_kd).trans ck_13_6
def cm_15 : Mem := mI cm_14 6 5 0
theorem cn_15 : cm_15.1 = 26 := by rw [cm_15]; exact cn_14
theorem ck_15_6 : cm_15.2.1 6 = (8, 8) := by rw [cm_15]; exact (kI_kd).trans ck_14_6
def cm_16 : Mem := mI cm_15 6 6 0
theorem cn_16 : cm_16.1 = 26 := by rw [cm_16]; exact cn_15
theorem ck_16_6 : cm_16.2.1 6 = (8, 8) := by rw [cm_16]; exact (kI_kd).trans ck_15_6
def cm_17 : Mem := mI cm_16 6 7 0
theorem cn_17 : cm_17.1 = 26 := by rw [cm_17]; exact cn_16
set_option maxRecDepth 100000 in
set_option maxHeartbeats 4000000 in
theorem ctor_6 : Rn D_X8_init (19, 220) [.ref 6] cm_6 (Ac cm_17) := by
  refine rn_of (by decide) rfl (Nat.le_of_ble_eq_true rfl) ?_
  show Ok D_X8_init (0, 0) (19, 220) 0 [(0, .ref 6)] [] cm_6 _
  refine ok_aload_n dX8_init_0 0 rfl ?_
  refine ok_objInit dX8_init_1 wd_127 wd_82 wd_83 ⟨by decide, Nat.le_of_ble_eq_true rfl⟩ ?_
  refine ok_aload_n dX8_init_4 0 rfl ?_
  refine ok_bipush (v := 12) dX8_init_5 (by decide) ?_
  refine okC_newa (N := 12) (n := 7) (M' := cm_7) (q' := (1, 12)) dX8_init_7 (by decide) (by decide) (by decide) wd_115 ⟨by decide, by decide⟩ cn_6 rfl rfl ?_
  refine okC_putF (M' := cm_8) dX8_init_9 fl_X8_9 (by decide) (by rw [cn_7]; decide) ck_7_6 (by decide) rfl (fun _ => ⟨rfl, rfl⟩) rfl ?_
  refine ok_aload_n dX8_init_12 0 rfl ?_
  refine ok_bipush (v := 8) dX8_init_13 (by decide) ?_
  refine ok_bipush (v := 12) dX8_init_15 (by decide) ?_
  refine okC_grid (N := 8) (K := 12) (nn := 8) (M' := cm_9) (q' := (10, 116)) dX8_init_17 (by decide) (by decide) (by decide) (by decide) (by decide) (by decide) (by decide) (by rw [cn_8]; decide) wd_128 wd_115 ⟨by decide, by decide⟩ cn_8 rfl rfl ?_
  refine okC_putF (M' := cm_10) dX8_init_21 fl_X8_17 (by decide) (by rw [cn_9]; decide) ck_9_6 (by decide) rfl (fun _ => ⟨rfl, rfl⟩) rfl ?_
  refine ok_aload_n dX8_init_24 0 rfl ?_
  refine ok_bipush (v := 8) dX8_init_25 (by decide) ?_
  refine ok_bipush (v := 12) dX8_init_27 (by decide) ?_
  refine okC_grid (N := 8) (K := 12) (nn := 17) (M' := cm_11) (q' := (19, 220)) dX8_init_29 (by decide) (by decide) (by decide) (by decide) (by decide) (by decide) (by decide) (by rw [cn_10]; decide) wd_128 wd_115 ⟨by decide, by decide⟩ cn_10 rfl rfl ?_
  refine okC_putF (M' := cm_12) dX8_init_33 fl_X8_20 (by decide) (by rw [cn_11]; decide) ck_11_6 (by decide) rfl (fun _ => ⟨rfl, rfl⟩) rfl ?_
  refine ok_aload_n dX8_init_36 0 rfl ?_
  refine ok_iconst (v := 0) dX8_init_37 (by decide) ?_
  refine okC_putI (M' := cm_13) dX8_init_38 fl_X8_23 (by rw [cn_12]; decide) ck_12_6 (by decide) rfl rfl rfl rfl ?_
  refine ok_aload_n dX8_init_41 0 rfl ?_
  refine ok_iconst (v := 0) dX8_init_42 (by decide) ?_
  refine okC_putI (M' := cm_14) dX8_init_43 fl_X8_27 (by rw [cn_13]; decide) ck_13_6 (by decide) rfl rfl rfl rfl ?_
  refine ok_aload_n dX8_init_46 0 rfl ?_
  refine ok_iconst (v := 0) dX8_init_47 (by decide) ?_
  refine okC_putI (M' := cm_15) dX8_init_48 fl_X8_30 (by rw [cn_14]; decide) ck_14_6 (by decide) rfl rfl rfl rfl ?_
  refine ok_aload_n dX8_init_51 0 rfl ?_
  refine ok_iconst (v := 0) dX8_init_52 (by decide) ?_
  refine okC_putI (M' := cm_16) dX8_init_53 fl_X8_33 (by rw [cn_15]; decide) ck_15_6 (by decide) rfl rfl rfl rfl ?_
  refine ok_aload_n dX8_init_56 0 rfl ?_
  refine ok_iconst (v := 0) dX8_init_57 (by decide) ?_
  refine okC_putI (M' := cm_17) dX8_init_58 fl_X8_36 (by rw [cn_16]; decide) ck_16_6 (by decide) rfl rfl rfl rfl ?_
  exact ok_retv (by rw [cn_17]; decide) dX8_init_61 rfl ⟨rfl, rfl⟩
theorem ck_5_5 : cm_5.2.1 5 = (2, 4) := by rw [cm_5]; exact kn_new (M := cm_4) cn_4
theorem ck_6_5 : cm_6.2.1 5 = (2, 4) := by rw [cm_6]; exact (kn_old (M := cm_5) (by rw [cn_5]; decide)).trans ck_5_5
theorem ck_7_5 : cm_7.2.1 5 = (2, 4) := by rw [cm_7]; exact (kn_old (M := cm_6) (by rw [cn_6]; decide)).trans ck_6_5
theorem ck_8_5 : cm_8.2.1 5 = (2, 4) := by rw [cm_8]; exact (kR_kd).trans ck_7_5
theorem ck_9_5 : cm_9.2.1 5 = (2, 4) := by rw [cm_9]; exact (kg_old (M := cm_8) (by rw [cn_8]; decide)).trans ck_8_5
theorem ck_10_5 : cm_10.2.1 5 = (2, 4) := by rw [cm_10]; exact (kR_kd).trans ck_9_5
theorem ck_11_5 : cm_11.2.1 5 = (2, 4) := by rw [cm_11]; exact (kg_old (M := cm_10) (by rw [cn_10]; decide)).trans ck_10_5
theorem ck_12_5 : cm_12.2.1 5 = (2, 4) := by rw [cm_12]; exact (kR_kd).trans ck_11_5
theorem ck_13_5 : cm_13.2.1 5 = (2, 4) := by rw [cm_13]; exact (kI_kd).trans ck_12_5
theorem ck_14_5 : cm_14.2.1 5 = (2, 4) := by rw [cm_14]; exact (kI_kd).trans ck_13_5
theorem ck_15_5 : cm_15.2.1 5 = (2, 4) := by rw [cm_15]; exact (kI_kd).trans ck_14_5
theorem ck_16_5 : cm_16.2.1 5 = (2, 4) := by rw [cm_16]; exact (kI_kd).trans ck_15_5
theorem ck_17_5 : cm_17.2.1 5 = (2, 4) := by rw [cm_17]; exact (kI_kd).trans ck_16_5
def cm_18 : Mem := mR cm_17 5 0 (some 6)
theorem cn_18 : cm_18.1 = 26 := by rw [cm_18]; exact cn_17
def cm_19 : Mem := mNew cm_18 (5, 3)
theorem cn_19 : cm_19.1 = 27 := by rw [cm_19]; show cm_18.1 + 1 = 27; rw [cn_18]
def cm_20 : Mem := mGrid cm_19 8 12
theorem cn_20 : cm_20.1 = 36 := by rw [cm_20]; show cm_19.1 + 1 + 8 = 36; rw [cn_19]
theorem ck_19_26 : cm_19.2.1 26 = (5, 3) := by rw [cm_19]; exact kn_new (M := cm_18) cn_18
theorem ck_20_26 : cm_20.2.1 26 = (5, 3) := by rw [cm_20]; exact (kg_old (M := cm_19) (by rw [cn_19]; decide)).trans ck_19_26
def cm_21 : Mem := mR cm_20 26 0 (some 27)
theorem cn_21 : cm_21.1 = 36 := by rw [cm_21]; exact cn_20
def cm_22 : Mem := mNew cm_21 (12, 8)
theorem cn_22 : cm_22.1 = 37 := by rw [cm_22]; show cm_21.1 + 1 = 37; rw [cn_21]
theorem ck_21_26 : cm_21.2.1 26 = (5, 3) := by rw [cm_21]; exact (kR_kd).trans ck_20_26
theorem ck_22_26 : cm_22.2.1 26 = (5, 3) := by rw [cm_22]; exact (kn_old (M := cm_21) (by rw [cn_21]; decide)).trans ck_21_26
def cm_23 : Mem := mR cm_22 26 1 (some 36)
theorem cn_23 : cm_23.1 = 37 := by rw [cm_23]; exact cn_22
def cm_24 : Mem := mGrid cm_23 12 4
theorem cn_24 : cm_24.1 = 50 := by rw [cm_24]; show cm_23.1 + 1 + 12 = 50; rw [cn_23]
theorem ck_23_26 : cm_23.2.1 26 = (5, 3) := by rw [cm_23]; exact (kR_kd).trans ck_22_26
theorem ck_24_26 : cm_24.2.1 26 = (5, 3) := by rw [cm_24]; exact (kg_old (M := cm_23) (by rw [cn_23]; decide)).trans ck_23_26
def cm_25 : Mem := mR cm_24 26 2 (some 37)
theorem cn_25 : cm_25.1 = 50 := by rw [cm_25]; exact cn_24
set_option maxRecDepth 100000 in
set_option maxHeartbeats 4000000 in
theorem ctor_26 : Rn D_X5_init (23, 172) [.ref 26] cm_19 (Ac cm_25) := by
  refine rn_of (by decide) rfl (Nat.le_of_ble_eq_true rfl) ?_
  show Ok D_X5_init (0, 0) (23, 172) 0 [(0, .ref 26)] [] cm_19 _
  refine ok_aload_n dX5_init_0 0 rfl ?_
  refine ok_objInit dX5_init_1 wd_160 wd_82 wd_83 ⟨by decide, Nat.le_of_ble_eq_true rfl⟩ ?_
  refine ok_aload_n dX5_init_4 0 rfl ?_
  refine ok_bipush (v := 8) dX5_init_5 (by decide) ?_
  refine ok_bipush (v := 12) dX5_init_7 (by decide) ?_
  refine okC_grid (N := 8) (K := 12) (nn := 27) (M' := cm_20) (q' := (9, 104)) dX5_init_9 (by decide) (by decide) (by decide) (by decide) (by decide) (by decide) (by decide) (by rw [cn_19]; decide) wd_161 wd_115 ⟨by decide, by decide⟩ cn_19 rfl rfl ?_
  refine okC_putF (M' := cm_21) dX5_init_13 fl_X5_11 (by decide) (by rw [cn_20]; decide) ck_20_26 (by decide) rfl (fun _ => ⟨rfl, rfl⟩) rfl ?_
  refine ok_aload_n dX5_init_16 0 rfl ?_
  refine ok_bipush (v := 8) dX5_init_17 (by decide) ?_
  refine okC_newa (N := 8) (n := 36) (M' := cm_22) (q' := (10, 112)) dX5_init_19 (by decide) (by decide) (by decide) wd_115 ⟨by decide, by decide⟩ cn_21 rfl rfl ?_
  refine okC_putF (M' := cm_23) dX5_init_21 fl_X5_16 (by decide) (by rw [cn_22]; decide) ck_22_26 (by decide) rfl (fun _ => ⟨rfl, rfl⟩) rfl ?_
  refine ok_aload_n dX5_init_24 0 rfl ?_
  refine ok_bipush (v := 12) dX5_init_25 (by decide) ?_
  refine ok_iconst (v := 4) dX5_init_27 (by decide) ?_
  refine okC_grid (N := 12) (K := 4) (nn := 37) (M' := cm_24) (q' := (23, 172)) dX5_init_28 (by decide) (by decide) (by decide) (by decide) (by decide) (by decide) (by decide) (by rw [cn_23]; decide) wd_161 wd_115 ⟨by decide, by decide⟩ cn_23 rfl rfl ?_
  refine okC_putF (M' := cm_25) dX5_init_32 fl_X5_20 (by decide) (by rw [cn_24]; decide) ck_24_26 (by decide) rfl (fun _ => ⟨rfl, rfl⟩) rfl ?_
  exact ok_retv (by rw [cn_25]; decide) dX5_init_35 rfl ⟨rfl, rfl⟩
theorem ck_18_5 : cm_18.2.1 5 = (2, 4) := by rw [cm_18]; exact (kR_kd).trans ck_17_5
theorem ck_19_5 : cm_19.2.1 5 = (2, 4) := by rw [cm_19]; exact (kn_old (M := cm_18) (by rw [cn_18]; decide)).trans ck_18_5
theorem ck_20_5 : cm_20.2.1 5 = (2, 4) := by rw [cm_20]; exact (kg_old (M := cm_19) (by rw [cn_19]; decide)).trans ck_19_5
theorem ck_21_5 : cm_21.2.1 5 = (2, 4) := by rw [cm_21]; exact (kR_kd).trans ck_20_5
theorem ck_22_5 : cm_22.2.1 5 = (2, 4) := by rw [cm_22]; exact (kn_old (M := cm_21) (by rw [cn_21]; decide)).trans ck_21_5
theorem ck_23_5 : cm_23.2.1 5 = (2, 4) := by rw [cm_23]; exact (kR_kd).trans ck_22_5
theorem ck_24_5 : cm_24.2.1 5 = (2, 4) := by rw [cm_24]; exact (kg_old (M := cm_23) (by rw [cn_23]; decide)).trans ck_23_5
theorem ck_25_5 : cm_25.2.1 5 = (2, 4) := by rw [cm_25]; exact (kR_kd).trans ck_24_5
def cm_26 : Mem := mR cm_25 5 1 (some 26)
theorem cn_26 : cm_26.1 = 50 := by rw [cm_26]; exact cn_25
def cm_27 : Mem := mNew cm_26 (3, 2)
theorem cn_27 : cm_27.1 = 51 := by rw [cm_27]; show cm_26.1 + 1 = 51; rw [cn_26]
def cm_28 : Mem := mGrid cm_27 9 144
theorem cn_28 : cm_28.1 = 61 := by rw [cm_28]; show cm_27.1 + 1 + 9 = 61; rw [cn_27]
theorem ck_27_50 : cm_27.2.1 50 = (3, 2) := by rw [cm_27]; exact kn_new (M := cm_26) cn_26
theorem ck_28_50 : cm_28.2.1 50 = (3, 2) := by rw [cm_28]; exact (kg_old (M := cm_27) (by rw [cn_27]; decide)).trans ck_27_50
def cm_29 : Mem := mR cm_28 50 0 (some 51)
theorem cn_29 : cm_29.1 = 61 := by rw [cm_29]; exact cn_28
theorem ck_29_50 : cm_29.2.1 50 = (3, 2) := by rw [cm_29]; exact (kR_kd).trans ck_28_50
def cm_30 : Mem := mI cm_29 50 1 0
theorem cn_30 : cm_30.1 = 61 := by rw [cm_30]; exact cn_29
set_option maxRecDepth 100000 in
set_option maxHeartbeats 4000000 in
theorem ctor_50 : Rn D_X3_init (10, 1305) [.ref 50] cm_27 (Ac cm_30) := by
  refine rn_of (by decide) rfl (Nat.le_of_ble_eq_true rfl) ?_
  show Ok D_X3_init (0, 0) (10, 1305) 0 [(0, .ref 50)] [] cm_27 _
  refine ok_aload_n dX3_init_0 0 rfl ?_
  refine ok_objInit dX3_init_1 wd_177 wd_82 wd_83 ⟨by decide, Nat.le_of_ble_eq_true rfl⟩ ?_
  refine ok_aload_n dX3_init_4 0 rfl ?_
  refine ok_bipush (v := 9) dX3_init_5 (by decide) ?_
  refine ok_sipush (v := 144) dX3_init_7 (by decide) ?_
  refine okC_grid (N := 9) (K := 144) (nn := 51) (M' := cm_28) (q' := (10, 1305)) dX3_init_10 (by decide) (by decide) (by decide) (by decide) (by decide) (by decide) (by decide) (by rw [cn_27]; decide) wd_178 wd_115 ⟨by decide, by decide⟩ cn_27 rfl rfl ?_
  refine okC_putF (M' := cm_29) dX3_init_14 fl_X3_13 (by decide) (by rw [cn_28]; decide) ck_28_50 (by decide) rfl (fun _ => ⟨rfl, rfl⟩) rfl ?_
  refine ok_aload_n dX3_init_17 0 rfl ?_
  refine ok_iconst (v := 0) dX3_init_18 (by decide) ?_
  refine okC_putI (M' := cm_30) dX3_init_19 fl_X3_16 (by rw [cn_29]; decide) ck_29_50 (by decide) rfl rfl rfl rfl ?_
  exact ok_retv (by rw [cn_30]; decide) dX3_init_22 rfl ⟨rfl, rfl⟩
theorem ck_26_5 : cm_26.2.1 5 = (2, 4) := by rw [cm_26]; exact (kR_kd).trans ck_25_5
theorem ck_27_5 : cm_27.2.1 5 = (2, 4) := by rw [cm_27]; exact (kn_old (M := cm_26) (by rw [cn_26]; decide)).trans ck_26_5
theorem ck_28_5 : cm_28.2.1 5 = (2, 4) := by rw [cm_28]; exact (kg_old (M := cm_27) (by rw [cn_27]; decide)).trans ck_27_5
theorem ck_29_5 : cm_29.2.1 5 = (2, 4) := by rw [cm_29]; exact (kR_kd).trans ck_28_5
theorem ck_30_5 : cm_30.2.1 5 = (2, 4) := by rw [cm_30]; exact (kI_kd).trans ck_29_5
def cm_31 : Mem := mR cm_30 5 2 (some 50)
theorem cn_31 : cm_31.1 = 61 := by rw [cm_31]; exact cn_30
def cm_32 : Mem := mNew cm_31 (7, 3)
theorem cn_32 : cm_32.1 = 62 := by rw [cm_32]; show cm_31.1 + 1 = 62; rw [cn_31]
def cm_33 : Mem := mNew cm_32 (12, 144)
theorem cn_33 : cm_33.1 = 63 := by rw [cm_33]; show cm_32.1 + 1 = 63; rw [cn_32]
theorem ck_32_61 : cm_32.2.1 61 = (7, 3) := by rw [cm_32]; exact kn_new (M := cm_31) cn_31
theorem ck_33_61 : cm_33.2.1 61 = (7, 3) := by rw [cm_33]; exact (kn_old (M := cm_32) (by rw [cn_32]; decide)).trans ck_32_61
def cm_34 : Mem := mR cm_33 61 0 (some 62)
theorem cn_34 : cm_34.1 = 63 := by rw [cm_34]; exact cn_33
def cm_35 : Mem := mGrid cm_34 4 48
theorem cn_35 : cm_35.1 = 68 := by rw [cm_35]; show cm_34.1 + 1 + 4 = 68; rw [cn_34]
theorem ck_34_61 : cm_34.2.1 61 = (7, 3) := by rw [cm_34]; exact (kR_kd).trans ck_33_61
theorem ck_35_61 : cm_35.2.1 61 = (7, 3) := by rw [cm_35]; exact (kg_old (M := cm_34) (by rw [cn_34]; decide)).trans ck_34_61
def cm_36 : Mem := mR cm_35 61 1 (some 63)
theorem cn_36 : cm_36.1 = 68 := by rw [cm_36]; exact cn_35
theorem ck_36_61 : cm_36.2.1 61 = (7, 3) := by rw [cm_36]; exact (kR_kd).trans ck_35_61
def cm_37 : Mem := mI cm_36 61 2 0
theorem cn_37 : cm_37.1 = 68 := by rw [cm_37]; exact cn_36
set_option maxRecDepth 100000 in
set_option maxHeartbeats 4000000 in
theorem ctor_61 : Rn D_X7_init (6, 340) [.ref 61] cm_32 (Ac cm_37) := by
  refine rn_of (by decide) rfl (Nat.le_of_ble_eq_true rfl) ?_
  show Ok D_X7_init (0, 0) (6, 340) 0 [(0, .ref 61)] [] cm_32 _
  refine ok_aload_n dX7_init_0 0 rfl ?_
  refine ok_objInit dX7_init_1 wd_191 wd_82 wd_83 ⟨by decide, Nat.le_of_ble_eq_true rfl⟩ ?_
  refine ok_aload_n dX7_init_4 0 rfl ?_
  refine ok_sipush (v := 144) dX7_init_5 (by decide) ?_
  refine okC_newa (N := 144) (n := 62) (M' := cm_33) (q' := (1, 144)) dX7_init_8 (by decide) (by decide) (by decide) wd_115 ⟨by decide, by decide⟩ cn_32 rfl rfl ?_
  refine okC_putF (M' := cm_34) dX7_init_10 fl_X7_11 (by decide) (by rw [cn_33]; decide) ck_33_61 (by decide) rfl (fun _ => ⟨rfl, rfl⟩) rfl ?_
  refine ok_aload_n dX7_init_13 0 rfl ?_
  refine ok_iconst (v := 4) dX7_init_14 (by decide) ?_
  refine ok_bipush (v := 48) dX7_init_15 (by decide) ?_
  refine okC_grid (N := 4) (K := 48) (nn := 63) (M' := cm_35) (q' := (6, 340)) dX7_init_17 (by decide) (by decide) (by decide) (by decide) (by decide) (by decide) (by decide) (by rw [cn_34]; decide) wd_192 wd_115 ⟨by decide, by decide⟩ cn_34 rfl rfl ?_
  refine okC_putF (M' := cm_36) dX7_init_21 fl_X7_19 (by decide) (by rw [cn_35]; decide) ck_35_61 (by decide) rfl (fun _ => ⟨rfl, rfl⟩) rfl ?_
  refine ok_aload_n dX7_init_24 0 rfl ?_
  refine ok_iconst (v := 0) dX7_init_25 (by decide) ?_
  refine okC_putI (M' := cm_37) dX7_init_26 fl_X7_22 (by rw [cn_36]; decide) ck_36_61 (by decide) rfl rfl rfl rfl ?_
  exact ok_retv (by rw [cn_37]; decide) dX7_init_29 rfl ⟨rfl, rfl⟩
theorem ck_31_5 : cm_31.2.1 5 = (2, 4) := by rw [cm_31]; exact (kR_kd).trans ck_30_5
theorem ck_32_5 : cm_32.2.1 5 = (2, 4) := by rw [cm_32]; exact (kn_old (M := cm_31) (by rw [cn_31]; decide)).trans ck_31_5
theorem ck_33_5 : cm_33.2.1 5 = (2, 4) := by rw [cm_33]; exact (kn_old (M := cm_32) (by rw [cn_32]; decide)).trans ck_32_5
theorem ck_34_5 : cm_34.2.1 5 = (2, 4) := by rw [cm_34]; exact (kR_kd).trans ck_33_5
theorem ck_35_5 : cm_35.2.1 5 = (2, 4) := by rw [cm_35]; exact (kg_old (M := cm_34) (by rw [cn_34]; decide)).trans ck_34_5
theorem ck_36_5 : cm_36.2.1 5 = (2, 4) := by rw [cm_36]; exact (kR_kd).trans ck_35_5
theorem ck_37_5 : cm_37.2.1 5 = (2, 4) := by rw [cm_37]; exact (kI_kd).trans ck_36_5
def cm_38 : Mem := mR cm_37 5 3 (some 61)
theorem cn_38 : cm_38.1 = 68 := by rw [cm_38]; exact cn_37
set_option maxRecDepth 100000 in
set_option maxHeartbeats 4000000 in
theorem ctor_5 : Rn D_X2_init (62, 2053) [.ref 5] cm_5 (Ac cm_38) := by
  refine rn_of (by decide) rfl (Nat.le_of_ble_eq_true rfl) ?_
  show Ok D_X2_init (0, 0) (62, 2053) 0 [(0, .ref 5)] [] cm_5 _
  refine ok_aload_n dX2_init_0 0 rfl ?_
  refine ok_objInit dX2_init_1 wd_121 wd_82 wd_83 ⟨by decide, Nat.le_of_ble_eq_true rfl⟩ ?_
  refine ok_aload_n dX2_init_4 0 rfl ?_
  refine okC_new (n := 6) (M' := cm_6) (q' := (1, 8)) dX2_init_5 cl_8 wd_122 wd_123 wd_65 (by decide) ⟨by decide, by decide⟩ cn_5 rfl rfl ?_
  refine ok_dup dX2_init_8 rfl ?_
  refine okC_IN (M' := cm_17) (q' := (20, 228)) dX2_init_9 cv_X2_11 (by rw [cn_6]; decide) (Nat.le_of_ble_eq_true rfl) ⟨by decide, by decide⟩ ⟨by decide, by decide⟩ ctor_6 (by rw [cn_17, cn_6]; rfl) rfl ?_
  refine okC_putF (M' := cm_18) dX2_init_12 fl_X2_12 (by decide) (by rw [cn_17]; decide) ck_17_5 (by decide) rfl (fun _ => ⟨rfl, rfl⟩) rfl ?_
  refine ok_aload_n dX2_init_15 0 rfl ?_
  refine okC_new (n := 26) (M' := cm_19) (q' := (21, 231)) dX2_init_16 cl_5 wd_155 wd_156 wd_66 (by decide) ⟨by decide, by decide⟩ cn_18 rfl rfl ?_
  refine ok_dup dX2_init_19 rfl ?_
  refine okC_IN (M' := cm_25) (q' := (44, 403)) dX2_init_20 cv_X2_20 (by rw [cn_19]; decide) (Nat.le_of_ble_eq_true rfl) ⟨by decide, by decide⟩ ⟨by decide, by decide⟩ ctor_26 (by rw [cn_25, cn_19]; rfl) rfl ?_
  refine okC_putF (M' := cm_26) dX2_init_23 fl_X2_21 (by decide) (by rw [cn_25]; decide) ck_25_5 (by decide) rfl (fun _ => ⟨rfl, rfl⟩) rfl ?_
  refine ok_aload_n dX2_init_26 0 rfl ?_
  refine okC_new (n := 50) (M' := cm_27) (q' := (45, 405)) dX2_init_27 cl_3 wd_172 wd_173 wd_67 (by decide) ⟨by decide, by decide⟩ cn_26 rfl rfl ?_
  refine ok_dup dX2_init_30 rfl ?_
  refine okC_IN (M' := cm_30) (q' := (55, 1710)) dX2_init_31 cv_X2_27 (by rw [cn_27]; decide) (Nat.le_of_ble_eq_true rfl) ⟨by decide, by decide⟩ ⟨by decide, by decide⟩ ctor_50 (by rw [cn_30, cn_27]; rfl) rfl ?_
  refine okC_putF (M' := cm_31) dX2_init_34 fl_X2_28 (by decide) (by rw [cn_30]; decide) ck_30_5 (by decide) rfl (fun _ => ⟨rfl, rfl⟩) rfl ?_
  refine ok_aload_n dX2_init_37 0 rfl ?_
  refine okC_new (n := 61) (M' := cm_32) (q' := (56, 1713)) dX2_init_38 cl_7 wd_186 wd_187 wd_68 (by decide) ⟨by decide, by decide⟩ cn_31 rfl rfl ?_
  refine ok_dup dX2_init_41 rfl ?_
  refine okC_IN (M' := cm_37) (q' := (62, 2053)) dX2_init_42 cv_X2_34 (by rw [cn_32]; decide) (Nat.le_of_ble_eq_true rfl) ⟨by decide, by decide⟩ ⟨by decide, by decide⟩ ctor_61 (by rw [cn_37, cn_32]; rfl) rfl ?_
  refine okC_putF (M' := cm_38) dX2_init_45 fl_X2_35 (by decide) (by rw [cn_37]; decide) ck_37_5 (by decide) rfl (fun _ => ⟨rfl, rfl⟩) rfl ?_
  exact ok_retv (by rw [cn_38]; decide) dX2_init_48 rfl ⟨rfl, rfl⟩
theorem ck_4_0 : cm_4.2.1 0 = (10, 9) := by rw [cm_4]; exact (kR_kd).trans ck_3_0
theorem ck_5_0 : cm_5.2.1 0 = (10, 9) := by rw [cm_5]; exact (kn_old (M := cm_4) (by rw [cn_4]; decide)).trans ck_4_0
theorem ck_6_0 : cm_6.2.1 0 = (10, 9) := by rw [cm_6]; exact (kn_old (M := cm_5) (by rw [cn_5]; decide)).trans ck_5_0
theorem ck_7_0 : cm_7.2.1 0 = (10, 9) := by rw [cm_7]; exact (kn_old (M := cm_6) (by rw [cn_6]; decide)).trans ck_6_0
theorem ck_8_0 : cm_8.2.1 0 = (10, 9) := by rw [cm_8]; exact (kR_kd).trans ck_7_0
theorem ck_9_0 : cm_9.2.1 0 = (10, 9) := by rw [cm_9]; exact (kg_old (M := cm_8) (by rw [cn_8]; decide)).trans ck_8_0
theorem ck_10_0 : cm_10.2.1 0 = (10, 9) := by rw [cm_10]; exact (kR_kd).trans ck_9_0
theorem ck_11_0 : cm_11.2.1 0 = (10, 9) := by rw [cm_11]; exact (kg_old (M := cm_10) (by rw [cn_10]; decide)).trans ck_10_0
theorem ck_12_0 : cm_12.2.1 0 = (10, 9) := by rw [cm_12]; exact (kR_kd).trans ck_11_0
theorem ck_13_0 : cm_13.2.1 0 = (10, 9) := by rw [cm_13]; exact (kI_kd).trans ck_12_0
theorem ck_14_0 : cm_14.2.1 0 = (10, 9) := by rw [cm_14]; exact (kI_kd).trans ck_13_0
theorem ck_15_0 : cm_15.2.1 0 = (10, 9) := by rw [cm_15]; exact (kI_kd).trans ck_14_0
theorem ck_16_0 : cm_16.2.1 0 = (10, 9) := by rw [cm_16]; exact (kI_kd).trans ck_15_0
theorem ck_17_0 : cm_17.2.1 0 = (10, 9) := by rw [cm_17]; exact (kI_kd).trans ck_16_0
theorem ck_18_0 : cm_18.2.1 0 = (10, 9) := by rw [cm_18]; exact (kR_kd).trans ck_17_0
theorem ck_19_0 : cm_19.2.1 0 = (10, 9) := by rw [cm_19]; exact (kn_old (M := cm_18) (by rw [cn_18]; decide)).trans ck_18_0
theorem ck_20_0 : cm_20.2.1 0 = (10, 9) := by rw [cm_20]; exact (kg_old (M := cm_19) (by rw [cn_19]; decide)).trans ck_19_0
theorem ck_21_0 : cm_21.2.1 0 = (10, 9) := by rw [cm_21]; exact (kR_kd).trans ck_20_0
theorem ck_22_0 : cm_22.2.1 0 = (10, 9) := by rw [cm_22]; exact (kn_old (M := cm_21) (by rw [cn_21]; decide)).trans ck_21_0
theorem ck_23_0 : cm_23.2.1 0 = (10, 9) := by rw [cm_23]; exact (kR_kd).trans ck_22_0
theorem ck_24_0 : cm_24.2.1 0 = (10, 9) := by rw [cm_24]; exact (kg_old (M := cm_23) (by rw [cn_23]; decide)).trans ck_23_0
theorem ck_25_0 : cm_25.2.1 0 = (10, 9) := by rw [cm_25]; exact (kR_kd).trans ck_24_0
theorem ck_26_0 : cm_26.2.1 0 = (10, 9) := by rw [cm_26]; exact (kR_kd).trans ck_25_0
theorem ck_27_0 : cm_27.2.1 0 = (10, 9) := by rw [cm_27]; exact (kn_old (M := cm_26) (by rw [cn_26]; decide)).trans ck_26_0
theorem ck_28_0 : cm_28.2.1 0 = (10, 9) := by rw [cm_28]; exact (kg_old (M := cm_27) (by rw [cn_27]; decide)).trans ck_27_0
theorem ck_29_0 : cm_29.2.1 0 = (10, 9) := by rw [cm_29]; exact (kR_kd).trans ck_28_0
theorem ck_30_0 : cm_30.2.1 0 = (10, 9) := by rw [cm_30]; exact (kI_kd).trans ck_29_0
theorem ck_31_0 : cm_31.2.1 0 = (10, 9) := by rw [cm_31]; exact (kR_kd).trans ck_30_0
theorem ck_32_0 : cm_32.2.1 0 = (10, 9) := by rw [cm_32]; exact (kn_old (M := cm_31) (by rw [cn_31]; decide)).trans ck_31_0
theorem ck_33_0 : cm_33.2.1 0 = (10, 9) := by rw [cm_33]; exact (kn_old (M := cm_32) (by rw [cn_32]; decide)).trans ck_32_0
theorem ck_34_0 : cm_34.2.1 0 = (10, 9) := by rw [cm_34]; exact (kR_kd).trans ck_33_0
theorem ck_35_0 : cm_35.2.1 0 = (10, 9) := by rw [cm_35]; exact (kg_old (M := cm_34) (by rw [cn_34]; decide)).trans ck_34_0
theorem ck_36_0 : cm_36.2.1 0 = (10, 9) := by rw [cm_36]; exact (kR_kd).trans ck_35_0
theorem ck_37_0 : cm_37.2.1 0 = (10, 9) := by rw [cm_37]; exact (kI_kd).trans ck_36_0
theorem ck_38_0 : cm_38.2.1 0 = (10, 9) := by rw [cm_38]; exact (kR_kd).trans ck_37_0
def cm_39 : Mem := mR cm_38 0 1 (some 5)
theorem cn_39 : cm_39.1 = 68 := by rw [cm_39]; exact cn_38
def cm_40 : Mem := mNew cm_39 (9, 6)
theorem cn_40 : cm_40.1 = 69 := by rw [cm_40]; show cm_39.1 + 1 = 69; rw [cn_39]
def cm_41 : Mem := mNew cm_40 (12, 60)
theorem cn_41 : cm_41.1 = 70 := by rw [cm_41]; show cm_40.1 + 1 = 70; rw [cn_40]
theorem ck_40_68 : cm_40.2.1 68 = (9, 6) := by rw [cm_40]; exact kn_new (M := cm_39) cn_39
theorem ck_41_68 : cm_41.2.1 68 = (9, 6) := by rw [cm_41]; exact (kn_old (M := cm_40) (by rw [cn_40]; decide)).trans ck_40_68
def cm_42 : Mem := mR cm_41 68 0 (some 69)
theorem cn_42 : cm_42.1 = 70 := by rw [cm_42]; exact cn_41
def cm_43 : Mem := mNew cm_42 (12, 20)
theorem cn_43 : cm_43.1 = 71 := by rw [cm_43]; show cm_42.1 + 1 = 71; rw [cn_42]
theorem ck_42_68 : cm_42.2.1 68 = (9, 6) := by rw [cm_42]; exact (kR_kd).trans ck_41_68
theorem ck_43_68 : cm_43.2.1 68 = (9, 6) := by rw [cm_43]; exact (kn_old (M := cm_42) (by rw [cn_42]; decide)).trans ck_42_68
def cm_44 : Mem := mR cm_43 68 1 (some 70)
theorem cn_44 : cm_44.1 = 71 := by rw [cm_44]; exact cn_43
def cm_45 : Mem := mNew cm_44 (12, 20)
theorem cn_45 : cm_45.1 = 72 := by rw [cm_45]; show cm_44.1 + 1 = 72; rw [cn_44]
theorem ck_44_68 : cm_44.2.1 68 = (9, 6) := by rw [cm_44]; exact (kR_kd).trans ck_43_68
theorem ck_45_68 : cm_45.2.1 68 = (9, 6) := by rw [cm_45]; exact (kn_old (M := cm_44) (by rw [cn_44]; decide)).trans ck_44_68
def cm_46 : Mem := mR cm_45 68 2 (some 71)
theorem cn_46 : cm_46.1 = 72 := by rw [cm_46]; exact cn_45
theorem ck_46_68 : cm_46.2.1 68 = (9, 6) := by rw [cm_46]; exact (kR_kd).trans ck_45_68
def cm_47 : Mem := mI cm_46 68 3 0
theorem cn_47 : cm_47.1 = 72 := by rw [cm_47]; exact cn_46
theorem ck_47_68 : cm_47.2.1 68 = (9, 6) := by rw [cm_47]; exact (kI_kd).trans ck_46_68
def cm_48 : Mem := mI cm_47 68 4 0
theorem cn_48 : cm_48.1 = 72 := by rw [cm_48]; exact cn_47
theorem ck_48_68 : cm_48.2.1 68 = (9, 6) := by rw [cm_48]; exact (kI_kd).trans ck_47_68
def cm_49 : Mem := mI cm_48 68 5 0
theorem cn_49 : cm_49.1 = 72 := by rw [cm_49]; exact cn_48
set_option maxRecDepth 100000 in
set_option maxHeartbeats 4000000 in
theorem ctor_68 : Rn D_X9_init (3, 100) [.ref 68] cm_40 (Ac cm_49) := by
  refine rn_of (by decide) rfl (Nat.le_of_ble_eq_true rfl) ?_
  show Ok D_X9_init (0, 0) (3, 100) 0 [(0, .ref 68)] [] cm_40 _
  refine ok_aload_n dX9_init_0 0 rfl ?_
  refine ok_objInit dX9_init_1 wd_225 wd_82 wd_83 ⟨by decide, Nat.le_of_ble_eq_true rfl⟩ ?_
  refine ok_aload_n dX9_init_4 0 rfl ?_
  refine ok_bipush (v := 60) dX9_init_5 (by decide) ?_
  refine okC_newa (N := 60) (n := 69) (M' := cm_41) (q' := (1, 60)) dX9_init_7 (by decide) (by decide) (by decide) wd_115 ⟨by decide, by decide⟩ cn_40 rfl rfl ?_
  refine okC_putF (M' := cm_42) dX9_init_9 fl_X9_11 (by decide) (by rw [cn_41]; decide) ck_41_68 (by decide) rfl (fun _ => ⟨rfl, rfl⟩) rfl ?_
  refine ok_aload_n dX9_init_12 0 rfl ?_
  refine ok_bipush (v := 20) dX9_init_13 (by decide) ?_
  refine okC_newa (N := 20) (n := 70) (M' := cm_43) (q' := (2, 80)) dX9_init_15 (by decide) (by decide) (by decide) wd_115 ⟨by decide, by decide⟩ cn_42 rfl rfl ?_
  refine okC_putF (M' := cm_44) dX9_init_17 fl_X9_15 (by decide) (by rw [cn_43]; decide) ck_43_68 (by decide) rfl (fun _ => ⟨rfl, rfl⟩) rfl ?_
  refine ok_aload_n dX9_init_20 0 rfl ?_
  refine ok_bipush (v := 20) dX9_init_21 (by decide) ?_
  refine okC_newa (N := 20) (n := 71) (M' := cm_45) (q' := (3, 100)) dX9_init_23 (by decide) (by decide) (by decide) wd_115 ⟨by decide, by decide⟩ cn_44 rfl rfl ?_
  refine okC_putF (M' := cm_46) dX9_init_25 fl_X9_18 (by decide) (by rw [cn_45]; decide) ck_45_68 (by decide) rfl (fun _ => ⟨rfl, rfl⟩) rfl ?_
  refine ok_aload_n dX9_init_28 0 rfl ?_
  refine ok_iconst (v := 0) dX9_init_29 (by decide) ?_
  refine okC_putI (M' := cm_47) dX9_init_30 fl_X9_21 (by rw [cn_46]; decide) ck_46_68 (by decide) rfl rfl rfl rfl ?_
  refine ok_aload_n dX9_init_33 0 rfl ?_
  refine ok_iconst (v := 0) dX9_init_34 (by decide) ?_
  refine okC_putI (M' := cm_48) dX9_init_35 fl_X9_25 (by rw [cn_47]; decide) ck_47_68 (by decide) rfl rfl rfl rfl ?_
  refine ok_aload_n dX9_init_38 0 rfl ?_
  refine ok_iconst (v := 0) dX9_init_39 (by decide) ?_
  refine okC_putI (M' := cm_49) dX9_init_40 fl_X9_28 (by rw [cn_48]; decide) ck_48_68 (by decide) rfl rfl rfl rfl ?_
  exact ok_retv (by rw [cn_49]; decide) dX9_init_43 rfl ⟨rfl, rfl⟩
theorem ck_39_0 : cm_39.2.1 0 = (10, 9) := by rw [cm_39]; exact (kR_kd).trans ck_38_0
theorem ck_40_0 : cm_40.2.1 0 = (10, 9) := by rw [cm_40]; exact (kn_old (M := cm_39) (by rw [cn_39]; decide)).trans ck_39_0
theorem ck_41_0 : cm_41.2.1 0 = (10, 9) := by rw [cm_41]; exact (kn_old (M := cm_40) (by rw [cn_40]; decide)).trans ck_40_0
theorem ck_42_0 : cm_42.2.1 0 = (10, 9) := by rw [cm_42]; exact (kR_kd).trans ck_41_0
theorem ck_43_0 : cm_43.2.1 0 = (10, 9) := by rw [cm_43]; exact (kn_old (M := cm_42) (by rw [cn_42]; decide)).trans ck_42_0
theorem ck_44_0 : cm_44.2.1 0 = (10, 9) := by rw [cm_44]; exact (kR_kd).trans ck_43_0
theorem ck_45_0 : cm_45.2.1 0 = (10, 9) := by rw [cm_45]; exact (kn_old (M := cm_44) (by rw [cn_44]; decide)).trans ck_44_0
theorem ck_46_0 : cm_46.2.1 0 = (10, 9) := by rw [cm_46]; exact (kR_kd).trans ck_45_0
theorem ck_47_0 : cm_47.2.1 0 = (10, 9) := by rw [cm_47]; exact (kI_kd).trans ck_46_0
theorem ck_48_0 : cm_48.2.1 0 = (10, 9) := by rw [cm_48]; exact (kI_kd).trans ck_47_0
theorem ck_49_0 : cm_49.2.1 0 = (10, 9) := by rw [cm_49]; exact (kI_kd).trans ck_48_0
def cm_50 : Mem := mR cm_49 0 2 (some 68)
theorem cn_50 : cm_50.1 = 72 := by rw [cm_50]; exact cn_49
def cm_51 : Mem := mNew cm_50 (1, 2)
theorem cn_51 : cm_51.1 = 73 := by rw [cm_51]; show cm_50.1 + 1 = 73; rw [cn_50]
def cm_52 : Mem := mNew cm_51 (14, 16)
theorem cn_52 : cm_52.1 = 74 := by rw [cm_52]; show cm_51.1 + 1 = 74; rw [cn_51]
theorem ck_51_72 : cm_51.2.1 72 = (1, 2) := by rw [cm_51]; exact kn_new (M := cm_50) cn_50
theorem ck_52_72 : cm_52.2.1 72 = (1, 2) := by rw [cm_52]; exact (kn_old (M := cm_51) (by rw [cn_51]; decide)).trans ck_51_72
def cm_53 : Mem := mR cm_52 72 0 (some 73)
theorem cn_53 : cm_53.1 = 74 := by rw [cm_53]; exact cn_52
theorem ck_53_72 : cm_53.2.1 72 = (1, 2) := by rw [cm_53]; exact (kR_kd).trans ck_52_72
def cm_54 : Mem := mI cm_53 72 1 0
theorem cn_54 : cm_54.1 = 74 := by rw [cm_54]; exact cn_53
theorem cr_53_72_0 : cm_53.2.2.2 72 0 = some 73 := by rw [cm_53]; exact kr_set (M := cm_52) (o := 72) (j := 0)
theorem cr_54_72_0 : cm_54.2.2.2 72 0 = some 73 := by rw [cm_54]; exact (kI_R).trans cr_53_72_0
theorem ck_54_72 : cm_54.2.1 72 = (1, 2) := by rw [cm_54]; exact (kI_kd).trans ck_53_72
def cm_55 : Mem := mNew cm_54 (6, 5)
theorem cn_55 : cm_55.1 = 75 := by rw [cm_55]; show cm_54.1 + 1 = 75; rw [cn_54]
def cm_56 : Mem := nwNews cm_55 74
theorem cn_56 : cm_56.1 = 78 := by rw [cm_56]; show cm_55.1 + 1 + 1 + 1 = 78; rw [cn_55]
theorem ck_55_74 : cm_55.2.1 74 = (6, 5) := by rw [cm_55]; exact kn_new (M := cm_54) cn_54
theorem ck_52_73 : cm_52.2.1 73 = (14, 16) := by rw [cm_52]; exact kn_new (M := cm_51) cn_51
theorem ck_53_73 : cm_53.2.1 73 = (14, 16) := by rw [cm_53]; exact (kR_kd).trans ck_52_73
theorem ck_54_73 : cm_54.2.1 73 = (14, 16) := by rw [cm_54]; exact (kI_kd).trans ck_53_73
theorem ck_55_73 : cm_55.2.1 73 = (14, 16) := by rw [cm_55]; exact (kn_old (M := cm_54) (by rw [cn_54]; decide)).trans ck_54_73
theorem ck_56_73 : cm_56.2.1 73 = (14, 16) := by rw [cm_56]; exact (nw_kd (M := cm_55) (by rw [cn_55]; decide)).trans ck_55_73
def cm_57 : Mem := mR cm_56 73 0 (some 74)
theorem cn_57 : cm_57.1 = 78 := by rw [cm_57]; exact cn_56
theorem ck_56_74 : cm_56.2.1 74 = (6, 5) := by rw [cm_56]; exact (nw_kd (M := cm_55) (by rw [cn_55]; decide)).trans ck_55_74
theorem cr_55_72_0 : cm_55.2.2.2 72 0 = some 73 := by rw [cm_55]; exact (kr_old (M := cm_54) (by rw [cn_54]; decide)).trans cr_54_72_0
theorem cr_56_72_0 : cm_56.2.2.2 72 0 = some 73 := by rw [cm_56]; exact (nw_R (M := cm_55) (by rw [cn_55]; decide) (by decide)).trans cr_55_72_0
theorem cr_57_72_0 : cm_57.2.2.2 72 0 = some 73 := by rw [cm_57]; exact (kr_ne (M := cm_56) (o := 73) (j := 0) (v := some 74) (a := 72) (b := 0) (by decide)).trans cr_56_72_0
theorem ck_55_72 : cm_55.2.1 72 = (1, 2) := by rw [cm_55]; exact (kn_old (M := cm_54) (by rw [cn_54]; decide)).trans ck_54_72
theorem ck_56_72 : cm_56.2.1 72 = (1, 2) := by rw [cm_56]; exact (nw_kd (M := cm_55) (by rw [cn_55]; decide)).trans ck_55_72
theorem ck_57_72 : cm_57.2.1 72 = (1, 2) := by rw [cm_57]; exact (kR_kd).trans ck_56_72
def cm_58 : Mem := mNew cm_57 (6, 5)
theorem cn_58 : cm_58.1 = 79 := by rw [cm_58]; show cm_57.1 + 1 = 79; rw [cn_57]
def cm_59 : Mem := nwNews cm_58 78
theorem cn_59 : cm_59.1 = 82 := by rw [cm_59]; show cm_58.1 + 1 + 1 + 1 = 82; rw [cn_58]
theorem ck_58_78 : cm_58.2.1 78 = (6, 5) := by rw [cm_58]; exact kn_new (M := cm_57) cn_57
theorem ck_57_73 : cm_57.2.1 73 = (14, 16) := by rw [cm_57]; exact (kR_kd).trans ck_56_73
theorem ck_58_73 : cm_58.2.1 73 = (14, 16) := by rw [cm_58]; exact (kn_old (M := cm_57) (by rw [cn_57]; decide)).trans ck_57_73
theorem ck_59_73 : cm_59.2.1 73 = (14, 16) := by rw [cm_59]; exact (nw_kd (M := cm_58) (by rw [cn_58]; decide)).trans ck_58_73
def cm_60 : Mem := mR cm_59 73 1 (some 78)
theorem cn_60 : cm_60.1 = 82 := by rw [cm_60]; exact cn_59
theorem ck_59_78 : cm_59.2.1 78 = (6, 5) := by rw [cm_59]; exact (nw_kd (M := cm_58) (by rw [cn_58]; decide)).trans ck_58_78
theorem cr_58_72_0 : cm_58.2.2.2 72 0 = some 73 := by rw [cm_58]; exact (kr_old (M := cm_57) (by rw [cn_57]; decide)).trans cr_57_72_0
theorem cr_59_72_0 : cm_59.2.2.2 72 0 = some 73 := by rw [cm_59]; exact (nw_R (M := cm_58) (by rw [cn_58]; decide) (by decide)).trans cr_58_72_0
theorem cr_60_72_0 : cm_60.2.2.2 72 0 = some 73 := by rw [cm_60]; exact (kr_ne (M := cm_59) (o := 73) (j := 1) (v := some 78) (a := 72) (b := 0) (by decide)).trans cr_59_72_0
theorem ck_58_72 : cm_58.2.1 72 = (1, 2) := by rw [cm_58]; exact (kn_old (M := cm_57) (by rw [cn_57]; decide)).trans ck_57_72
theorem ck_59_72 : cm_59.2.1 72 = (1, 2) := by rw [cm_59]; exact (nw_kd (M := cm_58) (by rw [cn_58]; decide)).trans ck_58_72
theorem ck_60_72 : cm_60.2.1 72 = (1, 2) := by rw [cm_60]; exact (kR_kd).trans ck_59_72
def cm_61 : Mem := mNew cm_60 (6, 5)
theorem cn_61 : cm_61.1 = 83 := by rw [cm_61]; show cm_60.1 + 1 = 83; rw [cn_60]
def cm_62 : Mem := nwNews cm_61 82
theorem cn_62 : cm_62.1 = 86 := by rw [cm_62]; show cm_61.1 + 1 + 1 + 1 = 86; rw [cn_61]
theorem ck_61_82 : cm_61.2.1 82 = (6, 5) := by rw [cm_61]; exact kn_new (M := cm_60) cn_60
theorem ck_60_73 : cm_60.2.1 73 = (14, 16) := by rw [cm_60]; exact (kR_kd).trans ck_59_73
theorem ck_61_73 : cm_61.2.1 73 = (14, 16) := by rw [cm_61]; exact (kn_old (M := cm_60) (by rw [cn_60]; decide)).trans ck_60_73
theorem ck_62_73 : cm_62.2.1 73 = (14, 16) := by rw [cm_62]; exact (nw_kd (M := cm_61) (by rw [cn_61]; decide)).trans ck_61_73
def cm_63 : Mem := mR cm_62 73 2 (some 82)
theorem cn_63 : cm_63.1 = 86 := by rw [cm_63]; exact cn_62
theorem ck_62_82 : cm_62.2.1 82 = (6, 5) := by rw [cm_62]; exact (nw_kd (M := cm_61) (by rw [cn_61]; decide)).trans ck_61_82
theorem cr_61_72_0 : cm_61.2.2.2 72 0 = some 73 := by rw [cm_61]; exact (kr_old (M := cm_60) (by rw [cn_60]; decide)).trans cr_60_72_0
theorem cr_62_72_0 : cm_62.2.2.2 72 0 = some 73 := by rw [cm_62]; exact (nw_R (M := cm_61) (by rw [cn_61]; decide) (by decide)).trans cr_61_72_0
theorem cr_63_72_0 : cm_63.2.2.2 72 0 = some 73 := by rw [cm_63]; exact (kr_ne (M := cm_62) (o := 73) (j := 2) (v := some 82) (a := 72) (b := 0) (by decide)).trans cr_62_72_0
theorem ck_61_72 : cm_61.2.1 72 = (1, 2) := by rw [cm_61]; exact (kn_old (M := cm_60) (by rw [cn_60]; decide)).trans ck_60_72
theorem ck_62_72 : cm_62.2.1 72 = (1, 2) := by rw [cm_62]; exact (nw_kd (M := cm_61) (by rw [cn_61]; decide)).trans ck_61_72
theorem ck_63_72 : cm_63.2.1 72 = (1, 2) := by rw [cm_63]; exact (kR_kd).trans ck_62_72
def cm_64 : Mem := mNew cm_63 (6, 5)
theorem cn_64 : cm_64.1 = 87 := by rw [cm_64]; show cm_63.1 + 1 = 87; rw [cn_63]
def cm_65 : Mem := nwNews cm_64 86
theorem cn_65 : cm_65.1 = 90 := by rw [cm_65]; show cm_64.1 + 1 + 1 + 1 = 90; rw [cn_64]
theorem ck_64_86 : cm_64.2.1 86 = (6, 5) := by rw [cm_64]; exact kn_new (M := cm_63) cn_63
theorem ck_63_73 : cm_63.2.1 73 = (14, 16) := by rw [cm_63]; exact (kR_kd).trans ck_62_73
theorem ck_64_73 : cm_64.2.1 73 = (14, 16) := by rw [cm_64]; exact (kn_old (M := cm_63) (by rw [cn_63]; decide)).trans ck_63_73
theorem ck_65_73 : cm_65.2.1 73 = (14, 16) := by rw [cm_65]; exact (nw_kd (M := cm_64) (by rw [cn_64]; decide)).trans ck_64_73
def cm_66 : Mem := mR cm_65 73 3 (some 86)
theorem cn_66 : cm_66.1 = 90 := by rw [cm_66]; exact cn_65
theorem ck_65_86 : cm_65.2.1 86 = (6, 5) := by rw [cm_65]; exact (nw_kd (M := cm_64) (by rw [cn_64]; decide)).trans ck_64_86
theorem cr_64_72_0 : cm_64.2.2.2 72 0 = some 73 := by rw [cm_64]; exact (kr_old (M := cm_63) (by rw [cn_63]; decide)).trans cr_63_72_0
theorem cr_65_72_0 : cm_65.2.2.2 72 0 = some 73 := by rw [cm_65]; exact (nw_R (M := cm_64) (by rw [cn_64]; decide) (by decide)).trans cr_64_72_0
theorem cr_66_72_0 : cm_66.2.2.2 72 0 = some 73 := by rw [cm_66]; exact (kr_ne (M := cm_65) (o := 73) (j := 3) (v := some 86) (a := 72) (b := 0) (by decide)).trans cr_65_72_0
theorem ck_64_72 : cm_64.2.1 72 = (1, 2) := by rw [cm_64]; exact (kn_old (M := cm_63) (by rw [cn_63]; decide)).trans ck_63_72
theorem ck_65_72 : cm_65.2.1 72 = (1, 2) := by rw [cm_65]; exact (nw_kd (M := cm_64) (by rw [cn_64]; decide)).trans ck_64_72
theorem ck_66_72 : cm_66.2.1 72 = (1, 2) := by rw [cm_66]; exact (kR_kd).trans ck_65_72
def cm_67 : Mem := mNew cm_66 (6, 5)
theorem cn_67 : cm_67.1 = 91 := by rw [cm_67]; show cm_66.1 + 1 = 91; rw [cn_66]
def cm_68 : Mem := nwNews cm_67 90
theorem cn_68 : cm_68.1 = 94 := by rw [cm_68]; show cm_67.1 + 1 + 1 + 1 = 94; rw [cn_67]
theorem ck_67_90 : cm_67.2.1 90 = (6, 5) := by rw [cm_67]; exact kn_new (M := cm_66) cn_66
theorem ck_66_73 : cm_66.2.1 73 = (14, 16) := by rw [cm_66]; exact (kR_kd).trans ck_65_73
theorem ck_67_73 : cm_67.2.1 73 = (14, 16) := by rw [cm_67]; exact (kn_old (M := cm_66) (by rw [cn_66]; decide)).trans ck_66_73
theorem ck_68_73 : cm_68.2.1 73 = (14, 16) := by rw [cm_68]; exact (nw_kd (M := cm_67) (by rw [cn_67]; decide)).trans ck_67_73
def cm_69 : Mem := mR cm_68 73 4 (some 90)
theorem cn_69 : cm_69.1 = 94 := by rw [cm_69]; exact cn_68
theorem ck_68_90 : cm_68.2.1 90 = (6, 5) := by rw [cm_68]; exact (nw_kd (M := cm_67) (by rw [cn_67]; decide)).trans ck_67_90
theorem cr_67_72_0 : cm_67.2.2.2 72 0 = some 73 := by rw [cm_67]; exact (kr_old (M := cm_66) (by rw [cn_66]; decide)).trans cr_66_72_0
theorem cr_68_72_0 : cm_68.2.2.2 72 0 = some 73 := by rw [cm_68]; exact (nw_R (M := cm_67) (by rw [cn_67]; decide) (by decide)).trans cr_67_72_0
theorem cr_69_72_0 : cm_69.2.2.2 72 0 = some 73 := by rw [cm_69]; exact (kr_ne (M := cm_68) (o := 73) (j := 4) (v := some 90) (a := 72) (b := 0) (by decide)).trans cr_68_72_0
theorem ck_67_72 : cm_67.2.1 72 = (1, 2) := by rw [cm_67]; exact (kn_old (M := cm_66) (by rw [cn_66]; decide)).trans ck_66_72
theorem ck_68_72 : cm_68.2.1 72 = (1, 2) := by rw [cm_68]; exact (nw_kd (M := cm_67) (by rw [cn_67]; decide)).trans ck_67_72
theorem ck_69_72 : cm_69.2.1 72 = (1, 2) := by rw [cm_69]; exact (kR_kd).trans ck_68_72
def cm_70 : Mem := mNew cm_69 (6, 5)
theorem cn_70 : cm_70.1 = 95 := by rw [cm_70]; show cm_69.1 + 1 = 95; rw [cn_69]
def cm_71 : Mem := nwNews cm_70 94
theorem cn_71 : cm_71.1 = 98 := by rw [cm_71]; show cm_70.1 + 1 + 1 + 1 = 98; rw [cn_70]
theorem ck_70_94 : cm_70.2.1 94 = (6, 5) := by rw [cm_70]; exact kn_new (M := cm_69) cn_69
theorem ck_69_73 : cm_69.2.1 73 = (14, 16) := by rw [cm_69]; exact (kR_kd).trans ck_68_73
theorem ck_70_73 : cm_70.2.1 73 = (14, 16) := by rw [cm_70]; exact (kn_old (M := cm_69) (by rw [cn_69]; decide)).trans ck_69_73
theorem ck_71_73 : cm_71.2.1 73 = (14, 16) := by rw [cm_71]; exact (nw_kd (M := cm_70) (by rw [cn_70]; decide)).trans ck_70_73
def cm_72 : Mem := mR cm_71 73 5 (some 94)
theorem cn_72 : cm_72.1 = 98 := by rw [cm_72]; exact cn_71
theorem ck_71_94 : cm_71.2.1 94 = (6, 5) := by rw [cm_71]; exact (nw_kd (M := cm_70) (by rw [cn_70]; decide)).trans ck_70_94
theorem cr_70_72_0 : cm_70.2.2.2 72 0 = some 73 := by rw [cm_70]; exact (kr_old (M := cm_69) (by rw [cn_69]; decide)).trans cr_69_72_0
theorem cr_71_72_0 : cm_71.2.2.2 72 0 = some 73 := by rw [cm_71]; exact (nw_R (M := cm_70) (by rw [cn_70]; decide) (by decide)).trans cr_70_72_0
theorem cr_72_72_0 : cm_72.2.2.2 72 0 = some 73 := by rw [cm_72]; exact (kr_ne (M := cm_71) (o := 73) (j := 5) (v := some 94) (a := 72) (b := 0) (by decide)).trans cr_71_72_0
theorem ck_70_72 : cm_70.2.1 72 = (1, 2) := by rw [cm_70]; exact (kn_old (M := cm_69) (by rw [cn_69]; decide)).trans ck_69_72
theorem ck_71_72 : cm_71.2.1 72 = (1, 2) := by rw [cm_71]; exact (nw_kd (M := cm_70) (by rw [cn_70]; decide)).trans ck_70_72
theorem ck_72_72 : cm_72.2.1 72 = (1, 2) := by rw [cm_72]; exact (kR_kd).trans ck_71_72
def cm_73 : Mem := mNew cm_72 (6, 5)
theorem cn_73 : cm_73.1 = 99 := by rw [cm_73]; show cm_72.1 + 1 = 99; rw [cn_72]
def cm_74 : Mem := nwNews cm_73 98
theorem cn_74 : cm_74.1 = 102 := by rw [cm_74]; show cm_73.1 + 1 + 1 + 1 = 102; rw [cn_73]
theorem ck_73_98 : cm_73.2.1 98 = (6, 5) := by rw [cm_73]; exact kn_new (M := cm_72) cn_72
theorem ck_72_73 : cm_72.2.1 73 = (14, 16) := by rw [cm_72]; exact (kR_kd).trans ck_71_73
theorem ck_73_73 : cm_73.2.1 73 = (14, 16) := by rw [cm_73]; exact (kn_old (M := cm_72) (by rw [cn_72]; decide)).trans ck_72_73
theorem ck_74_73 : cm_74.2.1 73 = (14, 16) := by rw [cm_74]; exact (nw_kd (M := cm_73) (by rw [cn_73]; decide)).trans ck_73_73
def cm_75 : Mem := mR cm_74 73 6 (some 98)
theorem cn_75 : cm_75.1 = 102 := by rw [cm_75]; exact cn_74
theorem ck_74_98 : cm_74.2.1 98 = (6, 5) := by rw [cm_74]; exact (nw_kd (M := cm_73) (by rw [cn_73]; decide)).trans ck_73_98
theorem cr_73_72_0 : cm_73.2.2.2 72 0 = some 73 := by rw [cm_73]; exact (kr_old (M := cm_72) (by rw [cn_72]; decide)).trans cr_72_72_0
theorem cr_74_72_0 : cm_74.2.2.2 72 0 = some 73 := by rw [cm_74]; exact (nw_R (M := cm_73) (by rw [cn_73]; decide) (by decide)).trans cr_73_72_0
theorem cr_75_72_0 : cm_75.2.2.2 72 0 = some 73 := by rw [cm_75]; exact (kr_ne (M := cm_74) (o := 73) (j := 6) (v := some 98) (a := 72) (b := 0) (by decide)).trans cr_74_72_0
theorem ck_73_72 : cm_73.2.1 72 = (1, 2) := by rw [cm_73]; exact (kn_old (M := cm_72) (by rw [cn_72]; decide)).trans ck_72_72
theorem ck_74_72 : cm_74.2.1 72 = (1, 2) := by rw [cm_74]; exact (nw_kd (M := cm_73) (by rw [cn_73]; decide)).trans ck_73_72
theorem ck_75_72 : cm_75.2.1 72 = (1, 2) := by rw [cm_75]; exact (kR_kd).trans ck_74_72
def cm_76 : Mem := mNew cm_75 (6, 5)
theorem cn_76 : cm_76.1 = 103 := by rw [cm_76]; show cm_75.1 + 1 = 103; rw [cn_75]
def cm_77 : Mem := nwNews cm_76 102
theorem cn_77 : cm_77.1 = 106 := by rw [cm_77]; show cm_76.1 + 1 + 1 + 1 = 106; rw [cn_76]
theorem ck_76_102 : cm_76.2.1 102 = (6, 5) := by rw [cm_76]; exact kn_new (M := cm_75) cn_75
theorem ck_75_73 : cm_75.2.1 73 = (14, 16) := by rw [cm_75]; exact (kR_kd).trans ck_74_73
theorem ck_76_73 : cm_76.2.1 73 = (14, 16) := by rw [cm_76]; exact (kn_old (M := cm_75) (by rw [cn_75]; decide)).trans ck_75_73
theorem ck_77_73 : cm_77.2.1 73 = (14, 16) := by rw [cm_77]; exact (nw_kd (M := cm_76) (by rw [cn_76]; decide)).trans ck_76_73
def cm_78 : Mem := mR cm_77 73 7 (some 102)
theorem cn_78 : cm_78.1 = 106 := by rw [cm_78]; exact cn_77
theorem ck_77_102 : cm_77.2.1 102 = (6, 5) := by rw [cm_77]; exact (nw_kd (M := cm_76) (by rw [cn_76]; decide)).trans ck_76_102
theorem cr_76_72_0 : cm_76.2.2.2 72 0 = some 73 := by rw [cm_76]; exact (kr_old (M := cm_75) (by rw [cn_75]; decide)).trans cr_75_72_0
theorem cr_77_72_0 : cm_77.2.2.2 72 0 = some 73 := by rw [cm_77]; exact (nw_R (M := cm_76) (by rw [cn_76]; decide) (by decide)).trans cr_76_72_0
theorem cr_78_72_0 : cm_78.2.2.2 72 0 = some 73 := by rw [cm_78]; exact (kr_ne (M := cm_77) (o := 73) (j := 7) (v := some 102) (a := 72) (b := 0) (by decide)).trans cr_77_72_0
theorem ck_76_72 : cm_76.2.1 72 = (1, 2) := by rw [cm_76]; exact (kn_old (M := cm_75) (by rw [cn_75]; decide)).trans ck_75_72
theorem ck_77_72 : cm_77.2.1 72 = (1, 2) := by rw [cm_77]; exact (nw_kd (M := cm_76) (by rw [cn_76]; decide)).trans ck_76_72
theorem ck_78_72 : cm_78.2.1 72 = (1, 2) := by rw [cm_78]; exact (kR_kd).trans ck_77_72
def cm_79 : Mem := mNew cm_78 (6, 5)
theorem cn_79 : cm_79.1 = 107 := by rw [cm_79]; show cm_78.1 + 1 = 107; rw [cn_78]
def cm_80 : Mem := nwNews cm_79 106
theorem cn_80 : cm_80.1 = 110 := by rw [cm_80]; show cm_79.1 + 1 + 1 + 1 = 110; rw [cn_79]
theorem ck_79_106 : cm_79.2.1 106 = (6, 5) := by rw [cm_79]; exact kn_new (M := cm_78) cn_78
theorem ck_78_73 : cm_78.2.1 73 = (14, 16) := by rw [cm_78]; exact (kR_kd).trans ck_77_73
theorem ck_79_73 : cm_79.2.1 73 = (14, 16) := by rw [cm_79]; exact (kn_old (M := cm_78) (by rw [cn_78]; decide)).trans ck_78_73
theorem ck_80_73 : cm_80.2.1 73 = (14, 16) := by rw [cm_80]; exact (nw_kd (M := cm_79) (by rw [cn_79]; decide)).trans ck_79_73
def cm_81 : Mem := mR cm_80 73 8 (some 106)
theorem cn_81 : cm_81.1 = 110 := by rw [cm_81]; exact cn_80
theorem ck_80_106 : cm_80.2.1 106 = (6, 5) := by rw [cm_80]; exact (nw_kd (M := cm_79) (by rw [cn_79]; decide)).trans ck_79_106
theorem cr_79_72_0 : cm_79.2.2.2 72 0 = some 73 := by rw [cm_79]; exact (kr_old (M := cm_78) (by rw [cn_78]; decide)).trans cr_78_72_0
theorem cr_80_72_0 : cm_80.2.2.2 72 0 = some 73 := by rw [cm_80]; exact (nw_R (M := cm_79) (by rw [cn_79]; decide) (by decide)).trans cr_79_72_0
theorem cr_81_72_0 : cm_81.2.2.2 72 0 = some 73 := by rw [cm_81]; exact (kr_ne (M := cm_80) (o := 73) (j := 8) (v := some 106) (a := 72) (b := 0) (by decide)).trans cr_80_72_0
theorem ck_79_72 : cm_79.2.1 72 = (1, 2) := by rw [cm_79]; exact (kn_old (M := cm_78) (by rw [cn_78]; decide)).trans ck_78_72
theorem ck_80_72 : cm_80.2.1 72 = (1, 2) := by rw [cm_80]; exact (nw_kd (M := cm_79) (by rw [cn_79]; decide)).trans ck_79_72
theorem ck_81_72 : cm_81.2.1 72 = (1, 2) := by rw [cm_81]; exact (kR_kd).trans ck_80_72
def cm_82 : Mem := mNew cm_81 (6, 5)
theorem cn_82 : cm_82.1 = 111 := by rw [cm_82]; show cm_81.1 + 1 = 111; rw [cn_81]
def cm_83 : Mem := nwNews cm_82 110
theorem cn_83 : cm_83.1 = 114 := by rw [cm_83]; show cm_82.1 + 1 + 1 + 1 = 114; rw [cn_82]
theorem ck_82_110 : cm_82.2.1 110 = (6, 5) := by rw [cm_82]; exact kn_new (M := cm_81) cn_81
theorem ck_81_73 : cm_81.2.1 73 = (14, 16) := by rw [cm_81]; exact (kR_kd).trans ck_80_73
theorem ck_82_73 : cm_82.2.1 73 = (14, 16) := by rw [cm_82]; exact (kn_old (M := cm_81) (by rw [cn_81]; decide)).trans ck_81_73
theorem ck_83_73 : cm_83.2.1 73 = (14, 16) := by rw [cm_83]; exact (nw_kd (M := cm_82) (by rw [cn_82]; decide)).trans ck_82_73
def cm_84 : Mem := mR cm_83 73 9 (some 110)
theorem cn_84 : cm_84.1 = 114 := by rw [cm_84]; exact cn_83
theorem ck_83_110 : cm_83.2.1 110 = (6, 5) := by rw [cm_83]; exact (nw_kd (M := cm_82) (by rw [cn_82]; decide)).trans ck_82_110
theorem cr_82_72_0 : cm_82.2.2.2 72 0 = some 73 := by rw [cm_82]; exact (kr_old (M := cm_81) (by rw [cn_81]; decide)).trans cr_81_72_0
theorem cr_83_72_0 : cm_83.2.2.2 72 0 = some 73 := by rw [cm_83]; exact (nw_R (M := cm_82) (by rw [cn_82]; decide) (by decide)).trans cr_82_72_0
theorem cr_84_72_0 : cm_84.2.2.2 72 0 = some 73 := by rw [cm_84]; exact (kr_ne (M := cm_83) (o := 73) (j := 9) (v := some 110) (a := 72) (b := 0) (by decide)).trans cr_83_72_0
theorem ck_82_72 : cm_82.2.1 72 = (1, 2) := by rw [cm_82]; exact (kn_old (M := cm_81) (by rw [cn_81]; decide)).trans ck_81_72
theorem ck_83_72 : cm_83.2.1 72 = (1, 2) := by rw [cm_83]; exact (nw_kd (M := cm_82) (by rw [cn_82]; decide)).trans ck_82_72
theorem ck_84_72 : cm_84.2.1 72 = (1, 2) := by rw [cm_84]; exact (kR_kd).trans ck_83_72
def cm_85 : Mem := mNew cm_84 (6, 5)
theorem cn_85 : cm_85.1 = 115 := by rw [cm_85]; show cm_84.1 + 1 = 115; rw [cn_84]
def cm_86 : Mem := nwNews cm_85 114
theorem cn_86 : cm_86.1 = 118 := by rw [cm_86]; show cm_85.1 + 1 + 1 + 1 = 118; rw [cn_85]
theorem ck_85_114 : cm_85.2.1 114 = (6, 5) := by rw [cm_85]; exact kn_new (M := cm_84) cn_84
theorem ck_84_73 : cm_84.2.1 73 = (14, 16) := by rw [cm_84]; exact (kR_kd).trans ck_83_73
theorem ck_85_73 : cm_85.2.1 73 = (14, 16) := by rw [cm_85]; exact (kn_old (M := cm_84) (by rw [cn_84]; decide)).trans ck_84_73
theorem ck_86_73 : cm_86.2.1 73 = (14, 16) := by rw [cm_86]; exact (nw_kd (M := cm_85) (by rw [cn_85]; decide)).trans ck_85_73
def cm_87 : Mem := mR cm_86 73 10 (some 114)
theorem cn_87 : cm_87.1 = 118 := by rw [cm_87]; exact cn_86
theorem ck_86_114 : cm_86.2.1 114 = (6, 5) := by rw [cm_86]; exact (nw_kd (M := cm_85) (by rw [cn_85]; decide)).trans ck_85_114
theorem cr_85_72_0 : cm_85.2.2.2 72 0 = some 73 := by rw [cm_85]; exact (kr_old (M := cm_84) (by rw [cn_84]; decide)).trans cr_84_72_0
theorem cr_86_72_0 : cm_86.2.2.2 72 0 = some 73 := by rw [cm_86]; exact (nw_R (M := cm_85) (by rw [cn_85]; decide) (by decide)).trans cr_85_72_0
theorem cr_87_72_0 : cm_87.2.2.2 72 0 = some 73 := by rw [cm_87]; exact (kr_ne (M := cm_86) (o := 73) (j := 10) (v := some 114) (a := 72) (b := 0) (by decide)).trans cr_86_72_0
theorem ck_85_72 : cm_85.2.1 72 = (1, 2) := by rw [cm_85]; exact (kn_old (M := cm_84) (by rw [cn_84]; decide)).trans ck_84_72
theorem ck_86_72 : cm_86.2.1 72 = (1, 2) := by rw [cm_86]; exact (nw_kd (M := cm_85) (by rw [cn_85]; decide)).trans ck_85_72
theorem ck_87_72 : cm_87.2.1 72 = (1, 2) := by rw [cm_87]; exact (kR_kd).trans ck_86_72
def cm_88 : Mem := mNew cm_87 (6, 5)
theorem cn_88 : cm_88.1 = 119 := by rw [cm_88]; show cm_87.1 + 1 = 119; rw [cn_87]
def cm_89 : Mem := nwNews cm_88 118
theorem cn_89 : cm_89.1 = 122 := by rw [cm_89]; show cm_88.1 + 1 + 1 + 1 = 122; rw [cn_88]
theorem ck_88_118 : cm_88.2.1 118 = (6, 5) := by rw [cm_88]; exact kn_new (M := cm_87) cn_87
theorem ck_87_73 : cm_87.2.1 73 = (14, 16) := by rw [cm_87]; exact (kR_kd).trans ck_86_73
theorem ck_88_73 : cm_88.2.1 73 = (14, 16) := by rw [cm_88]; exact (kn_old (M := cm_87) (by rw [cn_87]; decide)).trans ck_87_73
theorem ck_89_73 : cm_89.2.1 73 = (14, 16) := by rw [cm_89]; exact (nw_kd (M := cm_88) (by rw [cn_88]; decide)).trans ck_88_73
def cm_90 : Mem := mR cm_89 73 11 (some 118)
theorem cn_90 : cm_90.1 = 122 := by rw [cm_90]; exact cn_89
theorem ck_89_118 : cm_89.2.1 118 = (6, 5) := by rw [cm_89]; exact (nw_kd (M := cm_88) (by rw [cn_88]; decide)).trans ck_88_118
theorem cr_88_72_0 : cm_88.2.2.2 72 0 = some 73 := by rw [cm_88]; exact (kr_old (M := cm_87) (by rw [cn_87]; decide)).trans cr_87_72_0
theorem cr_89_72_0 : cm_89.2.2.2 72 0 = some 73 := by rw [cm_89]; exact (nw_R (M := cm_88) (by rw [cn_88]; decide) (by decide)).trans cr_88_72_0
theorem cr_90_72_0 : cm_90.2.2.2 72 0 = some 73 := by rw [cm_90]; exact (kr_ne (M := cm_89) (o := 73) (j := 11) (v := some 118) (a := 72) (b := 0) (by decide)).trans cr_89_72_0
theorem ck_88_72 : cm_88.2.1 72 = (1, 2) := by rw [cm_88]; exact (kn_old (M := cm_87) (by rw [cn_87]; decide)).trans ck_87_72
theorem ck_89_72 : cm_89.2.1 72 = (1, 2) := by rw [cm_89]; exact (nw_kd (M := cm_88) (by rw [cn_88]; decide)).trans ck_88_72
theorem ck_90_72 : cm_90.2.1 72 = (1, 2) := by rw [cm_90]; exact (kR_kd).trans ck_89_72
def cm_91 : Mem := mNew cm_90 (6, 5)
theorem cn_91 : cm_91.1 = 123 := by rw [cm_91]; show cm_90.1 + 1 = 123; rw [cn_90]
def cm_92 : Mem := nwNews cm_91 122
theorem cn_92 : cm_92.1 = 126 := by rw [cm_92]; show cm_91.1 + 1 + 1 + 1 = 126; rw [cn_91]
theorem ck_91_122 : cm_91.2.1 122 = (6, 5) := by rw [cm_91]; exact kn_new (M := cm_90) cn_90
theorem ck_90_73 : cm_90.2.1 73 = (14, 16) := by rw [cm_90]; exact (kR_kd).trans ck_89_73
theorem ck_91_73 : cm_91.2.1 73 = (14, 16) := by rw [cm_91]; exact (kn_old (M := cm_90) (by rw [cn_90]; decide)).trans ck_90_73
theorem ck_92_73 : cm_92.2.1 73 = (14, 16) := by rw [cm_92]; exact (nw_kd (M := cm_91) (by rw [cn_91]; decide)).trans ck_91_73
def cm_93 : Mem := mR cm_92 73 12 (some 122)
theorem cn_93 : cm_93.1 = 126 := by rw [cm_93]; exact cn_92
theorem ck_92_122 : cm_92.2.1 122 = (6, 5) := by rw [cm_92]; exact (nw_kd (M := cm_91) (by rw [cn_91]; decide)).trans ck_91_122
theorem cr_91_72_0 : cm_91.2.2.2 72 0 = some 73 := by rw [cm_91]; exact (kr_old (M := cm_90) (by rw [cn_90]; decide)).trans cr_90_72_0
theorem cr_92_72_0 : cm_92.2.2.2 72 0 = some 73 := by rw [cm_92]; exact (nw_R (M := cm_91) (by rw [cn_91]; decide) (by decide)).trans cr_91_72_0
theorem cr_93_72_0 : cm_93.2.2.2 72 0 = some 73 := by rw [cm_93]; exact (kr_ne (M := cm_92) (o := 73) (j := 12) (v := some 122) (a := 72) (b := 0) (by decide)).trans cr_92_72_0
theorem ck_91_72 : cm_91.2.1 72 = (1, 2) := by rw [cm_91]; exact (kn_old (M := cm_90) (by rw [cn_90]; decide)).trans ck_90_72
theorem ck_92_72 : cm_92.2.1 72 = (1, 2) := by rw [cm_92]; exact (nw_kd (M := cm_91) (by rw [cn_91]; decide)).trans ck_91_72
theorem ck_93_72 : cm_93.2.1 72 = (1, 2) := by rw [cm_93]; exact (kR_kd).trans ck_92_72
def cm_94 : Mem := mNew cm_93 (6, 5)
theorem cn_94 : cm_94.1 = 127 := by rw [cm_94]; show cm_93.1 + 1 = 127; rw [cn_93]
def cm_95 : Mem := nwNews cm_94 126
theorem cn_95 : cm_95.1 = 130 := by rw [cm_95]; show cm_94.1 + 1 + 1 + 1 = 130; rw [cn_94]
theorem ck_94_126 : cm_94.2.1 126 = (6, 5) := by rw [cm_94]; exact kn_new (M := cm_93) cn_93
theorem ck_93_73 : cm_93.2.1 73 = (14, 16) := by rw [cm_93]; exact (kR_kd).trans ck_92_73
theorem ck_94_73 : cm_94.2.1 73 = (14, 16) := by rw [cm_94]; exact (kn_old (M := cm_93) (by rw [cn_93]; decide)).trans ck_93_73
theorem ck_95_73 : cm_95.2.1 73 = (14, 16) := by rw [cm_95]; exact (nw_kd (M := cm_94) (by rw [cn_94]; decide)).trans ck_94_73
def cm_96 : Mem := mR cm_95 73 13 (some 126)
theorem cn_96 : cm_96.1 = 130 := by rw [cm_96]; exact cn_95
theorem ck_95_126 : cm_95.2.1 126 = (6, 5) := by rw [cm_95]; exact (nw_kd (M := cm_94) (by rw [cn_94]; decide)).trans ck_94_126
theorem cr_94_72_0 : cm_94.2.2.2 72 0 = some 73 := by rw [cm_94]; exact (kr_old (M := cm_93) (by rw [cn_93]; decide)).trans cr_93_72_0
theorem cr_95_72_0 : cm_95.2.2.2 72 0 = some 73 := by rw [cm_95]; exact (nw_R (M := cm_94) (by rw [cn_94]; decide) (by decide)).trans cr_94_72_0
theorem cr_96_72_0 : cm_96.2.2.2 72 0 = some 73 := by rw [cm_96]; exact (kr_ne (M := cm_95) (o := 73) (j := 13) (v := some 126) (a := 72) (b := 0) (by decide)).trans cr_95_72_0
theorem ck_94_72 : cm_94.2.1 72 = (1, 2) := by rw [cm_94]; exact (kn_old (M := cm_93) (by rw [cn_93]; decide)).trans ck_93_72
theorem ck_95_72 : cm_95.2.1 72 = (1, 2) := by rw [cm_95]; exact (nw_kd (M := cm_94) (by rw [cn_94]; decide)).trans ck_94_72
theorem ck_96_72 : cm_96.2.1 72 = (1, 2) := by rw [cm_96]; exact (kR_kd).trans ck_95_72
def cm_97 : Mem := mNew cm_96 (6, 5)
theorem cn_97 : cm_97.1 = 131 := by rw [cm_97]; show cm_96.1 + 1 = 131; rw [cn_96]
def cm_98 : Mem := nwNews cm_97 130
theorem cn_98 : cm_98.1 = 134 := by rw [cm_98]; show cm_97.1 + 1 + 1 + 1 = 134; rw [cn_97]
theorem ck_97_130 : cm_97.2.1 130 = (6, 5) := by rw [cm_97]; exact kn_new (M := cm_96) cn_96
theorem ck_96_73 : cm_96.2.1 73 = (14, 16) := by rw [cm_96]; exact (kR_kd).trans ck_95_73
theorem ck_97_73 : cm_97.2.1 73 = (14, 16) := by rw [cm_97]; exact (kn_old (M := cm_96) (by rw [cn_96]; decide)).trans ck_96_73
theorem ck_98_73 : cm_98.2.1 73 = (14, 16) := by rw [cm_98]; exact (nw_kd (M := cm_97) (by rw [cn_97]; decide)).trans ck_97_73
def cm_99 : Mem := mR cm_98 73 14 (some 130)
theorem cn_99 : cm_99.1 = 134 := by rw [cm_99]; exact cn_98
theorem ck_98_130 : cm_98.2.1 130 = (6, 5) := by rw [cm_98]; exact (nw_kd (M := cm_97) (by rw [cn_97]; decide)).trans ck_97_130
theorem cr_97_72_0 : cm_97.2.2.2 72 0 = some 73 := by rw [cm_97]; exact (kr_old (M := cm_96) (by rw [cn_96]; decide)).trans cr_96_72_0
theorem cr_98_72_0 : cm_98.2.2.2 72 0 = some 73 := by rw [cm_98]; exact (nw_R (M := cm_97) (by rw [cn_97]; decide) (by decide)).trans cr_97_72_0
theorem cr_99_72_0 : cm_99.2.2.2 72 0 = some 73 := by rw [cm_99]; exact (kr_ne (M := cm_98) (o := 73) (j := 14) (v := some 130) (a := 72) (b := 0) (by decide)).trans cr_98_72_0
theorem ck_97_72 : cm_97.2.1 72 = (1, 2) := by rw [cm_97]; exact (kn_old (M := cm_96) (by rw [cn_96]; decide)).trans ck_96_72
theorem ck_98_72 : cm_98.2.1 72 = (1, 2) := by rw [cm_98]; exact (nw_kd (M := cm_97) (by rw [cn_97]; decide)).trans ck_97_72
theorem ck_99_72 : cm_99.2.1 72 = (1, 2) := by rw [cm_99]; exact (kR_kd).trans ck_98_72
def cm_100 : Mem := mNew cm_99 (6, 5)
theorem cn_100 : cm_100.1 = 135 := by rw [cm_100]; show cm_99.1 + 1 = 135; rw [cn_99]
def cm_101 : Mem := nwNews cm_100 134
theorem cn_101 : cm_101.1 = 138 := by rw [cm_101]; show cm_100.1 + 1 + 1 + 1 = 138; rw [cn_100]
theorem ck_100_134 : cm_100.2.1 134 = (6, 5) := by rw [cm_100]; exact kn_new (M := cm_99) cn_99
theorem ck_99_73 : cm_99.2.1 73 = (14, 16) := by rw [cm_99]; exact (kR_kd).trans ck_98_73
theorem ck_100_73 : cm_100.2.1 73 = (14, 16) := by rw [cm_100]; exact (kn_old (M := cm_99) (by rw [cn_99]; decide)).trans ck_99_73
theorem ck_101_73 : cm_101.2.1 73 = (14, 16) := by rw [cm_101]; exact (nw_kd (M := cm_100) (by rw [cn_100]; decide)).trans ck_100_73
def cm_102 : Mem := mR cm_101 73 15 (some 134)
theorem cn_102 : cm_102.1 = 138 := by rw [cm_102]; exact cn_101
theorem ck_101_134 : cm_101.2.1 134 = (6, 5) := by rw [cm_101]; exact (nw_kd (M := cm_100) (by rw [cn_100]; decide)).trans ck_100_134
set_option maxRecDepth 100000 in
set_option maxHeartbeats 4000000 in
theorem ctor_72 : Rn D_X1_init (65, 1440) [.ref 72] cm_51 (Ac cm_102) := by
  refine rn_of (by decide) rfl (Nat.le_of_ble_eq_true rfl) ?_
  show Ok D_X1_init (0, 0) (65, 1440) 0 [(0, .ref 72)] [] cm_51 _
  refine ok_aload_n dX1_init_0 0 rfl ?_
  refine ok_objInit dX1_init_1 wd_250 wd_82 wd_83 ⟨by decide, Nat.le_of_ble_eq_true rfl⟩ ?_
  refine ok_aload_n dX1_init_4 0 rfl ?_
  refine ok_bipush (v := 16) dX1_init_5 (by decide) ?_
  refine okC_newq (t := 14) (N := 16) (n := 73) (M' := cm_52) (q' := (1, 16)) dX1_init_7 (by decide) (by decide) (by decide) (by decide) wd_251 ⟨by decide, by decide⟩ cn_51 rfl rfl ?_
  refine okC_putF (M' := cm_53) dX1_init_10 fl_X1_11 (by decide) (by rw [cn_52]; decide) ck_52_72 (by decide) rfl (fun _ => ⟨rfl, rfl⟩) rfl ?_
  refine ok_aload_n dX1_init_13 0 rfl ?_
  refine ok_iconst (v := 0) dX1_init_14 (by decide) ?_
  refine okC_putI (M' := cm_54) dX1_init_15 fl_X1_17 (by rw [cn_53]; decide) ck_53_72 (by decide) rfl rfl rfl rfl ?_
  refine ok_iconst (v := 0) dX1_init_18 (by decide) ?_
  refine ok_istore_n (L' := [(1, .int 0), (0, .ref 72)]) dX1_init_19 (by decide) rfl ?_
  refine ok_iload_n dX1_init_20 0 rfl ?_
  refine ok_bipush (v := 16) dX1_init_21 (by decide) ?_
  refine ok_icmp_ge (tgt := 45) dX1_init_23 (by decide) (fun hc => absurd hc (by decide)) (fun hc => ?_)
  refine ok_aload_n dX1_init_26 1 rfl ?_
  refine ok_getR dX1_init_27 fl_X1_11 (by rw [cn_54]; decide) ck_54_72 (by decide) rfl cr_54_72_0 ?_
  refine ok_iload_n dX1_init_30 0 rfl ?_
  refine okC_new (n := 74) (M' := cm_55) (q' := (2, 21)) dX1_init_31 cl_6 wd_251 wd_85 wd_63 (by decide) ⟨by decide, by decide⟩ cn_54 rfl rfl ?_
  refine ok_dup dX1_init_34 rfl ?_
  refine okC_IN (M' := cm_56) (q' := (5, 105)) dX1_init_35 cv_X1_21 (by rw [cn_55]; decide) (Nat.le_of_ble_eq_true rfl) ⟨by decide, by decide⟩ ⟨by decide, by decide⟩ (t_X6_init (by rw [cn_55]; decide) ck_55_74) (by rw [cn_56, cn_55]; rfl) rfl ?_
  refine ok_aastore (r := (RX6, TX6, 5)) dX1_init_38 (by rw [cn_56]; decide) ck_56_73 (by exact Or.inr ⟨rfl, rfl⟩) (show inb _ _ by decide) (by rw [cn_56]; decide) ck_56_74 rfl (by decide) ?_
  show Ok D_X1_init (5, 105) _ 39 [(1, .int 0), (0, .ref 72)] [] cm_57 _
  refine ok_iinc (v := 1) (L' := [(1, .int 1), (0, .ref 72)]) dX1_init_39 0 rfl (by decide) (by decide) rfl ?_
  refine ok_goto (tgt := 20) dX1_init_42 (by decide) ?_
  refine ok_iload_n dX1_init_20 0 rfl ?_
  refine ok_bipush (v := 16) dX1_init_21 (by decide) ?_
  refine ok_icmp_ge (tgt := 45) dX1_init_23 (by decide) (fun hc => absurd hc (by decide)) (fun hc => ?_)
  refine ok_aload_n dX1_init_26 1 rfl ?_
  refine ok_getR dX1_init_27 fl_X1_11 (by rw [cn_57]; decide) ck_57_72 (by decide) rfl cr_57_72_0 ?_
  refine ok_iload_n dX1_init_30 0 rfl ?_
  refine okC_new (n := 78) (M' := cm_58) (q' := (6, 110)) dX1_init_31 cl_6 wd_251 wd_85 wd_63 (by decide) ⟨by decide, by decide⟩ cn_57 rfl rfl ?_
  refine ok_dup dX1_init_34 rfl ?_
  refine okC_IN (M' := cm_59) (q' := (9, 194)) dX1_init_35 cv_X1_21 (by rw [cn_58]; decide) (Nat.le_of_ble_eq_true rfl) ⟨by decide, by decide⟩ ⟨by decide, by decide⟩ (t_X6_init (by rw [cn_58]; decide) ck_58_78) (by rw [cn_59, cn_58]; rfl) rfl ?_
  refine ok_aastore (r := (RX6, TX6, 5)) dX1_init_38 (by rw [cn_59]; decide) ck_59_73 (by exact Or.inr ⟨rfl, rfl⟩) (show inb _ _ by decide) (by rw [cn_59]; decide) ck_59_78 rfl (by decide) ?_
  show Ok D_X1_init (9, 194) _ 39 [(1, .int 1), (0, .ref 72)] [] cm_60 _
  refine ok_iinc (v := 2) (L' := [(1, .int 2), (0, .ref 72)]) dX1_init_39 0 rfl (by decide) (by decide) rfl ?_
  refine ok_goto (tgt := 20) dX1_init_42 (by decide) ?_
  refine ok_iload_n dX1_init_20 0 rfl ?_
  refine ok_bipush (v := 16) dX1_init_21 (by decide) ?_
  refine ok_icmp_ge (tgt := 45) dX1_init_23 (by decide) (fun hc => absurd hc (by decide)) (fun hc => ?_)
  refine ok_aload_n dX1_init_26 1 rfl ?_
  refine ok_getR dX1_init_27 fl_X1_11 (by rw [cn_60]; decide) ck_60_72 (by decide) rfl cr_60_72_0 ?_
  refine ok_iload_n dX1_init_30 0 rfl ?_
  refine okC_new (n := 82) (M' := cm_61) (q' := (10, 199)) dX1_init_31 cl_6 wd_251 wd_85 wd_63 (by decide) ⟨by decide, by decide⟩ cn_60 rfl rfl ?_
  refine ok_dup dX1_init_34 rfl ?_
  refine okC_IN (M' := cm_62) (q' := (13, 283)) dX1_init_35 cv_X1_21 (by rw [cn_61]; decide) (Nat.le_of_ble_eq_true rfl) ⟨by decide, by decide⟩ ⟨by decide, by decide⟩ (t_X6_init (by rw [cn_61]; decide) ck_61_82) (by rw [cn_62, cn_61]; rfl) rfl ?_
  refine ok_aastore (r := (RX6, TX6, 5)) dX1_init_38 (by rw [cn_62]; decide) ck_62_73 (by exact Or.inr ⟨rfl, rfl⟩) (show inb _ _ by decide) (by rw [cn_62]; decide) ck_62_82 rfl (by decide) ?_
  show Ok D_X1_init (13, 283) _ 39 [(1, .int 2), (0, .ref 72)] [] cm_63 _
  refine ok_iinc (v := 3) (L' := [(1, .int 3), (0, .ref 72)]) dX1_init_39 0 rfl (by decide) (by decide) rfl ?_
  refine ok_goto (tgt := 20) dX1_init_42 (by decide) ?_
  refine ok_iload_n dX1_init_20 0 rfl ?_
  refine ok_bipush (v := 16) dX1_init_21 (by decide) ?_
  refine ok_icmp_ge (tgt := 45) dX1_init_23 (by decide) (fun hc => absurd hc (by decide)) (fun hc => ?_)
  refine ok_aload_n dX1_init_26 1 rfl ?_
  refine ok_getR dX1_init_27 fl_X1_11 (by rw [cn_63]; decide) ck_63_72 (by decide) rfl cr_63_72_0 ?_
  refine ok_iload_n dX1_init_30 0 rfl ?_
  refine okC_new (n := 86) (M' := cm_64) (q' := (14, 288)) dX1_init_31 cl_6 wd_251 wd_85 wd_63 (by decide) ⟨by decide, by decide⟩ cn_63 rfl rfl ?_
  refine ok_dup dX1_init_34 rfl ?_
  refine okC_IN (M' := cm_65) (q' := (17, 372)) dX1_init_35 cv_X1_21 (by rw [cn_64]; decide) (Nat.le_of_ble_eq_true rfl) ⟨by decide, by decide⟩ ⟨by decide, by decide⟩ (t_X6_init (by rw [cn_64]; decide) ck_64_86) (by rw [cn_65, cn_64]; rfl) rfl ?_
  refine ok_aastore (r := (RX6, TX6, 5)) dX1_init_38 (by rw [cn_65]; decide) ck_65_73 (by exact Or.inr ⟨rfl, rfl⟩) (show inb _ _ by decide) (by rw [cn_65]; decide) ck_65_86 rfl (by decide) ?_
  show Ok D_X1_init (17, 372) _ 39 [(1, .int 3), (0, .ref 72)] [] cm_66 _
  refine ok_iinc (v := 4) (L' := [(1, .int 4), (0, .ref 72)]) dX1_init_39 0 rfl (by decide) (by decide) rfl ?_
  refine ok_goto (tgt := 20) dX1_init_42 (by decide) ?_
  refine ok_iload_n dX1_init_20 0 rfl ?_
  refine ok_bipush (v := 16) dX1_init_21 (by decide) ?_
  refine ok_icmp_ge (tgt := 45) dX1_init_23 (by decide) (fun hc => absurd hc (by decide)) (fun hc => ?_)
  refine ok_aload_n dX1_init_26 1 rfl ?_
  refine ok_getR dX1_init_27 fl_X1_11 (by rw [cn_66]; decide) ck_66_72 (by decide) rfl cr_66_72_0 ?_
  refine ok_iload_n dX1_init_30 0 rfl ?_
  refine okC_new (n := 90) (M' := cm_67) (q' := (18, 377)) dX1_init_31 cl_6 wd_251 wd_85 wd_63 (by decide) ⟨by decide, by decide⟩ cn_66 rfl rfl ?_
  refine ok_dup dX1_init_34 rfl ?_
  refine okC_IN (M' := cm_68) (q' := (21, 461)) dX1_init_35 cv_X1_21 (by rw [cn_67]; decide) (Nat.le_of_ble_eq_true rfl) ⟨by decide, by decide⟩ ⟨by decide, by decide⟩ (t_X6_init (by rw [cn_67]; decide) ck_67_90) (by rw [cn_68, cn_67]; rfl) rfl ?_
  refine ok_aastore (r := (RX6, TX6, 5)) dX1_init_38 (by rw [cn_68]; decide) ck_68_73 (by exact Or.inr ⟨rfl, rfl⟩) (show inb _ _ by decide) (by rw [cn_68]; decide) ck_68_90 rfl (by decide) ?_
  show Ok D_X1_init (21, 461) _ 39 [(1, .int 4), (0, .ref 72)] [] cm_69 _
  refine ok_iinc (v := 5) (L' := [(1, .int 5), (0, .ref 72)]) dX1_init_39 0 rfl (by decide) (by decide) rfl ?_
  refine ok_goto (tgt := 20) dX1_init_42 (by decide) ?_
  refine ok_iload_n dX1_init_20 0 rfl ?_
  refine ok_bipush (v := 16) dX1_init_21 (by decide) ?_
  refine ok_icmp_ge (tgt := 45) dX1_init_23 (by decide) (fun hc => absurd hc (by decide)) (fun hc => ?_)
  refine ok_aload_n dX1_init_26 1 rfl ?_
  refine ok_getR dX1_init_27 fl_X1_11 (by rw [cn_69]; decide) ck_69_72 (by decide) rfl cr_69_72_0 ?_
  refine ok_iload_n dX1_init_30 0 rfl ?_
  refine okC_new (n := 94) (M' := cm_70) (q' := (22, 466)) dX1_init_31 cl_6 wd_251 wd_85 wd_63 (by decide) ⟨by decide, by decide⟩ cn_69 rfl rfl ?_
  refine ok_dup dX1_init_34 rfl ?_
  refine okC_IN (M' := cm_71) (q' := (25, 550)) dX1_init_35 cv_X1_21 (by rw [cn_70]; decide) (Nat.le_of_ble_eq_true rfl) ⟨by decide, by decide⟩ ⟨by decide, by decide⟩ (t_X6_init (by rw [cn_70]; decide) ck_70_94) (by rw [cn_71, cn_70]; rfl) rfl ?_
  refine ok_aastore (r := (RX6, TX6, 5)) dX1_init_38 (by rw [cn_71]; decide) ck_71_73 (by exact Or.inr ⟨rfl, rfl⟩) (show inb _ _ by decide) (by rw [cn_71]; decide) ck_71_94 rfl (by decide) ?_
  show Ok D_X1_init (25, 550) _ 39 [(1, .int 5), (0, .ref 72)] [] cm_72 _
  refine ok_iinc (v := 6) (L' := [(1, .int 6), (0, .ref 72)]) dX1_init_39 0 rfl (by decide) (by decide) rfl ?_
  refine ok_goto (tgt := 20) dX1_init_42 (by decide) ?_
  refine ok_iload_n dX1_init_20 0 rfl ?_
  refine ok_bipush (v := 16) dX1_init_21 (by decide) ?_
  refine ok_icmp_ge (tgt := 45) dX1_init_23 (by decide) (fun hc => absurd hc (by decide)) (fun hc => ?_)
  refine ok_aload_n dX1_init_26 1 rfl ?_
  refine ok_getR dX1_init_27 fl_X1_11 (by rw [cn_72]; decide) ck_72_72 (by decide) rfl cr_72_72_0 ?_
  refine ok_iload_n dX1_init_30 0 rfl ?_
  refine okC_new (n := 98) (M' := cm_73) (q' := (26, 555)) dX1_init_31 cl_6 wd_251 wd_85 wd_63 (by decide) ⟨by decide, by decide⟩ cn_72 rfl rfl ?_
  refine ok_dup dX1_init_34 rfl ?_
  refine okC_IN (M' := cm_74) (q' := (29, 639)) dX1_init_35 cv_X1_21 (by rw [cn_73]; decide) (Nat.le_of_ble_eq_true rfl) ⟨by decide, by decide⟩ ⟨by decide, by decide⟩ (t_X6_init (by rw [cn_73]; decide) ck_73_98) (by rw [cn_74, cn_73]; rfl) rfl ?_
  refine ok_aastore (r := (RX6, TX6, 5)) dX1_init_38 (by rw [cn_74]; decide) ck_74_73 (by exact Or.inr ⟨rfl, rfl⟩) (show inb _ _ by decide) (by rw [cn_74]; decide) ck_74_98 rfl (by decide) ?_
  show Ok D_X1_init (29, 639) _ 39 [(1, .int 6), (0, .ref 72)] [] cm_75 _
  refine ok_iinc (v := 7) (L' := [(1, .int 7), (0, .ref 72)]) dX1_init_39 0 rfl (by decide) (by decide) rfl ?_
  refine ok_goto (tgt := 20) dX1_init_42 (by decide) ?_
  refine ok_iload_n dX1_init_20 0 rfl ?_
  refine ok_bipush (v := 16) dX1_init_21 (by decide) ?_
  refine ok_icmp_ge (tgt := 45) dX1_init_23 (by decide) (fun hc => absurd hc (by decide)) (fun hc => ?_)
  refine ok_aload_n dX1_init_26 1 rfl ?_
  refine ok_getR dX1_init_27 fl_X1_11 (by rw [cn_75]; decide) ck_75_72 (by decide) rfl cr_75_72_0 ?_
  refine ok_iload_n dX1_init_30 0 rfl ?_
  refine okC_new (n := 102) (M' := cm_76) (q' := (30, 644)) dX1_init_31 cl_6 wd_251 wd_85 wd_63 (by decide) ⟨by decide, by decide⟩ cn_75 rfl rfl ?_
  refine ok_dup dX1_init_34 rfl ?_
  refine okC_IN (M' := cm_77) (q' := (33, 728)) dX1_init_35 cv_X1_21 (by rw [cn_76]; decide) (Nat.le_of_ble_eq_true rfl) ⟨by decide, by decide⟩ ⟨by decide, by decide⟩ (t_X6_init (by rw [cn_76]; decide) ck_76_102) (by rw [cn_77, cn_76]; rfl) rfl ?_
  refine ok_aastore (r := (RX6, TX6, 5)) dX1_init_38 (by rw [cn_77]; decide) ck_77_73 (by exact Or.inr ⟨rfl, rfl⟩) (show inb _ _ by decide) (by rw [cn_77]; decide) ck_77_102 rfl (by decide) ?_
  show Ok D_X1_init (33, 728) _ 39 [(1, .int 7), (0, .ref 72)] [] cm_78 _
  refine ok_iinc (v := 8) (L' := [(1, .int 8), (0, .ref 72)]) dX1_init_39 0 rfl (by decide) (by decide) rfl ?_
  refine ok_goto (tgt := 20) dX1_init_42 (by decide) ?_
  refine ok_iload_n dX1_init_20 0 rfl ?_
  refine ok_bipush (v := 16) dX1_init_21 (by decide) ?_
  refine ok_icmp_ge (tgt := 45) dX1_init_23 (by decide) (fun hc => absurd hc (by decide)) (fun hc => ?_)
  refine ok_aload_n dX1_init_26 1 rfl ?_
  refine ok_getR dX1_init_27 fl_X1_11 (by rw [cn_78]; decide) ck_78_72 (by decide) rfl cr_78_72_0 ?_
  refine ok_iload_n dX1_init_30 0 rfl ?_
  refine okC_new (n := 106) (M' := cm_79) (q' := (34, 733)) dX1_init_31 cl_6 wd_251 wd_85 wd_63 (by decide) ⟨by decide, by decide⟩ cn_78 rfl rfl ?_
  refine ok_dup dX1_init_34 rfl ?_
  refine okC_IN (M' := cm_80) (q' := (37, 817)) dX1_init_35 cv_X1_21 (by rw [cn_79]; decide) (Nat.le_of_ble_eq_true rfl) ⟨by decide, by decide⟩ ⟨by decide, by decide⟩ (t_X6_init (by rw [cn_79]; decide) ck_79_106) (by rw [cn_80, cn_79]; rfl) rfl ?_
  refine ok_aastore (r := (RX6, TX6, 5)) dX1_init_38 (by rw [cn_80]; decide) ck_80_73 (by exact Or.inr ⟨rfl, rfl⟩) (show inb _ _ by decide) (by rw [cn_80]; decide) ck_80_106 rfl (by decide) ?_
  show Ok D_X1_init (37, 817) _ 39 [(1, .int 8), (0, .ref 72)] [] cm_81 _
  refine ok_iinc (v := 9) (L' := [(1, .int 9), (0, .ref 72)]) dX1_init_39 0 rfl (by decide) (by decide) rfl ?_
  refine ok_goto (tgt := 20) dX1_init_42 (by decide) ?_
  refine ok_iload_n dX1_init_20 0 rfl ?_
  refine ok_bipush (v := 16) dX1_init_21 (by decide) ?_
  refine ok_icmp_ge (tgt := 45) dX1_init_23 (by decide) (fun hc => absurd hc (by decide)) (fun hc => ?_)
  refine ok_aload_n dX1_init_26 1 rfl ?_
  refine ok_getR dX1_init_27 fl_X1_11 (by rw [cn_81]; decide) ck_81_72 (by decide) rfl cr_81_72_0 ?_
  refine ok_iload_n dX1_init_30 0 rfl ?_
  refine okC_new (n := 110) (M' := cm_82) (q' := (38, 822)) dX1_init_31 cl_6 wd_251 wd_85 wd_63 (by decide) ⟨by decide, by decide⟩ cn_81 rfl rfl ?_
  refine ok_dup dX1_init_34 rfl ?_
  refine okC_IN (M' := cm_83) (q' := (41, 906)) dX1_init_35 cv_X1_21 (by rw [cn_82]; decide) (Nat.le_of_ble_eq_true rfl) ⟨by decide, by decide⟩ ⟨by decide, by decide⟩ (t_X6_init (by rw [cn_82]; decide) ck_82_110) (by rw [cn_83, cn_82]; rfl) rfl ?_
  refine ok_aastore (r := (RX6, TX6, 5)) dX1_init_38 (by rw [cn_83]; decide) ck_83_73 (by exact Or.inr ⟨rfl, rfl⟩) (show inb _ _ by decide) (by rw [cn_83]; decide) ck_83_110 rfl (by decide) ?_
  show Ok D_X1_init (41, 906) _ 39 [(1, .int 9), (0, .ref 72)] [] cm_84 _
  refine ok_iinc (v := 10) (L' := [(1, .int 10), (0, .ref 72)]) dX1_init_39 0 rfl (by decide) (by decide) rfl ?_
  refine ok_goto (tgt := 20) dX1_init_42 (by decide) ?_
  refine ok_iload_n dX1_init_20 0 rfl ?_
  refine ok_bipush (v := 16) dX1_init_21 (by decide) ?_
  refine ok_icmp_ge (tgt := 45) dX1_init_23 (by decide) (fun hc => absurd hc (by decide)) (fun hc => ?_)
  refine ok_aload_n dX1_init_26 1 rfl ?_
  refine ok_getR dX1_init_27 fl_X1_11 (by rw [cn_84]; decide) ck_84_72 (by decide) rfl cr_84_72_0 ?_
  refine ok_iload_n dX1_init_30 0 rfl ?_
  refine okC_new (n := 114) (M' := cm_85) (q' := (42, 911)) dX1_init_31 cl_6 wd_251 wd_85 wd_63 (by decide) ⟨by decide, by decide⟩ cn_84 rfl rfl ?_
  refine ok_dup dX1_init_34 rfl ?_
  refine okC_IN (M' := cm_86) (q' := (45, 995)) dX1_init_35 cv_X1_21 (by rw [cn_85]; decide) (Nat.le_of_ble_eq_true rfl) ⟨by decide, by decide⟩ ⟨by decide, by decide⟩ (t_X6_init (by rw [cn_85]; decide) ck_85_114) (by rw [cn_86, cn_85]; rfl) rfl ?_
  refine ok_aastore (r := (RX6, TX6, 5)) dX1_init_38 (by rw [cn_86]; decide) ck_86_73 (by exact Or.inr ⟨rfl, rfl⟩) (show inb _ _ by decide) (by rw [cn_86]; decide) ck_86_114 rfl (by decide) ?_
  show Ok D_X1_init (45, 995) _ 39 [(1, .int 10), (0, .ref 72)] [] cm_87 _
  refine ok_iinc (v := 11) (L' := [(1, .int 11), (0, .ref 72)]) dX1_init_39 0 rfl (by decide) (by decide) rfl ?_
  refine ok_goto (tgt := 20) dX1_init_42 (by decide) ?_
  refine ok_iload_n dX1_init_20 0 rfl ?_
  refine ok_bipush (v := 16) dX1_init_21 (by decide) ?_
  refine ok_icmp_ge (tgt := 45) dX1_init_23 (by decide) (fun hc => absurd hc (by decide)) (fun hc => ?_)
  refine ok_aload_n dX1_init_26 1 rfl ?_
  refine ok_getR dX1_init_27 fl_X1_11 (by rw [cn_87]; decide) ck_87_72 (by decide) rfl cr_87_72_0 ?_
  refine ok_iload_n dX1_init_30 0 rfl ?_
  refine okC_new (n := 118) (M' := cm_88) (q' := (46, 1000)) dX1_init_31 cl_6 wd_251 wd_85 wd_63 (by decide) ⟨by decide, by decide⟩ cn_87 rfl rfl ?_
  refine ok_dup dX1_init_34 rfl ?_
  refine okC_IN (M' := cm_89) (q' := (49, 1084)) dX1_init_35 cv_X1_21 (by rw [cn_88]; decide) (Nat.le_of_ble_eq_true rfl) ⟨by decide, by decide⟩ ⟨by decide, by decide⟩ (t_X6_init (by rw [cn_88]; decide) ck_88_118) (by rw [cn_89, cn_88]; rfl) rfl ?_
  refine ok_aastore (r := (RX6, TX6, 5)) dX1_init_38 (by rw [cn_89]; decide) ck_89_73 (by exact Or.inr ⟨rfl, rfl⟩) (show inb _ _ by decide) (by rw [cn_89]; decide) ck_89_118 rfl (by decide) ?_
  show Ok D_X1_init (49, 1084) _ 39 [(1, .int 11), (0, .ref 72)] [] cm_90 _
  refine ok_iinc (v := 12) (L' := [(1, .int 12), (0, .ref 72)]) dX1_init_39 0 rfl (by decide) (by decide) rfl ?_
  refine ok_goto (tgt := 20) dX1_init_42 (by decide) ?_
  refine ok_iload_n dX1_init_20 0 rfl ?_
  refine ok_bipush (v := 16) dX1_init_21 (by decide) ?_
  refine ok_icmp_ge (tgt := 45) dX1_init_23 (by decide) (fun hc => absurd hc (by decide)) (fun hc => ?_)
  refine ok_aload_n dX1_init_26 1 rfl ?_
  refine ok_getR dX1_init_27 fl_X1_11 (by rw [cn_90]; decide) ck_90_72 (by decide) rfl cr_90_72_0 ?_
  refine ok_iload_n dX1_init_30 0 rfl ?_
  refine okC_new (n := 122) (M' := cm_91) (q' := (50, 1089)) dX1_init_31 cl_6 wd_251 wd_85 wd_63 (by decide) ⟨by decide, by decide⟩ cn_90 rfl rfl ?_
  refine ok_dup dX1_init_34 rfl ?_
  refine okC_IN (M' := cm_92) (q' := (53, 1173)) dX1_init_35 cv_X1_21 (by rw [cn_91]; decide) (Nat.le_of_ble_eq_true rfl) ⟨by decide, by decide⟩ ⟨by decide, by decide⟩ (t_X6_init (by rw [cn_91]; decide) ck_91_122) (by rw [cn_92, cn_91]; rfl) rfl ?_
  refine ok_aastore (r := (RX6, TX6, 5)) dX1_init_38 (by rw [cn_92]; decide) ck_92_73 (by exact Or.inr ⟨rfl, rfl⟩) (show inb _ _ by decide) (by rw [cn_92]; decide) ck_92_122 rfl (by decide) ?_
  show Ok D_X1_init (53, 1173) _ 39 [(1, .int 12), (0, .ref 72)] [] cm_93 _
  refine ok_iinc (v := 13) (L' := [(1, .int 13), (0, .ref 72)]) dX1_init_39 0 rfl (by decide) (by decide) rfl ?_
  refine ok_goto (tgt := 20) dX1_init_42 (by decide) ?_
  refine ok_iload_n dX1_init_20 0 rfl ?_
  refine ok_bipush (v := 16) dX1_init_21 (by decide) ?_
  refine ok_icmp_ge (tgt := 45) dX1_init_23 (by decide) (fun hc => absurd hc (by decide)) (fun hc => ?_)
  refine ok_aload_n dX1_init_26 1 rfl ?_
  refine ok_getR dX1_init_27 fl_X1_11 (by rw [cn_93]; decide) ck_93_72 (by decide) rfl cr_93_72_0 ?_
  refine ok_iload_n dX1_init_30 0 rfl ?_
  refine okC_new (n := 126) (M' := cm_94) (q' := (54, 1178)) dX1_init_31 cl_6 wd_251 wd_85 wd_63 (by decide) ⟨by decide, by decide⟩ cn_93 rfl rfl ?_
  refine ok_dup dX1_init_34 rfl ?_
  refine okC_IN (M' := cm_95) (q' := (57, 1262)) dX1_init_35 cv_X1_21 (by rw [cn_94]; decide) (Nat.le_of_ble_eq_true rfl) ⟨by decide, by decide⟩ ⟨by decide, by decide⟩ (t_X6_init (by rw [cn_94]; decide) ck_94_126) (by rw [cn_95, cn_94]; rfl) rfl ?_
  refine ok_aastore (r := (RX6, TX6, 5)) dX1_init_38 (by rw [cn_95]; decide) ck_95_73 (by exact Or.inr ⟨rfl, rfl⟩) (show inb _ _ by decide) (by rw [cn_95]; decide) ck_95_126 rfl (by decide) ?_
  show Ok D_X1_init (57, 1262) _ 39 [(1, .int 13), (0, .ref 72)] [] cm_96 _
  refine ok_iinc (v := 14) (L' := [(1, .int 14), (0, .ref 72)]) dX1_init_39 0 rfl (by decide) (by decide) rfl ?_
  refine ok_goto (tgt := 20) dX1_init_42 (by decide) ?_
  refine ok_iload_n dX1_init_20 0 rfl ?_
  refine ok_bipush (v := 16) dX1_init_21 (by decide) ?_
  refine ok_icmp_ge (tgt := 45) dX1_init_23 (by decide) (fun hc => absurd hc (by decide)) (fun hc => ?_)
  refine ok_aload_n dX1_init_26 1 rfl ?_
  refine ok_getR dX1_init_27 fl_X1_11 (by rw [cn_96]; decide) ck_96_72 (by decide) rfl cr_96_72_0 ?_
  refine ok_iload_n dX1_init_30 0 rfl ?_
  refine okC_new (n := 130) (M' := cm_97) (q' := (58, 1267)) dX1_init_31 cl_6 wd_251 wd_85 wd_63 (by decide) ⟨by decide, by decide⟩ cn_96 rfl rfl ?_
  refine ok_dup dX1_init_34 rfl ?_
  refine okC_IN (M' := cm_98) (q' := (61, 1351)) dX1_init_35 cv_X1_21 (by rw [cn_97]; decide) (Nat.le_of_ble_eq_true rfl) ⟨by decide, by decide⟩ ⟨by decide, by decide⟩ (t_X6_init (by rw [cn_97]; decide) ck_97_130) (by rw [cn_98, cn_97]; rfl) rfl ?_
  refine ok_aastore (r := (RX6, TX6, 5)) dX1_init_38 (by rw [cn_98]; decide) ck_98_73 (by exact Or.inr ⟨rfl, rfl⟩) (show inb _ _ by decide) (by rw [cn_98]; decide) ck_98_130 rfl (by decide) ?_
  show Ok D_X1_init (61, 1351) _ 39 [(1, .int 14), (0, .ref 72)] [] cm_99 _
  refine ok_iinc (v := 15) (L' := [(1, .int 15), (0, .ref 72)]) dX1_init_39 0 rfl (by decide) (by decide) rfl ?_
  refine ok_goto (tgt := 20) dX1_init_42 (by decide) ?_
  refine ok_iload_n dX1_init_20 0 rfl ?_
  refine ok_bipush (v := 16) dX1_init_21 (by decide) ?_
  refine ok_icmp_ge (tgt := 45) dX1_init_23 (by decide) (fun hc => absurd hc (by decide)) (fun hc => ?_)
  refine ok_aload_n dX1_init_26 1 rfl ?_
  refine ok_getR dX1_init_27 fl_X1_11 (by rw [cn_99]; decide) ck_99_72 (by decide) rfl cr_99_72_0 ?_
  refine ok_iload_n dX1_init_30 0 rfl ?_
  refine okC_new (n := 134) (M' := cm_100) (q' := (62, 1356)) dX1_init_31 cl_6 wd_251 wd_85 wd_63 (by decide) ⟨by decide, by decide⟩ cn_99 rfl rfl ?_
  refine ok_dup dX1_init_34 rfl ?_
  refine okC_IN (M' := cm_101) (q' := (65, 1440)) dX1_init_35 cv_X1_21 (by rw [cn_100]; decide) (Nat.le_of_ble_eq_true rfl) ⟨by decide, by decide⟩ ⟨by decide, by decide⟩ (t_X6_init (by rw [cn_100]; decide) ck_100_134) (by rw [cn_101, cn_100]; rfl) rfl ?_
  refine ok_aastore (r := (RX6, TX6, 5)) dX1_init_38 (by rw [cn_101]; decide) ck_101_73 (by exact Or.inr ⟨rfl, rfl⟩) (show inb _ _ by decide) (by rw [cn_101]; decide) ck_101_134 rfl (by decide) ?_
  show Ok D_X1_init (65, 1440) _ 39 [(1, .int 15), (0, .ref 72)] [] cm_102 _
  refine ok_iinc (v := 16) (L' := [(1, .int 16), (0, .ref 72)]) dX1_init_39 0 rfl (by decide) (by decide) rfl ?_
  refine ok_goto (tgt := 20) dX1_init_42 (by decide) ?_
  refine ok_iload_n dX1_init_20 0 rfl ?_
  refine ok_bipush (v := 16) dX1_init_21 (by decide) ?_
  refine ok_icmp_ge (tgt := 45) dX1_init_23 (by decide) (fun hc => ?_) (fun hc => absurd hc (by decide))
  exact ok_retv (by rw [cn_102]; decide) dX1_init_45 rfl ⟨rfl, rfl⟩
theorem ck_50_0 : cm_50.2.1 0 = (10, 9) := by rw [cm_50]; exact (kR_kd).trans ck_49_0
theorem ck_51_0 : cm_51.2.1 0 = (10, 9) := by rw [cm_51]; exact (kn_old (M := cm_50) (by rw [cn_50]; decide)).trans ck_50_0
theorem ck_52_0 : cm_52.2.1 0 = (10, 9) := by rw [cm_52]; exact (kn_old (M := cm_51) (by rw [cn_51]; decide)).trans ck_51_0
theorem ck_53_0 : cm_53.2.1 0 = (10, 9) := by rw [cm_53]; exact (kR_kd).trans ck_52_0
theorem ck_54_0 : cm_54.2.1 0 = (10, 9) := by rw [cm_54]; exact (kI_kd).trans ck_53_0
theorem ck_55_0 : cm_55.2.1 0 = (10, 9) := by rw [cm_55]; exact (kn_old (M := cm_54) (by rw [cn_54]; decide)).trans ck_54_0
theorem ck_56_0 : cm_56.2.1 0 = (10, 9) := by rw [cm_56]; exact (nw_kd (M := cm_55) (by rw [cn_55]; decide)).trans ck_55_0
theorem ck_57_0 : cm_57.2.1 0 = (10, 9) := by rw [cm_57]; exact (kR_kd).trans ck_56_0
theorem ck_58_0 : cm_58.2.1 0 = (10, 9) := by rw [cm_58]; exact (kn_old (M := cm_57) (by rw [cn_57]; decide)).trans ck_57_0
theorem ck_59_0 : cm_59.2.1 0 = (10, 9) := by rw [cm_59]; exact (nw_kd (M := cm_58) (by rw [cn_58]; decide)).trans ck_58_0
theorem ck_60_0 : cm_60.2.1 0 = (10, 9) := by rw [cm_60]; exact (kR_kd).trans ck_59_0
theorem ck_61_0 : cm_61.2.1 0 = (10, 9) := by rw [cm_61]; exact (kn_old (M := cm_60) (by rw [cn_60]; decide)).trans ck_60_0
theorem ck_62_0 : cm_62.2.1 0 = (10, 9) := by rw [cm_62]; exact (nw_kd (M := cm_61) (by rw [cn_61]; decide)).trans ck_61_0
theorem ck_63_0 : cm_63.2.1 0 = (10, 9) := by rw [cm_63]; exact (kR_kd).trans ck_62_0
theorem ck_64_0 : cm_64.2.1 0 = (10, 9) := by rw [cm_64]; exact (kn_old (M := cm_63) (by rw [cn_63]; decide)).trans ck_63_0
theorem ck_65_0 : cm_65.2.1 0 = (10, 9) := by rw [cm_65]; exact (nw_kd (M := cm_64) (by rw [cn_64]; decide)).trans ck_64_0
theorem ck_66_0 : cm_66.2.1 0 = (10, 9) := by rw [cm_66]; exact (kR_kd).trans ck_65_0
theorem ck_67_0 : cm_67.2.1 0 = (10, 9) := by rw [cm_67]; exact (kn_old (M := cm_66) (by rw [cn_66]; decide)).trans ck_66_0
theorem ck_68_0 : cm_68.2.1 0 = (10, 9) := by rw [cm_68]; exact (nw_kd (M := cm_67) (by rw [cn_67]; decide)).trans ck_67_0
theorem ck_69_0 : cm_69.2.1 0 = (10, 9) := by rw [cm_69]; exact (kR_kd).trans ck_68_0
theorem ck_70_0 : cm_70.2.1 0 = (10, 9) := by rw [cm_70]; exact (kn_old (M := cm_69) (by rw [cn_69]; decide)).trans ck_69_0
theorem ck_71_0 : cm_71.2.1 0 = (10, 9) := by rw [cm_71]; exact (nw_kd (M := cm_70) (by rw [cn_70]; decide)).trans ck_70_0
theorem ck_72_0 : cm_72.2.1 0 = (10, 9) := by rw [cm_72]; exact (kR_kd).trans ck_71_0
theorem ck_73_0 : cm_73.2.1 0 = (10, 9) := by rw [cm_73]; exact (kn_old (M := cm_72) (by rw [cn_72]; decide)).trans ck_72_0
theorem ck_74_0 : cm_74.2.1 0 = (10, 9) := by rw [cm_74]; exact (nw_kd (M := cm_73) (by rw [cn_73]; decide)).trans ck_73_0
theorem ck_75_0 : cm_75.2.1 0 = (10, 9) := by rw [cm_75]; exact (kR_kd).trans ck_74_0
theorem ck_76_0 : cm_76.2.1 0 = (10, 9) := by rw [cm_76]; exact (kn_old (M := cm_75) (by rw [cn_75]; decide)).trans ck_75_0
theorem ck_77_0 : cm_77.2.1 0 = (10, 9) := by rw [cm_77]; exact (nw_kd (M := cm_76) (by rw [cn_76]; decide)).trans ck_76_0
theorem ck_78_0 : cm_78.2.1 0 = (10, 9) := by rw [cm_78]; exact (kR_kd).trans ck_77_0
theorem ck_79_0 : cm_79.2.1 0 = (10, 9) := by rw [cm_79]; exact (kn_old (M := cm_78) (by rw [cn_78]; decide)).trans ck_78_0
theorem ck_80_0 : cm_80.2.1 0 = (10, 9) := by rw [cm_80]; exact (nw_kd (M := cm_79) (by rw [cn_79]; decide)).trans ck_79_0
theorem ck_81_0 : cm_81.2.1 0 = (10, 9) := by rw [cm_81]; exact (kR_kd).trans ck_80_0
theorem ck_82_0 : cm_82.2.1 0 = (10, 9) := by rw [cm_82]; exact (kn_old (M := cm_81) (by rw [cn_81]; decide)).trans ck_81_0
theorem ck_83_0 : cm_83.2.1 0 = (10, 9) := by rw [cm_83]; exact (nw_kd (M := cm_82) (by rw [cn_82]; decide)).trans ck_82_0
theorem ck_84_0 : cm_84.2.1 0 = (10, 9) := by rw [cm_84]; exact (kR_kd).trans ck_83_0
theorem ck_85_0 : cm_85.2.1 0 = (10, 9) := by rw [cm_85]; exact (kn_old (M := cm_84) (by rw [cn_84]; decide)).trans ck_84_0
theorem ck_86_0 : cm_86.2.1 0 = (10, 9) := by rw [cm_86]; exact (nw_kd (M := cm_85) (by rw [cn_85]; decide)).trans ck_85_0
theorem ck_87_0 : cm_87.2.1 0 = (10, 9) := by rw [cm_87]; exact (kR_kd).trans ck_86_0
theorem ck_88_0 : cm_88.2.1 0 = (10, 9) := by rw [cm_88]; exact (kn_old (M := cm_87) (by rw [cn_87]; decide)).trans ck_87_0
theorem ck_89_0 : cm_89.2.1 0 = (10, 9) := by rw [cm_89]; exact (nw_kd (M := cm_88) (by rw [cn_88]; decide)).trans ck_88_0
theorem ck_90_0 : cm_90.2.1 0 = (10, 9) := by rw [cm_90]; exact (kR_kd).trans ck_89_0
theorem ck_91_0 : cm_91.2.1 0 = (10, 9) := by rw [cm_91]; exact (kn_old (M := cm_90) (by rw [cn_90]; decide)).trans ck_90_0
theorem ck_92_0 : cm_92.2.1 0 = (10, 9) := by rw [cm_92]; exact (nw_kd (M := cm_91) (by rw [cn_91]; decide)).trans ck_91_0
theorem ck_93_0 : cm_93.2.1 0 = (10, 9) := by rw [cm_93]; exact (kR_kd).trans ck_92_0
theorem ck_94_0 : cm_94.2.1 0 = (10, 9) := by rw [cm_94]; exact (kn_old (M := cm_93) (by rw [cn_93]; decide)).trans ck_93_0
theorem ck_95_0 : cm_95.2.1 0 = (10, 9) := by rw [cm_95]; exact (nw_kd (M := cm_94) (by rw [cn_94]; decide)).trans ck_94_0
theorem ck_96_0 : cm_96.2.1 0 = (10, 9) := by rw [cm_96]; exact (kR_kd).trans ck_95_0
theorem ck_97_0 : cm_97.2.1 0 = (10, 9) := by rw [cm_97]; exact (kn_old (M := cm_96) (by rw [cn_96]; decide)).trans ck_96_0
theorem ck_98_0 : cm_98.2.1 0 = (10, 9) := by rw [cm_98]; exact (nw_kd (M := cm_97) (by rw [cn_97]; decide)).trans ck_97_0
theorem ck_99_0 : cm_99.2.1 0 = (10, 9) := by rw [cm_99]; exact (kR_kd).trans ck_98_0
theorem ck_100_0 : cm_100.2.1 0 = (10, 9) := by rw [cm_100]; exact (kn_old (M := cm_99) (by rw [cn_99]; decide)).trans ck_99_0
theorem ck_101_0 : cm_101.2.1 0 = (10, 9) := by rw [cm_101]; exact (nw_kd (M := cm_100) (by rw [cn_100]; decide)).trans ck_100_0
theorem ck_102_0 : cm_102.2.1 0 = (10, 9) := by rw [cm_102]; exact (kR_kd).trans ck_101_0
def cm_103 : Mem := mR cm_102 0 3 (some 72)
theorem cn_103 : cm_103.1 = 138 := by rw [cm_103]; exact cn_102
def cm_104 : Mem := mNew cm_103 (0, 4)
theorem cn_104 : cm_104.1 = 139 := by rw [cm_104]; show cm_103.1 + 1 = 139; rw [cn_103]
def cm_105 : Mem := mNew cm_104 (12, 20)
theorem cn_105 : cm_105.1 = 140 := by rw [cm_105]; show cm_104.1 + 1 = 140; rw [cn_104]
theorem ck_104_138 : cm_104.2.1 138 = (0, 4) := by rw [cm_104]; exact kn_new (M := cm_103) cn_103
theorem ck_105_138 : cm_105.2.1 138 = (0, 4) := by rw [cm_105]; exact (kn_old (M := cm_104) (by rw [cn_104]; decide)).trans ck_104_138
def cm_106 : Mem := mR cm_105 138 0 (some 139)
theorem cn_106 : cm_106.1 = 140 := by rw [cm_106]; exact cn_105
def cm_107 : Mem := mNew cm_106 (12, 20)
theorem cn_107 : cm_107.1 = 141 := by rw [cm_107]; show cm_106.1 + 1 = 141; rw [cn_106]
theorem ck_106_138 : cm_106.2.1 138 = (0, 4) := by rw [cm_106]; exact (kR_kd).trans ck_105_138
theorem ck_107_138 : cm_107.2.1 138 = (0, 4) := by rw [cm_107]; exact (kn_old (M := cm_106) (by rw [cn_106]; decide)).trans ck_106_138
def cm_108 : Mem := mR cm_107 138 1 (some 140)
theorem cn_108 : cm_108.1 = 141 := by rw [cm_108]; exact cn_107
def cm_109 : Mem := mNew cm_108 (12, 20)
theorem cn_109 : cm_109.1 = 142 := by rw [cm_109]; show cm_108.1 + 1 = 142; rw [cn_108]
theorem ck_108_138 : cm_108.2.1 138 = (0, 4) := by rw [cm_108]; exact (kR_kd).trans ck_107_138
theorem ck_109_138 : cm_109.2.1 138 = (0, 4) := by rw [cm_109]; exact (kn_old (M := cm_108) (by rw [cn_108]; decide)).trans ck_108_138
def cm_110 : Mem := mR cm_109 138 2 (some 141)
theorem cn_110 : cm_110.1 = 142 := by rw [cm_110]; exact cn_109
theorem ck_110_138 : cm_110.2.1 138 = (0, 4) := by rw [cm_110]; exact (kR_kd).trans ck_109_138
def cm_111 : Mem := mI cm_110 138 3 0
theorem cn_111 : cm_111.1 = 142 := by rw [cm_111]; exact cn_110
set_option maxRecDepth 100000 in
set_option maxHeartbeats 4000000 in
theorem ctor_138 : Rn D_X0_init (3, 60) [.ref 138] cm_104 (Ac cm_111) := by
  refine rn_of (by decide) rfl (Nat.le_of_ble_eq_true rfl) ?_
  show Ok D_X0_init (0, 0) (3, 60) 0 [(0, .ref 138)] [] cm_104 _
  refine ok_aload_n dX0_init_0 0 rfl ?_
  refine ok_objInit dX0_init_1 wd_266 wd_82 wd_83 ⟨by decide, Nat.le_of_ble_eq_true rfl⟩ ?_
  refine ok_aload_n dX0_init_4 0 rfl ?_
  refine ok_bipush (v := 20) dX0_init_5 (by decide) ?_
  refine okC_newa (N := 20) (n := 139) (M' := cm_105) (q' := (1, 20)) dX0_init_7 (by decide) (by decide) (by decide) wd_115 ⟨by decide, by decide⟩ cn_104 rfl rfl ?_
  refine okC_putF (M' := cm_106) dX0_init_9 fl_X0_11 (by decide) (by rw [cn_105]; decide) ck_105_138 (by decide) rfl (fun _ => ⟨rfl, rfl⟩) rfl ?_
  refine ok_aload_n dX0_init_12 0 rfl ?_
  refine ok_bipush (v := 20) dX0_init_13 (by decide) ?_
  refine okC_newa (N := 20) (n := 140) (M' := cm_107) (q' := (2, 40)) dX0_init_15 (by decide) (by decide) (by decide) wd_115 ⟨by decide, by decide⟩ cn_106 rfl rfl ?_
  refine okC_putF (M' := cm_108) dX0_init_17 fl_X0_15 (by decide) (by rw [cn_107]; decide) ck_107_138 (by decide) rfl (fun _ => ⟨rfl, rfl⟩) rfl ?_
  refine ok_aload_n dX0_init_20 0 rfl ?_
  refine ok_bipush (v := 20) dX0_init_21 (by decide) ?_
  refine okC_newa (N := 20) (n := 141) (M' := cm_109) (q' := (3, 60)) dX0_init_23 (by decide) (by decide) (by decide) wd_115 ⟨by decide, by decide⟩ cn_108 rfl rfl ?_
  refine okC_putF (M' := cm_110) dX0_init_25 fl_X0_18 (by decide) (by rw [cn_109]; decide) ck_109_138 (by decide) rfl (fun _ => ⟨rfl, rfl⟩) rfl ?_
  refine ok_aload_n dX0_init_28 0 rfl ?_
  refine ok_iconst (v := 0) dX0_init_29 (by decide) ?_
  refine okC_putI (M' := cm_111) dX0_init_30 fl_X0_21 (by rw [cn_110]; decide) ck_110_138 (by decide) rfl rfl rfl rfl ?_
  exact ok_retv (by rw [cn_111]; decide) dX0_init_33 rfl ⟨rfl, rfl⟩
theorem ck_103_0 : cm_103.2.1 0 = (10, 9) := by rw [cm_103]; exact (kR_kd).trans ck_102_0
theorem ck_104_0 : cm_104.2.1 0 = (10, 9) := by rw [cm_104]; exact (kn_old (M := cm_103) (by rw [cn_103]; decide)).trans ck_103_0
theorem ck_105_0 : cm_105.2.1 0 = (10, 9) := by rw [cm_105]; exact (kn_old (M := cm_104) (by rw [cn_104]; decide)).trans ck_104_0
theorem ck_106_0 : cm_106.2.1 0 = (10, 9) := by rw [cm_106]; exact (kR_kd).trans ck_105_0
theorem ck_107_0 : cm_107.2.1 0 = (10, 9) := by rw [cm_107]; exact (kn_old (M := cm_106) (by rw [cn_106]; decide)).trans ck_106_0
theorem ck_108_0 : cm_108.2.1 0 = (10, 9) := by rw [cm_108]; exact (kR_kd).trans ck_107_0
theorem ck_109_0 : cm_109.2.1 0 = (10, 9) := by rw [cm_109]; exact (kn_old (M := cm_108) (by rw [cn_108]; decide)).trans ck_108_0
theorem ck_110_0 : cm_110.2.1 0 = (10, 9) := by rw [cm_110]; exact (kR_kd).trans ck_109_0
theorem ck_111_0 : cm_111.2.1 0 = (10, 9) := by rw [cm_111]; exact (kI_kd).trans ck_110_0
def cm_112 : Mem := mR cm_111 0 4 (some 138)
theorem cn_112 : cm_112.1 = 142 := by rw [cm_112]; exact cn_111
def cm_113 : Mem := mNew cm_112 (13, 2)
theorem cn_113 : cm_113.1 = 143 := by rw [cm_113]; show cm_112.1 + 1 = 143; rw [cn_112]
theorem ck_112_0 : cm_112.2.1 0 = (10, 9) := by rw [cm_112]; exact (kR_kd).trans ck_111_0
theorem ck_113_0 : cm_113.2.1 0 = (10, 9) := by rw [cm_113]; exact (kn_old (M := cm_112) (by rw [cn_112]; decide)).trans ck_112_0
def cm_114 : Mem := mR cm_113 0 5 (some 142)
theorem cn_114 : cm_114.1 = 143 := by rw [cm_114]; exact cn_113
theorem ck_114_0 : cm_114.2.1 0 = (10, 9) := by rw [cm_114]; exact (kR_kd).trans ck_113_0
def cm_115 : Mem := mI cm_114 0 6 0
theorem cn_115 : cm_115.1 = 143 := by rw [cm_115]; exact cn_114
theorem ck_115_0 : cm_115.2.1 0 = (10, 9) := by rw [cm_115]; exact (kI_kd).trans ck_114_0
def cm_116 : Mem := mI cm_115 0 7 (-1)
theorem cn_116 : cm_116.1 = 143 := by rw [cm_116]; exact cn_115
theorem ck_116_0 : cm_116.2.1 0 = (10, 9) := by rw [cm_116]; exact (kI_kd).trans ck_115_0
def cm_117 : Mem := mI cm_116 0 8 1
theorem cn_117 : cm_117.1 = 143 := by rw [cm_117]; exact cn_116
theorem cr_114_0_5 : cm_114.2.2.2 0 5 = some 142 := by rw [cm_114]; exact kr_set (M := cm_113) (o := 0) (j := 5)
theorem cr_115_0_5 : cm_115.2.2.2 0 5 = some 142 := by rw [cm_115]; exact (kI_R).trans cr_114_0_5
theorem cr_116_0_5 : cm_116.2.2.2 0 5 = some 142 := by rw [cm_116]; exact (kI_R).trans cr_115_0_5
theorem cr_117_0_5 : cm_117.2.2.2 0 5 = some 142 := by rw [cm_117]; exact (kI_R).trans cr_116_0_5
theorem ck_117_0 : cm_117.2.1 0 = (10, 9) := by rw [cm_117]; exact (kI_kd).trans ck_116_0
def cm_118 : Mem := mNew cm_117 (4, 3)
theorem cn_118 : cm_118.1 = 144 := by rw [cm_118]; show cm_117.1 + 1 = 144; rw [cn_117]
def cm_119 : Mem := mNew cm_118 (6, 5)
theorem cn_119 : cm_119.1 = 145 := by rw [cm_119]; show cm_118.1 + 1 = 145; rw [cn_118]
def cm_120 : Mem := nwNews cm_119 144
theorem cn_120 : cm_120.1 = 148 := by rw [cm_120]; show cm_119.1 + 1 + 1 + 1 = 148; rw [cn_119]
theorem ck_119_144 : cm_119.2.1 144 = (6, 5) := by rw [cm_119]; exact kn_new (M := cm_118) cn_118
theorem ck_118_143 : cm_118.2.1 143 = (4, 3) := by rw [cm_118]; exact kn_new (M := cm_117) cn_117
theorem ck_119_143 : cm_119.2.1 143 = (4, 3) := by rw [cm_119]; exact (kn_old (M := cm_118) (by rw [cn_118]; decide)).trans ck_118_143
theorem ck_120_143 : cm_120.2.1 143 = (4, 3) := by rw [cm_120]; exact (nw_kd (M := cm_119) (by rw [cn_119]; decide)).trans ck_119_143
def cm_121 : Mem := mR cm_120 143 0 (some 144)
theorem cn_121 : cm_121.1 = 148 := by rw [cm_121]; exact cn_120
theorem ck_121_143 : cm_121.2.1 143 = (4, 3) := by rw [cm_121]; exact (kR_kd).trans ck_120_143
def cm_122 : Mem := mI cm_121 143 1 0
theorem cn_122 : cm_122.1 = 148 := by rw [cm_122]; exact cn_121
theorem ck_122_143 : cm_122.2.1 143 = (4, 3) := by rw [cm_122]; exact (kI_kd).trans ck_121_143
def cm_123 : Mem := mI cm_122 143 2 0
theorem cn_123 : cm_123.1 = 148 := by rw [cm_123]; exact cn_122
set_option maxRecDepth 100000 in
set_option maxHeartbeats 4000000 in
theorem ctor_143 : Rn D_X4_init (4, 89) [.ref 143] cm_118 (Ac cm_123) := by
  refine rn_of (by decide) rfl (Nat.le_of_ble_eq_true rfl) ?_
  show Ok D_X4_init (0, 0) (4, 89) 0 [(0, .ref 143)] [] cm_118 _
  refine ok_aload_n dX4_init_0 0 rfl ?_
  refine ok_objInit dX4_init_1 wd_286 wd_82 wd_83 ⟨by decide, Nat.le_of_ble_eq_true rfl⟩ ?_
  refine ok_aload_n dX4_init_4 0 rfl ?_
  refine okC_new (n := 144) (M' := cm_119) (q' := (1, 5)) dX4_init_5 cl_6 wd_287 wd_85 wd_63 (by decide) ⟨by decide, by decide⟩ cn_118 rfl rfl ?_
  refine ok_dup dX4_init_8 rfl ?_
  refine okC_IN (M' := cm_120) (q' := (4, 89)) dX4_init_9 cv_X4_9 (by rw [cn_119]; decide) (Nat.le_of_ble_eq_true rfl) ⟨by decide, by decide⟩ ⟨by decide, by decide⟩ (t_X6_init (by rw [cn_119]; decide) ck_119_144) (by rw [cn_120, cn_119]; rfl) rfl ?_
  refine okC_putF (M' := cm_121) dX4_init_12 fl_X4_10 (by decide) (by rw [cn_120]; decide) ck_120_143 (by decide) rfl (fun _ => ⟨rfl, rfl⟩) rfl ?_
  refine ok_aload_n dX4_init_15 0 rfl ?_
  refine ok_iconst (v := 0) dX4_init_16 (by decide) ?_
  refine okC_putI (M' := cm_122) dX4_init_17 fl_X4_16 (by rw [cn_121]; decide) ck_121_143 (by decide) rfl rfl rfl rfl ?_
  refine ok_aload_n dX4_init_20 0 rfl ?_
  refine ok_iconst (v := 0) dX4_init_21 (by decide) ?_
  refine okC_putI (M' := cm_123) dX4_init_22 fl_X4_20 (by rw [cn_122]; decide) ck_122_143 (by decide) rfl (by decide) (by decide) rfl ?_
  exact ok_retv (by rw [cn_123]; decide) dX4_init_25 rfl ⟨rfl, rfl⟩
theorem ck_113_142 : cm_113.2.1 142 = (13, 2) := by rw [cm_113]; exact kn_new (M := cm_112) cn_112
theorem ck_114_142 : cm_114.2.1 142 = (13, 2) := by rw [cm_114]; exact (kR_kd).trans ck_113_142
theorem ck_115_142 : cm_115.2.1 142 = (13, 2) := by rw [cm_115]; exact (kI_kd).trans ck_114_142
theorem ck_116_142 : cm_116.2.1 142 = (13, 2) := by rw [cm_116]; exact (kI_kd).trans ck_115_142
theorem ck_117_142 : cm_117.2.1 142 = (13, 2) := by rw [cm_117]; exact (kI_kd).trans ck_116_142
theorem ck_118_142 : cm_118.2.1 142 = (13, 2) := by rw [cm_118]; exact (kn_old (M := cm_117) (by rw [cn_117]; decide)).trans ck_117_142
theorem ck_119_142 : cm_119.2.1 142 = (13, 2) := by rw [cm_119]; exact (kn_old (M := cm_118) (by rw [cn_118]; decide)).trans ck_118_142
theorem ck_120_142 : cm_120.2.1 142 = (13, 2) := by rw [cm_120]; exact (nw_kd (M := cm_119) (by rw [cn_119]; decide)).trans ck_119_142
theorem ck_121_142 : cm_121.2.1 142 = (13, 2) := by rw [cm_121]; exact (kR_kd).trans ck_120_142
theorem ck_122_142 : cm_122.2.1 142 = (13, 2) := by rw [cm_122]; exact (kI_kd).trans ck_121_142
theorem ck_123_142 : cm_123.2.1 142 = (13, 2) := by rw [cm_123]; exact (kI_kd).trans ck_122_142
def cm_124 : Mem := mR cm_123 142 0 (some 143)
theorem cn_124 : cm_124.1 = 148 := by rw [cm_124]; exact cn_123
theorem ck_123_143 : cm_123.2.1 143 = (4, 3) := by rw [cm_123]; exact (kI_kd).trans ck_122_143
theorem cr_118_0_5 : cm_118.2.2.2 0 5 = some 142 := by rw [cm_118]; exact (kr_old (M := cm_117) (by rw [cn_117]; decide)).trans cr_117_0_5
theorem cr_119_0_5 : cm_119.2.2.2 0 5 = some 142 := by rw [cm_119]; exact (kr_old (M := cm_118) (by rw [cn_118]; decide)).trans cr_118_0_5
theorem cr_120_0_5 : cm_120.2.2.2 0 5 = some 142 := by rw [cm_120]; exact (nw_R (M := cm_119) (by rw [cn_119]; decide) (by decide)).trans cr_119_0_5
theorem cr_121_0_5 : cm_121.2.2.2 0 5 = some 142 := by rw [cm_121]; exact (kr_ne (M := cm_120) (o := 143) (j := 0) (v := some 144) (a := 0) (b := 5) (by decide)).trans cr_120_0_5
theorem cr_122_0_5 : cm_122.2.2.2 0 5 = some 142 := by rw [cm_122]; exact (kI_R).trans cr_121_0_5
theorem cr_123_0_5 : cm_123.2.2.2 0 5 = some 142 := by rw [cm_123]; exact (kI_R).trans cr_122_0_5
theorem cr_124_0_5 : cm_124.2.2.2 0 5 = some 142 := by rw [cm_124]; exact (kr_ne (M := cm_123) (o := 142) (j := 0) (v := some 143) (a := 0) (b := 5) (by decide)).trans cr_123_0_5
theorem ck_118_0 : cm_118.2.1 0 = (10, 9) := by rw [cm_118]; exact (kn_old (M := cm_117) (by rw [cn_117]; decide)).trans ck_117_0
theorem ck_119_0 : cm_119.2.1 0 = (10, 9) := by rw [cm_119]; exact (kn_old (M := cm_118) (by rw [cn_118]; decide)).trans ck_118_0
theorem ck_120_0 : cm_120.2.1 0 = (10, 9) := by rw [cm_120]; exact (nw_kd (M := cm_119) (by rw [cn_119]; decide)).trans ck_119_0
theorem ck_121_0 : cm_121.2.1 0 = (10, 9) := by rw [cm_121]; exact (kR_kd).trans ck_120_0
theorem ck_122_0 : cm_122.2.1 0 = (10, 9) := by rw [cm_122]; exact (kI_kd).trans ck_121_0
theorem ck_123_0 : cm_123.2.1 0 = (10, 9) := by rw [cm_123]; exact (kI_kd).trans ck_122_0
theorem ck_124_0 : cm_124.2.1 0 = (10, 9) := by rw [cm_124]; exact (kR_kd).trans ck_123_0
def cm_125 : Mem := mNew cm_124 (4, 3)
theorem cn_125 : cm_125.1 = 149 := by rw [cm_125]; show cm_124.1 + 1 = 149; rw [cn_124]
def cm_126 : Mem := mNew cm_125 (6, 5)
theorem cn_126 : cm_126.1 = 150 := by rw [cm_126]; show cm_125.1 + 1 = 150; rw [cn_125]
def cm_127 : Mem := nwNews cm_126 149
theorem cn_127 : cm_127.1 = 153 := by rw [cm_127]; show cm_126.1 + 1 + 1 + 1 = 153; rw [cn_126]
theorem ck_126_149 : cm_126.2.1 149 = (6, 5) := by rw [cm_126]; exact kn_new (M := cm_125) cn_125
theorem ck_125_148 : cm_125.2.1 148 = (4, 3) := by rw [cm_125]; exact kn_new (M := cm_124) cn_124
theorem ck_126_148 : cm_126.2.1 148 = (4, 3) := by rw [cm_126]; exact (kn_old (M := cm_125) (by rw [cn_125]; decide)).trans ck_125_148
theorem ck_127_148 : cm_127.2.1 148 = (4, 3) := by rw [cm_127]; exact (nw_kd (M := cm_126) (by rw [cn_126]; decide)).trans ck_126_148
def cm_128 : Mem := mR cm_127 148 0 (some 149)
theorem cn_128 : cm_128.1 = 153 := by rw [cm_128]; exact cn_127
theorem ck_128_148 : cm_128.2.1 148 = (4, 3) := by rw [cm_128]; exact (kR_kd).trans ck_127_148
def cm_129 : Mem := mI cm_128 148 1 0
theorem cn_129 : cm_129.1 = 153 := by rw [cm_129]; exact cn_128
theorem ck_129_148 : cm_129.2.1 148 = (4, 3) := by rw [cm_129]; exact (kI_kd).trans ck_128_148
def cm_130 : Mem := mI cm_129 148 2 0
theorem cn_130 : cm_130.1 = 153 := by rw [cm_130]; exact cn_129
set_option maxRecDepth 100000 in
set_option maxHeartbeats 4000000 in
theorem ctor_148 : Rn D_X4_init (4, 89) [.ref 148] cm_125 (Ac cm_130) := by
  refine rn_of (by decide) rfl (Nat.le_of_ble_eq_true rfl) ?_
  show Ok D_X4_init (0, 0) (4, 89) 0 [(0, .ref 148)] [] cm_125 _
  refine ok_aload_n dX4_init_0 0 rfl ?_
  refine ok_objInit dX4_init_1 wd_286 wd_82 wd_83 ⟨by decide, Nat.le_of_ble_eq_true rfl⟩ ?_
  refine ok_aload_n dX4_init_4 0 rfl ?_
  refine okC_new (n := 149) (M' := cm_126) (q' := (1, 5)) dX4_init_5 cl_6 wd_287 wd_85 wd_63 (by decide) ⟨by decide, by decide⟩ cn_125 rfl rfl ?_
  refine ok_dup dX4_init_8 rfl ?_
  refine okC_IN (M' := cm_127) (q' := (4, 89)) dX4_init_9 cv_X4_9 (by rw [cn_126]; decide) (Nat.le_of_ble_eq_true rfl) ⟨by decide, by decide⟩ ⟨by decide, by decide⟩ (t_X6_init (by rw [cn_126]; decide) ck_126_149) (by rw [cn_127, cn_126]; rfl) rfl ?_
  refine okC_putF (M' := cm_128) dX4_init_12 fl_X4_10 (by decide) (by rw [cn_127]; decide) ck_127_148 (by decide) rfl (fun _ => ⟨rfl, rfl⟩) rfl ?_
  refine ok_aload_n dX4_init_15 0 rfl ?_
  refine ok_iconst (v := 0) dX4_init_16 (by decide) ?_
  refine okC_putI (M' := cm_129) dX4_init_17 fl_X4_16 (by rw [cn_128]; decide) ck_128_148 (by decide) rfl rfl rfl rfl ?_
  refine ok_aload_n dX4_init_20 0 rfl ?_
  refine ok_iconst (v := 0) dX4_init_21 (by decide) ?_
  refine okC_putI (M' := cm_130) dX4_init_22 fl_X4_20 (by rw [cn_129]; decide) ck_129_148 (by decide) rfl (by decide) (by decide) rfl ?_
  exact ok_retv (by rw [cn_130]; decide) dX4_init_25 rfl ⟨rfl, rfl⟩
theorem ck_124_142 : cm_124.2.1 142 = (13, 2) := by rw [cm_124]; exact (kR_kd).trans ck_123_142
theorem ck_125_142 : cm_125.2.1 142 = (13, 2) := by rw [cm_125]; exact (kn_old (M := cm_124) (by rw [cn_124]; decide)).trans ck_124_142
theorem ck_126_142 : cm_126.2.1 142 = (13, 2) := by rw [cm_126]; exact (kn_old (M := cm_125) (by rw [cn_125]; decide)).trans ck_125_142
theorem ck_127_142 : cm_127.2.1 142 = (13, 2) := by rw [cm_127]; exact (nw_kd (M := cm_126) (by rw [cn_126]; decide)).trans ck_126_142
theorem ck_128_142 : cm_128.2.1 142 = (13, 2) := by rw [cm_128]; exact (kR_kd).trans ck_127_142
theorem ck_129_142 : cm_129.2.1 142 = (13, 2) := by rw [cm_129]; exact (kI_kd).trans ck_128_142
theorem ck_130_142 : cm_130.2.1 142 = (13, 2) := by rw [cm_130]; exact (kI_kd).trans ck_129_142
def cm_131 : Mem := mR cm_130 142 1 (some 148)
theorem cn_131 : cm_131.1 = 153 := by rw [cm_131]; exact cn_130
theorem ck_130_148 : cm_130.2.1 148 = (4, 3) := by rw [cm_130]; exact (kI_kd).trans ck_129_148
set_option maxRecDepth 100000 in
set_option maxHeartbeats 4000000 in
theorem ctor_0 : Rn D_X10_init (152, 3944) [.ref 0] cm_1 (Ac cm_131) := by
  refine rn_of (by decide) rfl (Nat.le_of_ble_eq_true rfl) ?_
  show Ok D_X10_init (0, 0) (152, 3944) 0 [(0, .ref 0)] [] cm_1 _
  refine ok_aload_n dX10_init_0 0 rfl ?_
  refine ok_objInit dX10_init_1 wd_81 wd_82 wd_83 ⟨by decide, Nat.le_of_ble_eq_true rfl⟩ ?_
  refine ok_aload_n dX10_init_4 0 rfl ?_
  refine okC_new (n := 1) (M' := cm_2) (q' := (1, 5)) dX10_init_5 cl_6 wd_84 wd_85 wd_63 (by decide) ⟨by decide, by decide⟩ cn_1 rfl rfl ?_
  refine ok_dup dX10_init_8 rfl ?_
  refine okC_IN (M' := cm_3) (q' := (4, 89)) dX10_init_9 cv_X10_9 (by rw [cn_2]; decide) (Nat.le_of_ble_eq_true rfl) ⟨by decide, by decide⟩ ⟨by decide, by decide⟩ (t_X6_init (by rw [cn_2]; decide) ck_2_1) (by rw [cn_3, cn_2]; rfl) rfl ?_
  refine okC_putF (M' := cm_4) dX10_init_12 fl_X10_10 (by decide) (by rw [cn_3]; decide) ck_3_0 (by decide) rfl (fun _ => ⟨rfl, rfl⟩) rfl ?_
  refine ok_aload_n dX10_init_15 0 rfl ?_
  refine okC_new (n := 5) (M' := cm_5) (q' := (5, 93)) dX10_init_16 cl_2 wd_116 wd_117 wd_64 (by decide) ⟨by decide, by decide⟩ cn_4 rfl rfl ?_
  refine ok_dup dX10_init_19 rfl ?_
  refine okC_IN (M' := cm_38) (q' := (67, 2146)) dX10_init_20 cv_X10_18 (by rw [cn_5]; decide) (Nat.le_of_ble_eq_true rfl) ⟨by decide, by decide⟩ ⟨by decide, by decide⟩ ctor_5 (by rw [cn_38, cn_5]; rfl) rfl ?_
  refine okC_putF (M' := cm_39) dX10_init_23 fl_X10_19 (by decide) (by rw [cn_38]; decide) ck_38_0 (by decide) rfl (fun _ => ⟨rfl, rfl⟩) rfl ?_
  refine ok_aload_n dX10_init_26 0 rfl ?_
  refine okC_new (n := 68) (M' := cm_40) (q' := (68, 2152)) dX10_init_27 cl_9 wd_220 wd_221 wd_69 (by decide) ⟨by decide, by decide⟩ cn_39 rfl rfl ?_
  refine ok_dup dX10_init_30 rfl ?_
  refine okC_IN (M' := cm_49) (q' := (71, 2252)) dX10_init_31 cv_X10_25 (by rw [cn_40]; decide) (Nat.le_of_ble_eq_true rfl) ⟨by decide, by decide⟩ ⟨by decide, by decide⟩ ctor_68 (by rw [cn_49, cn_40]; rfl) rfl ?_
  refine okC_putF (M' := cm_50) dX10_init_34 fl_X10_26 (by decide) (by rw [cn_49]; decide) ck_49_0 (by decide) rfl (fun _ => ⟨rfl, rfl⟩) rfl ?_
  refine ok_aload_n dX10_init_37 0 rfl ?_
  refine okC_new (n := 72) (M' := cm_51) (q' := (72, 2254)) dX10_init_38 cl_1 wd_245 wd_246 wd_70 (by decide) ⟨by decide, by decide⟩ cn_50 rfl rfl ?_
  refine ok_dup dX10_init_41 rfl ?_
  refine okC_I (M' := cm_102) (q' := (137, 3694)) dX10_init_42 cv_X10_32 (by rw [cn_51]; decide) (Nat.le_of_ble_eq_true rfl) ⟨by decide, by decide⟩ ⟨by decide, by decide⟩ ctor_72 (by rw [cn_102, cn_51]; rfl) rfl ?_
  refine okC_putF (M' := cm_103) dX10_init_45 fl_X10_33 (by decide) (by rw [cn_102]; decide) ck_102_0 (by decide) rfl (fun _ => ⟨rfl, rfl⟩) rfl ?_
  refine ok_aload_n dX10_init_48 0 rfl ?_
  refine okC_new (n := 138) (M' := cm_104) (q' := (138, 3698)) dX10_init_49 cl_0 wd_261 wd_262 wd_71 (by decide) ⟨by decide, by decide⟩ cn_103 rfl rfl ?_
  refine ok_dup dX10_init_52 rfl ?_
  refine okC_IN (M' := cm_111) (q' := (141, 3758)) dX10_init_53 cv_X10_39 (by rw [cn_104]; decide) (Nat.le_of_ble_eq_true rfl) ⟨by decide, by decide⟩ ⟨by decide, by decide⟩ ctor_138 (by rw [cn_111, cn_104]; rfl) rfl ?_
  refine okC_putF (M' := cm_112) dX10_init_56 fl_X10_40 (by decide) (by rw [cn_111]; decide) ck_111_0 (by decide) rfl (fun _ => ⟨rfl, rfl⟩) rfl ?_
  refine ok_aload_n dX10_init_59 0 rfl ?_
  refine ok_iconst (v := 2) dX10_init_60 (by decide) ?_
  refine okC_newq (t := 13) (N := 2) (n := 142) (M' := cm_113) (q' := (142, 3760)) dX10_init_61 (by decide) (by decide) (by decide) (by decide) wd_280 ⟨by decide, by decide⟩ cn_112 rfl rfl ?_
  refine okC_putF (M' := cm_114) dX10_init_64 fl_X10_46 (by decide) (by rw [cn_113]; decide) ck_113_0 (by decide) rfl (fun _ => ⟨rfl, rfl⟩) rfl ?_
  refine ok_aload_n dX10_init_67 0 rfl ?_
  refine ok_iconst (v := 0) dX10_init_68 (by decide) ?_
  refine okC_putI (M' := cm_115) dX10_init_69 fl_X10_50 (by rw [cn_114]; decide) ck_114_0 (by decide) rfl rfl rfl rfl ?_
  refine ok_aload_n dX10_init_72 0 rfl ?_
  refine ok_iconst (v := (-1)) dX10_init_73 (by decide) ?_
  refine okC_putI (M' := cm_116) dX10_init_74 fl_X10_54 (by rw [cn_115]; decide) ck_115_0 (by decide) rfl rfl rfl rfl ?_
  refine ok_aload_n dX10_init_77 0 rfl ?_
  refine ok_iconst (v := 1) dX10_init_78 (by decide) ?_
  refine okC_putI (M' := cm_117) dX10_init_79 fl_X10_57 (by rw [cn_116]; decide) ck_116_0 (by decide) rfl (by decide) (by decide) rfl ?_
  refine ok_iconst (v := 0) dX10_init_82 (by decide) ?_
  refine ok_istore_n (L' := [(1, .int 0), (0, .ref 0)]) dX10_init_83 (by decide) rfl ?_
  refine ok_iload_n dX10_init_84 0 rfl ?_
  refine ok_iconst (v := 2) dX10_init_85 (by decide) ?_
  refine ok_icmp_ge (tgt := 108) dX10_init_86 (by decide) (fun hc => absurd hc (by decide)) (fun hc => ?_)
  refine ok_aload_n dX10_init_89 1 rfl ?_
  refine ok_getR dX10_init_90 fl_X10_46 (by rw [cn_117]; decide) ck_117_0 (by decide) rfl cr_117_0_5 ?_
  refine ok_iload_n dX10_init_93 0 rfl ?_
  refine okC_new (n := 143) (M' := cm_118) (q' := (143, 3763)) dX10_init_94 cl_4 wd_280 wd_282 wd_72 (by decide) ⟨by decide, by decide⟩ cn_117 rfl rfl ?_
  refine ok_dup dX10_init_97 rfl ?_
  refine okC_IN (M' := cm_123) (q' := (147, 3852)) dX10_init_98 cv_X10_61 (by rw [cn_118]; decide) (Nat.le_of_ble_eq_true rfl) ⟨by decide, by decide⟩ ⟨by decide, by decide⟩ ctor_143 (by rw [cn_123, cn_118]; rfl) rfl ?_
  refine ok_aastore (r := (RX4, TX4, 3)) dX10_init_101 (by rw [cn_123]; decide) ck_123_142 (by exact Or.inl ⟨rfl, rfl⟩) (show inb _ _ by decide) (by rw [cn_123]; decide) ck_123_143 rfl (by decide) ?_
  show Ok D_X10_init (147, 3852) _ 102 [(1, .int 0), (0, .ref 0)] [] cm_124 _
  refine ok_iinc (v := 1) (L' := [(1, .int 1), (0, .ref 0)]) dX10_init_102 0 rfl (by decide) (by decide) rfl ?_
  refine ok_goto (tgt := 84) dX10_init_105 (by decide) ?_
  refine ok_iload_n dX10_init_84 0 rfl ?_
  refine ok_iconst (v := 2) dX10_init_85 (by decide) ?_
  refine ok_icmp_ge (tgt := 108) dX10_init_86 (by decide) (fun hc => absurd hc (by decide)) (fun hc => ?_)
  refine ok_aload_n dX10_init_89 1 rfl ?_
  refine ok_getR dX10_init_90 fl_X10_46 (by rw [cn_124]; decide) ck_124_0 (by decide) rfl cr_124_0_5 ?_
  refine ok_iload_n dX10_init_93 0 rfl ?_
  refine okC_new (n := 148) (M' := cm_125) (q' := (148, 3855)) dX10_init_94 cl_4 wd_280 wd_282 wd_72 (by decide) ⟨by decide, by decide⟩ cn_124 rfl rfl ?_
  refine ok_dup dX10_init_97 rfl ?_
  refine okC_IN (M' := cm_130) (q' := (152, 3944)) dX10_init_98 cv_X10_61 (by rw [cn_125]; decide) (Nat.le_of_ble_eq_true rfl) ⟨by decide, by decide⟩ ⟨by decide, by decide⟩ ctor_148 (by rw [cn_130, cn_125]; rfl) rfl ?_
  refine ok_aastore (r := (RX4, TX4, 3)) dX10_init_101 (by rw [cn_130]; decide) ck_130_142 (by exact Or.inl ⟨rfl, rfl⟩) (show inb _ _ by decide) (by rw [cn_130]; decide) ck_130_148 rfl (by decide) ?_
  show Ok D_X10_init (152, 3944) _ 102 [(1, .int 1), (0, .ref 0)] [] cm_131 _
  refine ok_iinc (v := 2) (L' := [(1, .int 2), (0, .ref 0)]) dX10_init_102 0 rfl (by decide) (by decide) rfl ?_
  refine ok_goto (tgt := 84) dX10_init_105 (by decide) ?_
  refine ok_iload_n dX10_init_84 0 rfl ?_
  refine ok_iconst (v := 2) dX10_init_85 (by decide) ?_
  refine ok_icmp_ge (tgt := 108) dX10_init_86 (by decide) (fun hc => ?_) (fun hc => absurd hc (by decide))
  exact ok_retv (by rw [cn_131]; decide) dX10_init_108 rfl ⟨rfl, rfl⟩
def cm_132 : Mem := mNew cm_131 (11, 24)
theorem cn_132 : cm_132.1 = 154 := by rw [cm_132]; show cm_131.1 + 1 = 154; rw [cn_131]
def cm_133 : Mem := mNew cm_132 (12, 1634)
theorem cn_133 : cm_133.1 = 155 := by rw [cm_133]; show cm_132.1 + 1 = 155; rw [cn_132]
theorem ck_132_153 : cm_132.2.1 153 = (11, 24) := by rw [cm_132]; exact kn_new (M := cm_131) cn_131
theorem ck_133_153 : cm_133.2.1 153 = (11, 24) := by rw [cm_133]; exact (kn_old (M := cm_132) (by rw [cn_132]; decide)).trans ck_132_153
def cm_134 : Mem := mR cm_133 153 0 (some 154)
theorem cn_134 : cm_134.1 = 155 := by rw [cm_134]; exact cn_133
def cm_135 : Mem := mNew cm_134 (12, 2)
theorem cn_135 : cm_135.1 = 156 := by rw [cm_135]; show cm_134.1 + 1 = 156; rw [cn_134]
theorem ck_134_153 : cm_134.2.1 153 = (11, 24) := by rw [cm_134]; exact (kR_kd).trans ck_133_153
theorem ck_135_153 : cm_135.2.1 153 = (11, 24) := by rw [cm_135]; exact (kn_old (M := cm_134) (by rw [cn_134]; decide)).trans ck_134_153
def cm_136 : Mem := mR cm_135 153 4 (some 155)
theorem cn_136 : cm_136.1 = 156 := by rw [cm_136]; exact cn_135
def cm_137 : Mem := mNew cm_136 (12, 60)
theorem cn_137 : cm_137.1 = 157 := by rw [cm_137]; show cm_136.1 + 1 = 157; rw [cn_136]
theorem ck_136_153 : cm_136.2.1 153 = (11, 24) := by rw [cm_136]; exact (kR_kd).trans ck_135_153
theorem ck_137_153 : cm_137.2.1 153 = (11, 24) := by rw [cm_137]; exact (kn_old (M := cm_136) (by rw [cn_136]; decide)).trans ck_136_153
def cm_138 : Mem := mR cm_137 153 5 (some 156)
theorem cn_138 : cm_138.1 = 157 := by rw [cm_138]; exact cn_137
theorem ck_138_153 : cm_138.2.1 153 = (11, 24) := by rw [cm_138]; exact (kR_kd).trans ck_137_153
def cm_139 : Mem := mI cm_138 153 7 (-1)
theorem cn_139 : cm_139.1 = 157 := by rw [cm_139]; exact cn_138
def cm_140 : Mem := mNew cm_139 (12, 20)
theorem cn_140 : cm_140.1 = 158 := by rw [cm_140]; show cm_139.1 + 1 = 158; rw [cn_139]
theorem ck_139_153 : cm_139.2.1 153 = (11, 24) := by rw [cm_139]; exact (kI_kd).trans ck_138_153
theorem ck_140_153 : cm_140.2.1 153 = (11, 24) := by rw [cm_140]; exact (kn_old (M := cm_139) (by rw [cn_139]; decide)).trans ck_139_153
def cm_141 : Mem := mR cm_140 153 8 (some 157)
theorem cn_141 : cm_141.1 = 158 := by rw [cm_141]; exact cn_140
def cm_142 : Mem := mNew cm_141 (12, 20)
theorem cn_142 : cm_142.1 = 159 := by rw [cm_142]; show cm_141.1 + 1 = 159; rw [cn_141]
theorem ck_141_153 : cm_141.2.1 153 = (11, 24) := by rw [cm_141]; exact (kR_kd).trans ck_140_153
theorem ck_142_153 : cm_142.2.1 153 = (11, 24) := by rw [cm_142]; exact (kn_old (M := cm_141) (by rw [cn_141]; decide)).trans ck_141_153
def cm_143 : Mem := mR cm_142 153 9 (some 158)
theorem cn_143 : cm_143.1 = 159 := by rw [cm_143]; exact cn_142
def cm_144 : Mem := mNew cm_143 (12, 20)
theorem cn_144 : cm_144.1 = 160 := by rw [cm_144]; show cm_143.1 + 1 = 160; rw [cn_143]
theorem ck_143_153 : cm_143.2.1 153 = (11, 24) := by rw [cm_143]; exact (kR_kd).trans ck_142_153
theorem ck_144_153 : cm_144.2.1 153 = (11, 24) := by rw [cm_144]; exact (kn_old (M := cm_143) (by rw [cn_143]; decide)).trans ck_143_153
def cm_145 : Mem := mR cm_144 153 10 (some 159)
theorem cn_145 : cm_145.1 = 160 := by rw [cm_145]; exact cn_144
def cm_146 : Mem := mNew cm_145 (12, 52)
theorem cn_146 : cm_146.1 = 161 := by rw [cm_146]; show cm_145.1 + 1 = 161; rw [cn_145]
theorem ck_145_153 : cm_145.2.1 153 = (11, 24) := by rw [cm_145]; exact (kR_kd).trans ck_144_153
theorem ck_146_153 : cm_146.2.1 153 = (11, 24) := by rw [cm_146]; exact (kn_old (M := cm_145) (by rw [cn_145]; decide)).trans ck_145_153
def cm_147 : Mem := mR cm_146 153 12 (some 160)
theorem cn_147 : cm_147.1 = 161 := by rw [cm_147]; exact cn_146
def cm_148 : Mem := mNew cm_147 (12, 12)
theorem cn_148 : cm_148.1 = 162 := by rw [cm_148]; show cm_147.1 + 1 = 162; rw [cn_147]
theorem ck_147_153 : cm_147.2.1 153 = (11, 24) := by rw [cm_147]; exact (kR_kd).trans ck_146_153
theorem ck_148_153 : cm_148.2.1 153 = (11, 24) := by rw [cm_148]; exact (kn_old (M := cm_147) (by rw [cn_147]; decide)).trans ck_147_153
def cm_149 : Mem := mR cm_148 153 13 (some 161)
theorem cn_149 : cm_149.1 = 162 := by rw [cm_149]; exact cn_148
def cm_150 : Mem := mNew cm_149 (12, 160)
theorem cn_150 : cm_150.1 = 163 := by rw [cm_150]; show cm_149.1 + 1 = 163; rw [cn_149]
theorem ck_149_153 : cm_149.2.1 153 = (11, 24) := by rw [cm_149]; exact (kR_kd).trans ck_148_153
theorem ck_150_153 : cm_150.2.1 153 = (11, 24) := by rw [cm_150]; exact (kn_old (M := cm_149) (by rw [cn_149]; decide)).trans ck_149_153
def cm_151 : Mem := mR cm_150 153 14 (some 162)
theorem cn_151 : cm_151.1 = 163 := by rw [cm_151]; exact cn_150
def cm_152 : Mem := mNew cm_151 (12, 160)
theorem cn_152 : cm_152.1 = 164 := by rw [cm_152]; show cm_151.1 + 1 = 164; rw [cn_151]
theorem ck_151_153 : cm_151.2.1 153 = (11, 24) := by rw [cm_151]; exact (kR_kd).trans ck_150_153
theorem ck_152_153 : cm_152.2.1 153 = (11, 24) := by rw [cm_152]; exact (kn_old (M := cm_151) (by rw [cn_151]; decide)).trans ck_151_153
def cm_153 : Mem := mR cm_152 153 15 (some 163)
theorem cn_153 : cm_153.1 = 164 := by rw [cm_153]; exact cn_152
def cm_154 : Mem := mNew cm_153 (12, 160)
theorem cn_154 : cm_154.1 = 165 := by rw [cm_154]; show cm_153.1 + 1 = 165; rw [cn_153]
theorem ck_153_153 : cm_153.2.1 153 = (11, 24) := by rw [cm_153]; exact (kR_kd).trans ck_152_153
theorem ck_154_153 : cm_154.2.1 153 = (11, 24) := by rw [cm_154]; exact (kn_old (M := cm_153) (by rw [cn_153]; decide)).trans ck_153_153
def cm_155 : Mem := mR cm_154 153 16 (some 164)
theorem cn_155 : cm_155.1 = 165 := by rw [cm_155]; exact cn_154
def cm_156 : Mem := mNew cm_155 (12, 160)
theorem cn_156 : cm_156.1 = 166 := by rw [cm_156]; show cm_155.1 + 1 = 166; rw [cn_155]
theorem ck_155_153 : cm_155.2.1 153 = (11, 24) := by rw [cm_155]; exact (kR_kd).trans ck_154_153
theorem ck_156_153 : cm_156.2.1 153 = (11, 24) := by rw [cm_156]; exact (kn_old (M := cm_155) (by rw [cn_155]; decide)).trans ck_155_153
def cm_157 : Mem := mR cm_156 153 17 (some 165)
theorem cn_157 : cm_157.1 = 166 := by rw [cm_157]; exact cn_156
def cm_158 : Mem := mNew cm_157 (12, 160)
theorem cn_158 : cm_158.1 = 167 := by rw [cm_158]; show cm_157.1 + 1 = 167; rw [cn_157]
theorem ck_157_153 : cm_157.2.1 153 = (11, 24) := by rw [cm_157]; exact (kR_kd).trans ck_156_153
theorem ck_158_153 : cm_158.2.1 153 = (11, 24) := by rw [cm_158]; exact (kn_old (M := cm_157) (by rw [cn_157]; decide)).trans ck_157_153
def cm_159 : Mem := mR cm_158 153 18 (some 166)
theorem cn_159 : cm_159.1 = 167 := by rw [cm_159]; exact cn_158
def cm_160 : Mem := mNew cm_159 (12, 40)
theorem cn_160 : cm_160.1 = 168 := by rw [cm_160]; show cm_159.1 + 1 = 168; rw [cn_159]
theorem ck_159_153 : cm_159.2.1 153 = (11, 24) := by rw [cm_159]; exact (kR_kd).trans ck_158_153
theorem ck_160_153 : cm_160.2.1 153 = (11, 24) := by rw [cm_160]; exact (kn_old (M := cm_159) (by rw [cn_159]; decide)).trans ck_159_153
def cm_161 : Mem := mR cm_160 153 21 (some 167)
theorem cn_161 : cm_161.1 = 168 := by rw [cm_161]; exact cn_160
def cm_162 : Mem := mNew cm_161 (12, 40)
theorem cn_162 : cm_162.1 = 169 := by rw [cm_162]; show cm_161.1 + 1 = 169; rw [cn_161]
theorem ck_161_153 : cm_161.2.1 153 = (11, 24) := by rw [cm_161]; exact (kR_kd).trans ck_160_153
theorem ck_162_153 : cm_162.2.1 153 = (11, 24) := by rw [cm_162]; exact (kn_old (M := cm_161) (by rw [cn_161]; decide)).trans ck_161_153
def cm_163 : Mem := mR cm_162 153 22 (some 168)
theorem cn_163 : cm_163.1 = 169 := by rw [cm_163]; exact cn_162
theorem cr_134_153_0 : cm_134.2.2.2 153 0 = some 154 := by rw [cm_134]; exact kr_set (M := cm_133) (o := 153) (j := 0)
theorem cr_135_153_0 : cm_135.2.2.2 153 0 = some 154 := by rw [cm_135]; exact (kr_old (M := cm_134) (by rw [cn_134]; decide)).trans cr_134_153_0
theorem cr_136_153_0 : cm_136.2.2.2 153 0 = some 154 := by rw [cm_136]; exact (kr_ne (M := cm_135) (o := 153) (j := 4) (v := some 155) (a := 153) (b := 0) (by decide)).trans cr_135_153_0
theorem cr_137_153_0 : cm_137.2.2.2 153 0 = some 154 := by rw [cm_137]; exact (kr_old (M := cm_136) (by rw [cn_136]; decide)).trans cr_136_153_0
theorem cr_138_153_0 : cm_138.2.2.2 153 0 = some 154 := by rw [cm_138]; exact (kr_ne (M := cm_137) (o := 153) (j := 5) (v := some 156) (a := 153) (b := 0) (by decide)).trans cr_137_153_0
theorem cr_139_153_0 : cm_139.2.2.2 153 0 = some 154 := by rw [cm_139]; exact (kI_R).trans cr_138_153_0
theorem cr_140_153_0 : cm_140.2.2.2 153 0 = some 154 := by rw [cm_140]; exact (kr_old (M := cm_139) (by rw [cn_139]; decide)).trans cr_139_153_0
theorem cr_141_153_0 : cm_141.2.2.2 153 0 = some 154 := by rw [cm_141]; exact (kr_ne (M := cm_140) (o := 153) (j := 8) (v := some 157) (a := 153) (b := 0) (by decide)).trans cr_140_153_0
theorem cr_142_153_0 : cm_142.2.2.2 153 0 = some 154 := by rw [cm_142]; exact (kr_old (M := cm_141) (by rw [cn_141]; decide)).trans cr_141_153_0
theorem cr_143_153_0 : cm_143.2.2.2 153 0 = some 154 := by rw [cm_143]; exact (kr_ne (M := cm_142) (o := 153) (j := 9) (v := some 158) (a := 153) (b := 0) (by decide)).trans cr_142_153_0
theorem cr_144_153_0 : cm_144.2.2.2 153 0 = some 154 := by rw [cm_144]; exact (kr_old (M := cm_143) (by rw [cn_143]; decide)).trans cr_143_153_0
theorem cr_145_153_0 : cm_145.2.2.2 153 0 = some 154 := by rw [cm_145]; exact (kr_ne (M := cm_144) (o := 153) (j := 10) (v := some 159) (a := 153) (b := 0) (by decide)).trans cr_144_153_0
theorem cr_146_153_0 : cm_146.2.2.2 153 0 = some 154 := by rw [cm_146]; exact (kr_old (M := cm_145) (by rw [cn_145]; decide)).trans cr_145_153_0
theorem cr_147_153_0 : cm_147.2.2.2 153 0 = some 154 := by rw [cm_147]; exact (kr_ne (M := cm_146) (o := 153) (j := 12) (v := some 160) (a := 153) (b := 0) (by decide)).trans cr_146_153_0
theorem cr_148_153_0 : cm_148.2.2.2 153 0 = some 154 := by rw [cm_148]; exact (kr_old (M := cm_147) (by rw [cn_147]; decide)).trans cr_147_153_0
theorem cr_149_153_0 : cm_149.2.2.2 153 0 = some 154 := by rw [cm_149]; exact (kr_ne (M := cm_148) (o := 153) (j := 13) (v := some 161) (a := 153) (b := 0) (by decide)).trans cr_148_153_0
theorem cr_150_153_0 : cm_150.2.2.2 153 0 = some 154 := by rw [cm_150]; exact (kr_old (M := cm_149) (by rw [cn_149]; decide)).trans cr_149_153_0
theorem cr_151_153_0 : cm_151.2.2.2 153 0 = some 154 := by rw [cm_151]; exact (kr_ne (M := cm_150) (o := 153) (j := 14) (v := some 162) (a := 153) (b := 0) (by decide)).trans cr_150_153_0
theorem cr_152_153_0 : cm_152.2.2.2 153 0 = some 154 := by rw [cm_152]; exact (kr_old (M := cm_151) (by rw [cn_151]; decide)).trans cr_151_153_0
theorem cr_153_153_0 : cm_153.2.2.2 153 0 = some 154 := by rw [cm_153]; exact (kr_ne (M := cm_152) (o := 153) (j := 15) (v := some 163) (a := 153) (b := 0) (by decide)).trans cr_152_153_0
theorem cr_154_153_0 : cm_154.2.2.2 153 0 = some 154 := by rw [cm_154]; exact (kr_old (M := cm_153) (by rw [cn_153]; decide)).trans cr_153_153_0
theorem cr_155_153_0 : cm_155.2.2.2 153 0 = some 154 := by rw [cm_155]; exact (kr_ne (M := cm_154) (o := 153) (j := 16) (v := some 164) (a := 153) (b := 0) (by decide)).trans cr_154_153_0
theorem cr_156_153_0 : cm_156.2.2.2 153 0 = some 154 := by rw [cm_156]; exact (kr_old (M := cm_155) (by rw [cn_155]; decide)).trans cr_155_153_0
theorem cr_157_153_0 : cm_157.2.2.2 153 0 = some 154 := by rw [cm_157]; exact (kr_ne (M := cm_156) (o := 153) (j := 17) (v := some 165) (a := 153) (b := 0) (by decide)).trans cr_156_153_0
theorem cr_158_153_0 : cm_158.2.2.2 153 0 = some 154 := by rw [cm_158]; exact (kr_old (M := cm_157) (by rw [cn_157]; decide)).trans cr_157_153_0
theorem cr_159_153_0 : cm_159.2.2.2 153 0 = some 154 := by rw [cm_159]; exact (kr_ne (M := cm_158) (o := 153) (j := 18) (v := some 166) (a := 153) (b := 0) (by decide)).trans cr_158_153_0
theorem cr_160_153_0 : cm_160.2.2.2 153 0 = some 154 := by rw [cm_160]; exact (kr_old (M := cm_159) (by rw [cn_159]; decide)).trans cr_159_153_0
theorem cr_161_153_0 : cm_161.2.2.2 153 0 = some 154 := by rw [cm_161]; exact (kr_ne (M := cm_160) (o := 153) (j := 21) (v := some 167) (a := 153) (b := 0) (by decide)).trans cr_160_153_0
theorem cr_162_153_0 : cm_162.2.2.2 153 0 = some 154 := by rw [cm_162]; exact (kr_old (M := cm_161) (by rw [cn_161]; decide)).trans cr_161_153_0
theorem cr_163_153_0 : cm_163.2.2.2 153 0 = some 154 := by rw [cm_163]; exact (kr_ne (M := cm_162) (o := 153) (j := 22) (v := some 168) (a := 153) (b := 0) (by decide)).trans cr_162_153_0
theorem ck_163_153 : cm_163.2.1 153 = (11, 24) := by rw [cm_163]; exact (kR_kd).trans ck_162_153
def cm_164 : Mem := mI cm_163 154 0 6
theorem cn_164 : cm_164.1 = 169 := by rw [cm_164]; exact cn_163
theorem ck_133_154 : cm_133.2.1 154 = (12, 1634) := by rw [cm_133]; exact kn_new (M := cm_132) cn_132
theorem ck_134_154 : cm_134.2.1 154 = (12, 1634) := by rw [cm_134]; exact (kR_kd).trans ck_133_154
theorem ck_135_154 : cm_135.2.1 154 = (12, 1634) := by rw [cm_135]; exact (kn_old (M := cm_134) (by rw [cn_134]; decide)).trans ck_134_154
theorem ck_136_154 : cm_136.2.1 154 = (12, 1634) := by rw [cm_136]; exact (kR_kd).trans ck_135_154
theorem ck_137_154 : cm_137.2.1 154 = (12, 1634) := by rw [cm_137]; exact (kn_old (M := cm_136) (by rw [cn_136]; decide)).trans ck_136_154
theorem ck_138_154 : cm_138.2.1 154 = (12, 1634) := by rw [cm_138]; exact (kR_kd).trans ck_137_154
theorem ck_139_154 : cm_139.2.1 154 = (12, 1634) := by rw [cm_139]; exact (kI_kd).trans ck_138_154
theorem ck_140_154 : cm_140.2.1 154 = (12, 1634) := by rw [cm_140]; exact (kn_old (M := cm_139) (by rw [cn_139]; decide)).trans ck_139_154
theorem ck_141_154 : cm_141.2.1 154 = (12, 1634) := by rw [cm_141]; exact (kR_kd).trans ck_140_154
theorem ck_142_154 : cm_142.2.1 154 = (12, 1634) := by rw [cm_142]; exact (kn_old (M := cm_141) (by rw [cn_141]; decide)).trans ck_141_154
theorem ck_143_154 : cm_143.2.1 154 = (12, 1634) := by rw [cm_143]; exact (kR_kd).trans ck_142_154
theorem ck_144_154 : cm_144.2.1 154 = (12, 1634) := by rw [cm_144]; exact (kn_old (M := cm_143) (by rw [cn_143]; decide)).trans ck_143_154
theorem ck_145_154 : cm_145.2.1 154 = (12, 1634) := by rw [cm_145]; exact (kR_kd).trans ck_144_154
theorem ck_146_154 : cm_146.2.1 154 = (12, 1634) := by rw [cm_146]; exact (kn_old (M := cm_145) (by rw [cn_145]; decide)).trans ck_145_154
theorem ck_147_154 : cm_147.2.1 154 = (12, 1634) := by rw [cm_147]; exact (kR_kd).trans ck_146_154
theorem ck_148_154 : cm_148.2.1 154 = (12, 1634) := by rw [cm_148]; exact (kn_old (M := cm_147) (by rw [cn_147]; decide)).trans ck_147_154
theorem ck_149_154 : cm_149.2.1 154 = (12, 1634) := by rw [cm_149]; exact (kR_kd).trans ck_148_154
theorem ck_150_154 : cm_150.2.1 154 = (12, 1634) := by rw [cm_150]; exact (kn_old (M := cm_149) (by rw [cn_149]; decide)).trans ck_149_154
theorem ck_151_154 : cm_151.2.1 154 = (12, 1634) := by rw [cm_151]; exact (kR_kd).trans ck_150_154
theorem ck_152_154 : cm_152.2.1 154 = (12, 1634) := by rw [cm_152]; exact (kn_old (M := cm_151) (by rw [cn_151]; decide)).trans ck_151_154
theorem ck_153_154 : cm_153.2.1 154 = (12, 1634) := by rw [cm_153]; exact (kR_kd).trans ck_152_154
theorem ck_154_154 : cm_154.2.1 154 = (12, 1634) := by rw [cm_154]; exact (kn_old (M := cm_153) (by rw [cn_153]; decide)).trans ck_153_154
theorem ck_155_154 : cm_155.2.1 154 = (12, 1634) := by rw [cm_155]; exact (kR_kd).trans ck_154_154
theorem ck_156_154 : cm_156.2.1 154 = (12, 1634) := by rw [cm_156]; exact (kn_old (M := cm_155) (by rw [cn_155]; decide)).trans ck_155_154
theorem ck_157_154 : cm_157.2.1 154 = (12, 1634) := by rw [cm_157]; exact (kR_kd).trans ck_156_154
theorem ck_158_154 : cm_158.2.1 154 = (12, 1634) := by rw [cm_158]; exact (kn_old (M := cm_157) (by rw [cn_157]; decide)).trans ck_157_154
theorem ck_159_154 : cm_159.2.1 154 = (12, 1634) := by rw [cm_159]; exact (kR_kd).trans ck_158_154
theorem ck_160_154 : cm_160.2.1 154 = (12, 1634) := by rw [cm_160]; exact (kn_old (M := cm_159) (by rw [cn_159]; decide)).trans ck_159_154
theorem ck_161_154 : cm_161.2.1 154 = (12, 1634) := by rw [cm_161]; exact (kR_kd).trans ck_160_154
theorem ck_162_154 : cm_162.2.1 154 = (12, 1634) := by rw [cm_162]; exact (kn_old (M := cm_161) (by rw [cn_161]; decide)).trans ck_161_154
theorem ck_163_154 : cm_163.2.1 154 = (12, 1634) := by rw [cm_163]; exact (kR_kd).trans ck_162_154
theorem cr_164_153_0 : cm_164.2.2.2 153 0 = some 154 := by rw [cm_164]; exact (kI_R).trans cr_163_153_0
theorem ck_164_153 : cm_164.2.1 153 = (11, 24) := by rw [cm_164]; exact (kI_kd).trans ck_163_153
def cm_165 : Mem := mI cm_164 154 2 2
theorem cn_165 : cm_165.1 = 169 := by rw [cm_165]; exact cn_164
theorem ck_164_154 : cm_164.2.1 154 = (12, 1634) := by rw [cm_164]; exact (kI_kd).trans ck_163_154
theorem cr_165_153_0 : cm_165.2.2.2 153 0 = some 154 := by rw [cm_165]; exact (kI_R).trans cr_164_153_0
theorem ck_165_153 : cm_165.2.1 153 = (11, 24) := by rw [cm_165]; exact (kI_kd).trans ck_164_153
def cm_166 : Mem := mI cm_165 154 3 2
theorem cn_166 : cm_166.1 = 169 := by rw [cm_166]; exact cn_165
theorem ck_165_154 : cm_165.2.1 154 = (12, 1634) := by rw [cm_165]; exact (kI_kd).trans ck_164_154
theorem cr_166_153_0 : cm_166.2.2.2 153 0 = some 154 := by rw [cm_166]; exact (kI_R).trans cr_165_153_0
theorem ck_166_153 : cm_166.2.1 153 = (11, 24) := by rw [cm_166]; exact (kI_kd).trans ck_165_153
def cm_167 : Mem := mI cm_166 154 4 2
theorem cn_167 : cm_167.1 = 169 := by rw [cm_167]; exact cn_166
theorem ck_166_154 : cm_166.2.1 154 = (12, 1634) := by rw [cm_166]; exact (kI_kd).trans ck_165_154
theorem cr_167_153_0 : cm_167.2.2.2 153 0 = some 154 := by rw [cm_167]; exact (kI_R).trans cr_166_153_0
theorem ck_167_153 : cm_167.2.1 153 = (11, 24) := by rw [cm_167]; exact (kI_kd).trans ck_166_153
def cm_168 : Mem := mI cm_167 154 5 6
theorem cn_168 : cm_168.1 = 169 := by rw [cm_168]; exact cn_167
theorem ck_167_154 : cm_167.2.1 154 = (12, 1634) := by rw [cm_167]; exact (kI_kd).trans ck_166_154
set_option maxRecDepth 100000 in
set_option maxHeartbeats 4000000 in
theorem ctor_153 : Rn D_X11_init (15, 2700) [.ref 153] cm_132 (Ac cm_168) := by
  refine rn_of (by decide) rfl (Nat.le_of_ble_eq_true rfl) ?_
  show Ok D_X11_init (0, 0) (15, 2700) 0 [(0, .ref 153)] [] cm_132 _
  refine ok_aload_n dX11_init_0 0 rfl ?_
  refine ok_objInit dX11_init_1 wd_916 wd_82 wd_83 ⟨by decide, Nat.le_of_ble_eq_true rfl⟩ ?_
  refine ok_aload_n dX11_init_4 0 rfl ?_
  refine ok_sipush (v := 1634) dX11_init_5 (by decide) ?_
  refine okC_newa (N := 1634) (n := 154) (M' := cm_133) (q' := (1, 1634)) dX11_init_8 (by decide) (by decide) (by decide) wd_115 ⟨by decide, by decide⟩ cn_132 rfl rfl ?_
  refine okC_putF (M' := cm_134) dX11_init_10 fl_X11_7 (by decide) (by rw [cn_133]; decide) ck_133_153 (by decide) rfl (fun _ => ⟨rfl, rfl⟩) rfl ?_
  refine ok_aload_n dX11_init_13 0 rfl ?_
  refine ok_iconst (v := 2) dX11_init_14 (by decide) ?_
  refine okC_newa (N := 2) (n := 155) (M' := cm_135) (q' := (2, 1636)) dX11_init_15 (by decide) (by decide) (by decide) wd_115 ⟨by decide, by decide⟩ cn_134 rfl rfl ?_
  refine okC_putF (M' := cm_136) dX11_init_17 fl_X11_13 (by decide) (by rw [cn_135]; decide) ck_135_153 (by decide) rfl (fun _ => ⟨rfl, rfl⟩) rfl ?_
  refine ok_aload_n dX11_init_20 0 rfl ?_
  refine ok_bipush (v := 60) dX11_init_21 (by decide) ?_
  refine okC_newa (N := 60) (n := 156) (M' := cm_137) (q' := (3, 1696)) dX11_init_23 (by decide) (by decide) (by decide) wd_115 ⟨by decide, by decide⟩ cn_136 rfl rfl ?_
  refine okC_putF (M' := cm_138) dX11_init_25 fl_X11_16 (by decide) (by rw [cn_137]; decide) ck_137_153 (by decide) rfl (fun _ => ⟨rfl, rfl⟩) rfl ?_
  refine ok_aload_n dX11_init_28 0 rfl ?_
  refine ok_iconst (v := (-1)) dX11_init_29 (by decide) ?_
  refine okC_putI (M' := cm_139) dX11_init_30 fl_X11_19 (by rw [cn_138]; decide) ck_138_153 (by decide) rfl rfl rfl rfl ?_
  refine ok_aload_n dX11_init_33 0 rfl ?_
  refine ok_bipush (v := 20) dX11_init_34 (by decide) ?_
  refine okC_newa (N := 20) (n := 157) (M' := cm_140) (q' := (4, 1716)) dX11_init_36 (by decide) (by decide) (by decide) wd_115 ⟨by decide, by decide⟩ cn_139 rfl rfl ?_
  refine okC_putF (M' := cm_141) dX11_init_38 fl_X11_23 (by decide) (by rw [cn_140]; decide) ck_140_153 (by decide) rfl (fun _ => ⟨rfl, rfl⟩) rfl ?_
  refine ok_aload_n dX11_init_41 0 rfl ?_
  refine ok_bipush (v := 20) dX11_init_42 (by decide) ?_
  refine okC_newa (N := 20) (n := 158) (M' := cm_142) (q' := (5, 1736)) dX11_init_44 (by decide) (by decide) (by decide) wd_115 ⟨by decide, by decide⟩ cn_141 rfl rfl ?_
  refine okC_putF (M' := cm_143) dX11_init_46 fl_X11_26 (by decide) (by rw [cn_142]; decide) ck_142_153 (by decide) rfl (fun _ => ⟨rfl, rfl⟩) rfl ?_
  refine ok_aload_n dX11_init_49 0 rfl ?_
  refine ok_bipush (v := 20) dX11_init_50 (by decide) ?_
  refine okC_newa (N := 20) (n := 159) (M' := cm_144) (q' := (6, 1756)) dX11_init_52 (by decide) (by decide) (by decide) wd_115 ⟨by decide, by decide⟩ cn_143 rfl rfl ?_
  refine okC_putF (M' := cm_145) dX11_init_54 fl_X11_29 (by decide) (by rw [cn_144]; decide) ck_144_153 (by decide) rfl (fun _ => ⟨rfl, rfl⟩) rfl ?_
  refine ok_aload_n dX11_init_57 0 rfl ?_
  refine ok_bipush (v := 52) dX11_init_58 (by decide) ?_
  refine okC_newa (N := 52) (n := 160) (M' := cm_146) (q' := (7, 1808)) dX11_init_60 (by decide) (by decide) (by decide) wd_115 ⟨by decide, by decide⟩ cn_145 rfl rfl ?_
  refine okC_putF (M' := cm_147) dX11_init_62 fl_X11_32 (by decide) (by rw [cn_146]; decide) ck_146_153 (by decide) rfl (fun _ => ⟨rfl, rfl⟩) rfl ?_
  refine ok_aload_n dX11_init_65 0 rfl ?_
  refine ok_bipush (v := 12) dX11_init_66 (by decide) ?_
  refine okC_newa (N := 12) (n := 161) (M' := cm_148) (q' := (8, 1820)) dX11_init_68 (by decide) (by decide) (by decide) wd_115 ⟨by decide, by decide⟩ cn_147 rfl rfl ?_
  refine okC_putF (M' := cm_149) dX11_init_70 fl_X11_35 (by decide) (by rw [cn_148]; decide) ck_148_153 (by decide) rfl (fun _ => ⟨rfl, rfl⟩) rfl ?_
  refine ok_aload_n dX11_init_73 0 rfl ?_
  refine ok_sipush (v := 160) dX11_init_74 (by decide) ?_
  refine okC_newa (N := 160) (n := 162) (M' := cm_150) (q' := (9, 1980)) dX11_init_77 (by decide) (by decide) (by decide) wd_115 ⟨by decide, by decide⟩ cn_149 rfl rfl ?_
  refine okC_putF (M' := cm_151) dX11_init_79 fl_X11_38 (by decide) (by rw [cn_150]; decide) ck_150_153 (by decide) rfl (fun _ => ⟨rfl, rfl⟩) rfl ?_
  refine ok_aload_n dX11_init_82 0 rfl ?_
  refine ok_sipush (v := 160) dX11_init_83 (by decide) ?_
  refine okC_newa (N := 160) (n := 163) (M' := cm_152) (q' := (10, 2140)) dX11_init_86 (by decide) (by decide) (by decide) wd_115 ⟨by decide, by decide⟩ cn_151 rfl rfl ?_
  refine okC_putF (M' := cm_153) dX11_init_88 fl_X11_41 (by decide) (by rw [cn_152]; decide) ck_152_153 (by decide) rfl (fun _ => ⟨rfl, rfl⟩) rfl ?_
  refine ok_aload_n dX11_init_91 0 rfl ?_
  refine ok_sipush (v := 160) dX11_init_92 (by decide) ?_
  refine okC_newa (N := 160) (n := 164) (M' := cm_154) (q' := (11, 2300)) dX11_init_95 (by decide) (by decide) (by decide) wd_115 ⟨by decide, by decide⟩ cn_153 rfl rfl ?_
  refine okC_putF (M' := cm_155) dX11_init_97 fl_X11_44 (by decide) (by rw [cn_154]; decide) ck_154_153 (by decide) rfl (fun _ => ⟨rfl, rfl⟩) rfl ?_
  refine ok_aload_n dX11_init_100 0 rfl ?_
  refine ok_sipush (v := 160) dX11_init_101 (by decide) ?_
  refine okC_newa (N := 160) (n := 165) (M' := cm_156) (q' := (12, 2460)) dX11_init_104 (by decide) (by decide) (by decide) wd_115 ⟨by decide, by decide⟩ cn_155 rfl rfl ?_
  refine okC_putF (M' := cm_157) dX11_init_106 fl_X11_47 (by decide) (by rw [cn_156]; decide) ck_156_153 (by decide) rfl (fun _ => ⟨rfl, rfl⟩) rfl ?_
  refine ok_aload_n dX11_init_109 0 rfl ?_
  refine ok_sipush (v := 160) dX11_init_110 (by decide) ?_
  refine okC_newa (N := 160) (n := 166) (M' := cm_158) (q' := (13, 2620)) dX11_init_113 (by decide) (by decide) (by decide) wd_115 ⟨by decide, by decide⟩ cn_157 rfl rfl ?_
  refine okC_putF (M' := cm_159) dX11_init_115 fl_X11_50 (by decide) (by rw [cn_158]; decide) ck_158_153 (by decide) rfl (fun _ => ⟨rfl, rfl⟩) rfl ?_
  refine ok_aload_n dX11_init_118 0 rfl ?_
  refine ok_bipush (v := 40) dX11_init_119 (by decide) ?_
  refine okC_newa (N := 40) (n := 167) (M' := cm_160) (q' := (14, 2660)) dX11_init_121 (by decide) (by decide) (by decide) wd_115 ⟨by decide, by decide⟩ cn_159 rfl rfl ?_
  refine okC_putF (M' := cm_161) dX11_init_123 fl_X11_53 (by decide) (by rw [cn_160]; decide) ck_160_153 (by decide) rfl (fun _ => ⟨rfl, rfl⟩) rfl ?_
  refine ok_aload_n dX11_init_126 0 rfl ?_
  refine ok_bipush (v := 40) dX11_init_127 (by decide) ?_
  refine okC_newa (N := 40) (n := 168) (M' := cm_162) (q' := (15, 2700)) dX11_init_129 (by decide) (by decide) (by decide) wd_115 ⟨by decide, by decide⟩ cn_161 rfl rfl ?_
  refine okC_putF (M' := cm_163) dX11_init_131 fl_X11_56 (by decide) (by rw [cn_162]; decide) ck_162_153 (by decide) rfl (fun _ => ⟨rfl, rfl⟩) rfl ?_
  refine ok_aload_n dX11_init_134 0 rfl ?_
  refine ok_getR dX11_init_135 fl_X11_7 (by rw [cn_163]; decide) ck_163_153 (by decide) rfl cr_163_153_0 ?_
  refine ok_iconst (v := 0) dX11_init_138 (by decide) ?_
  refine ok_bipush (v := 6) dX11_init_139 (by decide) ?_
  refine ok_iastore dX11_init_141 (by rw [cn_163]; decide) ck_163_154 (show inb _ _ by decide) ?_
  show Ok D_X11_init (15, 2700) _ 142 [(0, .ref 153)] [] cm_164 _
  refine ok_aload_n dX11_init_142 0 rfl ?_
  refine ok_getR dX11_init_143 fl_X11_7 (by rw [cn_164]; decide) ck_164_153 (by decide) rfl cr_164_153_0 ?_
  refine ok_iconst (v := 2) dX11_init_146 (by decide) ?_
  refine ok_iconst (v := 2) dX11_init_147 (by decide) ?_
  refine ok_iastore dX11_init_148 (by rw [cn_164]; decide) ck_164_154 (show inb _ _ by decide) ?_
  show Ok D_X11_init (15, 2700) _ 149 [(0, .ref 153)] [] cm_165 _
  refine ok_aload_n dX11_init_149 0 rfl ?_
  refine ok_getR dX11_init_150 fl_X11_7 (by rw [cn_165]; decide) ck_165_153 (by decide) rfl cr_165_153_0 ?_
  refine ok_iconst (v := 3) dX11_init_153 (by decide) ?_
  refine ok_iconst (v := 2) dX11_init_154 (by decide) ?_
  refine ok_iastore dX11_init_155 (by rw [cn_165]; decide) ck_165_154 (show inb _ _ by decide) ?_
  show Ok D_X11_init (15, 2700) _ 156 [(0, .ref 153)] [] cm_166 _
  refine ok_aload_n dX11_init_156 0 rfl ?_
  refine ok_getR dX11_init_157 fl_X11_7 (by rw [cn_166]; decide) ck_166_153 (by decide) rfl cr_166_153_0 ?_
  refine ok_iconst (v := 4) dX11_init_160 (by decide) ?_
  refine ok_iconst (v := 2) dX11_init_161 (by decide) ?_
  refine ok_iastore dX11_init_162 (by rw [cn_166]; decide) ck_166_154 (show inb _ _ by decide) ?_
  show Ok D_X11_init (15, 2700) _ 163 [(0, .ref 153)] [] cm_167 _
  refine ok_aload_n dX11_init_163 0 rfl ?_
  refine ok_getR dX11_init_164 fl_X11_7 (by rw [cn_167]; decide) ck_167_153 (by decide) rfl cr_167_153_0 ?_
  refine ok_iconst (v := 5) dX11_init_167 (by decide) ?_
  refine ok_bipush (v := 6) dX11_init_168 (by decide) ?_
  refine ok_iastore dX11_init_170 (by rw [cn_167]; decide) ck_167_154 (show inb _ _ by decide) ?_
  show Ok D_X11_init (15, 2700) _ 171 [(0, .ref 153)] [] cm_168 _
  exact ok_retv (by rw [cn_168]; decide) dX11_init_171 rfl ⟨rfl, rfl⟩
