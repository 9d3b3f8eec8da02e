def f_X4_hold_143 (S : Mm) (a2 : Int32) : Option (Mm) :=
  ((f_X6_become S 144 1).bind fun r1 => some (wr (wr r1 143 1 a2) 143 2 1))
set_option maxRecDepth 100000 in
set_option maxHeartbeats 4000000 in
theorem t_X4_hold_143 {S : Mm} {a2 : Int32} {out : Mm} (h : f_X4_hold_143 S a2 = some out) : Rs D_X4_hold [.ref 143, .ref 1, .int a2] S none out := by
  refine rs_of (by decide) rfl (Nat.le_of_ble_eq_true rfl) ?_
  unfold f_X4_hold_143 at h
  show Ok D_X4_hold (0, 0) (0, 0) 0 [(0, .ref 143), (1, .ref 1), (2, .int a2)] [] (St S) _
  refine ok_aload_n dX4_hold_0 0 rfl ?_
  refine okS_getR dX4_hold_1 fl_X4_10 pr_143_0 ?_
  refine ok_aload_n dX4_hold_4 1 rfl ?_
  obtain ⟨r1, e2, h⟩ := it_bind h
  refine okS_V (as := [.ref 1]) (st := []) (r := none) (S' := r1) dX4_hold_5 cv_X4_24 rfl (become_po e2) (Nat.le_of_ble_eq_true rfl) ⟨⟨by decide, by decide⟩, rfl, rfl⟩ (t_X6_become e2) ?_
  show Ok D_X4_hold (0, 0) (0, 0) 8 [(0, .ref 143), (1, .ref 1), (2, .int a2)] [] (St r1) _
  refine ok_aload_n dX4_hold_8 0 rfl ?_
  refine ok_iload_n dX4_hold_9 2 rfl ?_
  refine okS_putI dX4_hold_10 fl_X4_16 pi_143_1 ⟨rfl, rfl⟩ ?_
  refine ok_aload_n dX4_hold_13 0 rfl ?_
  refine ok_iconst (v := 1) dX4_hold_14 ic_1 ?_
  refine okS_putI dX4_hold_15 fl_X4_20 pi_143_2 (by decide) ?_
  exact okS_retv dX4_hold_18 rfl (by have e := Option.some.inj h; subst e; exact ⟨rfl, rfl⟩)
def f_X4_hold_148 (S : Mm) (a2 : Int32) : Option (Mm) :=
  ((f_X6_become S 149 1).bind fun r1 => some (wr (wr r1 148 1 a2) 148 2 1))
set_option maxRecDepth 100000 in
set_option maxHeartbeats 4000000 in
theorem t_X4_hold_148 {S : Mm} {a2 : Int32} {out : Mm} (h : f_X4_hold_148 S a2 = some out) : Rs D_X4_hold [.ref 148, .ref 1, .int a2] S none out := by
  refine rs_of (by decide) rfl (Nat.le_of_ble_eq_true rfl) ?_
  unfold f_X4_hold_148 at h
  show Ok D_X4_hold (0, 0) (0, 0) 0 [(0, .ref 148), (1, .ref 1), (2, .int a2)] [] (St S) _
  refine ok_aload_n dX4_hold_0 0 rfl ?_
  refine okS_getR dX4_hold_1 fl_X4_10 pr_148_0 ?_
  refine ok_aload_n dX4_hold_4 1 rfl ?_
  obtain ⟨r1, e2, h⟩ := it_bind h
  refine okS_V (as := [.ref 1]) (st := []) (r := none) (S' := r1) dX4_hold_5 cv_X4_24 rfl (become_po e2) (Nat.le_of_ble_eq_true rfl) ⟨⟨by decide, by decide⟩, rfl, rfl⟩ (t_X6_become e2) ?_
  show Ok D_X4_hold (0, 0) (0, 0) 8 [(0, .ref 148), (1, .ref 1), (2, .int a2)] [] (St r1) _
  refine ok_aload_n dX4_hold_8 0 rfl ?_
  refine ok_iload_n dX4_hold_9 2 rfl ?_
  refine okS_putI dX4_hold_10 fl_X4_16 pi_148_1 ⟨rfl, rfl⟩ ?_
  refine ok_aload_n dX4_hold_13 0 rfl ?_
  refine ok_iconst (v := 1) dX4_hold_14 ic_1 ?_
  refine okS_putI dX4_hold_15 fl_X4_20 pi_148_2 (by decide) ?_
  exact okS_retv dX4_hold_18 rfl (by have e := Option.some.inj h; subst e; exact ⟨rfl, rfl⟩)
def f_X4_isHeld_143 (S : Mm)  : Option (Int32) :=
  (if (S.1 143 2) = 0 ∨ (S.1 143 2) = 1 then some (S.1 143 2) else none)
set_option maxRecDepth 100000 in
set_option maxHeartbeats 4000000 in
theorem t_X4_isHeld_143 {S : Mm} {out : Int32} (h : f_X4_isHeld_143 S  = some out) : Rs D_X4_isHeld [.ref 143] S (some (.int out)) S := by
  refine rs_of (by decide) rfl (Nat.le_of_ble_eq_true rfl) ?_
  unfold f_X4_isHeld_143 at h
  show Ok D_X4_isHeld (0, 0) (0, 0) 0 [(0, .ref 143)] [] (St S) _
  refine ok_aload_n dX4_isHeld_0 0 rfl ?_
  refine okS_getI dX4_isHeld_1 fl_X4_20 pi_143_2 ?_
  obtain ⟨hb, h⟩ := it_some h
  exact okS_ret dX4_isHeld_4 rfl (nb hb) (by have e := Option.some.inj h; subst e; exact ⟨rfl, rfl⟩)
def f_X4_isHeld_148 (S : Mm)  : Option (Int32) :=
  (if (S.1 148 2) = 0 ∨ (S.1 148 2) = 1 then some (S.1 148 2) else none)
set_option maxRecDepth 100000 in
set_option maxHeartbeats 4000000 in
theorem t_X4_isHeld_148 {S : Mm} {out : Int32} (h : f_X4_isHeld_148 S  = some out) : Rs D_X4_isHeld [.ref 148] S (some (.int out)) S := by
  refine rs_of (by decide) rfl (Nat.le_of_ble_eq_true rfl) ?_
  unfold f_X4_isHeld_148 at h
  show Ok D_X4_isHeld (0, 0) (0, 0) 0 [(0, .ref 148)] [] (St S) _
  refine ok_aload_n dX4_isHeld_0 0 rfl ?_
  refine okS_getI dX4_isHeld_1 fl_X4_20 pi_148_2 ?_
  obtain ⟨hb, h⟩ := it_some h
  exact okS_ret dX4_isHeld_4 rfl (nb hb) (by have e := Option.some.inj h; subst e; exact ⟨rfl, rfl⟩)
def f_X4_heldNews_143 (S : Mm)  : Option (Unit) :=
  some ()
set_option maxRecDepth 100000 in
set_option maxHeartbeats 4000000 in
theorem t_X4_heldNews_143 {S : Mm} : Rs D_X4_heldNews [.ref 143] S (some (.ref 144)) S := by
  have h : f_X4_heldNews_143 S  = some () := rfl
  refine rs_of (by decide) rfl (Nat.le_of_ble_eq_true rfl) ?_
  unfold f_X4_heldNews_143 at h
  show Ok D_X4_heldNews (0, 0) (0, 0) 0 [(0, .ref 143)] [] (St S) _
  refine ok_aload_n dX4_heldNews_0 0 rfl ?_
  refine okS_getR dX4_heldNews_1 fl_X4_10 pr_143_0 ?_
  exact okS_reta dX4_heldNews_4 rfl (Or.inr ⟨_, rfl⟩) ⟨rfl, rfl⟩
def f_X4_heldNews_148 (S : Mm)  : Option (Unit) :=
  some ()
set_option maxRecDepth 100000 in
set_option maxHeartbeats 4000000 in
theorem t_X4_heldNews_148 {S : Mm} : Rs D_X4_heldNews [.ref 148] S (some (.ref 149)) S := by
  have h : f_X4_heldNews_148 S  = some () := rfl
  refine rs_of (by decide) rfl (Nat.le_of_ble_eq_true rfl) ?_
  unfold f_X4_heldNews_148 at h
  show Ok D_X4_heldNews (0, 0) (0, 0) 0 [(0, .ref 148)] [] (St S) _
  refine ok_aload_n dX4_heldNews_0 0 rfl ?_
  refine okS_getR dX4_heldNews_1 fl_X4_10 pr_148_0 ?_
  exact okS_reta dX4_heldNews_4 rfl (Or.inr ⟨_, rfl⟩) ⟨rfl, rfl⟩
def f_X4_heldSeed_143 (S : Mm)  : Option (Int32) :=
  some (S.1 143 1)
set_option maxRecDepth 100000 in
set_option maxHeartbeats 4000000 in
theorem t_X4_heldSeed_143 {S : Mm} {out : Int32} (h : f_X4_heldSeed_143 S  = some out) : Rs D_X4_heldSeed [.ref 143] S (some (.int out)) S := by
  refine rs_of (by decide) rfl (Nat.le_of_ble_eq_true rfl) ?_
  unfold f_X4_heldSeed_143 at h
  show Ok D_X4_heldSeed (0, 0) (0, 0) 0 [(0, .ref 143)] [] (St S) _
  refine ok_aload_n dX4_heldSeed_0 0 rfl ?_
  refine okS_getI dX4_heldSeed_1 fl_X4_16 pi_143_1 ?_
  exact okS_ret dX4_heldSeed_4 rfl rfl (by have e := Option.some.inj h; subst e; exact ⟨rfl, rfl⟩)
def f_X4_heldSeed_148 (S : Mm)  : Option (Int32) :=
  some (S.1 148 1)
set_option maxRecDepth 100000 in
set_option maxHeartbeats 4000000 in
theorem t_X4_heldSeed_148 {S : Mm} {out : Int32} (h : f_X4_heldSeed_148 S  = some out) : Rs D_X4_heldSeed [.ref 148] S (some (.int out)) S := by
  refine rs_of (by decide) rfl (Nat.le_of_ble_eq_true rfl) ?_
  unfold f_X4_heldSeed_148 at h
  show Ok D_X4_heldSeed (0, 0) (0, 0) 0 [(0, .ref 148)] [] (St S) _
  refine ok_aload_n dX4_heldSeed_0 0 rfl ?_
  refine okS_getI dX4_heldSeed_1 fl_X4_16 pi_148_1 ?_
  exact okS_ret dX4_heldSeed_4 rfl rfl (by have e := Option.some.inj h; subst e; exact ⟨rfl, rfl⟩)
