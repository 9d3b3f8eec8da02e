def f_X10_isWord (S : Mm) (a1 : Int32) : Option (Int32) :=
  (if a1 < 0 then some 0 else (if 8 ≤ a1 then some 0 else some 1))
set_option maxRecDepth 100000 in
set_option maxHeartbeats 4000000 in
theorem t_X10_isWord {S : Mm} {a1 : Int32} {out : Int32} (h : f_X10_isWord S a1 = some out) : Rs D_X10_isWord [.int a1] S (some (.int out)) S := by
  refine rs_of (by decide) rfl (Nat.le_of_ble_eq_true rfl) ?_
  unfold f_X10_isWord at h
  show Ok D_X10_isWord (0, 0) (0, 0) 0 [(0, .int a1)] [] (St S) _
  refine ok_iload_n dX10_isWord_0 0 rfl ?_
  refine ok_if_lt (tgt := 14) dX10_isWord_1 (by decide) (fun hc => ?_) (fun hc => ?_)
  · replace h := it_pos hc h
    refine ok_iconst (v := 0) dX10_isWord_14 ic_0 ?_
    exact okS_ret dX10_isWord_15 rfl (by decide) (by have e := Option.some.inj h; subst e; exact ⟨rfl, rfl⟩)
  · replace h := it_neg hc h
    refine ok_iload_n dX10_isWord_4 0 rfl ?_
    refine ok_bipush (v := 8) dX10_isWord_5 bi_8 ?_
    refine ok_icmp_ge (tgt := 14) dX10_isWord_7 (by decide) (fun hc => ?_) (fun hc => ?_)
    · replace h := it_pos hc h
      refine ok_iconst (v := 0) dX10_isWord_14 ic_0 ?_
      exact okS_ret dX10_isWord_15 rfl (by decide) (by have e := Option.some.inj h; subst e; exact ⟨rfl, rfl⟩)
    · replace h := it_neg hc h
      refine ok_iconst (v := 1) dX10_isWord_10 ic_1 ?_
      refine ok_goto (tgt := 15) dX10_isWord_11 (by decide) ?_
      exact okS_ret dX10_isWord_15 rfl (by decide) (by have e := Option.some.inj h; subst e; exact ⟨rfl, rfl⟩)
def f_X10_setOfWord (S : Mm) (a1 : Int32) : Option (Int32) :=
  some (1 <<< (a1 &&& 31))
set_option maxRecDepth 100000 in
set_option maxHeartbeats 4000000 in
theorem t_X10_setOfWord {S : Mm} {a1 : Int32} {out : Int32} (h : f_X10_setOfWord S a1 = some out) : Rs D_X10_setOfWord [.int a1] S (some (.int out)) S := by
  refine rs_of (by decide) rfl (Nat.le_of_ble_eq_true rfl) ?_
  unfold f_X10_setOfWord at h
  show Ok D_X10_setOfWord (0, 0) (0, 0) 0 [(0, .int a1)] [] (St S) _
  refine ok_iconst (v := 1) dX10_setOfWord_0 ic_1 ?_
  refine ok_iload_n dX10_setOfWord_1 0 rfl ?_
  refine ok_ishl dX10_setOfWord_2 ?_
  exact okS_ret dX10_setOfWord_3 rfl rfl (by have e := Option.some.inj h; subst e; exact ⟨rfl, rfl⟩)
def f_X6_isTerm (S : Mm) (a1 : Int32) : Option (Int32) :=
  (if a1 < 0 then some 0 else (if 4 ≤ a1 then some 0 else some 1))
set_option maxRecDepth 100000 in
set_option maxHeartbeats 4000000 in
theorem t_X6_isTerm {S : Mm} {a1 : Int32} {out : Int32} (h : f_X6_isTerm S a1 = some out) : Rs D_X6_isTerm [.int a1] S (some (.int out)) S := by
  refine rs_of (by decide) rfl (Nat.le_of_ble_eq_true rfl) ?_
  unfold f_X6_isTerm at h
  show Ok D_X6_isTerm (0, 0) (0, 0) 0 [(0, .int a1)] [] (St S) _
  refine ok_iload_n dX6_isTerm_0 0 rfl ?_
  refine ok_if_lt (tgt := 13) dX6_isTerm_1 (by decide) (fun hc => ?_) (fun hc => ?_)
  · replace h := it_pos hc h
    refine ok_iconst (v := 0) dX6_isTerm_13 ic_0 ?_
    exact okS_ret dX6_isTerm_14 rfl (by decide) (by have e := Option.some.inj h; subst e; exact ⟨rfl, rfl⟩)
  · replace h := it_neg hc h
    refine ok_iload_n dX6_isTerm_4 0 rfl ?_
    refine ok_iconst (v := 4) dX6_isTerm_5 ic_4 ?_
    refine ok_icmp_ge (tgt := 13) dX6_isTerm_6 (by decide) (fun hc => ?_) (fun hc => ?_)
    · replace h := it_pos hc h
      refine ok_iconst (v := 0) dX6_isTerm_13 ic_0 ?_
      exact okS_ret dX6_isTerm_14 rfl (by decide) (by have e := Option.some.inj h; subst e; exact ⟨rfl, rfl⟩)
    · replace h := it_neg hc h
      refine ok_iconst (v := 1) dX6_isTerm_9 ic_1 ?_
      refine ok_goto (tgt := 14) dX6_isTerm_10 (by decide) ?_
      exact okS_ret dX6_isTerm_14 rfl (by decide) (by have e := Option.some.inj h; subst e; exact ⟨rfl, rfl⟩)
