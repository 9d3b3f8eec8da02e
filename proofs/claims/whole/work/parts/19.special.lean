/-! ===== the methods that read a static array or copy arrays, and imageOf ===== -/
def LEL (j : Nat) : Int32 := ([1, 1, 1, 0] : List Int32).getD j 0
def MOL (j : Nat) : Int32 := ([3, 9, 9, 99] : List Int32).getD j 0
section SPEC
variable {D : Md} {q z : Nat × Nat} {pc : Nat} {L : List (Nat × Value)} {st : List Value} {M : Mem} {post : Option Value → Mem → Prop}
theorem ok_LEAST {idx : Nat} {k : Fin 4} {x : Int32} (hd1 : decode D.2.1 pc = .ok (.getstatic idx, 3)) (w : Cond.fieldLink D.2.2.2.2.2 idx "FlaringWords$News" "LEAST" "[I" ∈ lw_good) (hd2 : decode D.2.1 (pc + 3) = .ok (.iload_n k, 1)) (j : Nat) (hj : L[j]? = some (k.val, .int x)) (hd3 : decode D.2.1 (pc + 3 + 1) = .ok (.iaload, 1)) (hi : inb x 4) (kk : Ok D q z (pc + 3 + 1 + 1) L (.int (LEL x.toNatClampNeg) :: st) M post) : Ok D q z pc L st M post := by
  intro g B p l e s m args below meth c H locs ls C h1 h2 h3 h4
  obtain ⟨-, -, -, -, -, hZ, -, -, hT, -⟩ := C.2.2.2.2.2.2.2.2.2.1
  refine va_gets C.1 C.2.1 hZ h3 C.2.2.2.2.1 (C.2.2.2.2.2.1 _ w) (fun _ h9 => h9) hd1 ?_
  refine lv_iload_n C.1 C.2.1 hd2 rfl (ls_at h4 hj) ?_
  exact va_ti C.1 C.2.1 hT h3 hi rfl hd3 (kk g B p l e s m args below meth c H locs ls C h1 h2 h3 h4)
theorem ok_MOST {idx : Nat} {k : Fin 4} {x : Int32} (hd1 : decode D.2.1 pc = .ok (.getstatic idx, 3)) (w : Cond.fieldLink D.2.2.2.2.2 idx "FlaringWords$News" "MOST" "[I" ∈ lw_good) (hd2 : decode D.2.1 (pc + 3) = .ok (.iload_n k, 1)) (j : Nat) (hj : L[j]? = some (k.val, .int x)) (hd3 : decode D.2.1 (pc + 3 + 1) = .ok (.iaload, 1)) (hi : inb x 4) (kk : Ok D q z (pc + 3 + 1 + 1) L (.int (MOL x.toNatClampNeg) :: st) M post) : Ok D q z pc L st M post := by
  intro g B p l e s m args below meth c H locs ls C h1 h2 h3 h4
  obtain ⟨-, -, -, -, -, -, hZ, -, -, hT⟩ := C.2.2.2.2.2.2.2.2.2.1
  refine va_gets C.1 C.2.1 hZ h3 C.2.2.2.2.1 (C.2.2.2.2.2.1 _ w) (fun _ h9 => h9) hd1 ?_
  refine lv_iload_n C.1 C.2.1 hd2 rfl (ls_at h4 hj) ?_
  exact va_ti C.1 C.2.1 hT h3 hi rfl hd3 (kk g B p l e s m args below meth c H locs ls C h1 h2 h3 h4)
end SPEC
def f_X6_isInBounds (S : Mm) (a1 a2 : Int32) : Option Int32 :=
  (f_X6_isTerm S a1).bind fun r1 => if r1 = 0 then some 0 else if inb a1 4 then (if a2 < LEL a1.toNatClampNeg then some 0 else if inb a1 4 then (if MOL a1.toNatClampNeg < a2 then some 0 else some 1) else none) else none
set_option maxRecDepth 100000 in
set_option maxHeartbeats 4000000 in
theorem t_X6_isInBounds {S : Mm} {a1 a2 : Int32} {out : Int32} (h : f_X6_isInBounds S a1 a2 = some out) : Rs D_X6_isInBounds [.int a1, .int a2] S (some (.int out)) S := by
  refine rs_of (by decide) rfl (Nat.le_of_ble_eq_true rfl) ?_
  unfold f_X6_isInBounds at h
  show Ok D_X6_isInBounds (0, 0) (0, 0) 0 [(0, .int a1), (1, .int a2)] [] (St S) _
  refine ok_iload_n dX6_isInBounds_0 0 rfl ?_
  obtain ⟨r1, e1, h⟩ := it_bind h
  refine okS_S (as := [.int a1]) (st := []) (r := some (.int r1)) (S' := S) dX6_isInBounds_1 cv_X6_36 rfl (Nat.le_of_ble_eq_true rfl) ⟨⟨by decide, by decide⟩, rfl, rfl⟩ (t_X6_isTerm e1) ?_
  show Ok D_X6_isInBounds (0, 0) (0, 0) 4 [(0, .int a1), (1, .int a2)] [.int r1] (St S) _
  refine ok_if_eq (tgt := 29) dX6_isInBounds_4 (by decide) (fun hc => ?_) (fun hc => ?_)
  · replace h := it_pos hc h
    refine ok_iconst (v := 0) dX6_isInBounds_29 ic_0 ?_
    exact okS_ret dX6_isInBounds_30 rfl (by decide) (by have e := Option.some.inj h; subst e; exact ⟨rfl, rfl⟩)
  · replace h := it_neg hc h
    refine ok_iload_n dX6_isInBounds_7 1 rfl ?_
    obtain ⟨hi, h⟩ := it_some h
    refine ok_LEAST dX6_isInBounds_8 wd_819 dX6_isInBounds_11 0 rfl dX6_isInBounds_12 hi ?_
    refine ok_icmp_lt (tgt := 29) dX6_isInBounds_13 (by decide) (fun hc => ?_) (fun hc => ?_)
    · replace h := it_pos hc h
      refine ok_iconst (v := 0) dX6_isInBounds_29 ic_0 ?_
      exact okS_ret dX6_isInBounds_30 rfl (by decide) (by have e := Option.some.inj h; subst e; exact ⟨rfl, rfl⟩)
    · replace h := it_neg hc h
      refine ok_iload_n dX6_isInBounds_16 1 rfl ?_
      obtain ⟨hi, h⟩ := it_some h
      refine ok_MOST dX6_isInBounds_17 wd_821 dX6_isInBounds_20 0 rfl dX6_isInBounds_21 hi ?_
      refine ok_icmp_gt (tgt := 29) dX6_isInBounds_22 (by decide) (fun hc => ?_) (fun hc => ?_)
      · replace h := it_pos hc h
        refine ok_iconst (v := 0) dX6_isInBounds_29 ic_0 ?_
        exact okS_ret dX6_isInBounds_30 rfl (by decide) (by have e := Option.some.inj h; subst e; exact ⟨rfl, rfl⟩)
      · replace h := it_neg hc h
        refine ok_iconst (v := 1) dX6_isInBounds_25 ic_1 ?_
        refine ok_goto (tgt := 30) dX6_isInBounds_26 (by decide) ?_
        exact okS_ret dX6_isInBounds_30 rfl (by decide) (by have e := Option.some.inj h; subst e; exact ⟨rfl, rfl⟩)
/-! a News becomes another -/
def cw (S : Mm) (o : Nat) (f : Nat → Int32) : Mm := (fun k j => if k = o then f j else S.1 k j, S.2)
def cw0 (S : Mm) (o t : Nat) (n : Int32) : Mm := cw S o (va_cpy (S.1 t) (S.1 o) (0 : Int32).toNatClampNeg (0 : Int32).toNatClampNeg n.toNatClampNeg)
def bc1 (S : Mm) (o t : Nat) : Mm := wr S o 3 (S.1 t 3)
def bc2 (S : Mm) (o t : Nat) : Mm := wr (bc1 S o t) o 4 ((bc1 S o t).1 t 4)
def bc3 (S : Mm) (o t : Nat) : Mm := cw0 (bc2 S o t) (o + 1) (t + 1) 4
def bc4 (S : Mm) (o t : Nat) : Mm := cw0 (bc3 S o t) (o + 2) (t + 2) 40
def bc5 (S : Mm) (o t : Nat) : Mm := cw0 (bc4 S o t) (o + 3) (t + 3) 40
def f_X6_become (S : Mm) (o t : Nat) : Option Mm := if NW o = true ∧ NW t = true ∧ o ≠ t then some (bc5 S o t) else none
theorem become_po {S : Mm} {o t : Nat} {out : Mm} (h : f_X6_become S o t = some out) : PO o 6 := by
  obtain ⟨⟨h1, -, -⟩, -⟩ := it_some h
  exact ⟨(NW_kd h1).1, 5, (NW_kd h1).2⟩
theorem NW_all {o : Nat} (h : NW o = true) : (PI o 6 3 ∧ PI o 6 4) ∧ (PR o 6 0 (o + 1) ∧ PR o 6 1 (o + 2) ∧ PR o 6 2 (o + 3)) ∧ (PA (o + 1) 4 ∧ PA (o + 2) 40 ∧ PA (o + 3) 40) := by
  have h : o ∈ [1, 74, 78, 82, 86, 90, 94, 98, 102, 106, 110, 114, 118, 122, 126, 130, 134, 144, 149] := of_decide_eq_true h
  simp only [List.mem_cons, List.not_mem_nil, or_false] at h
  rcases h with rfl | rfl | rfl | rfl | rfl | rfl | rfl | rfl | rfl | rfl | rfl | rfl | rfl | rfl | rfl | rfl | rfl | rfl | rfl <;>
    exact ⟨⟨⟨by decide, rfl, 5, rfl, by decide⟩, ⟨by decide, rfl, 5, rfl, by decide⟩⟩, ⟨⟨by decide, rfl, ⟨5, rfl, by decide⟩, by decide, rfl⟩, ⟨by decide, rfl, ⟨5, rfl, by decide⟩, by decide, rfl⟩, ⟨by decide, rfl, ⟨5, rfl, by decide⟩, by decide, rfl⟩⟩, ⟨⟨by decide, rfl⟩, ⟨by decide, rfl⟩, ⟨by decide, rfl⟩⟩⟩
theorem okS_copy {D : Md} {pc : Nat} {L : List (Nat × Value)} {st : List Value} {S : Mm} {post : Option Value → Mem → Prop} {idx o1 o2 n1 : Nat} {n : Int32} (hd : decode D.2.1 pc = .ok (.invokestatic idx, 3)) (w1 : Cond.methodLink D.2.2.2.2.2 idx arraycopyName ∈ lw_good) (h1 : PA o1 n1) (h2 : PA o2 n1) (g3 : ¬ n < 0) (g4 : (0 : Int32).toNatClampNeg + n.toNatClampNeg ≤ n1) (hr : 1 ≤ D.2.2.2.2.1.frames ∧ (st.map fun v => v.category).sum + (nativeFrameWords "java/lang/System" "arraycopy" 5 + 11) ≤ D.2.2.2.2.1.locals) (kk : Ok D (0, 0) (0, 0) (pc + 3) L st (St (cw0 S o2 o1 n)) post) : Ok D (0, 0) (0, 0) pc L (.int n :: .int 0 :: .ref o2 :: .int 0 :: .ref o1 :: st) (St S) post :=
  ok_copy hd w1 wd_417 wd_416 wd_74 h1.1 h1.2 h2.1 h2.2 (by decide) (by decide) g3 g4 g4 hr kk
set_option maxRecDepth 100000 in
set_option maxHeartbeats 4000000 in
theorem t_X6_become {S : Mm} {o t : Nat} {out : Mm} (h : f_X6_become S o t = some out) : Rs D_X6_become [.ref o, .ref t] S none out := by
  obtain ⟨⟨ho, ht, hne⟩, h⟩ := it_some h
  have e := Option.some.inj h
  subst e
  obtain ⟨⟨o3, o4⟩, ⟨oa, ob, oc⟩, ⟨oA, oB, oC⟩⟩ := NW_all ho
  obtain ⟨⟨t3, t4⟩, ⟨ta, tb, tc⟩, ⟨tA, tB, tC⟩⟩ := NW_all ht
  refine rs_of (by decide) rfl (Nat.le_of_ble_eq_true rfl) ?_
  show Ok D_X6_become (0, 0) (0, 0) 0 [(0, .ref o), (1, .ref t)] [] (St S) _
  refine ok_aload_n dX6_become_0 1 rfl ?_
  refine ok_ifnonnull (tgt := 5) dX6_become_1 (by decide) ?_
  refine ok_aload_n dX6_become_5 0 rfl ?_
  refine ok_aload_n dX6_become_6 1 rfl ?_
  refine okS_getI dX6_become_7 fl_X6_29 t3 ?_
  refine okS_putI dX6_become_10 fl_X6_29 o3 ⟨rfl, rfl⟩ ?_
  refine ok_aload_n dX6_become_13 0 rfl ?_
  refine ok_aload_n dX6_become_14 1 rfl ?_
  refine okS_getI dX6_become_15 fl_X6_33 t4 ?_
  refine okS_putI dX6_become_18 fl_X6_33 o4 ⟨rfl, rfl⟩ ?_
  show Ok D_X6_become (0, 0) (0, 0) 21 [(0, .ref o), (1, .ref t)] [] (St (bc2 S o t)) _
  refine ok_aload_n dX6_become_21 1 rfl ?_
  refine okS_getR dX6_become_22 fl_X6_20 ta ?_
  refine ok_iconst (v := 0) dX6_become_25 ic_0 ?_
  refine ok_aload_n dX6_become_26 0 rfl ?_
  refine okS_getR dX6_become_27 fl_X6_20 oa ?_
  refine ok_iconst (v := 0) dX6_become_30 ic_0 ?_
  refine ok_iconst (v := 4) dX6_become_31 ic_4 ?_
  refine okS_copy dX6_become_32 wd_415 tA oA (by decide) (by decide) ⟨by decide, by decide⟩ ?_
  show Ok D_X6_become (0, 0) (0, 0) 35 [(0, .ref o), (1, .ref t)] [] (St (bc3 S o t)) _
  refine ok_aload_n dX6_become_35 1 rfl ?_
  refine okS_getR dX6_become_36 fl_X6_23 tb ?_
  refine ok_iconst (v := 0) dX6_become_39 ic_0 ?_
  refine ok_aload_n dX6_become_40 0 rfl ?_
  refine okS_getR dX6_become_41 fl_X6_23 ob ?_
  refine ok_iconst (v := 0) dX6_become_44 ic_0 ?_
  refine ok_bipush (v := 40) dX6_become_45 bi_40 ?_
  refine okS_copy dX6_become_47 wd_415 tB oB (by decide) (by decide) ⟨by decide, by decide⟩ ?_
  show Ok D_X6_become (0, 0) (0, 0) 50 [(0, .ref o), (1, .ref t)] [] (St (bc4 S o t)) _
  refine ok_aload_n dX6_become_50 1 rfl ?_
  refine okS_getR dX6_become_51 fl_X6_26 tc ?_
  refine ok_iconst (v := 0) dX6_become_54 ic_0 ?_
  refine ok_aload_n dX6_become_55 0 rfl ?_
  refine okS_getR dX6_become_56 fl_X6_26 oc ?_
  refine ok_iconst (v := 0) dX6_become_59 ic_0 ?_
  refine ok_bipush (v := 40) dX6_become_60 bi_40 ?_
  refine okS_copy dX6_become_62 wd_415 tC oC (by decide) (by decide) ⟨by decide, by decide⟩ ?_
  exact okS_retv dX6_become_65 rfl ⟨rfl, rfl⟩
/-! which image: by its number -/
set_option maxRecDepth 100000 in
set_option maxHeartbeats 4000000 in
theorem t_X10_imageOf_143 {S : Mm} {a1 : Int32} (h : a1 = 0) : Rs D_X10_imageOf [.ref 0, .int a1] S (some (.ref 143)) S := by
  subst h
  refine rs_of (by decide) rfl (Nat.le_of_ble_eq_true rfl) ?_
  show Ok D_X10_imageOf (0, 0) (0, 0) 0 [(0, .ref 0), (1, .int 0)] [] (St S) _
  refine ok_iload_n dX10_imageOf_0 1 rfl ?_
  refine ok_if_lt (tgt := 18) dX10_imageOf_1 (by decide) (fun hc => absurd hc (by decide)) (fun hc => ?_)
  refine ok_iload_n dX10_imageOf_4 1 rfl ?_
  refine ok_iconst (v := 2) dX10_imageOf_5 ic_2 ?_
  refine ok_icmp_ge (tgt := 18) dX10_imageOf_6 (by decide) (fun hc => absurd hc (by decide)) (fun hc => ?_)
  refine ok_aload_n dX10_imageOf_9 0 rfl ?_
  refine okS_getR dX10_imageOf_10 fl_X10_46 pr_0_5 ?_
  refine ok_iload_n dX10_imageOf_13 1 rfl ?_
  refine okS_image (t := 143) dX10_imageOf_14 (by decide) (by decide) ?_
  refine ok_goto (tgt := 19) dX10_imageOf_15 (by decide) ?_
  exact okS_reta dX10_imageOf_19 rfl (Or.inr ⟨_, rfl⟩) ⟨rfl, rfl⟩
set_option maxRecDepth 100000 in
set_option maxHeartbeats 4000000 in
theorem t_X10_imageOf_148 {S : Mm} {a1 : Int32} (h : a1 = 1) : Rs D_X10_imageOf [.ref 0, .int a1] S (some (.ref 148)) S := by
  subst h
  refine rs_of (by decide) rfl (Nat.le_of_ble_eq_true rfl) ?_
  show Ok D_X10_imageOf (0, 0) (0, 0) 0 [(0, .ref 0), (1, .int 1)] [] (St S) _
  refine ok_iload_n dX10_imageOf_0 1 rfl ?_
  refine ok_if_lt (tgt := 18) dX10_imageOf_1 (by decide) (fun hc => absurd hc (by decide)) (fun hc => ?_)
  refine ok_iload_n dX10_imageOf_4 1 rfl ?_
  refine ok_iconst (v := 2) dX10_imageOf_5 ic_2 ?_
  refine ok_icmp_ge (tgt := 18) dX10_imageOf_6 (by decide) (fun hc => absurd hc (by decide)) (fun hc => ?_)
  refine ok_aload_n dX10_imageOf_9 0 rfl ?_
  refine okS_getR dX10_imageOf_10 fl_X10_46 pr_0_5 ?_
  refine ok_iload_n dX10_imageOf_13 1 rfl ?_
  refine okS_image (t := 148) dX10_imageOf_14 (by decide) (by decide) ?_
  refine ok_goto (tgt := 19) dX10_imageOf_15 (by decide) ?_
  exact okS_reta dX10_imageOf_19 rfl (Or.inr ⟨_, rfl⟩) ⟨rfl, rfl⟩
set_option maxRecDepth 100000 in
set_option maxHeartbeats 4000000 in
theorem t_X10_imageOf_null {S : Mm} {a1 : Int32} (h0 : ¬ a1 = 0) (h1 : ¬ a1 = 1) : Rs D_X10_imageOf [.ref 0, .int a1] S (some .null) S := by
  refine rs_of (by decide) rfl (Nat.le_of_ble_eq_true rfl) ?_
  show Ok D_X10_imageOf (0, 0) (0, 0) 0 [(0, .ref 0), (1, .int a1)] [] (St S) _
  refine ok_iload_n dX10_imageOf_0 1 rfl ?_
  refine ok_if_lt (tgt := 18) dX10_imageOf_1 (by decide) (fun hc => ?_) (fun hc => ?_)
  · refine ok_null dX10_imageOf_18 ?_
    exact okS_reta dX10_imageOf_19 rfl (Or.inl rfl) ⟨rfl, rfl⟩
  · refine ok_iload_n dX10_imageOf_4 1 rfl ?_
    refine ok_iconst (v := 2) dX10_imageOf_5 ic_2 ?_
    refine ok_icmp_ge (tgt := 18) dX10_imageOf_6 (by decide) (fun hc2 => ?_) (fun hc2 => ?_)
    · refine ok_null dX10_imageOf_18 ?_
      exact okS_reta dX10_imageOf_19 rfl (Or.inl rfl) ⟨rfl, rfl⟩
    · exfalso
      obtain ⟨j, hj, rfl⟩ := nI_of hc
      have e2 : (2 : Int32) = nI 2 := rfl
      rw [e2, nI_leI (by decide) hj] at hc2
      rcases (show j = 0 ∨ j = 1 by omega) with rfl | rfl
      · exact h0 rfl
      · exact h1 rfl
