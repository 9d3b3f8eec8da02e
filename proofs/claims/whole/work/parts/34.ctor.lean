/-! ===== constructors ===== -/
section CT
variable {D : Md} {q z : Nat × Nat} {pc : Nat} {L : List (Nat × Value)} {st : List Value} {M : Mem} {post : Option Value → Mem → Prop}
theorem ok_cloneAT {i1 i2 i3 : Nat} (hd1 : decode D.2.1 pc = .ok (.getstatic i1, 3)) (w1 : Cond.fieldLink D.2.2.2.2.2 i1 "FlaringWords$News" "AT_FIRST" "[I" ∈ lw_good) (hd2 : decode D.2.1 (pc + 3) = .ok (.invokevirtual i2, 3)) (w2 : Cond.methodLink D.2.2.2.2.2 i2 ⟨"[I", "clone", "()Ljava/lang/Object;"⟩ ∈ lw_good) (w3 : Cond.sameMethod "[I" "java/lang/Object" "clone" "()Ljava/lang/Object;" ∈ lw_good)
    (w4 : Cond.native ⟨"java/lang/Object", "clone", "()Ljava/lang/Object;"⟩ ∈ lw_good) (w5 : Cond.instanceMethod ⟨"java/lang/Object", "clone", "()Ljava/lang/Object;"⟩ ∈ lw_good) (w6 : Cond.selects "[I" ⟨"[I", "clone", "()Ljava/lang/Object;"⟩ ⟨"java/lang/Object", "clone", "()Ljava/lang/Object;"⟩ ∈ lw_good) (hd3 : decode D.2.1 (pc + 3 + 3) = .ok (.checkcast i3, 3)) (w7 : Cond.classLink D.2.2.2.2.2 i3 "[I" ∈ lw_good) (hM : 0 < M.1)
    (hr : 1 ≤ D.2.2.2.2.1.frames ∧ (st.map fun v => v.category).sum + 14 ≤ D.2.2.2.2.1.locals ∧ q.1 + 1 ≤ D.2.2.2.2.1.cells ∧ q.2 + 4 ≤ D.2.2.2.2.1.slots) (kk : Ok D (q.1 + 1, q.2 + 4) z (pc + 3 + 3 + 3) L (.ref M.1 :: st) (mC (mNew M (12, 4)) M.1 ATL) post) : Ok D q z pc L st M post := by
  intro g B p l e s m args below meth c H locs ls C h1 h2 h3 h4
  obtain ⟨-, -, -, -, hZ, -, -, ⟨hcast, cell, c1, c2, c3, c4, c5, c6, c7⟩, -, -⟩ := C.2.2.2.2.2.2.2.2.2.1
  have hts := C.2.2.2.2.2.1
  have hK := C.2.2.2.2.2.2.2.2.1
  refine va_gets C.1 C.2.1 hZ h3 C.2.2.2.2.1 (hts _ w1) (fun _ h9 => h9) hd1 ?_
  refine W_sz h1 h2 hM fun hz => ?_
  have hcA : cell.cls = g.2.1 12 := by
    have e2 : s.vm.findClass ("[" ++ FieldType.int.toString) = some (g.2.1 12) := (hK.2 0 (g.2.1 12, .int) rfl).2
    exact Option.some.inj (c6.symm.trans e2)
  obtain ⟨c0, t0, f1, f2, f3⟩ := Cond.castable_spec (va_Nw.use (A := args) rfl hcast)
  cases c6.symm.trans f1
  have hlt : g.2.2 0 < s.heap.size := (Array.getElem?_eq_some_iff.mp c1).1
  intro T hT X
  have hcellT : T.heap[g.2.2 0]? = some cell := by rw [hT, h3.2.1 _ hlt c7]; exact c1
  obtain ⟨hns, kA, hkA, comp, hkind⟩ := State.isArrayOf_alike X.warmed.alike c2
  obtain ⟨-, kS, hkS, compS, hkindS⟩ := c2
  obtain ⟨vm', X', stp⟩ := X.cloneArray C.1 C.2.2.2.2.1 (hts _ w2) (hts _ w3) (hts _ w4) (hts _ w5) (hts _ w6) (a := g.2.2 0) (cell := cell) hcellT hns c3 c6 f2 f3
    (fun i v hv => by
      have hi : i < 4 := by rw [← c4]; exact (Array.getElem?_eq_some_iff.mp hv).1
      rw [c5 i hi] at hv
      cases hv
      simp [State.fitsSlot, State.slotType?, hkA, hkind]
      rfl)
    (g := F0 m (pc + 3) ls (.ref (g.2.2 0) :: st.map (sh B))) rfl (h4.1.trans C.2.2.2.1.symm) rfl (by rw [C.2.1]; exact hd2) hr.1 (by show 2 * 0 + _ + 14 ≤ _; rw [cat_sum]; have := hr.2.1; omega) hr.2.2.1 (by rw [c4]; exact hr.2.2.2) (hloader := Vm.clonesLoader_of_array hkS hkindS)
  rw [c4] at X'
  have hce : ({ cls := cell.cls, slots := cell.slots } : Cell) = arrV (g.2.1 12) 4 (fun j => .int (ATL j)) := by
    unfold arrV
    rw [hcA]
    congr 1
    refine Array.ext (by rw [c4]; simp) (fun i hi1 hi2 => ?_)
    have hi : i < 4 := by rw [← c4]; exact hi1
    have := c5 i hi
    rw [Array.getElem?_eq_getElem hi1] at this
    rw [Option.some.inj this]
    simp
  rw [hce] at X' stp
  generalize hH1 : H.push (arrV (g.2.1 12) 4 (fun j => .int (ATL j))) = H1
  have z1 : H1.size = H.size + 1 := by rw [← hH1, Array.size_push]
  have e1 : H1[H.size]? = some (arrV (g.2.1 12) 4 (fun j => .int (ATL j))) := by rw [← hH1, Array.getElem?_push_size]
  have o1 : ∀ x : Nat, x < H.size → H1[x]? = H[x]? := fun x hx => by rw [← hH1, Array.getElem?_push, if_neg (Nat.ne_of_lt hx)]
  have hk : ∀ (k : Nat) (y : Nat × va_E), (wsOf g B M)[k]? = some y → H1[y.1]? = H[y.1]? := fun k y hy => o1 y.1 ((h2 k y hy).lt)
  have hkd : (mC (mNew M (12, 4)) M.1 ATL).2.1 M.1 = (12, 4) := if_pos rfl
  have hcl : cellE g B (mC (mNew M (12, 4)) M.1 ATL) M.1 = .inl (g.2.1 12, 4, .inl ATL) := by
    rw [cellE_i hkd]
    congr 4
    funext b
    exact if_pos rfl
  have hP1 : va_P g.1 cls (wsOf g B (mC (mNew M (12, 4)) M.1 ATL)) H1 := by
    rw [← wsOf_push (M := M) (M' := mC (mNew M (12, 4)) M.1 ATL) rfl (fun a ha => (cellE_C (Nat.ne_of_lt ha)).trans (cellE_new ha)) hcl]
    refine (h2.kept hk).app (fun k y hy => ?_)
    have hz0 : k < 1 := (List.getElem?_eq_some_iff.mp hy).1
    rw [show k = 0 by omega] at hy
    cases hy
    show H1[B + M.1]? = some (vp_cell _ _)
    rw [← hz, e1]
    rfl
  have hS1 : va_S (fun x => B ≤ x) s.heap H1 locs := ⟨by rw [z1]; have := h3.1; omega, fun x hx1 hx2 => (o1 x (Nat.lt_of_lt_of_le hx1 h3.1)).trans (h3.2.1 x hx1 hx2), h3.2.2⟩
  have hW : W p l e D.2.2.2.2.1 s m args below meth c H1 locs (q.1 + 1) (q.2 + 4) (MQ below (Qx g B post) args s z.1 z.2 (fun q => B ≤ q)) (F0 m (pc + 3 + 3) ls (.ref (B + M.1) :: st.map (sh B))) :=
    va_castA (D := g.1) (cl := cls) C.1 C.2.1 C.2.2.2.2.1 (hts _ w7) hP1 M.1 ((wsOf_get (Nat.lt_succ_self M.1)).trans (by rw [hcl])) (by rw [c6, hcA]) hd3 (kk g B p l e s m args below meth c H1 locs ls C (by show s.heap.size + (q.1 + 1) = B + (M.1 + 1); omega) hP1 hS1 h4)
  obtain ⟨t2, a1, b1⟩ := hW _ (by show ((T.setVm vm').pushCell _).heap = H1; rw [← hH1, ← hT]; rfl) X'
  refine ⟨t2, stp t2 ?_, b1⟩
  have e9 : T.heap.size = B + M.1 := by rw [hT]; exact hz
  rw [e9]
  exact a1
/-! the same rules with the numbers named -/
theorem okC_new {idx ci N n : Nat} {Cn : String} {T : u_T} {M' : Mem} {q' : Nat × Nat} (hd : decode D.2.1 pc = .ok (.new idx, 3)) (hCl : Cl ci Cn T N) (w1 : Cond.classLink D.2.2.2.2.2 idx Cn ∈ lw_good) (w2 : Cond.instantiable Cn N ∈ lw_good) (w3 : Cond.initialized Cn ∈ lw_good) (hdf : ∀ j, j < N → defaultValue (tyOf ci j) = if refS ci j = true then .null else .int 0) (hr : q.1 + 1 ≤ D.2.2.2.2.1.cells ∧ q.2 + N ≤ D.2.2.2.2.1.slots) (hn : M.1 = n) (hM : mNew M (ci, N) = M') (hq : (q.1 + 1, q.2 + N) = q')
    (kk : Ok D q' z (pc + 3) L (.ref n :: st) M' post) : Ok D q z pc L st M post := by
  subst hn; subst hM; subst hq
  exact ok_new hd hCl w1 w2 w3 hdf hr kk
theorem okC_newa {k : Int32} {N n : Nat} {M' : Mem} {q' : Nat × Nat} (hd : decode D.2.1 pc = .ok (.newarray .int, 2)) (hk : ¬ k < 0) (hN : k.toNatClampNeg = N) (hb : N * 4 ≤ 536870912) (w1 : Cond.arrayClass .int ∈ lw_good) (hr : q.1 + 1 ≤ D.2.2.2.2.1.cells ∧ q.2 + N ≤ D.2.2.2.2.1.slots) (hn : M.1 = n) (hM : mNew M (12, N) = M') (hq : (q.1 + 1, q.2 + N) = q')
    (kk : Ok D q' z (pc + 2) L (.ref n :: st) M' post) : Ok D q z pc L (.int k :: st) M post := by
  subst hn; subst hM; subst hq
  exact ok_newa hd hk hN hb w1 hr kk
theorem okC_newq {k : Int32} {N idx t n : Nat} {Cn : String} {M' : Mem} {q' : Nat × Nat} (hd : decode D.2.1 pc = .ok (.anewarray idx, 3)) (ht : (t = 13 ∧ Cn = RX4) ∨ (t = 14 ∧ Cn = RX6)) (hk : ¬ k < 0) (hN : k.toNatClampNeg = N) (hb : N * 4 ≤ 536870912) (w1 : Cond.classLink D.2.2.2.2.2 idx Cn ∈ lw_good) (hr : q.1 + 1 ≤ D.2.2.2.2.1.cells ∧ q.2 + N ≤ D.2.2.2.2.1.slots) (hn : M.1 = n) (hM : mNew M (t, N) = M') (hq : (q.1 + 1, q.2 + N) = q')
    (kk : Ok D q' z (pc + 3) L (.ref n :: st) M' post) : Ok D q z pc L (.int k :: st) M post := by
  subst hn; subst hM; subst hq
  exact ok_newq hd ht hk hN hb w1 hr kk
theorem okC_grid {n k : Int32} {N K idx nn : Nat} {M' : Mem} {q' : Nat × Nat} (hd : decode D.2.1 pc = .ok (.multianewarray idx 2, 4)) (hn : ¬ n < 0) (hk : ¬ k < 0) (hN : n.toNatClampNeg = N) (hK : k.toNatClampNeg = K) (hb1 : N * 4 ≤ 536870912) (hb2 : K * 4 ≤ 536870912) (hb3 : K ≤ 536870912) (hM0 : 0 < M.1) (w1 : Cond.classLink D.2.2.2.2.2 idx ("[" ++ (FieldType.array .int).toString) ∈ lw_good) (w2 : Cond.arrayClass .int ∈ lw_good) (hr : q.1 + (1 + N) ≤ D.2.2.2.2.1.cells ∧ q.2 + (N + N * K) ≤ D.2.2.2.2.1.slots) (hnn : M.1 = nn) (hM : mGrid M N K = M') (hq : (q.1 + 1 + N, q.2 + N + N * K) = q')
    (kk : Ok D q' z (pc + 4) L (.ref nn :: st) M' post) : Ok D q z pc L (.int k :: .int n :: st) M post := by
  subst hnn; subst hM; subst hq
  exact ok_grid hd hn hk hN hK hb1 hb2 hb3 hM0 w1 w2 hr kk
theorem okC_putF {o idx ci j N t : Nat} {M' : Mem} (hd : decode D.2.1 pc = .ok (.putfield idx, 3)) (hf : Fl D.2.2.2.2.2 idx ci j true) (hown : D.1.name = "<init>" ∧ (cls[ci]?.map (fun c => c.1)) = some D.2.2.2.2.2) (ho : o < M.1) (hk : M.2.1 o = (ci, N)) (hj : j < N) (hr : refS ci j = true) (hft : ∀ t, narrow (tyOf ci j) (.ref t) = .ref t ∧ fits (tyOf ci j) (.ref t) = true) (hM : mR M o j (some t) = M') (kk : Ok D q z (pc + 3) L st M' post) : Ok D q z pc L (.ref t :: .ref o :: st) M post := by
  subst hM
  exact ok_putF hd hf hown ho hk hj hr (hft 0).1 hft kk
theorem okC_putI {o idx ci j N : Nat} {v : Int32} {M' : Mem} (hd : decode D.2.1 pc = .ok (.putfield idx, 3)) (hf : Fl D.2.2.2.2.2 idx ci j false) (ho : o < M.1) (hk : M.2.1 o = (ci, N)) (hj : j < N) (hr : refS ci j = false) (hn : narrow (tyOf ci j) (.int v) = .int v) (hft : fits (tyOf ci j) (.int v) = true) (hM : mI M o j v = M') (kk : Ok D q z (pc + 3) L st M' post) : Ok D q z pc L (.int v :: .ref o :: st) M post := by
  subst hM
  exact ok_putI hd hf ho hk hj hr hn hft kk
/-- a constructor's contract -/
abbrev Ac (M' : Mem) : Option Value → Mem → Prop := fun r M'' => r = none ∧ M'' = M'
theorem okC_I {D2 : Md} {idx o : Nat} {M' : Mem} {q' : Nat × Nat} (hd : decode D.2.1 pc = .ok (.invokespecial idx, 3)) (hC : CI D.2.2.2.2.2 D2 idx 0) (hM : 0 < M.1) (hst : (st.map fun v => v.category).sum ≤ 8) (hR : Rm D D2) (hr : q.1 + D2.2.2.2.2.1.cells ≤ D.2.2.2.2.1.cells ∧ q.2 + D2.2.2.2.2.1.slots ≤ D.2.2.2.2.1.slots) (hc : Rn D2 (D2.2.2.2.2.1.cells, D2.2.2.2.2.1.slots) [.ref o] M (Ac M')) (hcz : M'.1 = M.1 + D2.2.2.2.2.1.cells) (hq : (q.1 + D2.2.2.2.2.1.cells, q.2 + D2.2.2.2.2.1.slots) = q') (kk : Ok D q' z (pc + 3) L st M' post) : Ok D q z pc L (.ref o :: st) M post := by
  subst hq
  exact ok_callI (as := []) (post2 := Ac M') hd hC rfl hM hst hR hr hc (fun r M9 h => by rw [h.2]; exact hcz) (fun r M9 h => by obtain ⟨rfl, rfl⟩ := h; exact kk)
theorem okC_IN {D2 : Md} {idx o : Nat} {host : String} {M' : Mem} {q' : Nat × Nat} (hd : decode D.2.1 pc = .ok (.invokespecial idx, 3)) (hC : CIN D.2.2.2.2.2 D2 idx 0 host) (hM : 0 < M.1) (hst : (st.map fun v => v.category).sum ≤ 8) (hR : Rm D D2) (hr : q.1 + D2.2.2.2.2.1.cells ≤ D.2.2.2.2.1.cells ∧ q.2 + D2.2.2.2.2.1.slots ≤ D.2.2.2.2.1.slots) (hc : Rn D2 (D2.2.2.2.2.1.cells, D2.2.2.2.2.1.slots) [.ref o] M (Ac M')) (hcz : M'.1 = M.1 + D2.2.2.2.2.1.cells) (hq : (q.1 + D2.2.2.2.2.1.cells, q.2 + D2.2.2.2.2.1.slots) = q') (kk : Ok D q' z (pc + 3) L st M' post) : Ok D q z pc L (.ref o :: st) M post := by
  subst hq
  exact ok_callIN (as := []) (post2 := Ac M') hd hC rfl hM hst hR hr hc (fun r M9 h => by rw [h.2]; exact hcz) (fun r M9 h => by obtain ⟨rfl, rfl⟩ := h; exact kk)
end CT
/-! News -/
def nw1 (M : Mem) (o : Nat) : Mem := mR (mC (mNew M (12, 4)) M.1 ATL) o 0 (some M.1)
def nw2 (M : Mem) (o : Nat) : Mem := mR (mNew (nw1 M o) (12, 40)) o 1 (some (M.1 + 1))
def nw3 (M : Mem) (o : Nat) : Mem := mR (mNew (nw2 M o) (12, 40)) o 2 (some (M.1 + 2))
def nwNews (M : Mem) (o : Nat) : Mem := mI (mI (nw3 M o) o 3 6) o 4 0
set_option maxRecDepth 100000 in
set_option maxHeartbeats 4000000 in
theorem t_X6_init {M : Mem} {o : Nat} (ho : o < M.1) (hk : M.2.1 o = (6, 5)) : Rn D_X6_init (3, 84) [.ref o] M (Ac (nwNews M o)) := by
  have hne : o ≠ M.1 := Nat.ne_of_lt ho
  have k1 : (mC (mNew M (12, 4)) M.1 ATL).2.1 o = (6, 5) := (if_neg hne).trans hk
  have k2 : (mNew (nw1 M o) (12, 40)).2.1 o = (6, 5) := (if_neg (by show o ≠ M.1 + 1; omega)).trans k1
  have k3 : (mNew (nw2 M o) (12, 40)).2.1 o = (6, 5) := (if_neg (by show o ≠ M.1 + 1 + 1; omega)).trans k2
  refine rn_of (by decide) rfl (Nat.le_of_ble_eq_true rfl) ?_
  show Ok D_X6_init (0, 0) (3, 84) 0 [(0, .ref o)] [] M _
  refine ok_aload_n dX6_init_0 0 rfl ?_
  refine ok_objInit dX6_init_1 wd_89 wd_82 wd_83 ⟨by decide, by decide⟩ ?_
  refine ok_aload_n dX6_init_4 0 rfl ?_
  refine ok_cloneAT dX6_init_5 wd_90 dX6_init_8 wd_92 wd_93 wd_94 wd_95 wd_96 dX6_init_11 wd_98 (by omega) ⟨by decide, Nat.le_of_ble_eq_true rfl, by decide, by decide⟩ ?_
  refine okC_putF (M' := nw1 M o) dX6_init_14 fl_X6_20 (by decide) (by show o < M.1 + 1; omega) k1 (by decide) rfl (fun _ => ⟨rfl, rfl⟩) rfl ?_
  refine ok_aload_n dX6_init_17 0 rfl ?_
  refine ok_bipush (v := 40) dX6_init_18 bi_40 ?_
  refine okC_newa (N := 40) (n := M.1 + 1) (M' := mNew (nw1 M o) (12, 40)) (q' := (2, 44)) dX6_init_20 (by decide) (by decide) (by decide) wd_115 ⟨by decide, by decide⟩ rfl rfl rfl ?_
  refine okC_putF (M' := nw2 M o) dX6_init_22 fl_X6_23 (by decide) (by show o < M.1 + 1 + 1; omega) k2 (by decide) rfl (fun _ => ⟨rfl, rfl⟩) rfl ?_
  refine ok_aload_n dX6_init_25 0 rfl ?_
  refine ok_bipush (v := 40) dX6_init_26 bi_40 ?_
  refine okC_newa (N := 40) (n := M.1 + 2) (M' := mNew (nw2 M o) (12, 40)) (q' := (3, 84)) dX6_init_28 (by decide) (by decide) (by decide) wd_115 ⟨by decide, by decide⟩ rfl rfl rfl ?_
  refine okC_putF (M' := nw3 M o) dX6_init_30 fl_X6_26 (by decide) (by show o < M.1 + 1 + 1 + 1; omega) k3 (by decide) rfl (fun _ => ⟨rfl, rfl⟩) rfl ?_
  refine ok_aload_n dX6_init_33 0 rfl ?_
  refine ok_bipush (v := 6) dX6_init_34 bi_6 ?_
  refine okC_putI (M' := mI (nw3 M o) o 3 6) dX6_init_36 fl_X6_29 (by show o < M.1 + 1 + 1 + 1; omega) k3 (by decide) rfl rfl rfl rfl ?_
  refine ok_aload_n dX6_init_39 0 rfl ?_
  refine ok_iconst (v := 0) dX6_init_40 ic_0 ?_
  refine okC_putI (M' := nwNews M o) dX6_init_41 fl_X6_33 (by show o < M.1 + 1 + 1 + 1; omega) k3 (by decide) rfl rfl rfl rfl ?_
  exact ok_retv (by show 0 < M.1 + 1 + 1 + 1; omega) dX6_init_44 rfl ⟨rfl, rfl⟩
