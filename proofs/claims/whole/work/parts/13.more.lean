/-! ===== new cells, Math, arraycopy ===== -/
def mC (M : Mem) (o : Nat) (f : Nat → Int32) : Mem := (M.1, M.2.1, fun k j => if k = o then f j else M.2.2.1 k j, M.2.2.2)
theorem cellE_C {g : Gd} {B : Nat} {M : Mem} {o : Nat} {f : Nat → Int32} {a : Nat} (h : a ≠ o) : cellE g B (mC M o f) a = cellE g B M a := by
  have e1 : ∀ b, (mC M o f).2.2.1 a b = M.2.2.1 a b := fun b => if_neg h
  have e2 : (mC M o f).2.2.1 a = M.2.2.1 a := funext e1
  have e3 : slV B (mC M o f) (M.2.1 a).1 a = slV B M (M.2.1 a).1 a := funext fun b => by
    show (if refS (M.2.1 a).1 b = true then va_rf (rB B (M.2.2.2 a b)) else .int ((mC M o f).2.2.1 a b)) = _
    rw [e1]; rfl
  unfold cellE
  rw [show (mC M o f).2.1 = M.2.1 from rfl, e3, e2]
  rfl
theorem ws_cpy {g : Gd} {B : Nat} {M : Mem} {o N : Nat} {f : Nat → Int32} (hk : M.2.1 o = (12, N)) : (wsOf g B M).set o (B + o, .inl (g.2.1 12, N, .inl f)) = wsOf g B (mC M o f) := by
  refine wsOf_set rfl (fun a h => cellE_C h) ?_
  rw [cellE_i (M := mC M o f) (k := o) hk]
  congr 4
  funext b
  exact if_pos rfl
theorem cellE_new {g : Gd} {B : Nat} {M : Mem} {d : Kd} {a : Nat} (h : a < M.1) : cellE g B (mNew M d) a = cellE g B M a := by
  have hne : a ≠ M.1 := Nat.ne_of_lt h
  have e0 : (mNew M d).2.1 a = M.2.1 a := if_neg hne
  have e1 : ∀ b, (mNew M d).2.2.1 a b = M.2.2.1 a b := fun b => if_neg hne
  have e2 : (mNew M d).2.2.1 a = M.2.2.1 a := funext e1
  have e4 : ∀ b, (mNew M d).2.2.2 a b = M.2.2.2 a b := fun b => if_neg hne
  have e5 : (fun b => rB B ((mNew M d).2.2.2 a b)) = fun b => rB B (M.2.2.2 a b) := funext fun b => by rw [e4]
  have e3 : slV B (mNew M d) (M.2.1 a).1 a = slV B M (M.2.1 a).1 a := funext fun b => by
    show (if refS (M.2.1 a).1 b = true then va_rf (rB B ((mNew M d).2.2.2 a b)) else .int ((mNew M d).2.2.1 a b)) = _
    rw [e1, e4]; rfl
  unfold cellE
  rw [e0, e3, e2, e5]
theorem kd_new {M : Mem} {d : Kd} : (mNew M d).2.1 M.1 = d := if_pos rfl
section OK3
variable {D : Md} {q z : Nat × Nat} {pc : Nat} {L : List (Nat × Value)} {st : List Value} {M : Mem} {post : Option Value → Mem → Prop}
theorem ok_new {idx ci N : Nat} {Cn : String} {T : u_T} (hd : decode D.2.1 pc = .ok (.new idx, 3)) (hCl : Cl ci Cn T N) (w1 : Cond.classLink D.2.2.2.2.2 idx Cn ∈ lw_good) (w2 : Cond.instantiable Cn N ∈ lw_good) (w3 : Cond.initialized Cn ∈ lw_good) (hdf : ∀ j, j < N → defaultValue (tyOf ci j) = if refS ci j = true then .null else .int 0) (hr : q.1 + 1 ≤ D.2.2.2.2.1.cells ∧ q.2 + N ≤ D.2.2.2.2.1.slots)
    (kk : Ok D (q.1 + 1, q.2 + N) z (pc + 3) L (.ref M.1 :: st) (mNew M (ci, N)) post) : Ok D q z pc L st M post := by
  intro g B p l e s m args below meth c H locs ls C h1 h2 h3 h4
  obtain ⟨hc, hc2, hin, hty, hnm⟩ := hCl
  have hts := C.2.2.2.2.2.1
  refine va_new (D := g.1) (cl := cls) (ci := ci) (fs := (List.range N).map (slV B (mNew M (ci, N)) ci M.1)) C.1 C.2.1 hts hin (tyOf ci) hty C.2.2.2.2.1 (hts _ w1) (hts _ w2) (hts _ w3) C.2.2.2.2.2.2.2.2.1 h2 (wsOf_D g B M) h3 (fun x h => Nat.le_trans C.2.2.2.2.2.2.2.2.2.2 h) hc (fun j hj => ?_) hr.1 hr.2 hd (fun a0 H1 hP hD hS => ?_)
  · rw [hdf j hj]
    have e9 : vp_V ((List.range N).map (slV B (mNew M (ci, N)) ci M.1)) j = slV B (mNew M (ci, N)) ci M.1 j := by
      simp [vp_V, hj]
    rw [e9]
    unfold slV
    rw [show (mNew M (ci, N)).2.2.2 M.1 j = none from if_pos rfl, show (mNew M (ci, N)).2.2.1 M.1 j = 0 from if_pos rfl]
    rfl
  · refine W_nw (M := M) (by omega) hP hD fun ha => ?_
    subst ha
    rw [wsOf_push (M' := mNew M (ci, N)) rfl (fun a h => cellE_new h) (cellE_o kd_new hc2)] at hP
    exact kk g B p l e s m args below meth c H1 locs ls C (by show s.heap.size + (q.1 + 1) = B + (M.1 + 1); omega) hP hS h4
theorem ok_newa {n : Int32} {N : Nat} (hd : decode D.2.1 pc = .ok (.newarray .int, 2)) (hn : ¬ n < 0) (hN : n.toNatClampNeg = N) (hb : N * 4 ≤ 536870912) (w1 : Cond.arrayClass .int ∈ lw_good) (hr : q.1 + 1 ≤ D.2.2.2.2.1.cells ∧ q.2 + N ≤ D.2.2.2.2.1.slots)
    (kk : Ok D (q.1 + 1, q.2 + N) z (pc + 2) L (.ref M.1 :: st) (mNew M (12, N)) post) : Ok D q z pc L (.int n :: st) M post := by
  intro g B p l e s m args below meth c H locs ls C h1 h2 h3 h4
  refine va_newa (atype := .int) (ty := .int) (a0 := (N, .inl (fun _ => 0))) C.1 C.2.1 (C.2.2.2.2.2.1 _ w1) rfl C.2.2.2.2.2.2.2.2.1 h2 (wsOf_D g B M) h3 (fun x h => Nat.le_trans C.2.2.2.2.2.2.2.2.2.2 h) (fun _ => rfl) hn hN hb hr.1 hr.2 hd (fun a0 cA H1 hK hP hD hS => ?_)
  have hcA : cA = g.2.1 12 := by
    have e1 : s.vm.findClass ("[" ++ FieldType.int.toString) = some cA := (hK.2 4 (cA, .int) rfl).2
    have e2 : s.vm.findClass ("[" ++ FieldType.int.toString) = some (g.2.1 12) := (hK.2 0 (g.2.1 12, .int) rfl).2
    exact Option.some.inj (e1.symm.trans e2)
  subst hcA
  refine W_nw (M := M) (by omega) hP hD fun ha => ?_
  subst ha
  rw [wsOf_push (M' := mNew M (12, N)) rfl (fun a h => cellE_new h) ((cellE_i kd_new).trans (by
    congr 4
    funext b
    exact if_pos rfl))] at hP
  exact kk g B p l e s m args below meth c H1 locs ls C (by show s.heap.size + (q.1 + 1) = B + (M.1 + 1); omega) hP hS h4
theorem ok_newq {n : Int32} {N idx t : Nat} {Cn : String} (hd : decode D.2.1 pc = .ok (.anewarray idx, 3)) (ht : (t = 13 ∧ Cn = RX4) ∨ (t = 14 ∧ Cn = RX6)) (hn : ¬ n < 0) (hN : n.toNatClampNeg = N) (hb : N * 4 ≤ 536870912) (w1 : Cond.classLink D.2.2.2.2.2 idx Cn ∈ lw_good) (hr : q.1 + 1 ≤ D.2.2.2.2.1.cells ∧ q.2 + N ≤ D.2.2.2.2.1.slots)
    (kk : Ok D (q.1 + 1, q.2 + N) z (pc + 3) L (.ref M.1 :: st) (mNew M (t, N)) post) : Ok D q z pc L (.int n :: st) M post := by
  intro g B p l e s m args below meth c H locs ls C h1 h2 h3 h4
  have hAO : va_AO Cn s := by
    rcases ht with ⟨-, rfl⟩ | ⟨-, rfl⟩
    · exact C.2.2.2.2.2.2.2.2.2.1.2.1
    · exact C.2.2.2.2.2.2.2.2.2.1.2.2.1
  refine va_newq C.1 C.2.1 C.2.2.2.2.1 (C.2.2.2.2.2.1 _ w1) hAO C.2.2.2.2.2.2.2.2.1 h2 (wsOf_D g B M) h3 (fun x h => Nat.le_trans C.2.2.2.2.2.2.2.2.2.2 h) hn hN hb hr.1 hr.2 hd (fun a0 cA H1 hK hP hD hS => ?_)
  have hcA : cA = g.2.1 t := by
    obtain ⟨_, _, _, _, _, e1⟩ : va_RA s cA (.object Cn) := (hK.2 4 (cA, .object Cn) rfl).2
    rcases ht with ⟨rfl, rfl⟩ | ⟨rfl, rfl⟩
    · obtain ⟨_, _, _, _, _, e2⟩ : va_RA s (g.2.1 13) (.object RX4) := (hK.2 1 (g.2.1 13, .object RX4) rfl).2
      exact Option.some.inj (e1.symm.trans e2)
    · obtain ⟨_, _, _, _, _, e2⟩ : va_RA s (g.2.1 14) (.object RX6) := (hK.2 2 (g.2.1 14, .object RX6) rfl).2
      exact Option.some.inj (e1.symm.trans e2)
  subst hcA
  have ht2 : 12 < t := by rcases ht with ⟨rfl, -⟩ | ⟨rfl, -⟩ <;> decide
  refine W_nw (M := M) (by omega) hP hD fun ha => ?_
  subst ha
  rw [wsOf_push (M' := mNew M (t, N)) rfl (fun a h => cellE_new h) ((cellE_q kd_new ht2).trans (by
    congr 7
    funext b
    rw [show (mNew M (t, N)).2.2.2 M.1 b = none from if_pos rfl]
    rfl))] at hP
  exact kk g B p l e s m args below meth c H1 locs ls C (by show s.heap.size + (q.1 + 1) = B + (M.1 + 1); omega) hP hS h4
/-- n rows of K ints behind their outer array -/
def mGrid (M : Mem) (N K : Nat) : Mem := (M.1 + 1 + N, fun k => if k < M.1 then M.2.1 k else if k = M.1 then (15, N) else (12, K), fun k j => if k < M.1 then M.2.2.1 k j else 0, fun k j => if k < M.1 then M.2.2.2 k j else if k = M.1 ∧ j < N then some (M.1 + 1 + j) else none)
theorem gr_outer (c : ClassId) (N h0 : Nat) : ∀ i : Nat, Jvm.Free.Multi.outerC c N h0 i = arrV c N (fun j => va_rf (if j < i then some (h0 + 1 + j) else none))
  | 0 => by
    show ({ cls := c, slots := Array.replicate N .null, vm := .none } : Cell) = _
    rw [arrV_new]
    refine congrArg (arrV c N) (funext fun j => ?_)
    simp [va_rf]
  | i + 1 => by
    show (Jvm.Free.Multi.outerC c N h0 i).setSlot i (.ref (h0 + 1 + i)) = _
    rw [gr_outer c N h0 i, arrV_store]
    refine congrArg (arrV c N) (funext fun j => ?_)
    by_cases e : j = i
    · subst e
      simp [updV, va_rf]
    · by_cases h : j < i
      · simp [updV, e, h, Nat.lt_succ_of_lt h]
      · simp [updV, e, h, show ¬ j < i + 1 by omega]
theorem ok_grid {n k : Int32} {N K idx : Nat} (hd : decode D.2.1 pc = .ok (.multianewarray idx 2, 4)) (hn : ¬ n < 0) (hk : ¬ k < 0) (hN : n.toNatClampNeg = N) (hK : k.toNatClampNeg = K) (hb1 : N * 4 ≤ 536870912) (hb2 : K * 4 ≤ 536870912) (hb3 : K ≤ 536870912) (hM : 0 < M.1) (w1 : Cond.classLink D.2.2.2.2.2 idx ("[" ++ (FieldType.array .int).toString) ∈ lw_good) (w2 : Cond.arrayClass .int ∈ lw_good) (hr : q.1 + (1 + N) ≤ D.2.2.2.2.1.cells ∧ q.2 + (N + N * K) ≤ D.2.2.2.2.1.slots)
    (kk : Ok D (q.1 + 1 + N, q.2 + N + N * K) z (pc + 4) L (.ref M.1 :: st) (mGrid M N K) post) : Ok D q z pc L (.int k :: .int n :: st) M post := by
  intro g B p l e s m args below meth c H locs ls C h1 h2 h3 h4
  subst hN
  subst hK
  refine W_sz h1 h2 hM fun hz => ?_
  intro T hT X
  obtain ⟨vm₁, cA, comp, -, fA, fC, -, -, X', step⟩ := X.multianewarray2F C.1 C.2.2.2.2.1 (C.2.2.2.2.2.1 _ w1) (over_moved (Vm.Alike.refl s.vm) C.2.2.2.2.2.2.2.2.2.1.2.2.2.1) (C.2.2.2.2.2.1 _ w2) (g := F0 m pc ls (.int k :: .int n :: st.map (sh B))) rfl (by rw [C.2.1]; exact hd) rfl hn hk hb1 hb2 hb3 rfl rfl hr.1 hr.2
  have hcA : cA = g.2.1 15 := by
    have e2 : s.vm.findClass ("[" ++ (FieldType.array .int).toString) = some (g.2.1 15) := (C.2.2.2.2.2.2.2.2.1.2 3 (g.2.1 15, .array .int) rfl).2
    exact Option.some.inj (fA.symm.trans e2)
  have hcC : comp = g.2.1 12 := by
    have e2 : s.vm.findClass ("[" ++ FieldType.int.toString) = some (g.2.1 12) := (C.2.2.2.2.2.2.2.2.1.2 0 (g.2.1 12, .int) rfl).2
    have e3 : s.vm.findClass ("[" ++ FieldType.int.toString) = some comp := fC
    exact Option.some.inj (e3.symm.trans e2)
  subst hcA
  subst hcC
  generalize hF : Jvm.Free.Multi.fill (T.setVm vm₁) (g.2.1 15) (g.2.1 12) n.toNatClampNeg k.toNatClampNeg (defaultValue .int) n.toNatClampNeg = F at X' step
  have hTh : (T.setVm vm₁).heap = H := hT
  obtain ⟨f1, f2, -, -⟩ := Jvm.Free.Multi.fill_facts (T.setVm vm₁) (g.2.1 15) (g.2.1 12) n.toNatClampNeg k.toNatClampNeg (defaultValue .int) n.toNatClampNeg
  rw [hF, hTh] at f1 f2
  have hold : ∀ x : Nat, x < H.size → F.heap[x]? = H[x]? := fun x hx => by
    have := Jvm.Free.Multi.fill_old (T.setVm vm₁) (g.2.1 15) (g.2.1 12) n.toNatClampNeg k.toNatClampNeg (defaultValue .int) (a := x) (by rw [hTh]; exact hx) n.toNatClampNeg
    rw [hF, hTh] at this
    exact this
  have hrow : ∀ j : Nat, j < n.toNatClampNeg → F.heap[H.size + 1 + j]? = some (arrV (g.2.1 12) k.toNatClampNeg (fun _ => .int 0)) := fun j hj => by
    have := Jvm.Free.Multi.fill_inner (T.setVm vm₁) (g.2.1 15) (g.2.1 12) n.toNatClampNeg k.toNatClampNeg (defaultValue .int) n.toNatClampNeg j hj
    rw [hF, hTh] at this
    rw [this]
    congr 1
    exact arrV_new _ _ _
  rw [gr_outer] at f2
  have hP : va_P g.1 cls (wsOf g B (mGrid M n.toNatClampNeg k.toNatClampNeg)) F.heap := by
    intro a x hx
    obtain ⟨ha, rfl⟩ := wsOf_got hx
    have ha : a < M.1 + 1 + n.toNatClampNeg := ha
    by_cases hl : a < M.1
    · have e0 : cellE g B (mGrid M n.toNatClampNeg k.toNatClampNeg) a = cellE g B M a := by
        have e1 : (mGrid M n.toNatClampNeg k.toNatClampNeg).2.1 a = M.2.1 a := if_pos hl
        have e2 : ∀ b, (mGrid M n.toNatClampNeg k.toNatClampNeg).2.2.1 a b = M.2.2.1 a b := fun b => if_pos hl
        have e3 : (mGrid M n.toNatClampNeg k.toNatClampNeg).2.2.1 a = M.2.2.1 a := funext e2
        have e4 : ∀ b, (mGrid M n.toNatClampNeg k.toNatClampNeg).2.2.2 a b = M.2.2.2 a b := fun b => if_pos hl
        have e5 : (fun b => rB B ((mGrid M n.toNatClampNeg k.toNatClampNeg).2.2.2 a b)) = fun b => rB B (M.2.2.2 a b) := funext fun b => by rw [e4]
        have e6 : slV B (mGrid M n.toNatClampNeg k.toNatClampNeg) (M.2.1 a).1 a = slV B M (M.2.1 a).1 a := funext fun b => by
          show (if refS (M.2.1 a).1 b = true then va_rf (rB B ((mGrid M n.toNatClampNeg k.toNatClampNeg).2.2.2 a b)) else .int ((mGrid M n.toNatClampNeg k.toNatClampNeg).2.2.1 a b)) = _
          rw [e2, e4]; rfl
        unfold cellE
        rw [e1, e6, e3, e5]
      rw [e0]
      exact (h2 a _ (wsOf_get hl)).kept (hold _ (by show B + a < H.size; omega))
    · by_cases he : a = M.1
      · subst he
        have e1 : (mGrid M n.toNatClampNeg k.toNatClampNeg).2.1 M.1 = (15, n.toNatClampNeg) := by simp [mGrid]
        rw [cellE_q e1 (by decide)]
        show F.heap[B + M.1]? = some (vp_cell _ _)
        rw [← hz, f2, vp_cell_q]
        congr 2
        funext j
        congr 1
        simp only [mGrid, rB]
        by_cases hj : j < n.toNatClampNeg
        · simp [hj, hz]; omega
        · simp [hj]
      · obtain ⟨i, hi, rfl⟩ : ∃ i, i < n.toNatClampNeg ∧ a = M.1 + 1 + i := ⟨a - M.1 - 1, by omega, by omega⟩
        have e1 : (mGrid M n.toNatClampNeg k.toNatClampNeg).2.1 (M.1 + 1 + i) = (12, k.toNatClampNeg) := by
          simp only [mGrid]
          rw [if_neg (by omega), if_neg (by omega)]
        rw [cellE_i e1]
        show F.heap[B + (M.1 + 1 + i)]? = some (vp_cell _ _)
        rw [show B + (M.1 + 1 + i) = H.size + 1 + i by omega, hrow i hi, vp_cell_i]
        congr 2
        funext j
        congr 1
        exact (if_neg (by omega)).symm
  obtain ⟨t, a1, b1⟩ := kk g B p l e s m args below meth c F.heap locs ls C (by show s.heap.size + (q.1 + 1 + n.toNatClampNeg) = B + (M.1 + 1 + n.toNatClampNeg); omega) hP ⟨by rw [f1]; have := h3.1; omega, fun x hx1 hx2 => (hold x (Nat.lt_of_lt_of_le hx1 h3.1)).trans (h3.2.1 x hx1 hx2), h3.2.2⟩ h4 F rfl X'
  refine ⟨t, step t ?_, b1⟩
  have e9 : T.heap.size = B + M.1 := by rw [hT]; exact hz
  rw [e9]
  exact a1
/-- a static function of Math that class own's entry idx names -/
def Mt (own : String) (idx : Nat) (y : MethodName) (cc : ByteArray) (n : Nat) : Prop := Cond.methodLink own idx y ∈ lw_good ∧ Cond.static y ∈ lw_good ∧ Cond.initialized "java/lang/Math" ∈ lw_good ∧ Cond.code y cc n (some .int) ∈ lw_good
theorem ok_max {idx : Nat} {x y : Int32} (hd : decode D.2.1 pc = .ok (.invokestatic idx, 3)) (hw : Mt D.2.2.2.2.2 idx Lib.Math.max.name Lib.Math.max.code 2) (hr : 1 ≤ D.2.2.2.2.1.frames ∧ (st.map fun v => v.category).sum + 13 ≤ D.2.2.2.2.1.locals ∧ q.1 ≤ D.2.2.2.2.1.cells ∧ q.2 ≤ D.2.2.2.2.1.slots) (kk : Ok D q z (pc + 3) L (.int (if x < y then y else x) :: st) M post) : Ok D q z pc L (.int y :: .int x :: st) M post :=
  fun g B p l e s m args below meth c H locs ls C h1 h2 h3 h4 => va_mmax C.1 C.2.1 (C.2.2.2.1.trans h4.1.symm) C.2.2.2.2.1 (C.2.2.2.2.2.1 _ hw.1) (C.2.2.2.2.2.1 _ hw.2.1) (C.2.2.2.2.2.1 _ hw.2.2.1) (C.2.2.2.2.2.1 _ hw.2.2.2) hr.1 (by rw [cat_sum]; exact hr.2.1) hr.2.2.1 hr.2.2.2 hd (kk g B p l e s m args below meth c H locs ls C h1 h2 h3 h4)
theorem ok_min {idx : Nat} {x y : Int32} (hd : decode D.2.1 pc = .ok (.invokestatic idx, 3)) (hw : Mt D.2.2.2.2.2 idx Lib.Math.min.name Lib.Math.min.code 2) (hr : 1 ≤ D.2.2.2.2.1.frames ∧ (st.map fun v => v.category).sum + 13 ≤ D.2.2.2.2.1.locals ∧ q.1 ≤ D.2.2.2.2.1.cells ∧ q.2 ≤ D.2.2.2.2.1.slots) (kk : Ok D q z (pc + 3) L (.int (if y < x then y else x) :: st) M post) : Ok D q z pc L (.int y :: .int x :: st) M post :=
  fun g B p l e s m args below meth c H locs ls C h1 h2 h3 h4 => va_mmin C.1 C.2.1 (C.2.2.2.1.trans h4.1.symm) C.2.2.2.2.1 (C.2.2.2.2.2.1 _ hw.1) (C.2.2.2.2.2.1 _ hw.2.1) (C.2.2.2.2.2.1 _ hw.2.2.1) (C.2.2.2.2.2.1 _ hw.2.2.2) hr.1 (by rw [cat_sum]; exact hr.2.1) hr.2.2.1 hr.2.2.2 hd (kk g B p l e s m args below meth c H locs ls C h1 h2 h3 h4)
theorem ok_abs {idx : Nat} {x : Int32} (hd : decode D.2.1 pc = .ok (.invokestatic idx, 3)) (hw : Mt D.2.2.2.2.2 idx Lib.Math.abs.name Lib.Math.abs.code 1) (hr : 1 ≤ D.2.2.2.2.1.frames ∧ (st.map fun v => v.category).sum + 13 ≤ D.2.2.2.2.1.locals ∧ q.1 ≤ D.2.2.2.2.1.cells ∧ q.2 ≤ D.2.2.2.2.1.slots) (kk : Ok D q z (pc + 3) L (.int (if 0 ≤ x then x else 0 - x) :: st) M post) : Ok D q z pc L (.int x :: st) M post :=
  fun g B p l e s m args below meth c H locs ls C h1 h2 h3 h4 => va_mabs C.1 C.2.1 (C.2.2.2.1.trans h4.1.symm) C.2.2.2.2.1 (C.2.2.2.2.2.1 _ hw.1) (C.2.2.2.2.2.1 _ hw.2.1) (C.2.2.2.2.2.1 _ hw.2.2.1) (C.2.2.2.2.2.1 _ hw.2.2.2) hr.1 (by rw [cat_sum]; exact hr.2.1) hr.2.2.1 hr.2.2.2 hd (kk g B p l e s m args below meth c H locs ls C h1 h2 h3 h4)
theorem ok_objInit {idx o : Nat} (hd : decode D.2.1 pc = .ok (.invokespecial idx, 3)) (w1 : Cond.methodLink D.2.2.2.2.2 idx objectInit ∈ lw_good) (w2 : Cond.instanceMethod objectInit ∈ lw_good) (w3 : Cond.code objectInit ⟨#[0xb1]⟩ 1 none ∈ lw_good) (hr : 1 ≤ D.2.2.2.2.1.frames ∧ (st.map fun v => v.category).sum + 12 ≤ D.2.2.2.2.1.locals) (kk : Ok D q z (pc + 3) L st M post) : Ok D q z pc L (.ref o :: st) M post :=
  fun g B p l e s m args below meth c H locs ls C h1 h2 h3 h4 => W.objInit (g := F0 m pc ls (.ref (B + o) :: st.map (sh B))) (rest := st.map (sh B)) C.1 C.2.1 C.2.2.2.2.1 (C.2.2.2.2.2.1 _ w1) (C.2.2.2.2.2.1 _ w2) (C.2.2.2.2.2.1 _ w3) rfl (h4.1.trans C.2.2.2.1.symm) rfl hd hr.1 (by rw [cat_sum]; simpa [JFrame.monitorRoom] using hr.2) (kk g B p l e s m args below meth c H locs ls C h1 h2 h3 h4)
theorem ok_copy {idx o1 o2 n1 n2 : Nat} {sp dp n : Int32} (hd : decode D.2.1 pc = .ok (.invokestatic idx, 3)) (w1 : Cond.methodLink D.2.2.2.2.2 idx arraycopyName ∈ lw_good) (w2 : Cond.native arraycopyName ∈ lw_good) (w3 : Cond.static arraycopyName ∈ lw_good) (w4 : Cond.initialized "java/lang/System" ∈ lw_good) (ho1 : o1 < M.1) (hk1 : M.2.1 o1 = (12, n1)) (ho2 : o2 < M.1) (hk2 : M.2.1 o2 = (12, n2)) (g1 : ¬ sp < 0) (g2 : ¬ dp < 0) (g3 : ¬ n < 0) (g4 : sp.toNatClampNeg + n.toNatClampNeg ≤ n1) (g5 : dp.toNatClampNeg + n.toNatClampNeg ≤ n2) (hr : 1 ≤ D.2.2.2.2.1.frames ∧ (st.map fun v => v.category).sum + (nativeFrameWords "java/lang/System" "arraycopy" 5 + 11) ≤ D.2.2.2.2.1.locals)
    (kk : Ok D q z (pc + 3) L st (mC M o2 (va_cpy (M.2.2.1 o1) (M.2.2.1 o2) sp.toNatClampNeg dp.toNatClampNeg n.toNatClampNeg)) post) : Ok D q z pc L (.int n :: .int dp :: .ref o2 :: .int sp :: .ref o1 :: st) M post := by
  intro g B p l e s m args below meth c H locs ls C h1 h2 h3 h4
  refine va_copyi (ty := .int) C.1 C.2.1 (C.2.2.2.1.trans h4.1.symm) C.2.2.2.2.1 (C.2.2.2.2.2.1 _ w1) (C.2.2.2.2.2.1 _ w2) (C.2.2.2.2.2.1 _ w3) (C.2.2.2.2.2.1 _ w4) C.2.2.2.2.2.2.2.2.1 h2 (wsOf_D g B M) h3 o1 o2 0 0 ((wsOf_get ho1).trans (by rw [cellE_i hk1])) ((wsOf_get ho2).trans (by rw [cellE_i hk2])) rfl rfl rfl g1 g2 g3 g4 g5 (fun _ _ => rfl) hr.1 (by rw [cat_sum]; exact hr.2) hd (fun H1 locs1 hP hD hS => ?_)
  rw [ws_cpy hk2] at hP
  exact kk g B p l e s m args below meth c H1 locs1 ls C h1 hP hS h4
end OK3
