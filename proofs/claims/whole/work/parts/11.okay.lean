/-! ===== a method's run over the memory ===== -/
/-- a method: its name, code, locals, answer, room, and the class whose constants it uses -/
abbrev Md : Type := MethodName × ByteArray × Nat × Option FieldType × Room × String
def lw_good : List Cond := lw_tbl.filter goodWord
theorem lw_in {w : Cond} (h : w ∈ lw_tbl) (hg : goodWord w = true) : w ∈ lw_good := List.mem_filter.mpr ⟨h, hg⟩
theorem lw_goodIn : GoodIn lw_good lw_good := fun w h => ⟨h, good_of_word (List.mem_filter.mp h).2⟩
def wsD (D : Md) : List Cond := .code D.1 D.2.1 D.2.2.1 D.2.2.2.1 :: lw_good
def isNest : Cond → Bool
  | .methodLinkNest .. => true
  | _ => false
/-- what a state says beside the words: the links between nest mates, the array classes, the three static arrays -/
def Stc (g : Gd) (B : Nat) (U : State) (H : Heap) : Prop :=
  (∀ w ∈ lw_tbl, isNest w = true → va_Nw w U) ∧ va_AO RX4 U ∧ va_AO RX6 U ∧ (Cond.arrayOver (.array .int)).before #[] U = true ∧
  va_Z "FlaringWords$News" "AT_FIRST" "[I" (.ref (g.2.2 0)) (fun q => B ≤ q) U H ∧ va_Z "FlaringWords$News" "LEAST" "[I" (.ref (g.2.2 1)) (fun q => B ≤ q) U H ∧ va_Z "FlaringWords$News" "MOST" "[I" (.ref (g.2.2 2)) (fun q => B ≤ q) U H ∧
  va_T .int (g.2.2 0) 4 (fun j => .int (([2, 2, 2, 6] : List Int32).getD j 0)) (fun q => B ≤ q) U H ∧ va_T .int (g.2.2 1) 4 (fun j => .int (([1, 1, 1, 0] : List Int32).getD j 0)) (fun q => B ≤ q) U H ∧ va_T .int (g.2.2 2) 4 (fun j => .int (([3, 9, 9, 99] : List Int32).getD j 0)) (fun q => B ≤ q) U H
theorem over_moved {u U : State} (hvm : u.vm.Alike U.vm) (h : (Cond.arrayOver (.array .int)).before #[] u = true) : (Cond.arrayOver (.array .int)).before #[] U = true := by
  sorry
theorem Stc.moved {g : Gd} {B : Nat} {s U : State} {H H1 : Heap} (h : Stc g B s H) (hW : s.WarmedH U.vm) (hq : ∀ a : Nat, a < H.size → ¬ B ≤ a → H1[a]? = H[a]?) : Stc g B U H1 := by
  obtain ⟨h1, h2, h3, h4, h5, h6, h7, h8, h9, h10⟩ := h
  refine ⟨fun w hw hn => ?_, h2.moved hW.alike, h3.moved hW.alike, over_moved hW.alike h4, (h5.moved hW.alike).kept hq, (h6.moved hW.alike).kept hq, (h7.moved hW.alike).kept hq, (h8.moved hW.alike).kept hq, (h9.moved hW.alike).kept hq, (h10.moved hW.alike).kept hq⟩
  have := h1 w hw hn
  cases w <;> first | exact va_Nw.warmM hW this | (simp [isNest] at hn)
def Hold (g : Gd) (B : Nat) (M : Mem) (U : State) : Prop := va_K g.1 cls (tysOf g) U ∧ Stc g B U U.heap ∧ U.heap.size = B + M.1 ∧ va_P g.1 cls (wsOf g B M) U.heap
def Qx (g : Gd) (B : Nat) (post : Option Value → Mem → Prop) : Array Value → State → Outcome → State → Prop := fun _ st o t => (∃ (r : Option Value) (M : Mem), o = .returned (r.map (sh B)) ∧ post r M ∧ Hold g B M t) ∧ va_F (fun q => B ≤ q) st t
/-- a method's contract: from the memory M, called with these values, it returns, and post holds of the answer and the memory then; z: cells and slots that it makes -/
def Rn (D : Md) (z : Nat × Nat) (as : List Value) (M : Mem) (post : Option Value → Mem → Prop) : Prop :=
  ∀ (l : Launch) (g : Gd) (B : Nat), Met l D.1 (wsD D) D.2.2.2.2.1 (va_Pc (as.map (sh B)) (Hold g B M)) (Qx g B post) z.1 z.2 (fun q => B ≤ q)
def Cx (D : Md) (g : Gd) (B : Nat) (p : Program) (s : State) (m : MethodId) (args : Array Value) (meth : Method) (c : Code) : Prop :=
  p.tables.exec = Jvm.exec ∧ c.code = D.2.1 ∧ meth.sig.returnType = D.2.2.2.1 ∧ c.maxLocals = D.2.2.1 ∧ s.vm.findClass D.2.2.2.2.2 = some m.cls ∧ (∀ w ∈ lw_good, w.before args s = true) ∧ meth.locks = false ∧ (D.1.name = "<init>" → meth.name = "<init>") ∧ va_K g.1 cls (tysOf g) s ∧ Stc g B s s.heap ∧ B ≤ s.heap.size
/-- at pc, with these locals, this stack and memory M: the method comes to its end, and post holds then -/
def Ok (D : Md) (q z : Nat × Nat) (pc : Nat) (L : List (Nat × Value)) (st : List Value) (M : Mem) (post : Option Value → Mem → Prop) : Prop :=
  ∀ (g : Gd) (B : Nat) (p : Program) (l : Launch) (e : Env) (s : State) (m : MethodId) (args : Array Value) (below : List Frame) (meth : Method) (c : Code) (H : Heap) (locs : List Loc) (ls : Array Slot),
    Cx D g B p s m args meth c → H.size = B + M.1 → va_P g.1 cls (wsOf g B M) H → va_S (fun q => B ≤ q) s.heap H locs → lv_has ls D.2.2.1 (L.map (shp B)) →
    W p l e D.2.2.2.2.1 s m args below meth c H locs q.1 q.2 (MQ below (Qx g B post) args s z.1 z.2 (fun q => B ≤ q)) (F0 m pc ls (st.map (sh B)))
theorem sh_cat (B : Nat) (v : Value) : (sh B v).category = v.category := by cases v <;> rfl
theorem lv_args_sh (B : Nat) : ∀ (as : List Value) (i : Nat), lv_args i (as.map (sh B)) = (lv_args i as).map (shp B)
  | [], i => rfl
  | v :: as, i => by
    show lv_args i (sh B v :: as.map (sh B)) = _
    unfold lv_args
    sorry
theorem rn_of {D : Md} {z : Nat × Nat} {as : List Value} {M : Mem} {post : Option Value → Mem → Prop} (hy : plainName D.1.cls = true) (hown : D.1.cls = D.2.2.2.2.2) (hn : (lg_sl as).length ≤ D.2.2.1)
    (h : Ok D (0, 0) z 0 (lv_args 0 as) [] M post) : Rn D z as M post := by
  intro l g B
  refine Met.ofW (cc := D.2.1) (maxL := D.2.2.1) (ret := D.2.2.2.1) hy rfl ?_
  intro p e s m args below meth c s₁ Bd hml hv
  obtain ⟨rfl, hK, hSt, hsz, hP⟩ := hv
  have hts := atoms_spec (ws := wsD D) Bd.pre
  have hl := lv_entry (as.map (sh B)) (n := D.2.2.1) (by sorry)
  rw [lg_entry_eq]
  generalize (lg_sl (as.map (sh B)) ++ List.replicate (D.2.2.1 - (lg_sl (as.map (sh B))).length) Slot.unset).toArray = ls at hl ⊢
  rw [lv_args_sh] at hl
  refine h g B p l e s m _ below meth c s.heap [] ls ⟨Bd.exec, Bd.bytes, Bd.returns, hml, ?_, fun w hw => hts w (List.mem_cons_of_mem _ hw), Bd.notSynchronized, fun hi => ?_, hK, hSt, by omega⟩ hsz hP va_S.rf hl
  · rw [← hown]; exact findClass_of_methodNamed Bd.named
  · rw [← hi]; exact (name_of_methodNamed Bd.named Bd.method).1
section OK1
variable {D : Md} {q z : Nat × Nat} {pc : Nat} {L : List (Nat × Value)} {st : List Value} {M : Mem} {post : Option Value → Mem → Prop}
theorem ok_perm {L' : List (Nat × Value)} (ks : List Nat) (hl : lv_pick L ks = L') (k : Ok D q z pc L' st M post) : Ok D q z pc L st M post := by
  intro g B p l e s m args below meth c H locs ls C h1 h2 h3 h4
  refine k g B p l e s m args below meth c H locs ls C h1 h2 h3 ⟨h4.1, h4.2.1, fun x hx => ?_⟩
  subst hl
  obtain ⟨y, hy, rfl⟩ := List.mem_map.mp hx
  unfold lv_pick at hy
  obtain ⟨i, -, hi⟩ := List.mem_filterMap.mp hy
  exact h4.2.2 (shp B y) (List.mem_map.mpr ⟨y, List.mem_of_getElem? hi, rfl⟩)
theorem ls_at {B nL : Nat} {ls : Array Slot} (h : lv_has ls nL (L.map (shp B))) {j i : Nat} {v : Value} (hj : L[j]? = some (i, v)) : ls[i]? = some (.val (sh B v)) :=
  h.2.2 (i, sh B v) (List.mem_map.mpr ⟨(i, v), List.mem_of_getElem? hj, rfl⟩)
theorem ok_iload_n {k : Fin 4} {x : Int32} (hd : decode D.2.1 pc = .ok (.iload_n k, 1)) (j : Nat) (hj : L[j]? = some (k.val, .int x)) (kk : Ok D q z (pc + 1) L (.int x :: st) M post) : Ok D q z pc L st M post :=
  fun g B p l e s m args below meth c H locs ls C h1 h2 h3 h4 => lv_iload_n C.1 C.2.1 hd rfl (ls_at h4 hj) (kk g B p l e s m args below meth c H locs ls C h1 h2 h3 h4)
theorem ok_iload {i : Nat} {x : Int32} (hd : decode D.2.1 pc = .ok (.iload i, 2)) (j : Nat) (hj : L[j]? = some (i, .int x)) (kk : Ok D q z (pc + 2) L (.int x :: st) M post) : Ok D q z pc L st M post :=
  fun g B p l e s m args below meth c H locs ls C h1 h2 h3 h4 => lv_iload C.1 C.2.1 hd (ls_at h4 hj) (kk g B p l e s m args below meth c H locs ls C h1 h2 h3 h4)
theorem ok_iadd {x y : Int32} (hd : decode D.2.1 pc = .ok (.iadd, 1)) (kk : Ok D q z (pc + 1) L (.int (x + y) :: st) M post) : Ok D q z pc L (.int y :: .int x :: st) M post :=
  fun g B p l e s m args below meth c H locs ls C h1 h2 h3 h4 => lv_iadd C.1 C.2.1 hd (kk g B p l e s m args below meth c H locs ls C h1 h2 h3 h4)
end OK1
