/-! ===== a method's run over the memory ===== -/
/-- a method: its name, code, locals, answer, room, and the class whose constants it uses -/
abbrev Md : Type := MethodName × ByteArray × Nat × Option FieldType × Room × String
def lw_good : List Cond := lw_tbl.filter goodWord
theorem lw_in {w : Cond} (h : w ∈ lw_tbl) (hg : goodWord w = true) : w ∈ lw_good := List.mem_filter.mpr ⟨h, hg⟩
theorem lw_goodIn : GoodIn lw_good lw_good := fun w h => ⟨h, good_of_word (List.mem_filter.mp h).2⟩
def wsD (D : Md) : List Cond := .code D.1 D.2.1 D.2.2.1 D.2.2.2.1 :: lw_good
def isNest : Cond → Bool
  | .methodLinkNest .. => true
  | _ => false
def ATL (j : Nat) : Int32 := ([2, 2, 2, 6] : List Int32).getD j 0
/-- the static array that is cloned: its cell, whole -/
def ATc (t B : Nat) (U : State) (H : Heap) : Prop := va_Nw (.castable "[I" "java/lang/Cloneable") U ∧ ∃ cell : Cell, H[t]? = some cell ∧ U.isArrayOf cell .int ∧ cell.vm ≠ .unknown ∧ cell.slots.size = 4 ∧ (∀ j : Nat, j < 4 → cell.slots[j]? = some (.int (ATL j))) ∧ U.vm.findClass "[I" = some cell.cls ∧ ¬ B ≤ t
theorem castable_alike {C T : String} {s U : State} (hvm : s.vm.Alike U.vm) (hZ : va_Nw (.castable C T) s) : va_Nw (.castable C T) U := va_tabs rfl (rfl : (s.setVm U.vm).vm = U.vm) (by rw [Cond.castable_setVm hvm]; exact hZ)
theorem ATc.moved {t B : Nat} {u U : State} {H : Heap} (hvm : u.vm.Alike U.vm) (h : ATc t B u H) : ATc t B U H := by
  obtain ⟨h0, cell, h1, h2, h3, h4, h5, h6, h7⟩ := h
  exact ⟨castable_alike hvm h0, cell, h1, State.isArrayOf_alike hvm h2, h3, h4, h5, by rw [hvm.findClass]; exact h6, h7⟩
theorem ATc.kept {t B : Nat} {U : State} {H H1 : Heap} (h : ATc t B U H) (hq : ∀ a : Nat, a < H.size → ¬ B ≤ a → H1[a]? = H[a]?) : ATc t B U H1 := by
  obtain ⟨h0, cell, h1, h2, h3, h4, h5, h6, h7⟩ := h
  exact ⟨h0, cell, by rw [hq t (Array.getElem?_eq_some_iff.mp h1).1 h7]; exact h1, h2, h3, h4, h5, h6, h7⟩
/-- what a state says beside the words: the links between nest mates, the array classes, the three static arrays -/
def Stc (g : Gd) (B : Nat) (U : State) (H : Heap) : Prop :=
  (∀ w ∈ lw_tbl, isNest w = true → va_Nw w U) ∧ va_AO RX4 U ∧ va_AO RX6 U ∧ (Cond.arrayOver (.array .int)).before #[] U = true ∧
  va_Z "FlaringWords$News" "AT_FIRST" "[I" (.ref (g.2.2 0)) (fun q => B ≤ q) U H ∧ va_Z "FlaringWords$News" "LEAST" "[I" (.ref (g.2.2 1)) (fun q => B ≤ q) U H ∧ va_Z "FlaringWords$News" "MOST" "[I" (.ref (g.2.2 2)) (fun q => B ≤ q) U H ∧
  ATc (g.2.2 0) B U H ∧ va_T .int (g.2.2 1) 4 (fun j => .int (([1, 1, 1, 0] : List Int32).getD j 0)) (fun q => B ≤ q) U H ∧ va_T .int (g.2.2 2) 4 (fun j => .int (([3, 9, 9, 99] : List Int32).getD j 0)) (fun q => B ≤ q) U H
theorem Stc.moved {g : Gd} {B : Nat} {s U : State} {H H1 : Heap} (h : Stc g B s H) (hW : s.WarmedH U.vm) (hq : ∀ a : Nat, a < H.size → ¬ B ≤ a → H1[a]? = H[a]?) : Stc g B U H1 := by
  obtain ⟨h1, h2, h3, h4, h5, h6, h7, h8, h9, h10⟩ := h
  refine ⟨fun w hw hn => ?_, h2.moved hW.alike, h3.moved hW.alike, over_moved hW.alike h4, (h5.moved hW.alike).kept hq, (h6.moved hW.alike).kept hq, (h7.moved hW.alike).kept hq, (h8.moved hW.alike).kept hq, (h9.moved hW.alike).kept hq, (h10.moved hW.alike).kept hq⟩
  have := h1 w hw hn
  cases w <;> first | exact va_Nw.warmM hW this | (simp [isNest] at hn)
def Hold (g : Gd) (B : Nat) (M : Mem) (U : State) : Prop := va_K g.1 cls (tysOf g) U ∧ Stc g B U U.heap ∧ U.heap.size = B + M.1 ∧ va_P g.1 cls (wsOf g B M) U.heap
def Qx (g : Gd) (B : Nat) (post : Option Value → Mem → Prop) : Array Value → State → Outcome → State → Prop := fun _ st o t => (∃ (r : Option Value) (M : Mem), o = .returned (r.map (sh B)) ∧ post r M ∧ t.heap.size = B + M.1 ∧ va_P g.1 cls (wsOf g B M) t.heap) ∧ va_F (fun q => B ≤ q) st t
/-- a method's contract: from the memory M, called with these values, it returns, and post holds of the answer and the memory then; z: cells and slots that it makes -/
def Rn (D : Md) (z : Nat × Nat) (as : List Value) (M : Mem) (post : Option Value → Mem → Prop) : Prop :=
  ∀ (l : Launch) (g : Gd) (B : Nat), Met l D.1 (wsD D) D.2.2.2.2.1 (va_Pc (as.map (sh B)) (Hold g B M)) (Qx g B post) z.1 z.2 (fun q => B ≤ q)
def Cx (D : Md) (g : Gd) (B : Nat) (p : Program) (s : State) (m : MethodId) (args : Array Value) (meth : Method) (c : Code) : Prop :=
  p.tables.exec = Jvm.exec ∧ c.code = D.2.1 ∧ meth.sig.returnType = D.2.2.2.1 ∧ c.maxLocals = D.2.2.1 ∧ s.vm.findClass D.2.2.2.2.2 = some m.cls ∧ (∀ w ∈ lw_good, w.before args s = true) ∧ meth.locks = false ∧ (D.1.name = "<init>" → meth.name = "<init>") ∧ va_K g.1 cls (tysOf g) s ∧ Stc g B s s.heap ∧ B ≤ s.heap.size
/-- at pc, with these locals, this stack and memory M: the method comes to its end, and post holds then -/
def Ok (D : Md) (q z : Nat × Nat) (pc : Nat) (L : List (Nat × Value)) (st : List Value) (M : Mem) (post : Option Value → Mem → Prop) : Prop :=
  ∀ (g : Gd) (B : Nat) (p : Program) (l : Launch) (e : Env) (s : State) (m : MethodId) (args : Array Value) (below : List Frame) (meth : Method) (c : Code) (H : Heap) (locs : List Loc) (ls : Array Slot),
    Cx D g B p s m args meth c → s.heap.size + q.1 = B + M.1 → va_P g.1 cls (wsOf g B M) H → va_S (fun q => B ≤ q) s.heap H locs → lv_has ls D.2.2.1 (L.map (shp B)) →
    W p l e D.2.2.2.2.1 s m args below meth c H locs q.1 q.2 (MQ below (Qx g B post) args s z.1 z.2 (fun q => B ≤ q)) (F0 m pc ls (st.map (sh B)))
theorem sh_cat (B : Nat) (v : Value) : (sh B v).category = v.category := by cases v <;> rfl
theorem lv_args_sh (B : Nat) : ∀ (as : List Value) (i : Nat), lv_args i (as.map (sh B)) = (lv_args i as).map (shp B)
  | [], i => rfl
  | v :: as, i => by
    show lv_args i (sh B v :: as.map (sh B)) = _
    simp only [lv_args, List.map_cons, sh_cat]
    rw [lv_args_sh B as]
    rfl
theorem lg_sl_sh (B : Nat) : ∀ (as : List Value), (lg_sl (as.map (sh B))).length = (lg_sl as).length
  | [] => rfl
  | v :: as => by
    have ih := lg_sl_sh B as
    unfold lg_sl at ih ⊢
    simp only [List.map_cons, List.flatMap_cons, List.length_append, ih, sh_cat]
    by_cases h : v.category = 2 <;> simp [h]
theorem rn_of {D : Md} {z : Nat × Nat} {as : List Value} {M : Mem} {post : Option Value → Mem → Prop} (hy : plainName D.1.cls = true) (hown : D.1.cls = D.2.2.2.2.2) (hn : (lg_sl as).length ≤ D.2.2.1)
    (h : Ok D (0, 0) z 0 (lv_args 0 as) [] M post) : Rn D z as M post := by
  intro l g B
  refine Met.ofW (cc := D.2.1) (maxL := D.2.2.1) (ret := D.2.2.2.1) hy rfl ?_
  intro p e s m args below meth c s₁ Bd hml hv
  obtain ⟨rfl, hK, hSt, hsz, hP⟩ := hv
  have hts := atoms_spec (ws := wsD D) Bd.pre
  have hl := lv_entry (as.map (sh B)) (n := D.2.2.1) (by rw [lg_sl_sh]; exact hn)
  rw [lg_entry_eq]
  generalize (lg_sl (as.map (sh B)) ++ List.replicate (D.2.2.1 - (lg_sl (as.map (sh B))).length) Slot.unset).toArray = ls at hl ⊢
  rw [lv_args_sh] at hl
  refine h g B p l e s m _ below meth c s.heap [] ls ⟨Bd.exec, Bd.bytes, Bd.returns, hml, ?_, fun w hw => hts w (List.mem_cons_of_mem _ hw), Bd.notSynchronized, fun hi => ?_, hK, hSt, by omega⟩ (by show s.heap.size + 0 = _; omega) hP va_S.rf hl
  · rw [← hown]; exact findClass_of_methodNamed Bd.named
  · rw [← hi]; exact (name_of_methodNamed Bd.named Bd.method).1
theorem W_sz {g : Gd} {B : Nat} {M : Mem} {p : Program} {l : Launch} {e : Env} {R : Room} {s : State} {m : MethodId} {args : Array Value} {below : List Frame} {meth : Method} {c : Code} {H : Heap} {locs : List Loc} {c1 c2 : Nat} {Q : State → Prop} {G : JFrame} (hq : s.heap.size + c1 = B + M.1) (hP : va_P g.1 cls (wsOf g B M) H) (hM : 0 < M.1)
    (k : H.size = B + M.1 → W p l e R s m args below meth c H locs c1 c2 Q G) : W p l e R s m args below meth c H locs c1 c2 Q G := fun T hT X => k (by
  have h1 := X.heapSize
  rw [hT] at h1
  have h2 : (B + (M.1 - 1), cellE g B M (M.1 - 1)).1 < H.size := (hP (M.1 - 1) _ (wsOf_get (by omega))).lt
  have h3 : B + (M.1 - 1) < H.size := h2
  omega) T hT X
/-- a new cell lies behind the others -/
theorem W_nw {g : Gd} {B : Nat} {M : Mem} {e0 : va_E} {a0 : Nat} {p : Program} {l : Launch} {e : Env} {R : Room} {s : State} {m : MethodId} {args : Array Value} {below : List Frame} {meth : Method} {c : Code} {H : Heap} {locs : List Loc} {c1 c2 : Nat} {Q : State → Prop} {G : JFrame} (hq : s.heap.size + c1 = B + M.1 + 1) (hP : va_P g.1 cls (wsOf g B M ++ [(a0, e0)]) H) (hD : va_D (fun x => B ≤ x) (wsOf g B M ++ [(a0, e0)]))
    (k : a0 = B + M.1 → W p l e R s m args below meth c H locs c1 c2 Q G) : W p l e R s m args below meth c H locs c1 c2 Q G := fun T hT X => k (by
  have h1 := X.heapSize
  rw [hT] at h1
  have e1 : (wsOf g B M ++ [(a0, e0)])[M.1]? = some (a0, e0) := by
    rw [List.getElem?_append_right (by rw [wsOf_len]; exact Nat.le_refl _), wsOf_len, Nat.sub_self]; rfl
  have h2 : a0 < H.size := (hP M.1 _ e1).lt
  have h3 : B ≤ a0 := hD.2 M.1 _ e1
  by_cases h4 : a0 < B + M.1
  · exfalso
    have e2 : (wsOf g B M ++ [(a0, e0)])[a0 - B]? = some (B + (a0 - B), cellE g B M (a0 - B)) := by
      rw [List.getElem?_append_left (by rw [wsOf_len]; omega)]; exact wsOf_get (by omega)
    have h5 := hD.1 M.1 (a0 - B) _ _ e1 e2 (by show a0 = B + (a0 - B); omega)
    omega
  · omega) T hT X
section OK1
variable {D : Md} {q z : Nat × Nat} {pc : Nat} {L : List (Nat × Value)} {st : List Value} {M : Mem} {post : Option Value → Mem → Prop}
theorem ok_perm {L' : List (Nat × Value)} (ks : List Nat) (hl : lv_pick L ks = L') (k : Ok D q z pc L' st M post) : Ok D q z pc L st M post := by
  intro g B p l e s m args below meth c H locs ls C h1 h2 h3 h4
  refine k g B p l e s m args below meth c H locs ls C h1 h2 h3 ⟨h4.1, h4.2.1, fun x hx => ?_⟩
  subst hl
  obtain ⟨y, hy, rfl⟩ := List.mem_map.mp hx
  unfold lv_pick at hy
  obtain ⟨i, -, hi⟩ := List.mem_filterMap.mp hy
  exact h4.2.2 (shp B y) (List.mem_map.mpr ⟨y, List.mem_of_getElem? hi, rfl⟩)
theorem ls_at {B nL : Nat} {ls : Array Slot} (h : lv_has ls nL (L.map (shp B))) {j i : Nat} {v : Value} (hj : L[j]? = some (i, v)) : ls[i]? = some (.val (sh B v)) :=
  h.2.2 (i, sh B v) (List.mem_map.mpr ⟨(i, v), List.mem_of_getElem? hj, rfl⟩)
theorem ls_put {B i : Nat} {v : Value} {L' : List (Nat × Value)} (h : (i, v) :: L.filter (fun q => !(q.1 == i) && !(q.1 + 1 == i && q.2.category == 2)) = L') : (i, sh B v) :: (L.map (shp B)).filter (fun q => !(q.1 == i) && !(q.1 + 1 == i && q.2.category == 2)) = L'.map (shp B) := by
  subst h
  rw [List.map_cons, List.filter_map]
  show (i, sh B v) :: _ = shp B (i, v) :: _
  congr 2
  refine List.filter_congr fun x _ => ?_
  simp [Function.comp, shp, sh_cat]
theorem ok_post {post' : Option Value → Mem → Prop} (h : ∀ r M, post' r M → post r M) (k : Ok D q z pc L st M post') : Ok D q z pc L st M post := by
  intro g B p l e s m args below meth c H locs ls C h1 h2 h3 h4 T hT X
  obtain ⟨t, a, o, b1, b2, ⟨⟨r, M', c1, c2, c3⟩, b3⟩, b4⟩ := k g B p l e s m args below meth c H locs ls C h1 h2 h3 h4 T hT X
  exact ⟨t, a, o, b1, b2, ⟨⟨r, M', c1, h r M' c2, c3⟩, b3⟩, b4⟩
theorem ok_iload_n {k : Fin 4} {x : Int32} (hd : decode D.2.1 pc = .ok (.iload_n k, 1)) (j : Nat) (hj : L[j]? = some (k.val, .int x)) (kk : Ok D q z (pc + 1) L (.int x :: st) M post) : Ok D q z pc L (st) M post :=
  fun g B p l e s m args below meth c H locs ls C h1 h2 h3 h4 => lv_iload_n C.1 C.2.1 hd rfl (ls_at h4 hj) (kk g B p l e s m args below meth c H locs ls C h1 h2 h3 h4)
theorem ok_iload {i : Nat} {x : Int32} (hd : decode D.2.1 pc = .ok (.iload i, 2)) (j : Nat) (hj : L[j]? = some (i, .int x)) (kk : Ok D q z (pc + 2) L (.int x :: st) M post) : Ok D q z pc L (st) M post :=
  fun g B p l e s m args below meth c H locs ls C h1 h2 h3 h4 => lv_iload C.1 C.2.1 hd (ls_at h4 hj) (kk g B p l e s m args below meth c H locs ls C h1 h2 h3 h4)
theorem ok_lload_n {k : Fin 4} {x : Int64} (hd : decode D.2.1 pc = .ok (.lload_n k, 1)) (j : Nat) (hj : L[j]? = some (k.val, .long x)) (kk : Ok D q z (pc + 1) L (.long x :: st) M post) : Ok D q z pc L (st) M post :=
  fun g B p l e s m args below meth c H locs ls C h1 h2 h3 h4 => lv_lload_n C.1 C.2.1 hd rfl (ls_at h4 hj) (kk g B p l e s m args below meth c H locs ls C h1 h2 h3 h4)
theorem ok_lload {i : Nat} {x : Int64} (hd : decode D.2.1 pc = .ok (.lload i, 2)) (j : Nat) (hj : L[j]? = some (i, .long x)) (kk : Ok D q z (pc + 2) L (.long x :: st) M post) : Ok D q z pc L (st) M post :=
  fun g B p l e s m args below meth c H locs ls C h1 h2 h3 h4 => lv_lload C.1 C.2.1 hd (ls_at h4 hj) (kk g B p l e s m args below meth c H locs ls C h1 h2 h3 h4)
theorem ok_aload_n {k : Fin 4} {x : Nat} (hd : decode D.2.1 pc = .ok (.aload_n k, 1)) (j : Nat) (hj : L[j]? = some (k.val, .ref x)) (kk : Ok D q z (pc + 1) L (.ref x :: st) M post) : Ok D q z pc L (st) M post :=
  fun g B p l e s m args below meth c H locs ls C h1 h2 h3 h4 => lv_aload_n C.1 C.2.1 hd rfl (ls_at h4 hj) (kk g B p l e s m args below meth c H locs ls C h1 h2 h3 h4)
theorem ok_aload {i : Nat} {x : Nat} (hd : decode D.2.1 pc = .ok (.aload i, 2)) (j : Nat) (hj : L[j]? = some (i, .ref x)) (kk : Ok D q z (pc + 2) L (.ref x :: st) M post) : Ok D q z pc L (st) M post :=
  fun g B p l e s m args below meth c H locs ls C h1 h2 h3 h4 => lv_aload C.1 C.2.1 hd (ls_at h4 hj) (kk g B p l e s m args below meth c H locs ls C h1 h2 h3 h4)
theorem ok_iconst {n : Int} {v : Int32} (hd : decode D.2.1 pc = .ok (.iconst n, 1)) (hv : Int32.ofInt n = v) (kk : Ok D q z (pc + 1) L (.int v :: st) M post) : Ok D q z pc L (st) M post :=
  fun g B p l e s m args below meth c H locs ls C h1 h2 h3 h4 => lv_iconst C.1 C.2.1 hd hv (kk g B p l e s m args below meth c H locs ls C h1 h2 h3 h4)
theorem ok_bipush {n : Int} {v : Int32} (hd : decode D.2.1 pc = .ok (.bipush n, 2)) (hv : (Int8.ofInt n).toInt32 = v) (kk : Ok D q z (pc + 2) L (.int v :: st) M post) : Ok D q z pc L (st) M post :=
  fun g B p l e s m args below meth c H locs ls C h1 h2 h3 h4 => lv_bipush C.1 C.2.1 hd hv (kk g B p l e s m args below meth c H locs ls C h1 h2 h3 h4)
theorem ok_sipush {n : Int} {v : Int32} (hd : decode D.2.1 pc = .ok (.sipush n, 3)) (hv : (Int16.ofInt n).toInt32 = v) (kk : Ok D q z (pc + 3) L (.int v :: st) M post) : Ok D q z pc L (st) M post :=
  fun g B p l e s m args below meth c H locs ls C h1 h2 h3 h4 => lv_sipush C.1 C.2.1 hd hv (kk g B p l e s m args below meth c H locs ls C h1 h2 h3 h4)
theorem ok_lconst {n : Fin 2} {v : Int64} (hd : decode D.2.1 pc = .ok (.lconst n, 1)) (hv : Int64.ofNat (n : Nat) = v) (kk : Ok D q z (pc + 1) L (.long v :: st) M post) : Ok D q z pc L (st) M post :=
  fun g B p l e s m args below meth c H locs ls C h1 h2 h3 h4 => lv_lconst C.1 C.2.1 hd hv (kk g B p l e s m args below meth c H locs ls C h1 h2 h3 h4)
theorem ok_ldc {i : Nat} {v : Int32} (hd : decode D.2.1 pc = .ok (.ldc i, 2)) (hw : Cond.constant D.2.2.2.2.2 i v ∈ lw_good) (kk : Ok D q z (pc + 2) L (.int v :: st) M post) : Ok D q z pc L (st) M post :=
  fun g B p l e s m args below meth c H locs ls C h1 h2 h3 h4 => lv_ldc C.1 C.2.1 C.2.2.2.2.1 (C.2.2.2.2.2.1 _ hw) hd (kk g B p l e s m args below meth c H locs ls C h1 h2 h3 h4)
theorem ok_ldcw {i : Nat} {v : Int32} (hd : decode D.2.1 pc = .ok (.ldc_w i, 3)) (hw : Cond.constant D.2.2.2.2.2 i v ∈ lw_good) (kk : Ok D q z (pc + 3) L (.int v :: st) M post) : Ok D q z pc L (st) M post :=
  fun g B p l e s m args below meth c H locs ls C h1 h2 h3 h4 => lv_ldcw C.1 C.2.1 C.2.2.2.2.1 (C.2.2.2.2.2.1 _ hw) hd (kk g B p l e s m args below meth c H locs ls C h1 h2 h3 h4)
theorem ok_ldc2 {i : Nat} {v : Int64} (hd : decode D.2.1 pc = .ok (.ldc2_w i, 3)) (hw : Cond.constantLong D.2.2.2.2.2 i v ∈ lw_good) (kk : Ok D q z (pc + 3) L (.long v :: st) M post) : Ok D q z pc L (st) M post :=
  fun g B p l e s m args below meth c H locs ls C h1 h2 h3 h4 => lv_ldc2 C.1 C.2.1 C.2.2.2.2.1 (C.2.2.2.2.2.1 _ hw) hd (kk g B p l e s m args below meth c H locs ls C h1 h2 h3 h4)
theorem ok_null  (hd : decode D.2.1 pc = .ok (.aconst_null, 1)) (kk : Ok D q z (pc + 1) L (.null :: st) M post) : Ok D q z pc L (st) M post :=
  fun g B p l e s m args below meth c H locs ls C h1 h2 h3 h4 => lv_null C.1 C.2.1 hd (kk g B p l e s m args below meth c H locs ls C h1 h2 h3 h4)
theorem ok_dup {va : Value} (hd : decode D.2.1 pc = .ok (.dup, 1)) (hc : va.category = 1) (kk : Ok D q z (pc + 1) L (va :: va :: st) M post) : Ok D q z pc L (va :: st) M post :=
  fun g B p l e s m args below meth c H locs ls C h1 h2 h3 h4 => lv_dup C.1 C.2.1 hd ((sh_cat B va).trans hc) (kk g B p l e s m args below meth c H locs ls C h1 h2 h3 h4)
theorem ok_dup2 {va vb : Value} (hd : decode D.2.1 pc = .ok (.dup2, 1)) (hc : va.category = 1) (hc2 : vb.category = 1) (kk : Ok D q z (pc + 1) L (va :: vb :: va :: vb :: st) M post) : Ok D q z pc L (va :: vb :: st) M post :=
  fun g B p l e s m args below meth c H locs ls C h1 h2 h3 h4 => lv_dup2_11 C.1 C.2.1 hd ((sh_cat B va).trans hc) ((sh_cat B vb).trans hc2) (kk g B p l e s m args below meth c H locs ls C h1 h2 h3 h4)
theorem ok_iadd {x y : Int32} (hd : decode D.2.1 pc = .ok (.iadd, 1)) (kk : Ok D q z (pc + 1) L (.int (x + y) :: st) M post) : Ok D q z pc L (.int y :: .int x :: st) M post :=
  fun g B p l e s m args below meth c H locs ls C h1 h2 h3 h4 => lv_iadd C.1 C.2.1 hd (kk g B p l e s m args below meth c H locs ls C h1 h2 h3 h4)
theorem ok_isub {x y : Int32} (hd : decode D.2.1 pc = .ok (.isub, 1)) (kk : Ok D q z (pc + 1) L (.int (x - y) :: st) M post) : Ok D q z pc L (.int y :: .int x :: st) M post :=
  fun g B p l e s m args below meth c H locs ls C h1 h2 h3 h4 => lv_isub C.1 C.2.1 hd (kk g B p l e s m args below meth c H locs ls C h1 h2 h3 h4)
theorem ok_imul {x y : Int32} (hd : decode D.2.1 pc = .ok (.imul, 1)) (kk : Ok D q z (pc + 1) L (.int (x * y) :: st) M post) : Ok D q z pc L (.int y :: .int x :: st) M post :=
  fun g B p l e s m args below meth c H locs ls C h1 h2 h3 h4 => lv_imul C.1 C.2.1 hd (kk g B p l e s m args below meth c H locs ls C h1 h2 h3 h4)
theorem ok_iand {x y : Int32} (hd : decode D.2.1 pc = .ok (.iand, 1)) (kk : Ok D q z (pc + 1) L (.int (x &&& y) :: st) M post) : Ok D q z pc L (.int y :: .int x :: st) M post :=
  fun g B p l e s m args below meth c H locs ls C h1 h2 h3 h4 => lv_iand C.1 C.2.1 hd (kk g B p l e s m args below meth c H locs ls C h1 h2 h3 h4)
theorem ok_ior {x y : Int32} (hd : decode D.2.1 pc = .ok (.ior, 1)) (kk : Ok D q z (pc + 1) L (.int (x ||| y) :: st) M post) : Ok D q z pc L (.int y :: .int x :: st) M post :=
  fun g B p l e s m args below meth c H locs ls C h1 h2 h3 h4 => lv_ior C.1 C.2.1 hd (kk g B p l e s m args below meth c H locs ls C h1 h2 h3 h4)
theorem ok_ishl {x y : Int32} (hd : decode D.2.1 pc = .ok (.ishl, 1)) (kk : Ok D q z (pc + 1) L (.int (x <<< (y &&& 31)) :: st) M post) : Ok D q z pc L (.int y :: .int x :: st) M post :=
  fun g B p l e s m args below meth c H locs ls C h1 h2 h3 h4 => lv_ishl C.1 C.2.1 hd (kk g B p l e s m args below meth c H locs ls C h1 h2 h3 h4)
theorem ok_ishr {x y : Int32} (hd : decode D.2.1 pc = .ok (.ishr, 1)) (kk : Ok D q z (pc + 1) L (.int (x >>> (y &&& 31)) :: st) M post) : Ok D q z pc L (.int y :: .int x :: st) M post :=
  fun g B p l e s m args below meth c H locs ls C h1 h2 h3 h4 => lv_ishr C.1 C.2.1 hd (kk g B p l e s m args below meth c H locs ls C h1 h2 h3 h4)
theorem ok_idiv {x y : Int32} (hd : decode D.2.1 pc = .ok (.idiv, 1)) (hy : ¬ y = 0) (kk : Ok D q z (pc + 1) L (.int (x / y) :: st) M post) : Ok D q z pc L (.int y :: .int x :: st) M post :=
  fun g B p l e s m args below meth c H locs ls C h1 h2 h3 h4 => lv_idiv C.1 C.2.1 hd hy (kk g B p l e s m args below meth c H locs ls C h1 h2 h3 h4)
theorem ok_irem {x y : Int32} (hd : decode D.2.1 pc = .ok (.irem, 1)) (hy : ¬ y = 0) (kk : Ok D q z (pc + 1) L (.int (x - x / y * y) :: st) M post) : Ok D q z pc L (.int y :: .int x :: st) M post :=
  fun g B p l e s m args below meth c H locs ls C h1 h2 h3 h4 => lv_irem C.1 C.2.1 hd hy (kk g B p l e s m args below meth c H locs ls C h1 h2 h3 h4)
theorem ok_ineg {x : Int32} (hd : decode D.2.1 pc = .ok (.ineg, 1)) (kk : Ok D q z (pc + 1) L (.int (-x) :: st) M post) : Ok D q z pc L (.int x :: st) M post :=
  fun g B p l e s m args below meth c H locs ls C h1 h2 h3 h4 => lv_ineg C.1 C.2.1 hd (kk g B p l e s m args below meth c H locs ls C h1 h2 h3 h4)
theorem ok_ladd {x y : Int64} (hd : decode D.2.1 pc = .ok (.ladd, 1)) (kk : Ok D q z (pc + 1) L (.long (x + y) :: st) M post) : Ok D q z pc L (.long y :: .long x :: st) M post :=
  fun g B p l e s m args below meth c H locs ls C h1 h2 h3 h4 => lv_ladd C.1 C.2.1 hd (kk g B p l e s m args below meth c H locs ls C h1 h2 h3 h4)
theorem ok_lmul {x y : Int64} (hd : decode D.2.1 pc = .ok (.lmul, 1)) (kk : Ok D q z (pc + 1) L (.long (x * y) :: st) M post) : Ok D q z pc L (.long y :: .long x :: st) M post :=
  fun g B p l e s m args below meth c H locs ls C h1 h2 h3 h4 => lv_lmul C.1 C.2.1 hd (kk g B p l e s m args below meth c H locs ls C h1 h2 h3 h4)
theorem ok_lrem {x y : Int64} (hd : decode D.2.1 pc = .ok (.lrem, 1)) (hy : ¬ y = 0) (kk : Ok D q z (pc + 1) L (.long (x - x / y * y) :: st) M post) : Ok D q z pc L (.long y :: .long x :: st) M post :=
  fun g B p l e s m args below meth c H locs ls C h1 h2 h3 h4 => lv_lrem C.1 C.2.1 hd hy (kk g B p l e s m args below meth c H locs ls C h1 h2 h3 h4)
theorem ok_i2l {x : Int32} (hd : decode D.2.1 pc = .ok (.i2l, 1)) (kk : Ok D q z (pc + 1) L (.long x.toInt64 :: st) M post) : Ok D q z pc L (.int x :: st) M post :=
  fun g B p l e s m args below meth c H locs ls C h1 h2 h3 h4 => lv_i2l C.1 C.2.1 hd rfl (kk g B p l e s m args below meth c H locs ls C h1 h2 h3 h4)
theorem ok_l2i {x : Int64} (hd : decode D.2.1 pc = .ok (.l2i, 1)) (kk : Ok D q z (pc + 1) L (.int x.toInt32 :: st) M post) : Ok D q z pc L (.long x :: st) M post :=
  fun g B p l e s m args below meth c H locs ls C h1 h2 h3 h4 => lv_l2i C.1 C.2.1 hd rfl (kk g B p l e s m args below meth c H locs ls C h1 h2 h3 h4)
theorem ok_lcmp {x y : Int64} (hd : decode D.2.1 pc = .ok (.lcmp, 1)) (kk : Ok D q z (pc + 1) L (.int (lg_cmp x y) :: st) M post) : Ok D q z pc L (.long y :: .long x :: st) M post :=
  fun g B p l e s m args below meth c H locs ls C h1 h2 h3 h4 => W.lcmp C.1 C.2.1 hd (kk g B p l e s m args below meth c H locs ls C h1 h2 h3 h4)
theorem ok_goto {off : Int} {tgt : Nat} (hd : decode D.2.1 pc = .ok (.goto off, 3)) (ht : (pc : Int) + off = (tgt : Int)) (kk : Ok D q z (tgt) L (st) M post) : Ok D q z pc L (st) M post :=
  fun g B p l e s m args below meth c H locs ls C h1 h2 h3 h4 => lv_goto C.1 C.2.1 hd ht (kk g B p l e s m args below meth c H locs ls C h1 h2 h3 h4)
theorem ok_ifnonnull {x : Nat} {off : Int} {tgt : Nat} (hd : decode D.2.1 pc = .ok (.ifnonnull off, 3)) (ht : (pc : Int) + off = (tgt : Int)) (kk : Ok D q z (tgt) L (st) M post) : Ok D q z pc L (.ref x :: st) M post :=
  fun g B p l e s m args below meth c H locs ls C h1 h2 h3 h4 => lv_ifnonnull C.1 C.2.1 hd ht (kk g B p l e s m args below meth c H locs ls C h1 h2 h3 h4)
theorem ok_ifnonnullN {off : Int} (hd : decode D.2.1 pc = .ok (.ifnonnull off, 3)) (kk : Ok D q z (pc + 3) L (st) M post) : Ok D q z pc L (.null :: st) M post :=
  fun g B p l e s m args below meth c H locs ls C h1 h2 h3 h4 => lv_ifnonnullN C.1 C.2.1 hd (kk g B p l e s m args below meth c H locs ls C h1 h2 h3 h4)
theorem ok_ifnull {x : Nat} {off : Int} (hd : decode D.2.1 pc = .ok (.ifnull off, 3)) (kk : Ok D q z (pc + 3) L (st) M post) : Ok D q z pc L (.ref x :: st) M post :=
  fun g B p l e s m args below meth c H locs ls C h1 h2 h3 h4 => lv_ifnull C.1 C.2.1 hd (kk g B p l e s m args below meth c H locs ls C h1 h2 h3 h4)
theorem ok_icmp_eq {x y : Int32} {off : Int} {tgt : Nat} (hd : decode D.2.1 pc = .ok (.if_icmp .eq off, 3)) (ht : (pc : Int) + off = (tgt : Int)) (kt : x = y → Ok D q z tgt L st M post) (kf : ¬ x = y → Ok D q z (pc + 3) L st M post) : Ok D q z pc L (.int y :: .int x :: st) M post :=
  fun g B p l e s m args below meth c H locs ls C h1 h2 h3 h4 => lv_icmp_eq C.1 C.2.1 hd ht (fun hh => kt hh g B p l e s m args below meth c H locs ls C h1 h2 h3 h4) (fun hh => kf hh g B p l e s m args below meth c H locs ls C h1 h2 h3 h4)
theorem ok_if_eq {x : Int32} {off : Int} {tgt : Nat} (hd : decode D.2.1 pc = .ok (.ifCond .eq off, 3)) (ht : (pc : Int) + off = (tgt : Int)) (kt : x = 0 → Ok D q z tgt L st M post) (kf : ¬ x = 0 → Ok D q z (pc + 3) L st M post) : Ok D q z pc L (.int x :: st) M post :=
  fun g B p l e s m args below meth c H locs ls C h1 h2 h3 h4 => lv_if_eq C.1 C.2.1 hd ht (fun hh => kt hh g B p l e s m args below meth c H locs ls C h1 h2 h3 h4) (fun hh => kf hh g B p l e s m args below meth c H locs ls C h1 h2 h3 h4)
theorem ok_icmp_lt {x y : Int32} {off : Int} {tgt : Nat} (hd : decode D.2.1 pc = .ok (.if_icmp .lt off, 3)) (ht : (pc : Int) + off = (tgt : Int)) (kt : x < y → Ok D q z tgt L st M post) (kf : ¬ x < y → Ok D q z (pc + 3) L st M post) : Ok D q z pc L (.int y :: .int x :: st) M post :=
  fun g B p l e s m args below meth c H locs ls C h1 h2 h3 h4 => lv_icmp_lt C.1 C.2.1 hd ht (fun hh => kt hh g B p l e s m args below meth c H locs ls C h1 h2 h3 h4) (fun hh => kf hh g B p l e s m args below meth c H locs ls C h1 h2 h3 h4)
theorem ok_if_lt {x : Int32} {off : Int} {tgt : Nat} (hd : decode D.2.1 pc = .ok (.ifCond .lt off, 3)) (ht : (pc : Int) + off = (tgt : Int)) (kt : x < 0 → Ok D q z tgt L st M post) (kf : ¬ x < 0 → Ok D q z (pc + 3) L st M post) : Ok D q z pc L (.int x :: st) M post :=
  fun g B p l e s m args below meth c H locs ls C h1 h2 h3 h4 => lv_if_lt C.1 C.2.1 hd ht (fun hh => kt hh g B p l e s m args below meth c H locs ls C h1 h2 h3 h4) (fun hh => kf hh g B p l e s m args below meth c H locs ls C h1 h2 h3 h4)
theorem ok_icmp_ge {x y : Int32} {off : Int} {tgt : Nat} (hd : decode D.2.1 pc = .ok (.if_icmp .ge off, 3)) (ht : (pc : Int) + off = (tgt : Int)) (kt : y ≤ x → Ok D q z tgt L st M post) (kf : ¬ y ≤ x → Ok D q z (pc + 3) L st M post) : Ok D q z pc L (.int y :: .int x :: st) M post :=
  fun g B p l e s m args below meth c H locs ls C h1 h2 h3 h4 => lv_icmp_ge C.1 C.2.1 hd ht (fun hh => kt hh g B p l e s m args below meth c H locs ls C h1 h2 h3 h4) (fun hh => kf hh g B p l e s m args below meth c H locs ls C h1 h2 h3 h4)
theorem ok_if_ge {x : Int32} {off : Int} {tgt : Nat} (hd : decode D.2.1 pc = .ok (.ifCond .ge off, 3)) (ht : (pc : Int) + off = (tgt : Int)) (kt : 0 ≤ x → Ok D q z tgt L st M post) (kf : ¬ 0 ≤ x → Ok D q z (pc + 3) L st M post) : Ok D q z pc L (.int x :: st) M post :=
  fun g B p l e s m args below meth c H locs ls C h1 h2 h3 h4 => lv_if_ge C.1 C.2.1 hd ht (fun hh => kt hh g B p l e s m args below meth c H locs ls C h1 h2 h3 h4) (fun hh => kf hh g B p l e s m args below meth c H locs ls C h1 h2 h3 h4)
theorem ok_icmp_gt {x y : Int32} {off : Int} {tgt : Nat} (hd : decode D.2.1 pc = .ok (.if_icmp .gt off, 3)) (ht : (pc : Int) + off = (tgt : Int)) (kt : y < x → Ok D q z tgt L st M post) (kf : ¬ y < x → Ok D q z (pc + 3) L st M post) : Ok D q z pc L (.int y :: .int x :: st) M post :=
  fun g B p l e s m args below meth c H locs ls C h1 h2 h3 h4 => lv_icmp_gt C.1 C.2.1 hd ht (fun hh => kt hh g B p l e s m args below meth c H locs ls C h1 h2 h3 h4) (fun hh => kf hh g B p l e s m args below meth c H locs ls C h1 h2 h3 h4)
theorem ok_if_gt {x : Int32} {off : Int} {tgt : Nat} (hd : decode D.2.1 pc = .ok (.ifCond .gt off, 3)) (ht : (pc : Int) + off = (tgt : Int)) (kt : 0 < x → Ok D q z tgt L st M post) (kf : ¬ 0 < x → Ok D q z (pc + 3) L st M post) : Ok D q z pc L (.int x :: st) M post :=
  fun g B p l e s m args below meth c H locs ls C h1 h2 h3 h4 => lv_if_gt C.1 C.2.1 hd ht (fun hh => kt hh g B p l e s m args below meth c H locs ls C h1 h2 h3 h4) (fun hh => kf hh g B p l e s m args below meth c H locs ls C h1 h2 h3 h4)
theorem ok_icmp_le {x y : Int32} {off : Int} {tgt : Nat} (hd : decode D.2.1 pc = .ok (.if_icmp .le off, 3)) (ht : (pc : Int) + off = (tgt : Int)) (kt : x ≤ y → Ok D q z tgt L st M post) (kf : ¬ x ≤ y → Ok D q z (pc + 3) L st M post) : Ok D q z pc L (.int y :: .int x :: st) M post :=
  fun g B p l e s m args below meth c H locs ls C h1 h2 h3 h4 => lv_icmp_le C.1 C.2.1 hd ht (fun hh => kt hh g B p l e s m args below meth c H locs ls C h1 h2 h3 h4) (fun hh => kf hh g B p l e s m args below meth c H locs ls C h1 h2 h3 h4)
theorem ok_if_le {x : Int32} {off : Int} {tgt : Nat} (hd : decode D.2.1 pc = .ok (.ifCond .le off, 3)) (ht : (pc : Int) + off = (tgt : Int)) (kt : x ≤ 0 → Ok D q z tgt L st M post) (kf : ¬ x ≤ 0 → Ok D q z (pc + 3) L st M post) : Ok D q z pc L (.int x :: st) M post :=
  fun g B p l e s m args below meth c H locs ls C h1 h2 h3 h4 => lv_if_le C.1 C.2.1 hd ht (fun hh => kt hh g B p l e s m args below meth c H locs ls C h1 h2 h3 h4) (fun hh => kf hh g B p l e s m args below meth c H locs ls C h1 h2 h3 h4)
theorem ok_icmp_ne {x y : Int32} {off : Int} {tgt : Nat} (hd : decode D.2.1 pc = .ok (.if_icmp .ne off, 3)) (ht : (pc : Int) + off = (tgt : Int)) (kt : ¬ x = y → Ok D q z tgt L st M post) (kf : x = y → Ok D q z (pc + 3) L st M post) : Ok D q z pc L (.int y :: .int x :: st) M post :=
  fun g B p l e s m args below meth c H locs ls C h1 h2 h3 h4 => lv_icmp_ne C.1 C.2.1 hd ht (fun hh => kt hh g B p l e s m args below meth c H locs ls C h1 h2 h3 h4) (fun hh => kf hh g B p l e s m args below meth c H locs ls C h1 h2 h3 h4)
theorem ok_if_ne {x : Int32} {off : Int} {tgt : Nat} (hd : decode D.2.1 pc = .ok (.ifCond .ne off, 3)) (ht : (pc : Int) + off = (tgt : Int)) (kt : ¬ x = 0 → Ok D q z tgt L st M post) (kf : x = 0 → Ok D q z (pc + 3) L st M post) : Ok D q z pc L (.int x :: st) M post :=
  fun g B p l e s m args below meth c H locs ls C h1 h2 h3 h4 => lv_if_ne C.1 C.2.1 hd ht (fun hh => kt hh g B p l e s m args below meth c H locs ls C h1 h2 h3 h4) (fun hh => kf hh g B p l e s m args below meth c H locs ls C h1 h2 h3 h4)
theorem ok_tableIn {dflt lo hi : Int} {offs : Array Int} {len : Nat} {x : Int32} {off : Int} {tgt : Nat} (hd : decode D.2.1 pc = .ok (.tableswitch dflt lo hi offs, len)) (hb1 : ¬ x.toInt < lo) (hb2 : ¬ hi < x.toInt) (ho : offs[(x.toInt - lo).toNat]? = some off) (ht : (pc : Int) + off = (tgt : Int)) (kk : Ok D q z tgt L st M post) : Ok D q z pc L (.int x :: st) M post :=
  fun g B p l e s m args below meth c H locs ls C h1 h2 h3 h4 => lv_tableIn C.1 C.2.1 hd hb1 hb2 ho ht (kk g B p l e s m args below meth c H locs ls C h1 h2 h3 h4)
theorem ok_tableOut {dflt lo hi : Int} {offs : Array Int} {len : Nat} {x : Int32} {tgt : Nat} (hd : decode D.2.1 pc = .ok (.tableswitch dflt lo hi offs, len)) (hx : x.toInt < lo ∨ hi < x.toInt) (ht : (pc : Int) + dflt = (tgt : Int)) (kk : Ok D q z tgt L st M post) : Ok D q z pc L (.int x :: st) M post :=
  fun g B p l e s m args below meth c H locs ls C h1 h2 h3 h4 => lv_tableOut C.1 C.2.1 hd hx ht (kk g B p l e s m args below meth c H locs ls C h1 h2 h3 h4)
theorem ok_lookup {dflt : Int} {ps : Array (Int × Int)} {len : Nat} {x : Int32} {off : Int} {tgt : Nat} (hd : decode D.2.1 pc = .ok (.lookupswitch dflt ps, len)) (hp : (ps.toList.zip (ps.toList.drop 1)).all (fun (a, next) => a.1 < next.1) = true) (ho : Op.lookupswitch.offset ps.toList dflt x.toInt = off) (ht : (pc : Int) + off = (tgt : Int)) (kk : Ok D q z tgt L st M post) : Ok D q z pc L (.int x :: st) M post :=
  fun g B p l e s m args below meth c H locs ls C h1 h2 h3 h4 => lv_lookup C.1 C.2.1 hd hp ho ht (kk g B p l e s m args below meth c H locs ls C h1 h2 h3 h4)
theorem ok_istore_n {k : Fin 4} {x : Int32} {L' : List (Nat × Value)} (hd : decode D.2.1 pc = .ok (.istore_n k, 1)) (hn : k.val < D.2.2.1) (hL : (k.val, Value.int x) :: L.filter (fun q => !(q.1 == k.val) && !(q.1 + 1 == k.val && q.2.category == 2)) = L') (kk : Ok D q z (pc + 1) L' st M post) : Ok D q z pc L (.int x :: st) M post :=
  fun g B p l e s m args below meth c H locs ls C h1 h2 h3 h4 => lv_istore_n C.1 C.2.1 hd rfl h4 hn (ls_put hL) (fun ls' hl' => kk g B p l e s m args below meth c H locs ls' C h1 h2 h3 hl')
theorem ok_istore {i : Nat} {x : Int32} {L' : List (Nat × Value)} (hd : decode D.2.1 pc = .ok (.istore i, 2)) (hn : i < D.2.2.1) (hL : (i, Value.int x) :: L.filter (fun q => !(q.1 == i) && !(q.1 + 1 == i && q.2.category == 2)) = L') (kk : Ok D q z (pc + 2) L' st M post) : Ok D q z pc L (.int x :: st) M post :=
  fun g B p l e s m args below meth c H locs ls C h1 h2 h3 h4 => lv_istore C.1 C.2.1 hd h4 hn (ls_put hL) (fun ls' hl' => kk g B p l e s m args below meth c H locs ls' C h1 h2 h3 hl')
theorem ok_astore_n {k : Fin 4} {x : Nat} {L' : List (Nat × Value)} (hd : decode D.2.1 pc = .ok (.astore_n k, 1)) (hn : k.val < D.2.2.1) (hL : (k.val, Value.ref x) :: L.filter (fun q => !(q.1 == k.val) && !(q.1 + 1 == k.val && q.2.category == 2)) = L') (kk : Ok D q z (pc + 1) L' st M post) : Ok D q z pc L (.ref x :: st) M post :=
  fun g B p l e s m args below meth c H locs ls C h1 h2 h3 h4 => lv_astore_n C.1 C.2.1 hd rfl h4 hn (ls_put hL) (fun ls' hl' => kk g B p l e s m args below meth c H locs ls' C h1 h2 h3 hl')
theorem ok_iinc {i : Nat} {n : Int} {x v : Int32} {L' : List (Nat × Value)} (hd : decode D.2.1 pc = .ok (.iinc i n, 3)) (j : Nat) (hj : L[j]? = some (i, .int x)) (hv : x + Int32.ofInt n = v) (hn : i < D.2.2.1) (hL : (i, Value.int v) :: L.filter (fun q => !(q.1 == i) && !(q.1 + 1 == i && q.2.category == 2)) = L') (kk : Ok D q z (pc + 3) L' st M post) : Ok D q z pc L st M post :=
  fun g B p l e s m args below meth c H locs ls C h1 h2 h3 h4 => lv_iinc C.1 C.2.1 hd h4 (k := j) (by rw [List.getElem?_map, hj]; rfl) hv hn (ls_put hL) (fun ls' hl' => kk g B p l e s m args below meth c H locs ls' C h1 h2 h3 hl')
theorem Stc.now {D : Md} {g : Gd} {B : Nat} {p : Program} {s : State} {m : MethodId} {args : Array Value} {meth : Method} {c : Code} (C : Cx D g B p s m args meth c) {H : Heap} {locs : List Loc} (hS : va_S (fun q => B ≤ q) s.heap H locs) {U : State} (hU : U.heap = H) (hW : s.WarmedH U.vm) : Stc g B U U.heap := by
  refine C.2.2.2.2.2.2.2.2.2.1.moved hW (fun a h1 h2 => ?_)
  rw [hU]
  exact hS.2.1 a h1 h2
theorem ok_ret {D : Md} {z : Nat × Nat} {pc : Nat} {L : List (Nat × Value)} {M : Mem} {post : Option Value → Mem → Prop} {v : Int32} {ty : FieldType} (hM : 0 < M.1) (hd : decode D.2.1 pc = .ok (.ireturn, 1)) (hr : D.2.2.2.1 = some ty) (hn : narrow ty (.int v) = .int v) (h : post (some (.int v)) M) : Ok D z z pc L [.int v] M post :=
  fun g B p l e s m args below meth c H locs ls C h1 h2 h3 h4 => W_sz h1 h2 hM fun h1 => W.zret C.1 C.2.1 (C.2.2.1.trans hr) hn (fun t ht hW => ⟨⟨some (.int v), M, rfl, h, by rw [ht]; exact h1, by rw [ht]; exact h2⟩, h3.F ht⟩) h3.2.2 hd C.2.2.2.2.2.2.1
theorem ok_retv {D : Md} {z : Nat × Nat} {pc : Nat} {L : List (Nat × Value)} {M : Mem} {post : Option Value → Mem → Prop} (hM : 0 < M.1) (hd : decode D.2.1 pc = .ok (.return_, 1)) (hr : D.2.2.2.1 = none) (h : post none M) : Ok D z z pc L [] M post :=
  fun g B p l e s m args below meth c H locs ls C h1 h2 h3 h4 => W_sz h1 h2 hM fun h1 => W.vret C.1 C.2.1 (C.2.2.1.trans hr) (fun t ht hW => ⟨⟨none, M, rfl, h, by rw [ht]; exact h1, by rw [ht]; exact h2⟩, h3.F ht⟩) h3.2.2 hd C.2.2.2.2.2.2.1
theorem ok_reta {D : Md} {z : Nat × Nat} {pc : Nat} {L : List (Nat × Value)} {M : Mem} {post : Option Value → Mem → Prop} {v : Value} {n : String} (hM : 0 < M.1) (hd : decode D.2.1 pc = .ok (.areturn, 1)) (hr : D.2.2.2.1 = some (.object n)) (hv : v = .null ∨ ∃ a, v = .ref a) (h : post (some v) M) : Ok D z z pc L [v] M post :=
  fun g B p l e s m args below meth c H locs ls C h1 h2 h3 h4 => W_sz h1 h2 hM fun h1 => W.aret (v := sh B v) C.1 C.2.1 (C.2.2.1.trans hr) (Or.inl ⟨n, rfl⟩) (by rcases hv with rfl | ⟨a, rfl⟩; exact Or.inl rfl; exact Or.inr ⟨_, rfl⟩) (fun t ht hW => ⟨⟨some v, M, rfl, h, by rw [ht]; exact h1, by rw [ht]; exact h2⟩, h3.F ht⟩) h3.2.2 hd C.2.2.2.2.2.2.1
/-- a class, as the tables have it -/
def Cl (ci : Nat) (C : String) (T : u_T) (N : Nat) : Prop := cls[ci]? = some (C, T, N) ∧ ci < 12 ∧ (∀ w ∈ u_ws C T N, w ∈ lw_good) ∧ (∀ k, k < N → parseFieldDescriptor (T k).2.2.1 = some (tyOf ci k)) ∧ (∀ a, a < N → ∀ b, b < N → a ≠ b → (T a).2.1 ≠ (T b).2.1)
/-- a field that class own's entry idx names: class ci's slot j; f: it is final -/
def Fl (own : String) (idx ci j : Nat) (f : Bool) : Prop := ∃ (C : String) (T : u_T) (N : Nat), Cl ci C T N ∧ j < N ∧ Cond.fieldLink own idx (T j).1 (T j).2.1 (T j).2.2.1 ∈ lw_good ∧ (T j).2.2.2 = f ∧ (T j).1 = C
theorem slV_I {B : Nat} {M : Mem} {ci o j N : Nat} (hj : j < N) (hr : refS ci j = false) : ((List.range N).map (slV B M ci o))[j]? = some (.int (M.2.2.1 o j)) := by
  rw [List.getElem?_map, List.getElem?_range hj]
  simp [slV, hr]
theorem slV_R {B : Nat} {M : Mem} {ci o j N : Nat} (hj : j < N) (hr : refS ci j = true) : ((List.range N).map (slV B M ci o))[j]? = some (va_rf (rB B (M.2.2.2 o j))) := by
  rw [List.getElem?_map, List.getElem?_range hj]
  simp [slV, hr]
theorem ok_getI {o idx ci j N : Nat} {f : Bool} (hd : decode D.2.1 pc = .ok (.getfield idx, 3)) (hf : Fl D.2.2.2.2.2 idx ci j f) (ho : o < M.1) (hk : M.2.1 o = (ci, N)) (hj : j < N) (hr : refS ci j = false) (kk : Ok D q z (pc + 3) L (.int (M.2.2.1 o j) :: st) M post) : Ok D q z pc L (.ref o :: st) M post := by
  intro g B p l e s m args below meth c H locs ls C h1 h2 h3 h4
  obtain ⟨Cn, T, Nc, ⟨hc, hc2, hin, -, -⟩, hjn, hlk, -, -⟩ := hf
  exact va_get (D := g.1) (cl := cls) C.1 C.2.1 C.2.2.2.2.2.1 hin C.2.2.2.2.1 C.2.2.2.2.2.2.2.2.1 h2 o ((wsOf_get ho).trans (by rw [cellE_o hk hc2])) hc j hjn (C.2.2.2.2.2.1 _ hlk) (fun _ h9 => h9) (slV_I hj hr) hd (kk g B p l e s m args below meth c H locs ls C h1 h2 h3 h4)
theorem ok_getR {o idx ci j N t : Nat} {f : Bool} (hd : decode D.2.1 pc = .ok (.getfield idx, 3)) (hf : Fl D.2.2.2.2.2 idx ci j f) (ho : o < M.1) (hk : M.2.1 o = (ci, N)) (hj : j < N) (hr : refS ci j = true) (ht : M.2.2.2 o j = some t) (kk : Ok D q z (pc + 3) L (.ref t :: st) M post) : Ok D q z pc L (.ref o :: st) M post := by
  intro g B p l e s m args below meth c H locs ls C h1 h2 h3 h4
  obtain ⟨Cn, T, Nc, ⟨hc, hc2, hin, -, -⟩, hjn, hlk, -, -⟩ := hf
  exact va_get (D := g.1) (cl := cls) C.1 C.2.1 C.2.2.2.2.2.1 hin C.2.2.2.2.1 C.2.2.2.2.2.2.2.2.1 h2 o ((wsOf_get ho).trans (by rw [cellE_o hk hc2])) hc j hjn (C.2.2.2.2.2.1 _ hlk) (fun _ h9 => h9) ((slV_R hj hr).trans (by rw [ht]; rfl)) hd (kk g B p l e s m args below meth c H locs ls C h1 h2 h3 h4)
theorem ok_putI {o idx ci j N : Nat} {v : Int32} (hd : decode D.2.1 pc = .ok (.putfield idx, 3)) (hf : Fl D.2.2.2.2.2 idx ci j false) (ho : o < M.1) (hk : M.2.1 o = (ci, N)) (hj : j < N) (hr : refS ci j = false) (hn : narrow (tyOf ci j) (.int v) = .int v) (hft : fits (tyOf ci j) (.int v) = true) (kk : Ok D q z (pc + 3) L st (mI M o j v) post) : Ok D q z pc L (.int v :: .ref o :: st) M post := by
  intro g B p l e s m args below meth c H locs ls C h1 h2 h3 h4
  obtain ⟨Cn, T, Nc, ⟨hc, hc2, hin, hty, hnm⟩, hjn, hlk, hfin, -⟩ := hf
  refine va_put (D := g.1) (cl := cls) (ty := tyOf ci j) (v := .int v) C.1 C.2.1 C.2.2.2.2.2.1 hin (tyOf ci) hty hnm C.2.2.2.2.1 C.2.2.2.2.2.2.2.2.1 h2 (wsOf_D g B M) h3 o ((wsOf_get ho).trans (by rw [cellE_o hk hc2])) hc j hjn (C.2.2.2.2.2.1 _ hlk) (fun _ h9 => h9) hfin (hty j hjn) hn hft (by simpa using hj) hd (fun H1 locs1 hP hD hS => ?_)
  rw [ws_putI hk hc2 hr] at hP
  exact kk g B p l e s m args below meth c H1 locs1 ls C h1 hP hS h4
/-- a final field that holds a reference, in its constructor -/
theorem ok_putF {o idx ci j N t : Nat} (hd : decode D.2.1 pc = .ok (.putfield idx, 3)) (hf : Fl D.2.2.2.2.2 idx ci j true) (hown : D.1.name = "<init>" ∧ (cls[ci]?.map (fun c => c.1)) = some D.2.2.2.2.2) (ho : o < M.1) (hk : M.2.1 o = (ci, N)) (hj : j < N) (hr : refS ci j = true) (hn : narrow (tyOf ci j) (.ref 0) = .ref 0) (hft : ∀ t, narrow (tyOf ci j) (.ref t) = .ref t ∧ fits (tyOf ci j) (.ref t) = true) (kk : Ok D q z (pc + 3) L st (mR M o j (some t)) post) : Ok D q z pc L (.ref t :: .ref o :: st) M post := by
  intro g B p l e s m args below meth c H locs ls C h1 h2 h3 h4
  obtain ⟨Cn, T, Nc, ⟨hc, hc2, hin, hty, hnm⟩, hjn, hlk, hfin, hC⟩ := hf
  have hCn : Cn = D.2.2.2.2.2 := by
    have h9 := hown.2
    rw [hc] at h9
    exact Option.some.inj h9
  refine va_putF (D := g.1) (cl := cls) (ty := tyOf ci j) (v := .ref (B + t)) C.1 C.2.1 C.2.2.2.2.2.1 hin (tyOf ci) hty hnm C.2.2.2.2.1 C.2.2.2.2.2.2.2.2.1 h2 (wsOf_D g B M) h3 o ((wsOf_get ho).trans (by rw [cellE_o hk hc2])) hc j hjn (C.2.2.2.2.2.1 _ hlk) (fun _ h9 => h9) hfin (C.2.2.2.2.2.2.2.1 hown.1) (hC.trans hCn) (hty j hjn) (hft _).1 (hft _).2 (by simpa using hj) hd (fun H1 locs1 hP hD hS => ?_)
  have hP : va_P g.1 cls ((wsOf g B M).set o (B + o, .inr (ci, ((List.range N).map (slV B M ci o)).set j (va_rf (rB B (some t)))))) H1 := hP
  rw [ws_putR hk hc2 hr] at hP
  exact kk g B p l e s m args below meth c H1 locs1 ls C h1 hP hS h4
theorem ok_iaload {o n : Nat} {i : Int32} (hd : decode D.2.1 pc = .ok (.iaload, 1)) (ho : o < M.1) (hk : M.2.1 o = (12, n)) (hi : vp_in i n) (kk : Ok D q z (pc + 1) L (.int (M.2.2.1 o i.toNatClampNeg) :: st) M post) : Ok D q z pc L (.int i :: .ref o :: st) M post :=
  fun g B p l e s m args below meth c H locs ls C h1 h2 h3 h4 => va_iald C.1 C.2.1 C.2.2.2.2.2.2.2.2.1 h2 o 0 ((wsOf_get ho).trans (by rw [cellE_i hk])) rfl hi hd (kk g B p l e s m args below meth c H locs ls C h1 h2 h3 h4)
theorem ok_iastore {o n : Nat} {i x : Int32} (hd : decode D.2.1 pc = .ok (.iastore, 1)) (ho : o < M.1) (hk : M.2.1 o = (12, n)) (hi : vp_in i n) (kk : Ok D q z (pc + 1) L st (mI M o i.toNatClampNeg x) post) : Ok D q z pc L (.int x :: .int i :: .ref o :: st) M post :=
  fun g B p l e s m args below meth c H locs ls C h1 h2 h3 h4 => va_iast C.1 C.2.1 C.2.2.2.2.2.2.2.2.1 h2 (wsOf_D g B M) h3 o 0 ((wsOf_get ho).trans (by rw [cellE_i hk])) rfl hi hd (fun H1 locs1 hP hD hS => by
    rw [ws_ast hk] at hP
    exact kk g B p l e s m args below meth c H1 locs1 ls C h1 hP hS h4)
theorem ok_aaload {o n t y : Nat} {i : Int32} (hd : decode D.2.1 pc = .ok (.aaload, 1)) (ho : o < M.1) (hk : M.2.1 o = (t, n)) (ht : t = 13 ∨ t = 14) (hi : vp_in i n) (hy : M.2.2.2 o i.toNatClampNeg = some y) (kk : Ok D q z (pc + 1) L (.ref y :: st) M post) : Ok D q z pc L (.int i :: .ref o :: st) M post := by
  intro g B p l e s m args below meth c H locs ls C h1 h2 h3 h4
  have e9 : va_rf (rB B (M.2.2.2 o i.toNatClampNeg)) = sh B (.ref y) := by rw [hy]; rfl
  rcases ht with rfl | rfl
  · refine va_aldq C.1 C.2.1 C.2.2.2.2.2.2.2.2.1 h2 o 1 ((wsOf_get ho).trans (by rw [cellE_q hk (by decide)])) rfl hi hd ?_
    rw [e9]
    exact kk g B p l e s m args below meth c H locs ls C h1 h2 h3 h4
  · refine va_aldq C.1 C.2.1 C.2.2.2.2.2.2.2.2.1 h2 o 2 ((wsOf_get ho).trans (by rw [cellE_q hk (by decide)])) rfl hi hd ?_
    rw [e9]
    exact kk g B p l e s m args below meth c H locs ls C h1 h2 h3 h4
theorem ok_aaload2 {o n y : Nat} {i : Int32} (hd : decode D.2.1 pc = .ok (.aaload, 1)) (ho : o < M.1) (hk : M.2.1 o = (15, n)) (hi : vp_in i n) (hy : M.2.2.2 o i.toNatClampNeg = some y) (kk : Ok D q z (pc + 1) L (.ref y :: st) M post) : Ok D q z pc L (.int i :: .ref o :: st) M post := by
  intro g B p l e s m args below meth c H locs ls C h1 h2 h3 h4
  have e9 : va_rf (rB B (M.2.2.2 o i.toNatClampNeg)) = sh B (.ref y) := by rw [hy]; rfl
  have hlt : i.toNatClampNeg < n := Nat.not_le.mp fun q => hi (Or.inr q)
  have hc9 : H[B + o]? = some (vp_cell (g.2.1 15) (n, .inr (.inr (.inr (.inr (fun j => rB B (M.2.2.2 o j))))))) := h2 o (B + o, .inl (g.2.1 15, n, .inr (.inr (.inr (.inr (fun j => rB B (M.2.2.2 o j))))))) ((wsOf_get ho).trans (by rw [cellE_q hk (by decide)]))
  refine W.aald (v := va_rf (rB B (M.2.2.2 o i.toNatClampNeg))) (ty := .array .int) C.1 C.2.1 hc9 ((C.2.2.2.2.2.2.2.2.1.2 3 (g.2.1 15, .array .int) rfl).1 n (fun j => va_rf (rB B (M.2.2.2 o j)))) rfl (fun q => by cases q) (by show ¬ (i < 0 ∨ (arrV _ _ _).slots.size ≤ _); rw [arrV_size]; exact hi) (by show (arrV _ _ _).slots[_]? = _; rw [arrV_read _ _ hlt]) rfl rfl hd ?_
  show W p l e _ s m args below meth c H locs q.1 q.2 _ (F0 m (pc + 1) ls (va_rf (rB B (M.2.2.2 o i.toNatClampNeg)) :: st.map (sh B)))
  rw [e9]
  exact kk g B p l e s m args below meth c H locs ls C h1 h2 h3 h4
theorem ok_aastore {o n t ci N y : Nat} {r : vw_C} {i : Int32} (hd : decode D.2.1 pc = .ok (.aastore, 1)) (ho : o < M.1) (hk : M.2.1 o = (t, n)) (hr : (t = 13 ∧ r = (RX4, TX4, 3)) ∨ (t = 14 ∧ r = (RX6, TX6, 5))) (hi : vp_in i n) (hy : y < M.1) (hky : M.2.1 y = (ci, N)) (hc : cls[ci]? = some r) (hc2 : ci < 12) (kk : Ok D q z (pc + 1) L st (mR M o i.toNatClampNeg (some y)) post) : Ok D q z pc L (.ref y :: .int i :: .ref o :: st) M post := by
  intro g B p l e s m args below meth c H locs ls C h1 h2 h3 h4
  have ht : 12 < t := by rcases hr with ⟨rfl, -⟩ | ⟨rfl, -⟩ <;> decide
  obtain ⟨t0, ht0⟩ : ∃ t0, (tysOf g)[t0]? = some (g.2.1 t, FieldType.object r.1) := by
    rcases hr with ⟨rfl, rfl⟩ | ⟨rfl, rfl⟩
    · exact ⟨1, rfl⟩
    · exact ⟨2, rfl⟩
  refine va_astq (D := g.1) (cl := cls) (r := r) C.1 C.2.1 C.2.2.2.2.2.2.2.2.1 h2 (wsOf_D g B M) h3 o t0 y ci ((wsOf_get ho).trans (by rw [cellE_q hk ht])) ht0 ((wsOf_get hy).trans (by rw [cellE_o hky hc2])) hc hi hd (fun H1 locs1 hP hD hS => ?_)
  have hP : va_P g.1 cls ((wsOf g B M).set o (B + o, .inl (g.2.1 t, n, .inr (.inr (.inr (.inr (va_up (fun j => rB B (M.2.2.2 o j)) i.toNatClampNeg (rB B (some y))))))))) H1 := hP
  rw [ws_astR hk ht] at hP
  exact kk g B p l e s m args below meth c H1 locs1 ls C h1 hP hS h4
end OK1
