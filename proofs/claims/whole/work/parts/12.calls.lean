/-! ===== calls ===== -/
theorem Hold.blind {g : Gd} {B : Nat} {M : Mem} {as : List Value} : FrameBlind (va_Pc as (Hold g B M)) := by
  intro a U gg mk hh
  obtain ⟨q0, qK, qS, qz, qP⟩ := hh
  refine ⟨q0, va_K.moved (u := U) (U := U.calling gg mk a) (Vm.Alike.refl U.vm) qK, ?_, qz, qP⟩
  obtain ⟨h1, h2, h3, h4, h5, h6, h7, h8, h9, h10⟩ := qS
  have hv : U.vm.Alike (U.calling gg mk a).vm := Vm.Alike.refl U.vm
  refine ⟨fun w hw hn => ?_, h2.moved hv, h3.moved hv, over_moved hv h4, h5.moved hv, h6.moved hv, h7.moved hv, h8.moved hv, h9.moved hv, h10.moved hv⟩
  have := h1 w hw hn
  cases w <;> first | exact va_Nw.same (u := U) rfl rfl this | (simp [isNest] at hn)
theorem ok_after {g : Gd} {B : Nat} {M : Mem} {post2 : Option Value → Mem → Prop} {p : Program} {l : Launch} {e : Env} {R : Room} {s : State} {m : MethodId} {args : Array Value} {below : List Frame} {meth : Method} {c : Code} {H : Heap} {locs : List Loc} {c1 c2 mc ms : Nat} {Q : State → Prop} {pc : Nat} {ls : Array Slot} {st0 rest : List Value} {a : Array Value}
    (hr : va_Run p l e R s m args below meth c H locs c1 c2 mc ms (F0 m pc ls st0) rest (Qx g B post2 a) (fun x => B ≤ x)) (hz : H.size = B + M.1) (hS : va_S (fun x => B ≤ x) s.heap H locs)
    (kk : ∀ (r : Option Value) (M' : Mem) (H1 : Heap) (locs1 : List Loc), post2 r M' → H1.size = B + M'.1 → va_P g.1 cls (wsOf g B M') H1 → va_S (fun x => B ≤ x) s.heap H1 locs1 → W p l e R s m args below meth c H1 locs1 (c1 + mc) (c2 + ms) Q (F0 m (pc + 3) ls ((r.map (sh B)).toList ++ rest))) : W p l e R s m args below meth c H locs c1 c2 Q (F0 m pc ls st0) := by
  intro T hT X
  obtain ⟨v, st₀, t, T', L, h0, X', hL, e1, e2, ⟨⟨r, M', hv, hp, hz1, hP1⟩, hF1, hF2⟩, st⟩ := hr T hT X
  cases hv
  rw [h0] at hF1 hF2
  obtain ⟨t2, a1, b1⟩ := kk r M' T'.heap (locs ++ L) hp (by rw [e1]; exact hz1) (by rw [e1]; exact hP1)
    ⟨Nat.le_trans hS.1 (by rw [e1]; exact hF1), fun x h1 h2 => by rw [e1, hF2 x (Nat.lt_of_lt_of_le h1 hS.1) h2]; exact hS.2.1 x h1 h2, fun x hx => by
      rcases List.mem_append.mp hx with h | h
      · exact hS.2.2 x h
      · exact hL x h⟩ T' rfl X'
  exact ⟨t2, st t2 a1, b1⟩
/-- a method that can be called: its code stands in the tables, its class is set up, its descriptor has n parameters -/
def Cd (D2 : Md) (n : Nat) : Prop := Cond.code D2.1 D2.2.1 D2.2.2.1 D2.2.2.2.1 ∈ lw_good ∧ Cond.initialized D2.1.cls ∈ lw_good ∧ (D2.1.cls ≠ "java/lang/invoke/MethodHandle" ∧ D2.1.cls ≠ "java/lang/invoke/VarHandle" ∧ (parseMethodDescriptor D2.1.desc).map (fun d => d.parameters.length) = some n)
/-- the room of a call -/
def Rm (D D2 : Md) : Prop := D2.2.2.2.2.1.frames + 1 ≤ D.2.2.2.2.1.frames ∧ 8 + (D2.2.2.1 + 11) + D2.2.2.2.2.1.locals ≤ D.2.2.2.2.1.locals
theorem Cd.goodIn {D2 : Md} {n : Nat} (h : Cd D2 n) : GoodIn lw_good (wsD D2) := fun w hw => by
  rcases List.mem_cons.mp hw with rfl | h1
  · exact lw_goodIn _ h.1
  · exact lw_goodIn _ h1
theorem Cd.callB {D D2 : Md} {n idx : Nat} {s : State} {args : Array Value} (h : Cd D2 n) (hts : ∀ w ∈ lw_good, w.before args s = true) (hl : Cond.methodLink D.2.2.2.2.2 idx D2.1 ∈ lw_good) (hR : Rm D D2) : CallB D.2.2.2.2.1 s args D.2.2.2.2.2 idx D2.1 D2.2.1 D2.2.2.1 D2.2.2.2.1 (wsD D2) D2.2.2.2.2.1 D2.2.2.2.2.1.cells D2.2.2.2.2.1.slots n :=
  callB_of (Ts := lw_good) n hts h.goodIn rfl rfl rfl (hts _ h.2.1) (hts _ hl) h.2.2 hR
/-- invokevirtual: class own's entry idx names D2's method, of n parameters, in class ci -/
def CV (own : String) (D2 : Md) (idx ci n : Nat) : Prop := Cd D2 n ∧ Cond.methodLink own idx D2.1 ∈ lw_good ∧ Cond.instanceMethod D2.1 ∈ lw_good ∧ Cond.selects D2.1.cls D2.1 D2.1 ∈ lw_good ∧ ∃ C T N, Cl ci C T N ∧ C = D2.1.cls
def CS (own : String) (D2 : Md) (idx n : Nat) : Prop := Cd D2 n ∧ Cond.methodLink own idx D2.1 ∈ lw_good ∧ Cond.static D2.1 ∈ lw_good
def CI (own : String) (D2 : Md) (idx n : Nat) : Prop := Cd D2 n ∧ Cond.methodLink own idx D2.1 ∈ lw_good ∧ Cond.instanceMethod D2.1 ∈ lw_good ∧ D2.1.name = "<init>" ∧ D2.2.2.2.1 = none
def CSN (own : String) (D2 : Md) (idx n : Nat) (host : String) : Prop := Cd D2 n ∧ Cond.methodLinkNest own idx D2.1 host ∈ lw_tbl ∧ Cond.static D2.1 ∈ lw_good
def CIN (own : String) (D2 : Md) (idx n : Nat) (host : String) : Prop := Cd D2 n ∧ Cond.methodLinkNest own idx D2.1 host ∈ lw_tbl ∧ Cond.instanceMethod D2.1 ∈ lw_good ∧ D2.1.name = "<init>" ∧ D2.2.2.2.1 = none
section OK2
variable {D D2 : Md} {q z : Nat × Nat} {pc : Nat} {L : List (Nat × Value)} {st : List Value} {M : Mem} {post post2 : Option Value → Mem → Prop}
theorem map_rev (B : Nat) (as : List Value) (x : Value) (st : List Value) : (as.reverse ++ x :: st).map (sh B) = (as.map (sh B)).reverse ++ sh B x :: st.map (sh B) := by simp
theorem map_rev0 (B : Nat) (as : List Value) (st : List Value) : (as.reverse ++ st).map (sh B) = (as.map (sh B)).reverse ++ st.map (sh B) := by simp
theorem cat_sum (B : Nat) (st : List Value) : ((st.map (sh B)).map fun v => v.category).sum = (st.map fun v => v.category).sum := by
  rw [List.map_map]
  congr 1
  exact List.map_congr_left fun v _ => sh_cat B v
theorem hold_at {g : Gd} {B : Nat} {p : Program} {s : State} {m : MethodId} {args : Array Value} {meth : Method} {c : Code} {H : Heap} {locs : List Loc} (C : Cx D g B p s m args meth c) (hz : H.size = B + M.1) (hP : va_P g.1 cls (wsOf g B M) H) (hS : va_S (fun x => B ≤ x) s.heap H locs) {as : List Value} : ∀ U : State, U.heap = H → s.WarmedH U.vm → va_Pc (as.map (sh B)) (Hold g B M) (as.map (sh B)).toArray U := fun U hU hW =>
  ⟨rfl, va_K.moved hW.alike C.2.2.2.2.2.2.2.2.1, Stc.now C hS hU hW, by rw [hU]; exact hz, by rw [hU]; exact hP⟩
theorem ok_callV {idx ci n N o : Nat} {as : List Value} (hd : decode D.2.1 pc = .ok (.invokevirtual idx, 3)) (hC : CV D.2.2.2.2.2 D2 idx ci n) (hn : as.length = n) (ho : o < M.1) (hk : M.2.1 o = (ci, N)) (hst : (st.map fun v => v.category).sum ≤ 8) (hR : Rm D D2) (hr : q.1 + D2.2.2.2.2.1.cells ≤ D.2.2.2.2.1.cells ∧ q.2 + D2.2.2.2.2.1.slots ≤ D.2.2.2.2.1.slots)
    (hc : Rn D2 (D2.2.2.2.2.1.cells, D2.2.2.2.2.1.slots) (.ref o :: as) M post2) (hcz : ∀ r M', post2 r M' → M'.1 = M.1 + D2.2.2.2.2.1.cells) (kk : ∀ r M', post2 r M' → Ok D (q.1 + D2.2.2.2.2.1.cells, q.2 + D2.2.2.2.2.1.slots) z (pc + 3) L (r.toList ++ st) M' post) : Ok D q z pc L (as.reverse ++ .ref o :: st) M post := by
  intro g B p l e s m args below meth c H locs ls C h1 h2 h3 h4
  refine W_sz h1 h2 (by omega) fun hz => ?_
  obtain ⟨hCd, hw1, hw2, hw3, Cn, T, Nc, hCl, hCn⟩ := hC
  have hts := C.2.2.2.2.2.1
  rw [map_rev]
  refine ok_after (M := M) (va_runV (own := D.2.2.2.2.2) (Ts := lw_good) (C := D2.1.cls) (g := F0 m pc ls ((as.map (sh B)).reverse ++ sh B (.ref o) :: st.map (sh B))) (As := as.map (sh B)) (b := B + o) ⟨C.1, C.2.1, C.2.2.2.1, C.2.2.2.2.1, hts⟩ (hc l g B) ⟨hCd.callB hts hw1 hR, hts _ hw2, hts _ hw3⟩ ⟨Hold.blind, ?_, hold_at (as := .ref o :: as) C hz h2 h3⟩ rfl (by rw [List.length_map]; exact hn) h4.1 rfl (lv_room (by rw [cat_sum]; exact hst)) hd hr) hz h3 (fun r M' H1 locs1 hp hz1 hP1 hS1 => ?_)
  · rw [← hCn]
    exact va_recv (q := (Cn, T, Nc)) C.2.2.2.2.2.2.2.2.1 h2 hCl.1 ((wsOf_get ho).trans (by rw [cellE_o hk hCl.2.1]))
  · have h9 := kk r M' hp g B p l e s m args below meth c H1 locs1 ls C (by show s.heap.size + (q.1 + _) = _; rw [hcz r M' hp]; omega) hP1 hS1 h4
    cases r with
    | none => exact h9
    | some v => exact h9
theorem ok_callS {idx n : Nat} {as : List Value} (hd : decode D.2.1 pc = .ok (.invokestatic idx, 3)) (hC : CS D.2.2.2.2.2 D2 idx n) (hn : as.length = n) (hM : 0 < M.1) (hst : (st.map fun v => v.category).sum ≤ 8) (hR : Rm D D2) (hr : q.1 + D2.2.2.2.2.1.cells ≤ D.2.2.2.2.1.cells ∧ q.2 + D2.2.2.2.2.1.slots ≤ D.2.2.2.2.1.slots)
    (hc : Rn D2 (D2.2.2.2.2.1.cells, D2.2.2.2.2.1.slots) as M post2) (hcz : ∀ r M', post2 r M' → M'.1 = M.1 + D2.2.2.2.2.1.cells) (kk : ∀ r M', post2 r M' → Ok D (q.1 + D2.2.2.2.2.1.cells, q.2 + D2.2.2.2.2.1.slots) z (pc + 3) L (r.toList ++ st) M' post) : Ok D q z pc L (as.reverse ++ st) M post := by
  intro g B p l e s m args below meth c H locs ls C h1 h2 h3 h4
  refine W_sz h1 h2 hM fun hz => ?_
  obtain ⟨hCd, hw1, hw2⟩ := hC
  have hts := C.2.2.2.2.2.1
  rw [map_rev0]
  refine ok_after (M := M) (va_runS (own := D.2.2.2.2.2) (Ts := lw_good) (g := F0 m pc ls ((as.map (sh B)).reverse ++ st.map (sh B))) (As := as.map (sh B)) ⟨C.1, C.2.1, C.2.2.2.1, C.2.2.2.2.1, hts⟩ (hc l g B) ⟨hCd.callB hts hw1 hR, hts _ hw2⟩ ⟨Hold.blind, hold_at C hz h2 h3⟩ rfl (by rw [List.length_map]; exact hn) h4.1 rfl (lv_room (by rw [cat_sum]; exact hst)) hd hr) hz h3 (fun r M' H1 locs1 hp hz1 hP1 hS1 => ?_)
  have h9 := kk r M' hp g B p l e s m args below meth c H1 locs1 ls C (by show s.heap.size + (q.1 + _) = _; rw [hcz r M' hp]; omega) hP1 hS1 h4
  cases r with
  | none => exact h9
  | some v => exact h9
theorem ok_callI {idx n o : Nat} {as : List Value} (hd : decode D.2.1 pc = .ok (.invokespecial idx, 3)) (hC : CI D.2.2.2.2.2 D2 idx n) (hn : as.length = n) (hM : 0 < M.1) (hst : (st.map fun v => v.category).sum ≤ 8) (hR : Rm D D2) (hr : q.1 + D2.2.2.2.2.1.cells ≤ D.2.2.2.2.1.cells ∧ q.2 + D2.2.2.2.2.1.slots ≤ D.2.2.2.2.1.slots)
    (hc : Rn D2 (D2.2.2.2.2.1.cells, D2.2.2.2.2.1.slots) (.ref o :: as) M post2) (hcz : ∀ r M', post2 r M' → M'.1 = M.1 + D2.2.2.2.2.1.cells) (kk : ∀ r M', post2 r M' → Ok D (q.1 + D2.2.2.2.2.1.cells, q.2 + D2.2.2.2.2.1.slots) z (pc + 3) L (r.toList ++ st) M' post) : Ok D q z pc L (as.reverse ++ .ref o :: st) M post := by
  intro g B p l e s m args below meth c H locs ls C h1 h2 h3 h4
  refine W_sz h1 h2 hM fun hz => ?_
  obtain ⟨hCd, hw1, hw2, hnm, hno⟩ := hC
  have hts := C.2.2.2.2.2.1
  have hcb := hCd.callB (idx := idx) hts hw1 hR
  rw [hno] at hcb
  rw [map_rev]
  refine ok_after (M := M) (va_runI (own := D.2.2.2.2.2) (Ts := lw_good) (g := F0 m pc ls ((as.map (sh B)).reverse ++ sh B (.ref o) :: st.map (sh B))) (As := as.map (sh B)) (b := B + o) ⟨C.1, C.2.1, C.2.2.2.1, C.2.2.2.2.1, hts⟩ (hc l g B) ⟨hcb, hnm, hts _ hw2⟩ ⟨Hold.blind, hold_at (as := .ref o :: as) C hz h2 h3⟩ rfl (by rw [List.length_map]; exact hn) h4.1 rfl (lv_room (by rw [cat_sum]; exact hst)) hd hr) hz h3 (fun r M' H1 locs1 hp hz1 hP1 hS1 => ?_)
  have h9 := kk r M' hp g B p l e s m args below meth c H1 locs1 ls C (by show s.heap.size + (q.1 + _) = _; rw [hcz r M' hp]; omega) hP1 hS1 h4
  cases r with
  | none => exact h9
  | some v => exact h9
theorem Cd.callN {D D2 : Md} {n idx : Nat} {host : String} {s : State} {args : Array Value} (h : Cd D2 n) (hts : ∀ w ∈ lw_good, w.before args s = true) (hN : va_Nw (.methodLinkNest D.2.2.2.2.2 idx D2.1 host) s) (hR : Rm D D2) : va_CN D.2.2.2.2.1 s args D.2.2.2.2.2 idx D2.1 host D2.2.1 D2.2.2.1 D2.2.2.2.1 (wsD D2) D2.2.2.2.2.1 D2.2.2.2.2.1.cells D2.2.2.2.2.1.slots n :=
  va_cnB (Ts := lw_good) n hts h.goodIn rfl rfl rfl hN (hts _ h.2.1) h.2.2 hR
theorem ok_callSN {idx n : Nat} {host : String} {as : List Value} (hd : decode D.2.1 pc = .ok (.invokestatic idx, 3)) (hC : CSN D.2.2.2.2.2 D2 idx n host) (hn : as.length = n) (hM : 0 < M.1) (hst : (st.map fun v => v.category).sum ≤ 8) (hR : Rm D D2) (hr : q.1 + D2.2.2.2.2.1.cells ≤ D.2.2.2.2.1.cells ∧ q.2 + D2.2.2.2.2.1.slots ≤ D.2.2.2.2.1.slots)
    (hc : Rn D2 (D2.2.2.2.2.1.cells, D2.2.2.2.2.1.slots) as M post2) (hcz : ∀ r M', post2 r M' → M'.1 = M.1 + D2.2.2.2.2.1.cells) (kk : ∀ r M', post2 r M' → Ok D (q.1 + D2.2.2.2.2.1.cells, q.2 + D2.2.2.2.2.1.slots) z (pc + 3) L (r.toList ++ st) M' post) : Ok D q z pc L (as.reverse ++ st) M post := by
  intro g B p l e s m args below meth c H locs ls C h1 h2 h3 h4
  refine W_sz h1 h2 hM fun hz => ?_
  obtain ⟨hCd, hw1, hw2⟩ := hC
  have hts := C.2.2.2.2.2.1
  have hN := C.2.2.2.2.2.2.2.2.2.1.1 _ hw1 rfl
  rw [map_rev0]
  refine ok_after (M := M) (va_runSN (own := D.2.2.2.2.2) (Ts := lw_good) (g := F0 m pc ls ((as.map (sh B)).reverse ++ st.map (sh B))) (As := as.map (sh B)) ⟨C.1, C.2.1, C.2.2.2.1, C.2.2.2.2.1, hts⟩ (hc l g B) ⟨hCd.callN hts hN hR, hts _ hw2, trivial⟩ ⟨Hold.blind, hold_at C hz h2 h3⟩ rfl (by rw [List.length_map]; exact hn) h4.1 rfl (lv_room (by rw [cat_sum]; exact hst)) hd hr) hz h3 (fun r M' H1 locs1 hp hz1 hP1 hS1 => ?_)
  have h9 := kk r M' hp g B p l e s m args below meth c H1 locs1 ls C (by show s.heap.size + (q.1 + _) = _; rw [hcz r M' hp]; omega) hP1 hS1 h4
  cases r with
  | none => exact h9
  | some v => exact h9
theorem ok_callIN {idx n o : Nat} {host : String} {as : List Value} (hd : decode D.2.1 pc = .ok (.invokespecial idx, 3)) (hC : CIN D.2.2.2.2.2 D2 idx n host) (hn : as.length = n) (hM : 0 < M.1) (hst : (st.map fun v => v.category).sum ≤ 8) (hR : Rm D D2) (hr : q.1 + D2.2.2.2.2.1.cells ≤ D.2.2.2.2.1.cells ∧ q.2 + D2.2.2.2.2.1.slots ≤ D.2.2.2.2.1.slots)
    (hc : Rn D2 (D2.2.2.2.2.1.cells, D2.2.2.2.2.1.slots) (.ref o :: as) M post2) (hcz : ∀ r M', post2 r M' → M'.1 = M.1 + D2.2.2.2.2.1.cells) (kk : ∀ r M', post2 r M' → Ok D (q.1 + D2.2.2.2.2.1.cells, q.2 + D2.2.2.2.2.1.slots) z (pc + 3) L (r.toList ++ st) M' post) : Ok D q z pc L (as.reverse ++ .ref o :: st) M post := by
  intro g B p l e s m args below meth c H locs ls C h1 h2 h3 h4
  refine W_sz h1 h2 hM fun hz => ?_
  obtain ⟨hCd, hw1, hw2, hnm, hno⟩ := hC
  have hts := C.2.2.2.2.2.1
  have hN := C.2.2.2.2.2.2.2.2.2.1.1 _ hw1 rfl
  have hcb := hCd.callN hts hN hR
  rw [hno] at hcb
  rw [map_rev]
  refine ok_after (M := M) (va_runIN (own := D.2.2.2.2.2) (Ts := lw_good) (g := F0 m pc ls ((as.map (sh B)).reverse ++ sh B (.ref o) :: st.map (sh B))) (As := as.map (sh B)) (b := B + o) ⟨C.1, C.2.1, C.2.2.2.1, C.2.2.2.2.1, hts⟩ (hc l g B) ⟨hcb, hnm, hts _ hw2⟩ ⟨Hold.blind, hold_at (as := .ref o :: as) C hz h2 h3⟩ rfl (by rw [List.length_map]; exact hn) h4.1 rfl (lv_room (by rw [cat_sum]; exact hst)) hd hr) hz h3 (fun r M' H1 locs1 hp hz1 hP1 hS1 => ?_)
  have h9 := kk r M' hp g B p l e s m args below meth c H1 locs1 ls C (by show s.heap.size + (q.1 + _) = _; rw [hcz r M' hp]; omega) hP1 hS1 h4
  cases r with
  | none => exact h9
  | some v => exact h9
end OK2
