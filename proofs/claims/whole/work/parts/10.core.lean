/-! ===== the memory as numbers: n cells, the kind of each (its tag and its size), the whole numbers and the references that they hold, by cell and place; a reference is the number of a cell ===== -/
abbrev Kd : Type := Nat × Nat
abbrev Mem : Type := Nat × (Nat → Kd) × (Nat → Nat → Int32) × (Nat → Nat → Option Nat)
def u2 {α : Type} (f : Nat → Nat → α) (k j : Nat) (v : α) : Nat → Nat → α := fun a b => if a = k ∧ b = j then v else f a b
def mI (M : Mem) (k j : Nat) (v : Int32) : Mem := (M.1, M.2.1, u2 M.2.2.1 k j v, M.2.2.2)
def mR (M : Mem) (k j : Nat) (v : Option Nat) : Mem := (M.1, M.2.1, M.2.2.1, u2 M.2.2.2 k j v)
def mNew (M : Mem) (d : Kd) : Mem := (M.1 + 1, fun k => if k = M.1 then d else M.2.1 k, fun k j => if k = M.1 then 0 else M.2.2.1 k j, fun k j => if k = M.1 then none else M.2.2.2 k j)
/-- the classes, by their tags 0 to 11; 12 int[], 13 Image[], 14 News[], 15 int[][] -/
abbrev cls : List vw_C := [(RX0, TX0, 4), (RX1, TX1, 2), (RX2, TX2, 4), (RX3, TX3, 2), (RX4, TX4, 3), (RX5, TX5, 3), (RX6, TX6, 5), (RX7, TX7, 3), (RX8, TX8, 8), (RX9, TX9, 6), (RX10, TX10, 9), (RX11, TX11, 24)]
def tyOf (ci : Nat) : Nat → FieldType := match ci with
  | 0 => tyX0
  | 1 => tyX1
  | 2 => tyX2
  | 3 => tyX3
  | 4 => tyX4
  | 5 => tyX5
  | 6 => tyX6
  | 7 => tyX7
  | 8 => tyX8
  | 9 => tyX9
  | 10 => tyX10
  | _ => tyX11
def refS (ci j : Nat) : Bool := match tyOf ci j with
  | .int => false
  | .boolean => false
  | _ => true
/-- what is fixed of a launch: class numbers, slots, the four array classes, the three static arrays' cells -/
abbrev Gd : Type := ((Nat → ClassId) × (Nat → Nat → Nat)) × (Nat → ClassId) × (Nat → Nat)
def tysOf (g : Gd) : List (ClassId × FieldType) := [(g.2.1 12, .int), (g.2.1 13, .object RX4), (g.2.1 14, .object RX6), (g.2.1 15, .array .int)]
def rB (B : Nat) (r : Option Nat) : Option Nat := r.map (fun t => B + t)
def sh (B : Nat) (v : Value) : Value := match v with
  | .ref k => .ref (B + k)
  | v => v
def shp (B : Nat) (q : Nat × Value) : Nat × Value := (q.1, sh B q.2)
def slV (B : Nat) (M : Mem) (ci k j : Nat) : Value := if refS ci j = true then va_rf (rB B (M.2.2.2 k j)) else .int (M.2.2.1 k j)
def cellE (g : Gd) (B : Nat) (M : Mem) (k : Nat) : va_E :=
  if (M.2.1 k).1 < 12 then .inr ((M.2.1 k).1, (List.range (M.2.1 k).2).map (slV B M (M.2.1 k).1 k))
  else if (M.2.1 k).1 = 12 then .inl (g.2.1 12, (M.2.1 k).2, .inl (M.2.2.1 k))
  else .inl (g.2.1 (M.2.1 k).1, (M.2.1 k).2, .inr (.inr (.inr (.inr (fun j => rB B (M.2.2.2 k j))))))
def wsOf (g : Gd) (B : Nat) (M : Mem) : va_W := (List.range M.1).map (fun k => (B + k, cellE g B M k))
theorem wsOf_len (g : Gd) (B : Nat) (M : Mem) : (wsOf g B M).length = M.1 := by simp [wsOf]
theorem wsOf_get {g : Gd} {B : Nat} {M : Mem} {k : Nat} (h : k < M.1) : (wsOf g B M)[k]? = some (B + k, cellE g B M k) := by
  simp [wsOf, List.getElem?_map, List.getElem?_range h]
theorem wsOf_got {g : Gd} {B : Nat} {M : Mem} {k : Nat} {q : Nat × va_E} (h : (wsOf g B M)[k]? = some q) : k < M.1 ∧ q = (B + k, cellE g B M k) := by
  have hl : k < M.1 := by
    have := (List.getElem?_eq_some_iff.mp h).1
    rwa [wsOf_len] at this
  rw [wsOf_get hl] at h
  exact ⟨hl, (Option.some.inj h).symm⟩
theorem wsOf_D (g : Gd) (B : Nat) (M : Mem) : va_D (fun q => B ≤ q) (wsOf g B M) := by
  refine ⟨fun i j x y hi hj hxy => ?_, fun k q hk => ?_⟩
  · obtain ⟨-, rfl⟩ := wsOf_got hi
    obtain ⟨-, rfl⟩ := wsOf_got hj
    have h : B + i = B + j := hxy
    omega
  · obtain ⟨-, rfl⟩ := wsOf_got hk
    exact Nat.le_add_right B k
theorem wsOf_set {g : Gd} {B : Nat} {M M' : Mem} {k : Nat} {e : va_E} (hn : M'.1 = M.1) (ho : ∀ a, a ≠ k → cellE g B M' a = cellE g B M a) (he : cellE g B M' k = e) : (wsOf g B M).set k (B + k, e) = wsOf g B M' := by
  refine List.ext_getElem? fun i => ?_
  rw [List.getElem?_set, wsOf_len]
  by_cases hi : k = i
  · subst hi
    by_cases hl : k < M.1
    · rw [if_pos rfl, if_pos hl, wsOf_get (by rw [hn]; exact hl), he]
    · rw [if_pos rfl, if_neg hl, List.getElem?_eq_none (by rw [wsOf_len, hn]; omega)]
  · rw [if_neg hi]
    by_cases hl : i < M.1
    · rw [wsOf_get hl, wsOf_get (by rw [hn]; exact hl), ho i (fun h => hi h.symm)]
    · rw [List.getElem?_eq_none (by rw [wsOf_len]; omega), List.getElem?_eq_none (by rw [wsOf_len, hn]; omega)]
theorem wsOf_push {g : Gd} {B : Nat} {M M' : Mem} {e : va_E} (hn : M'.1 = M.1 + 1) (ho : ∀ a, a < M.1 → cellE g B M' a = cellE g B M a) (he : cellE g B M' M.1 = e) : wsOf g B M ++ [(B + M.1, e)] = wsOf g B M' := by
  unfold wsOf
  rw [hn, List.range_succ, List.map_append]
  congr 1
  · exact List.map_congr_left fun a ha => by rw [ho a (List.mem_range.mp ha)]
  · simp [he]
theorem u2_s {α : Type} (f : Nat → Nat → α) (k j : Nat) (v : α) : u2 f k j v k j = v := by simp [u2]
theorem u2_k {α : Type} (f : Nat → Nat → α) {k j a b : Nat} (v : α) (h : a ≠ k) : u2 f k j v a b = f a b := by simp [u2, h]
theorem u2_j {α : Type} (f : Nat → Nat → α) {k j a b : Nat} (v : α) (h : b ≠ j) : u2 f k j v a b = f a b := by simp [u2, h]
theorem cellE_I {g : Gd} {B : Nat} {M : Mem} {k j : Nat} {v : Int32} {a : Nat} (h : a ≠ k) : cellE g B (mI M k j v) a = cellE g B M a := by
  have e1 : ∀ b, (mI M k j v).2.2.1 a b = M.2.2.1 a b := fun b => u2_k _ v h
  have e2 : (mI M k j v).2.2.1 a = M.2.2.1 a := funext e1
  have e3 : slV B (mI M k j v) (M.2.1 a).1 a = slV B M (M.2.1 a).1 a := funext fun b => by
    show (if refS (M.2.1 a).1 b = true then va_rf (rB B (M.2.2.2 a b)) else .int ((mI M k j v).2.2.1 a b)) = _
    rw [e1]; rfl
  show (if (M.2.1 a).1 < 12 then _ else if (M.2.1 a).1 = 12 then _ else _) = _
  unfold cellE
  rw [show (mI M k j v).2.1 = M.2.1 from rfl, e3, e2]
  rfl
theorem cellE_R {g : Gd} {B : Nat} {M : Mem} {k j : Nat} {v : Option Nat} {a : Nat} (h : a ≠ k) : cellE g B (mR M k j v) a = cellE g B M a := by
  have e1 : ∀ b, (mR M k j v).2.2.2 a b = M.2.2.2 a b := fun b => u2_k _ v h
  have e2 : (fun b => rB B ((mR M k j v).2.2.2 a b)) = fun b => rB B (M.2.2.2 a b) := funext fun b => by rw [e1]
  have e3 : slV B (mR M k j v) (M.2.1 a).1 a = slV B M (M.2.1 a).1 a := funext fun b => by
    show (if refS (M.2.1 a).1 b = true then va_rf (rB B ((mR M k j v).2.2.2 a b)) else .int (M.2.2.1 a b)) = _
    rw [e1]; rfl
  unfold cellE
  rw [show (mR M k j v).2.1 = M.2.1 from rfl, e3, e2]
  rfl
theorem range_set {f f' : Nat → Value} {N j : Nat} {v : Value} (hj : f' j = v) (ho : ∀ b, b ≠ j → f' b = f b) : ((List.range N).map f).set j v = (List.range N).map f' := by
  refine List.ext_getElem? fun i => ?_
  rw [List.getElem?_set, List.length_map, List.length_range]
  by_cases hi : j = i
  · subst hi
    by_cases hl : j < N
    · rw [if_pos rfl, if_pos hl, List.getElem?_map, List.getElem?_range hl]
      simp [hj]
    · rw [if_pos rfl, if_neg hl, List.getElem?_eq_none (by simpa using hl)]
  · rw [if_neg hi, List.getElem?_map, List.getElem?_map]
    cases h : (List.range N)[i]? with
    | none => rfl
    | some w =>
      have hl : i < N := by simpa using (List.getElem?_eq_some_iff.mp h).1
      rw [List.getElem?_range hl] at h
      cases h
      simp [ho i (fun z => hi z.symm)]
theorem cellE_o {g : Gd} {B : Nat} {M : Mem} {k ci N : Nat} (hk : M.2.1 k = (ci, N)) (hc : ci < 12) : cellE g B M k = .inr (ci, (List.range N).map (slV B M ci k)) := by
  unfold cellE
  rw [hk]
  exact if_pos hc
theorem cellE_i {g : Gd} {B : Nat} {M : Mem} {k N : Nat} (hk : M.2.1 k = (12, N)) : cellE g B M k = .inl (g.2.1 12, N, .inl (M.2.2.1 k)) := by
  unfold cellE
  rw [hk]
  rfl
theorem cellE_q {g : Gd} {B : Nat} {M : Mem} {k t N : Nat} (hk : M.2.1 k = (t, N)) (ht : 12 < t) : cellE g B M k = .inl (g.2.1 t, N, .inr (.inr (.inr (.inr (fun j => rB B (M.2.2.2 k j)))))) := by
  unfold cellE
  rw [hk]
  rw [if_neg (by show ¬ t < 12; omega), if_neg (by show ¬ t = 12; omega)]
theorem ws_putI {g : Gd} {B : Nat} {M : Mem} {o j ci N : Nat} {v : Int32} (hk : M.2.1 o = (ci, N)) (hc : ci < 12) (hr : refS ci j = false) : (wsOf g B M).set o (B + o, .inr (ci, ((List.range N).map (slV B M ci o)).set j (.int v))) = wsOf g B (mI M o j v) := by
  refine wsOf_set rfl (fun a h => cellE_I h) ?_
  rw [cellE_o (M := mI M o j v) (k := o) hk hc, ← range_set (f := slV B M ci o) (j := j) (v := .int v)]
  · simp [slV, hr, mI, u2]
  · intro b hb
    unfold slV
    rw [show (mI M o j v).2.2.1 o b = M.2.2.1 o b from u2_j _ v hb]
    rfl
theorem ws_putR {g : Gd} {B : Nat} {M : Mem} {o j ci N : Nat} {v : Option Nat} (hk : M.2.1 o = (ci, N)) (hc : ci < 12) (hr : refS ci j = true) : (wsOf g B M).set o (B + o, .inr (ci, ((List.range N).map (slV B M ci o)).set j (va_rf (rB B v)))) = wsOf g B (mR M o j v) := by
  refine wsOf_set rfl (fun a h => cellE_R h) ?_
  rw [cellE_o (M := mR M o j v) (k := o) hk hc, ← range_set (f := slV B M ci o) (j := j) (v := va_rf (rB B v))]
  · simp [slV, hr, mR, u2]
  · intro b hb
    unfold slV
    rw [show (mR M o j v).2.2.2 o b = M.2.2.2 o b from u2_j _ v hb]
    rfl
theorem ws_ast {g : Gd} {B : Nat} {M : Mem} {o j N : Nat} {v : Int32} (hk : M.2.1 o = (12, N)) : (wsOf g B M).set o (B + o, .inl (g.2.1 12, N, .inl (upd (M.2.2.1 o) j v))) = wsOf g B (mI M o j v) := by
  refine wsOf_set rfl (fun a h => cellE_I h) ?_
  rw [cellE_i (M := mI M o j v) (k := o) hk]
  congr 4
  funext b
  by_cases hb : b = j
  · subst hb
    simp [mI, u2, upd]
  · simp [mI, u2, upd, hb]
theorem ws_astR {g : Gd} {B : Nat} {M : Mem} {o j t N : Nat} {v : Option Nat} (hk : M.2.1 o = (t, N)) (ht : 12 < t) : (wsOf g B M).set o (B + o, .inl (g.2.1 t, N, .inr (.inr (.inr (.inr (va_up (fun j => rB B (M.2.2.2 o j)) j (rB B v))))))) = wsOf g B (mR M o j v) := by
  refine wsOf_set rfl (fun a h => cellE_R h) ?_
  rw [cellE_q (M := mR M o j v) (k := o) hk ht]
  congr 7
  funext b
  by_cases hb : b = j
  · subst hb
    simp [mR, u2, va_up]
  · simp [mR, u2, va_up, hb]
