theorem wd_78 : (Jvm.Cond.methodLink "FlaringWordsLaw" (9 : Nat) ({ cls := "FlaringWords", name := "<init>", desc := "()V" } : Jvm.MethodName)) ∈ lw_good := lw_in (List.mem_of_getElem? (i := 78) (by decide +kernel)) (by decide +kernel)
theorem wd_79 : (Jvm.Cond.instanceMethod ({ cls := "FlaringWords", name := "<init>", desc := "()V" } : Jvm.MethodName)) ∈ lw_good := lw_in (List.mem_of_getElem? (i := 79) (by decide +kernel)) (by decide +kernel)
theorem wd_913 : (Jvm.Cond.methodLink "FlaringWordsLaw" (12 : Nat) ({ cls := "FlaringWordsModel", name := "<init>", desc := "()V" } : Jvm.MethodName)) ∈ lw_good := lw_in (List.mem_of_getElem? (i := 913) (by decide +kernel)) (by decide +kernel)
theorem wd_914 : (Jvm.Cond.instanceMethod ({ cls := "FlaringWordsModel", name := "<init>", desc := "()V" } : Jvm.MethodName)) ∈ lw_good := lw_in (List.mem_of_getElem? (i := 914) (by decide +kernel)) (by decide +kernel)
/-! ===== the law from its entry ===== -/
theorem stat_T {args : Array Value} {s : State} {nm : String} {f : Nat → Int32} {A : Nat → Prop} (h1 : (Cond.arrayOf (.static "FlaringWords$News" nm "[I") .int).before args s = true) (h2 : (Cond.eq (.length (.static "FlaringWords$News" nm "[I")) (.int 4)).before args s = true) (h3 : ∀ j : Nat, j < 4 → (Cond.eq (.elem (.static "FlaringWords$News" nm "[I") (.int (Int32.ofNat j))) (.int (f j))).before args s = true) (hA : ∀ a : Nat, a < s.heap.size → ¬ A a) : ∃ t : Nat, (Term.static "FlaringWords$News" nm "[I").eval args s none [] s = some (.ref t) ∧ va_T .int t 4 (fun j => .int (f j)) A s s.heap :=
  va_Tof (N := 4) (by decide) h1 (va_eqt h2) (fun j hj => va_eqt (h3 j hj)) hA
theorem len4 {args : Array Value} {s : State} {tm : Term} {a : Nat} {cell : Cell} (ht : tm.eval args s none [] s = some (.ref a)) (hc : s.arrayAt? a = some cell) (h : (Term.length tm).eval args s none [] s = some (.int 4)) : cell.slots.size = 4 := by
  simp only [Term.eval, Option.bind_eq_bind, ht, hc, Option.bind_some] at h
  by_cases hn : cell.slots.size < 2 ^ 31
  · rw [if_pos hn] at h
    have h9 : Value.int cell.slots.size.toInt32 = .int 4 := Option.some.inj h
    have h8 : cell.slots.size.toInt32 = 4 := Value.int.inj h9
    have h7 : nI cell.slots.size = nI 4 := h8
    exact (nI_eq hn (by decide)).mp h7
  · rw [if_neg hn] at h
    cases h
section LST
variable {p : Program} {l : Launch} {e : Env} {s : State} {m : MethodId} {below : List Frame} {meth : Method} {c : Code} {b Ln : Nat} {xs : Nat → Int32} {g : Gd} {H : Heap} {locs : List Loc} {ls : Array Slot} {pc c1 c2 : Nat} {Q : State → Prop} {M : Mem} {rest : List Value}
theorem lw_htg (C : lw_At p s m meth c b Ln xs) : ∀ w ∈ lw_good, w.before #[Value.ref b] s = true := fun w hw => C.2.2.2.2.2.1 w (List.mem_filter.mp hw).1
theorem lw_new {idx ci N n : Nat} {Cn : String} {T : u_T} {M' : Mem} (C : lw_At p s m meth c b Ln xs) (hK : va_K g.1 cls (tysOf g) s) (hP : va_P g.1 cls (wsOf g s.heap.size M) H) (hS : va_S (fun q => s.heap.size ≤ q) s.heap H locs) (hd : decode code pc = .ok (.new idx, 3)) (hCl : Cl ci Cn T N) (w1 : Cond.classLink RL idx Cn ∈ lw_good) (w2 : Cond.instantiable Cn N ∈ lw_good) (w3 : Cond.initialized Cn ∈ lw_good) (hdf : ∀ j, j < N → defaultValue (tyOf ci j) = if refS ci j = true then .null else .int 0) (hr : c1 + 1 ≤ room_1.cells ∧ c2 + N ≤ room_1.slots) (hc : c1 = M.1) (hn : M.1 = n) (hM : mNew M (ci, N) = M')
    (kk : ∀ H1 : Heap, va_P g.1 cls (wsOf g s.heap.size M') H1 → va_S (fun q => s.heap.size ≤ q) s.heap H1 locs → W p l e room_1 s m #[Value.ref b] below meth c H1 locs (c1 + 1) (c2 + N) Q (F0 m (pc + 3) ls (.ref (s.heap.size + n) :: rest))) : W p l e room_1 s m #[Value.ref b] below meth c H locs c1 c2 Q (F0 m pc ls rest) := by
  obtain ⟨hcl, hc2, hin, hty, hnm⟩ := hCl
  have hts := lw_htg C
  subst hn; subst hM
  refine va_new (D := g.1) (cl := cls) (ci := ci) (fs := (List.range N).map (slV s.heap.size (mNew M (ci, N)) ci M.1)) C.1 C.2.1 hts hin (tyOf ci) hty C.2.2.2.2.1 (hts _ w1) (hts _ w2) (hts _ w3) hK hP (wsOf_D g s.heap.size M) hS (fun x h => h) hcl (fun j hj => ?_) hr.1 hr.2 hd (fun a0 H1 hP hD hS => ?_)
  · rw [hdf j hj]
    have e9 : vp_V ((List.range N).map (slV s.heap.size (mNew M (ci, N)) ci M.1)) j = slV s.heap.size (mNew M (ci, N)) ci M.1 j := by
      simp [vp_V, hj]
    rw [e9]
    unfold slV
    rw [show (mNew M (ci, N)).2.2.2 M.1 j = none from if_pos rfl, show (mNew M (ci, N)).2.2.1 M.1 j = 0 from if_pos rfl]
    rfl
  · refine W_nw (M := M) (by omega) hP hD fun ha => ?_
    subst ha
    rw [wsOf_push (M' := mNew M (ci, N)) rfl (fun a h => cellE_new h) (cellE_o kd_new hc2)] at hP
    exact kk H1 hP hS
theorem lw_ctor {D2 : Md} {idx o : Nat} {M' : Mem} (C : lw_At p s m meth c b Ln xs) (hK : va_K g.1 cls (tysOf g) s) (hSt : Stc g s.heap.size s s.heap) (hP : va_P g.1 cls (wsOf g s.heap.size M) H) (hS : va_S (fun q => s.heap.size ≤ q) s.heap H locs) (hls : ls.size = 4) (hd : decode code pc = .ok (.invokespecial idx, 3)) (hC : CI RL D2 idx 0) (hM : 0 < M.1) (hcM : c1 = M.1) (hst : (rest.map fun v => v.category).sum ≤ 8) (hR : D2.2.2.2.2.1.frames + 1 ≤ 12 ∧ 8 + (D2.2.2.1 + 11) + D2.2.2.2.2.1.locals ≤ 482) (hr : c1 + D2.2.2.2.2.1.cells ≤ room_1.cells ∧ c2 + D2.2.2.2.2.1.slots ≤ room_1.slots) (hc : Rn D2 (D2.2.2.2.2.1.cells, D2.2.2.2.2.1.slots) [.ref o] M (Ac M'))
    (kk : ∀ (H1 : Heap) (locs1 : List Loc), va_P g.1 cls (wsOf g s.heap.size M') H1 → va_S (fun q => s.heap.size ≤ q) s.heap H1 locs1 → W p l e room_1 s m #[Value.ref b] below meth c H1 locs1 (c1 + D2.2.2.2.2.1.cells) (c2 + D2.2.2.2.2.1.slots) Q (F0 m (pc + 3) ls rest)) : W p l e room_1 s m #[Value.ref b] below meth c H locs c1 c2 Q (F0 m pc ls (.ref (s.heap.size + o) :: rest)) := by
  refine W_sz (M := M) (by omega) hP hM fun hz => ?_
  obtain ⟨hCd, hw1, hw2, hnm, hno⟩ := hC
  have htg := lw_htg C
  have hcb : CallB room_1 s #[Value.ref b] RL idx D2.1 D2.2.1 D2.2.2.1 D2.2.2.2.1 (wsD D2) D2.2.2.2.2.1 D2.2.2.2.2.1.cells D2.2.2.2.2.1.slots 0 := callB_of (Ts := lw_good) 0 htg hCd.goodIn rfl rfl rfl (htg _ hCd.2.1) (htg _ hw1) hCd.2.2 hR
  rw [hno] at hcb
  refine ok_after (M := M) (va_runI (own := RL) (Ts := lw_good) (g := F0 m pc ls (.ref (s.heap.size + o) :: rest)) (As := []) (b := s.heap.size + o) ⟨C.1, C.2.1, C.2.2.2.1, C.2.2.2.2.1, htg⟩ (hc l g s.heap.size) ⟨hcb, hnm, htg _ hw2⟩ ⟨Hold.blind, fun U hU hW => ⟨rfl, va_K.moved hW.alike hK, hSt.moved hW (fun a h8 h9 => by rw [hU]; exact hS.2.1 a h8 h9), by rw [hU]; exact hz, by rw [hU]; exact hP⟩⟩ rfl rfl hls rfl (lv_room hst) hd hr) hz hS (fun r' M9 H1 locs1 hp' hz1 hP1 hS1 => ?_)
  obtain ⟨rfl, rfl⟩ := hp'
  exact kk H1 locs1 hP1 hS1
end LST
theorem cv_Lx : CI RL D_X10_init 9 0 := ⟨cd_X10_init, wd_78, wd_79, rfl, rfl⟩
theorem cv_Lm : CI RL D_X11_init 12 0 := ⟨cd_X11_init, wd_913, wd_914, rfl, rfl⟩
set_option maxRecDepth 100000 in
set_option maxHeartbeats 4000000 in
theorem whole_open {Inv : Mm → Prop} (hAll : AllOps Inv) (hI0 : Inv S0) {p : Program} {e : Env} {s : State} {m : MethodId} {below : List Frame} {meth : Method} {c : Code} (l : Launch) (hflags : l.flags = flags0) {b L : Nat} {xs : Nat → Int32} (hL : L ≤ 2048) (C0 : lw_At p s m meth c b L xs) : W p l e room_1 s m #[Value.ref b] below meth c s.heap [] 0 0 (lw_Z below #[Value.ref b] s) (entryFrame m ([Value.ref b] : List Value).toArray 4) := by
  obtain ⟨hx, hb, hr, hml, hown, hts, hX, hbl, hlocks, hgv⟩ := id C0
  have htg := lw_htg C0
  have hfl := flat_of_before _ hgv
  obtain ⟨c0, iS0, hKn0⟩ := u_known (C := RX0) (T := TX0) (N := 4) (n := 4) htg inG0 (htg _ wd_262)
  obtain ⟨c1, iS1, hKn1⟩ := u_known (C := RX1) (T := TX1) (N := 2) (n := 2) htg inG1 (htg _ wd_246)
  obtain ⟨c2, iS2, hKn2⟩ := u_known (C := RX2) (T := TX2) (N := 4) (n := 4) htg inG2 (htg _ wd_117)
  obtain ⟨c3, iS3, hKn3⟩ := u_known (C := RX3) (T := TX3) (N := 2) (n := 2) htg inG3 (htg _ wd_173)
  obtain ⟨c4, iS4, hKn4⟩ := u_known (C := RX4) (T := TX4) (N := 3) (n := 3) htg inG4 (htg _ wd_282)
  obtain ⟨c5, iS5, hKn5⟩ := u_known (C := RX5) (T := TX5) (N := 3) (n := 3) htg inG5 (htg _ wd_156)
  obtain ⟨c6, iS6, hKn6⟩ := u_known (C := RX6) (T := TX6) (N := 5) (n := 5) htg inG6 (htg _ wd_85)
  obtain ⟨c7, iS7, hKn7⟩ := u_known (C := RX7) (T := TX7) (N := 3) (n := 3) htg inG7 (htg _ wd_187)
  obtain ⟨c8, iS8, hKn8⟩ := u_known (C := RX8) (T := TX8) (N := 8) (n := 8) htg inG8 (htg _ wd_123)
  obtain ⟨c9, iS9, hKn9⟩ := u_known (C := RX9) (T := TX9) (N := 6) (n := 6) htg inG9 (htg _ wd_221)
  obtain ⟨c10, iS10, hKn10⟩ := u_known (C := RX10) (T := TX10) (N := 9) (n := 9) htg inG10 (htg _ wd_77)
  obtain ⟨c11, iS11, hKn11⟩ := u_known (C := RX11) (T := TX11) (N := 24) (n := 24) htg inG11 (htg _ wd_912)
  obtain ⟨dC, dI, hKc⟩ : ∃ (dC : Nat → ClassId) (dI : Nat → Nat → Nat), ∀ (k : Nat) (q : vw_C), cls[k]? = some q → u_Kn s q.1 q.2.1 q.2.2 (dC k) (dI k) := by
    refine ⟨fun k => ([c0, c1, c2, c3, c4, c5, c6, c7, c8, c9, c10, c11] : List ClassId).getD k c0, fun k => ([iS0, iS1, iS2, iS3, iS4, iS5, iS6, iS7, iS8, iS9, iS10, iS11] : List (Nat → Nat)).getD k iS0, ?_⟩
    intro k q hq
    match k, hq with
    | 0, hq => cases hq; exact hKn0
    | 1, hq => cases hq; exact hKn1
    | 2, hq => cases hq; exact hKn2
    | 3, hq => cases hq; exact hKn3
    | 4, hq => cases hq; exact hKn4
    | 5, hq => cases hq; exact hKn5
    | 6, hq => cases hq; exact hKn6
    | 7, hq => cases hq; exact hKn7
    | 8, hq => cases hq; exact hKn8
    | 9, hq => cases hq; exact hKn9
    | 10, hq => cases hq; exact hKn10
    | 11, hq => cases hq; exact hKn11
    | k + 12, hq => simp [cls] at hq
  obtain ⟨cI, kI, pI, a1, a2, a3⟩ := Cond.arrayClass_spec (htg _ wd_115)
  have hAOM : va_AO RX4 s := va_AO.of (hts _ (List.mem_of_getElem? (i := 281) (by decide +kernel)))
  have hAON : va_AO RX6 s := va_AO.of (hts _ (List.mem_of_getElem? (i := 252) (by decide +kernel)))
  have hAOI : (Cond.arrayOver (.array .int)).before #[] s = true := over_moved (Vm.Alike.refl s.vm) (hts (Cond.arrayOver (.array .int)) (List.mem_of_getElem? (i := 129) (by decide +kernel)))
  obtain ⟨pM, cM, kM, m1, -, m2, m3, m4⟩ := Cond.arrayOver_spec hAOM
  obtain ⟨pN, cN, kN, n1, -, n2, n3, n4⟩ := Cond.arrayOver_spec hAON
  obtain ⟨pG, cG, kG, g1, -, g2, g3, g4⟩ := arrayOverA_spec hAOI
  have hA0 : ∀ a : Nat, a < s.heap.size → ¬ (fun q : Nat => s.heap.size ≤ q) a := fun a ha => Nat.not_le.mpr ha
  obtain ⟨tA, vA, TA⟩ := stat_T (nm := "AT_FIRST") (f := ATL) (A := fun q => s.heap.size ≤ q) (hfl _ (by decide +kernel)) (hfl _ (by decide +kernel)) (fun j hj => by rcases (show j = 0 ∨ j = 1 ∨ j = 2 ∨ j = 3 by omega) with rfl | rfl | rfl | rfl <;> exact hfl _ (by decide +kernel)) hA0
  obtain ⟨tB, vB, TB⟩ := stat_T (nm := "LEAST") (f := fun j => ([1, 1, 1, 0] : List Int32).getD j 0) (A := fun q => s.heap.size ≤ q) (hfl _ (by decide +kernel)) (hfl _ (by decide +kernel)) (fun j hj => by rcases (show j = 0 ∨ j = 1 ∨ j = 2 ∨ j = 3 by omega) with rfl | rfl | rfl | rfl <;> exact hfl _ (by decide +kernel)) hA0
  obtain ⟨tC, vC, TC⟩ := stat_T (nm := "MOST") (f := fun j => ([3, 9, 9, 99] : List Int32).getD j 0) (A := fun q => s.heap.size ≤ q) (hfl _ (by decide +kernel)) (hfl _ (by decide +kernel)) (fun j hj => by rcases (show j = 0 ∨ j = 1 ∨ j = 2 ∨ j = 3 by omega) with rfl | rfl | rfl | rfl <;> exact hfl _ (by decide +kernel)) hA0
  have hini : (Cond.initialized "FlaringWords$News").before #[Value.ref b] s = true := htg _ wd_63
  have ZA := va_Zof (A := fun q => s.heap.size ≤ q) (hts (.laysStatic "FlaringWords$News" "AT_FIRST" "[I") (List.mem_of_getElem? (i := 91) (by decide +kernel))) hini vA hA0
  have ZB := va_Zof (A := fun q => s.heap.size ≤ q) (hts (.laysStatic "FlaringWords$News" "LEAST" "[I") (List.mem_of_getElem? (i := 820) (by decide +kernel))) hini vB hA0
  have ZC := va_Zof (A := fun q => s.heap.size ≤ q) (hts (.laysStatic "FlaringWords$News" "MOST" "[I") (List.mem_of_getElem? (i := 822) (by decide +kernel))) hini vC hA0
  have hAT : ATc tA s.heap.size s s.heap := by
    refine ⟨va_Nw.of rfl (hts (.castable "[I" "java/lang/Cloneable") (List.mem_of_getElem? (i := 97) (by decide +kernel))), ?_⟩
    obtain ⟨cell, q1, q2, q3, q4, q5, q6, q7⟩ := TA
    have hlen : (Term.length (.static "FlaringWords$News" "AT_FIRST" "[I")).eval #[Value.ref b] s none [] s = some (.int 4) := va_eqt (hfl _ (by decide +kernel))
    obtain ⟨a', cell', u1, u2, u3⟩ := Term.length_spec hlen
    cases vA.symm.trans u1
    obtain ⟨v1, -, -, -⟩ := State.arrayAt?_spec u2
    cases q1.symm.trans v1
    have h4 := len4 vA u2 hlen
    obtain ⟨a9, cE, cell9, kE, w1, w2, w3, w4, w5, w6, w7⟩ := Cond.exactly_spec (hfl (.exactly (.static "FlaringWords$News" "AT_FIRST" "[I") "[I") (by decide +kernel))
    cases vA.symm.trans w1
    cases q1.symm.trans w3
    exact ⟨cell, q1, q2, q3, h4, q6, by rw [w6]; exact w2, q7⟩
  let g : Gd := ((dC, dI), fun t => if t = 12 then cI else if t = 13 then cM else if t = 14 then cN else cG, fun k => if k = 0 then tA else if k = 1 then tB else tC)
  have hSt : Stc g s.heap.size s s.heap := by
    refine ⟨fun w hw hn => ?_, hAOM, hAON, hAOI, ZA, ZB, ZC, hAT, TB, TC⟩
    have h9 := hts w hw
    cases w <;> first | exact va_Nw.of rfl h9 | (simp [isNest] at hn)
  have hK : va_K g.1 cls (tysOf g) s := by
    refine ⟨hKc, fun k q hq => ?_⟩
    match k, hq with
    | 0, hq => cases hq; exact ⟨fun n z => ⟨fun k h => (by cases h), kI, a2, pI, a3⟩, a1⟩
    | 1, hq => cases hq; exact ⟨fun n z => ⟨fun k h => (by cases h), kM, m2, pM, m3⟩, kM, pM, m2, m3, m1, m4⟩
    | 2, hq => cases hq; exact ⟨fun n z => ⟨fun k h => (by cases h), kN, n2, pN, n3⟩, kN, pN, n2, n3, n1, n4⟩
    | 3, hq => cases hq; exact ⟨fun n z => ⟨fun k h => (by cases h), kG, g2, pG, g3⟩, g4⟩
    | k + 4, hq => simp [tysOf] at hq
  have hS : va_S (fun q : Nat => s.heap.size ≤ q) s.heap s.heap [] := va_S.rf
  have hP : va_P g.1 cls (wsOf g s.heap.size cm_0) s.heap := fun k q h => by
    have := (wsOf_got h).1
    exact absurd this (by rw [cn_0]; omega)
  clear_value g
  have hl := lv_entry ([.ref b]) (n := 4) (Nat.le_of_ble_eq_true rfl)
  rw [lg_entry_eq]
  generalize (lg_sl ([.ref b]) ++ List.replicate (4 - (lg_sl ([.ref b])).length) Slot.unset).toArray = ls at hl ⊢
  have hl : lv_has ls 4 [(0, .ref b)] := hl
  refine lw_new (M := cm_0) (M' := cm_1) (n := 0) C0 hK hP hS dL_law_0 cl_10 wd_76 wd_77 wd_62 (by decide) ⟨Nat.le_of_ble_eq_true rfl, Nat.le_of_ble_eq_true rfl⟩ rfl rfl rfl (fun H hP hS => ?_)
  refine lv_dup hx hb dL_law_3 rfl ?_
  refine lw_ctor (M := cm_1) (M' := cm_131) (o := 0) C0 hK hSt hP hS hl.1 dL_law_4 cv_Lx (by rw [cn_1]; decide) rfl (Nat.le_of_ble_eq_true rfl) ⟨by decide, by decide⟩ ⟨Nat.le_of_ble_eq_true rfl, Nat.le_of_ble_eq_true rfl⟩ ctor_0 (fun H locs hP hS => ?_)
  refine lv_astore_n (lv' := [(1, .ref (s.heap.size + 0)), (0, .ref b)]) hx hb dL_law_7 rfl hl (by decide) rfl (fun ls hl => ?_)
  refine lw_new (M := cm_131) (M' := cm_132) (n := 153) C0 hK hP hS dL_law_8 cl_11 wd_911 wd_912 wd_73 (by decide) ⟨Nat.le_of_ble_eq_true rfl, Nat.le_of_ble_eq_true rfl⟩ cn_131.symm cn_131 rfl (fun H hP hS => ?_)
  refine lv_dup hx hb dL_law_11 rfl ?_
  refine lw_ctor (M := cm_132) (M' := cm_168) (o := 153) C0 hK hSt hP hS hl.1 dL_law_12 cv_Lm (by rw [cn_132]; decide) cn_132.symm (Nat.le_of_ble_eq_true rfl) ⟨by decide, by decide⟩ ⟨Nat.le_of_ble_eq_true rfl, Nat.le_of_ble_eq_true rfl⟩ ctor_153 (fun H locs hP hS => ?_)
  refine lv_astore_n (lv' := [(2, .ref (s.heap.size + 153)), (1, .ref (s.heap.size + 0)), (0, .ref b)]) hx hb dL_law_15 rfl hl (by decide) rfl (fun ls hl => ?_)
  refine lv_iconst (v := 0) hx hb dL_law_16 (by decide) ?_
  refine lv_istore_n (lv' := [(3, .int 0), (2, .ref (s.heap.size + 153)), (1, .ref (s.heap.size + 0)), (0, .ref b)]) hx hb dL_law_17 rfl hl (by decide) rfl (fun ls hl => ?_)
  exact law_loop hAll hL (L + 1) 0 S0 (by omega) (by omega) hI0 p l e s m below meth c b g H locs ls C0 hK hSt (hold0 hP) hS (lv_sub hl [3, 2, 1, 0] rfl)
