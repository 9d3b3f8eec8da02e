/-! THE CLAIM OUT OF ONE WALK OF THE LAW'S BODY. Your part is whole_start (and what it stands on); all else here is the same for every law, but numbers. -/
def R_law : String := "FlaringWordsLaw"
def lw_P (b : Addr) (xs : List Int32) (args : Array Value) (s : State) : Prop := args = #[.ref b] ∧ s.IntsAt b xs ∧ xs.length ≤ 2048 ∧ (Jvm.Cond.and given_1 narrow_1).before args s = true
def lw_Q (_ : Array Value) (s : State) (o : Outcome) (t : State) : Prop := o = .returned (some (.int 1)) ∧ Framed s o t [] 600000 7302250
def lw_Z (below : List Frame) (a : Array Value) (s : State) : State → Prop := fun t => ∃ o, t.status = .running ∧ Ended t below o ∧ lw_Q a s o t
/-- the law's own end, with 1 on the stack, nothing written that was there before, its room as the claim has it -/
theorem lw_ret {p : Program} {l : Launch} {e : Env} {s : State} {m : MethodId} {below : List Frame} {meth : Method} {c : Code} {b : Nat} (hx : p.tables.exec = Jvm.exec) (hb : c.code = code) (hr : meth.sig.returnType = ret) (hlocks : meth.locks = false) {pc : Nat} {H : Heap} {ls : Array Slot} (hdg : decode code pc = .ok (.ireturn, 1)) : W p l e room_1 s m #[Value.ref b] below meth c H [] 600000 7302250 (lw_Z below #[Value.ref b] s) (F0 m pc ls [.int 1]) := by
  intro T hT X
  obtain ⟨fs, hret, hrun, hended, hW, hframe⟩ := X.leave (v := some (.int 1)) (hlocks := hlocks) (fun h => by rw [hr] at h; cases h)
  have hmeth' : T.vm.method? m = some meth := X.method'
  refine ⟨T.setFrames fs, ?_, .returned (some (.int 1)), hrun, hended, rfl, ⟨_, rfl⟩, hW, hframe⟩
  jvm_step X.here [X.here.top, hx, hb, hdg, hmeth', hr, ret, narrow_b1]
  (try refine ⟨rfl, ?_⟩); (try refine ⟨rfl, ?_⟩)
  first | (intro acts; rw [hret _ acts rfl rfl rfl]) | rw [hret _ _ rfl rfl rfl]
  exact Steps.refl _
/-- what holds at the law's entry: the machine, the code, the tables' words (any of lw_tbl by 'hts w (by decide +kernel)'), the script of L ints xs at the cell b, what the Statement gives of the start (any of its parts by flat_of_before) -/
def lw_At (p : Program) (s : State) (m : MethodId) (meth : Method) (c : Code) (b L : Nat) (xs : Nat → Int32) : Prop :=
  p.tables.exec = Jvm.exec ∧ c.code = code ∧ meth.sig.returnType = ret ∧ c.maxLocals = 4 ∧ s.vm.findClass R_law = some m.cls ∧ (∀ w ∈ lw_tbl, w.before #[Value.ref b] s = true) ∧ va_X b L xs s s.heap ∧ b < s.heap.size ∧ meth.locks = false ∧ (Jvm.Cond.and given_1 narrow_1).before #[Value.ref b] s = true
theorem wd_327 : (Jvm.Cond.methodLink "FlaringWordsLaw" (13 : Nat) ({ cls := "FlaringWords", name := "feed", desc := "(I)I" } : Jvm.MethodName)) ∈ lw_good := lw_in (List.mem_of_getElem? (i := 327) (by decide +kernel)) (by decide +kernel)
theorem wd_328 : (Jvm.Cond.instanceMethod ({ cls := "FlaringWords", name := "feed", desc := "(I)I" } : Jvm.MethodName)) ∈ lw_good := lw_in (List.mem_of_getElem? (i := 328) (by decide +kernel)) (by decide +kernel)
theorem wd_329 : (Jvm.Cond.selects "FlaringWords" ({ cls := "FlaringWords", name := "feed", desc := "(I)I" } : Jvm.MethodName) ({ cls := "FlaringWords", name := "feed", desc := "(I)I" } : Jvm.MethodName)) ∈ lw_good := lw_in (List.mem_of_getElem? (i := 329) (by decide +kernel)) (by decide +kernel)
theorem wd_346 : (Jvm.Cond.methodLink "FlaringWordsLaw" (18 : Nat) ({ cls := "FlaringWords", name := "pieces", desc := "()I" } : Jvm.MethodName)) ∈ lw_good := lw_in (List.mem_of_getElem? (i := 346) (by decide +kernel)) (by decide +kernel)
theorem wd_347 : (Jvm.Cond.instanceMethod ({ cls := "FlaringWords", name := "pieces", desc := "()I" } : Jvm.MethodName)) ∈ lw_good := lw_in (List.mem_of_getElem? (i := 347) (by decide +kernel)) (by decide +kernel)
theorem wd_348 : (Jvm.Cond.selects "FlaringWords" ({ cls := "FlaringWords", name := "pieces", desc := "()I" } : Jvm.MethodName) ({ cls := "FlaringWords", name := "pieces", desc := "()I" } : Jvm.MethodName)) ∈ lw_good := lw_in (List.mem_of_getElem? (i := 348) (by decide +kernel)) (by decide +kernel)
theorem wd_438 : (Jvm.Cond.methodLink "FlaringWordsLaw" (23 : Nat) ({ cls := "FlaringWords", name := "fault", desc := "()I" } : Jvm.MethodName)) ∈ lw_good := lw_in (List.mem_of_getElem? (i := 438) (by decide +kernel)) (by decide +kernel)
theorem wd_439 : (Jvm.Cond.instanceMethod ({ cls := "FlaringWords", name := "fault", desc := "()I" } : Jvm.MethodName)) ∈ lw_good := lw_in (List.mem_of_getElem? (i := 439) (by decide +kernel)) (by decide +kernel)
theorem wd_440 : (Jvm.Cond.selects "FlaringWords" ({ cls := "FlaringWords", name := "fault", desc := "()I" } : Jvm.MethodName) ({ cls := "FlaringWords", name := "fault", desc := "()I" } : Jvm.MethodName)) ∈ lw_good := lw_in (List.mem_of_getElem? (i := 440) (by decide +kernel)) (by decide +kernel)
theorem wd_442 : (Jvm.Cond.methodLink "FlaringWordsLaw" (27 : Nat) ({ cls := "FlaringWords", name := "told", desc := "(I)I" } : Jvm.MethodName)) ∈ lw_good := lw_in (List.mem_of_getElem? (i := 442) (by decide +kernel)) (by decide +kernel)
theorem wd_443 : (Jvm.Cond.instanceMethod ({ cls := "FlaringWords", name := "told", desc := "(I)I" } : Jvm.MethodName)) ∈ lw_good := lw_in (List.mem_of_getElem? (i := 443) (by decide +kernel)) (by decide +kernel)
theorem wd_444 : (Jvm.Cond.selects "FlaringWords" ({ cls := "FlaringWords", name := "told", desc := "(I)I" } : Jvm.MethodName) ({ cls := "FlaringWords", name := "told", desc := "(I)I" } : Jvm.MethodName)) ∈ lw_good := lw_in (List.mem_of_getElem? (i := 444) (by decide +kernel)) (by decide +kernel)
theorem wd_680 : (Jvm.Cond.methodLink "FlaringWordsLaw" (31 : Nat) ({ cls := "FlaringWords", name := "at", desc := "(II)I" } : Jvm.MethodName)) ∈ lw_good := lw_in (List.mem_of_getElem? (i := 680) (by decide +kernel)) (by decide +kernel)
theorem wd_681 : (Jvm.Cond.instanceMethod ({ cls := "FlaringWords", name := "at", desc := "(II)I" } : Jvm.MethodName)) ∈ lw_good := lw_in (List.mem_of_getElem? (i := 681) (by decide +kernel)) (by decide +kernel)
theorem wd_682 : (Jvm.Cond.selects "FlaringWords" ({ cls := "FlaringWords", name := "at", desc := "(II)I" } : Jvm.MethodName) ({ cls := "FlaringWords", name := "at", desc := "(II)I" } : Jvm.MethodName)) ∈ lw_good := lw_in (List.mem_of_getElem? (i := 682) (by decide +kernel)) (by decide +kernel)
theorem wd_688 : (Jvm.Cond.methodLink "FlaringWordsLaw" (36 : Nat) ({ cls := "FlaringWords", name := "day", desc := "(II)I" } : Jvm.MethodName)) ∈ lw_good := lw_in (List.mem_of_getElem? (i := 688) (by decide +kernel)) (by decide +kernel)
theorem wd_689 : (Jvm.Cond.instanceMethod ({ cls := "FlaringWords", name := "day", desc := "(II)I" } : Jvm.MethodName)) ∈ lw_good := lw_in (List.mem_of_getElem? (i := 689) (by decide +kernel)) (by decide +kernel)
theorem wd_690 : (Jvm.Cond.selects "FlaringWords" ({ cls := "FlaringWords", name := "day", desc := "(II)I" } : Jvm.MethodName) ({ cls := "FlaringWords", name := "day", desc := "(II)I" } : Jvm.MethodName)) ∈ lw_good := lw_in (List.mem_of_getElem? (i := 690) (by decide +kernel)) (by decide +kernel)
theorem wd_712 : (Jvm.Cond.methodLink "FlaringWordsLaw" (40 : Nat) ({ cls := "FlaringWords", name := "word", desc := "(III)I" } : Jvm.MethodName)) ∈ lw_good := lw_in (List.mem_of_getElem? (i := 712) (by decide +kernel)) (by decide +kernel)
theorem wd_713 : (Jvm.Cond.instanceMethod ({ cls := "FlaringWords", name := "word", desc := "(III)I" } : Jvm.MethodName)) ∈ lw_good := lw_in (List.mem_of_getElem? (i := 713) (by decide +kernel)) (by decide +kernel)
theorem wd_714 : (Jvm.Cond.selects "FlaringWords" ({ cls := "FlaringWords", name := "word", desc := "(III)I" } : Jvm.MethodName) ({ cls := "FlaringWords", name := "word", desc := "(III)I" } : Jvm.MethodName)) ∈ lw_good := lw_in (List.mem_of_getElem? (i := 714) (by decide +kernel)) (by decide +kernel)
theorem wd_724 : (Jvm.Cond.methodLink "FlaringWordsLaw" (45 : Nat) ({ cls := "FlaringWords", name := "cost", desc := "(I)I" } : Jvm.MethodName)) ∈ lw_good := lw_in (List.mem_of_getElem? (i := 724) (by decide +kernel)) (by decide +kernel)
theorem wd_725 : (Jvm.Cond.instanceMethod ({ cls := "FlaringWords", name := "cost", desc := "(I)I" } : Jvm.MethodName)) ∈ lw_good := lw_in (List.mem_of_getElem? (i := 725) (by decide +kernel)) (by decide +kernel)
theorem wd_726 : (Jvm.Cond.selects "FlaringWords" ({ cls := "FlaringWords", name := "cost", desc := "(I)I" } : Jvm.MethodName) ({ cls := "FlaringWords", name := "cost", desc := "(I)I" } : Jvm.MethodName)) ∈ lw_good := lw_in (List.mem_of_getElem? (i := 726) (by decide +kernel)) (by decide +kernel)
theorem wd_732 : (Jvm.Cond.methodLink "FlaringWordsLaw" (49 : Nat) ({ cls := "FlaringWords", name := "steady", desc := "(II)I" } : Jvm.MethodName)) ∈ lw_good := lw_in (List.mem_of_getElem? (i := 732) (by decide +kernel)) (by decide +kernel)
theorem wd_733 : (Jvm.Cond.instanceMethod ({ cls := "FlaringWords", name := "steady", desc := "(II)I" } : Jvm.MethodName)) ∈ lw_good := lw_in (List.mem_of_getElem? (i := 733) (by decide +kernel)) (by decide +kernel)
theorem wd_734 : (Jvm.Cond.selects "FlaringWords" ({ cls := "FlaringWords", name := "steady", desc := "(II)I" } : Jvm.MethodName) ({ cls := "FlaringWords", name := "steady", desc := "(II)I" } : Jvm.MethodName)) ∈ lw_good := lw_in (List.mem_of_getElem? (i := 734) (by decide +kernel)) (by decide +kernel)
theorem wd_742 : (Jvm.Cond.methodLink "FlaringWordsLaw" (53 : Nat) ({ cls := "FlaringWords", name := "flare", desc := "(II)I" } : Jvm.MethodName)) ∈ lw_good := lw_in (List.mem_of_getElem? (i := 742) (by decide +kernel)) (by decide +kernel)
theorem wd_743 : (Jvm.Cond.instanceMethod ({ cls := "FlaringWords", name := "flare", desc := "(II)I" } : Jvm.MethodName)) ∈ lw_good := lw_in (List.mem_of_getElem? (i := 743) (by decide +kernel)) (by decide +kernel)
theorem wd_744 : (Jvm.Cond.selects "FlaringWords" ({ cls := "FlaringWords", name := "flare", desc := "(II)I" } : Jvm.MethodName) ({ cls := "FlaringWords", name := "flare", desc := "(II)I" } : Jvm.MethodName)) ∈ lw_good := lw_in (List.mem_of_getElem? (i := 744) (by decide +kernel)) (by decide +kernel)
theorem wd_749 : (Jvm.Cond.methodLink "FlaringWordsLaw" (57 : Nat) ({ cls := "FlaringWords", name := "story", desc := "(II)I" } : Jvm.MethodName)) ∈ lw_good := lw_in (List.mem_of_getElem? (i := 749) (by decide +kernel)) (by decide +kernel)
theorem wd_750 : (Jvm.Cond.instanceMethod ({ cls := "FlaringWords", name := "story", desc := "(II)I" } : Jvm.MethodName)) ∈ lw_good := lw_in (List.mem_of_getElem? (i := 750) (by decide +kernel)) (by decide +kernel)
theorem wd_751 : (Jvm.Cond.selects "FlaringWords" ({ cls := "FlaringWords", name := "story", desc := "(II)I" } : Jvm.MethodName) ({ cls := "FlaringWords", name := "story", desc := "(II)I" } : Jvm.MethodName)) ∈ lw_good := lw_in (List.mem_of_getElem? (i := 751) (by decide +kernel)) (by decide +kernel)
theorem wd_762 : (Jvm.Cond.methodLink "FlaringWordsLaw" (61 : Nat) ({ cls := "FlaringWords", name := "together", desc := "(II)I" } : Jvm.MethodName)) ∈ lw_good := lw_in (List.mem_of_getElem? (i := 762) (by decide +kernel)) (by decide +kernel)
theorem wd_763 : (Jvm.Cond.instanceMethod ({ cls := "FlaringWords", name := "together", desc := "(II)I" } : Jvm.MethodName)) ∈ lw_good := lw_in (List.mem_of_getElem? (i := 763) (by decide +kernel)) (by decide +kernel)
theorem wd_764 : (Jvm.Cond.selects "FlaringWords" ({ cls := "FlaringWords", name := "together", desc := "(II)I" } : Jvm.MethodName) ({ cls := "FlaringWords", name := "together", desc := "(II)I" } : Jvm.MethodName)) ∈ lw_good := lw_in (List.mem_of_getElem? (i := 764) (by decide +kernel)) (by decide +kernel)
theorem wd_768 : (Jvm.Cond.methodLink "FlaringWordsLaw" (65 : Nat) ({ cls := "FlaringWords", name := "piece", desc := "(II)I" } : Jvm.MethodName)) ∈ lw_good := lw_in (List.mem_of_getElem? (i := 768) (by decide +kernel)) (by decide +kernel)
theorem wd_769 : (Jvm.Cond.instanceMethod ({ cls := "FlaringWords", name := "piece", desc := "(II)I" } : Jvm.MethodName)) ∈ lw_good := lw_in (List.mem_of_getElem? (i := 769) (by decide +kernel)) (by decide +kernel)
theorem wd_770 : (Jvm.Cond.selects "FlaringWords" ({ cls := "FlaringWords", name := "piece", desc := "(II)I" } : Jvm.MethodName) ({ cls := "FlaringWords", name := "piece", desc := "(II)I" } : Jvm.MethodName)) ∈ lw_good := lw_in (List.mem_of_getElem? (i := 770) (by decide +kernel)) (by decide +kernel)
theorem wd_777 : (Jvm.Cond.methodLink "FlaringWordsLaw" (69 : Nat) ({ cls := "FlaringWords", name := "take", desc := "(I)I" } : Jvm.MethodName)) ∈ lw_good := lw_in (List.mem_of_getElem? (i := 777) (by decide +kernel)) (by decide +kernel)
theorem wd_778 : (Jvm.Cond.instanceMethod ({ cls := "FlaringWords", name := "take", desc := "(I)I" } : Jvm.MethodName)) ∈ lw_good := lw_in (List.mem_of_getElem? (i := 778) (by decide +kernel)) (by decide +kernel)
theorem wd_779 : (Jvm.Cond.selects "FlaringWords" ({ cls := "FlaringWords", name := "take", desc := "(I)I" } : Jvm.MethodName) ({ cls := "FlaringWords", name := "take", desc := "(I)I" } : Jvm.MethodName)) ∈ lw_good := lw_in (List.mem_of_getElem? (i := 779) (by decide +kernel)) (by decide +kernel)
theorem wd_785 : (Jvm.Cond.methodLink "FlaringWordsLaw" (73 : Nat) ({ cls := "FlaringWords", name := "move", desc := "(II)I" } : Jvm.MethodName)) ∈ lw_good := lw_in (List.mem_of_getElem? (i := 785) (by decide +kernel)) (by decide +kernel)
theorem wd_786 : (Jvm.Cond.instanceMethod ({ cls := "FlaringWords", name := "move", desc := "(II)I" } : Jvm.MethodName)) ∈ lw_good := lw_in (List.mem_of_getElem? (i := 786) (by decide +kernel)) (by decide +kernel)
theorem wd_787 : (Jvm.Cond.selects "FlaringWords" ({ cls := "FlaringWords", name := "move", desc := "(II)I" } : Jvm.MethodName) ({ cls := "FlaringWords", name := "move", desc := "(II)I" } : Jvm.MethodName)) ∈ lw_good := lw_in (List.mem_of_getElem? (i := 787) (by decide +kernel)) (by decide +kernel)
theorem wd_793 : (Jvm.Cond.methodLink "FlaringWordsLaw" (77 : Nat) ({ cls := "FlaringWords", name := "days", desc := "(I)I" } : Jvm.MethodName)) ∈ lw_good := lw_in (List.mem_of_getElem? (i := 793) (by decide +kernel)) (by decide +kernel)
theorem wd_794 : (Jvm.Cond.instanceMethod ({ cls := "FlaringWords", name := "days", desc := "(I)I" } : Jvm.MethodName)) ∈ lw_good := lw_in (List.mem_of_getElem? (i := 794) (by decide +kernel)) (by decide +kernel)
theorem wd_795 : (Jvm.Cond.selects "FlaringWords" ({ cls := "FlaringWords", name := "days", desc := "(I)I" } : Jvm.MethodName) ({ cls := "FlaringWords", name := "days", desc := "(I)I" } : Jvm.MethodName)) ∈ lw_good := lw_in (List.mem_of_getElem? (i := 795) (by decide +kernel)) (by decide +kernel)
theorem wd_808 : (Jvm.Cond.methodLink "FlaringWordsLaw" (81 : Nat) ({ cls := "FlaringWords", name := "term", desc := "(II)I" } : Jvm.MethodName)) ∈ lw_good := lw_in (List.mem_of_getElem? (i := 808) (by decide +kernel)) (by decide +kernel)
theorem wd_809 : (Jvm.Cond.instanceMethod ({ cls := "FlaringWords", name := "term", desc := "(II)I" } : Jvm.MethodName)) ∈ lw_good := lw_in (List.mem_of_getElem? (i := 809) (by decide +kernel)) (by decide +kernel)
theorem wd_810 : (Jvm.Cond.selects "FlaringWords" ({ cls := "FlaringWords", name := "term", desc := "(II)I" } : Jvm.MethodName) ({ cls := "FlaringWords", name := "term", desc := "(II)I" } : Jvm.MethodName)) ∈ lw_good := lw_in (List.mem_of_getElem? (i := 810) (by decide +kernel)) (by decide +kernel)
theorem wd_832 : (Jvm.Cond.methodLink "FlaringWordsLaw" (85 : Nat) ({ cls := "FlaringWords", name := "drift", desc := "(I)I" } : Jvm.MethodName)) ∈ lw_good := lw_in (List.mem_of_getElem? (i := 832) (by decide +kernel)) (by decide +kernel)
theorem wd_833 : (Jvm.Cond.instanceMethod ({ cls := "FlaringWords", name := "drift", desc := "(I)I" } : Jvm.MethodName)) ∈ lw_good := lw_in (List.mem_of_getElem? (i := 833) (by decide +kernel)) (by decide +kernel)
theorem wd_834 : (Jvm.Cond.selects "FlaringWords" ({ cls := "FlaringWords", name := "drift", desc := "(I)I" } : Jvm.MethodName) ({ cls := "FlaringWords", name := "drift", desc := "(I)I" } : Jvm.MethodName)) ∈ lw_good := lw_in (List.mem_of_getElem? (i := 834) (by decide +kernel)) (by decide +kernel)
theorem wd_844 : (Jvm.Cond.methodLink "FlaringWordsLaw" (89 : Nat) ({ cls := "FlaringWords", name := "undo", desc := "(I)I" } : Jvm.MethodName)) ∈ lw_good := lw_in (List.mem_of_getElem? (i := 844) (by decide +kernel)) (by decide +kernel)
theorem wd_845 : (Jvm.Cond.instanceMethod ({ cls := "FlaringWords", name := "undo", desc := "(I)I" } : Jvm.MethodName)) ∈ lw_good := lw_in (List.mem_of_getElem? (i := 845) (by decide +kernel)) (by decide +kernel)
theorem wd_846 : (Jvm.Cond.selects "FlaringWords" ({ cls := "FlaringWords", name := "undo", desc := "(I)I" } : Jvm.MethodName) ({ cls := "FlaringWords", name := "undo", desc := "(I)I" } : Jvm.MethodName)) ∈ lw_good := lw_in (List.mem_of_getElem? (i := 846) (by decide +kernel)) (by decide +kernel)
theorem wd_852 : (Jvm.Cond.methodLink "FlaringWordsLaw" (93 : Nat) ({ cls := "FlaringWords", name := "write", desc := "(III)I" } : Jvm.MethodName)) ∈ lw_good := lw_in (List.mem_of_getElem? (i := 852) (by decide +kernel)) (by decide +kernel)
theorem wd_853 : (Jvm.Cond.instanceMethod ({ cls := "FlaringWords", name := "write", desc := "(III)I" } : Jvm.MethodName)) ∈ lw_good := lw_in (List.mem_of_getElem? (i := 853) (by decide +kernel)) (by decide +kernel)
theorem wd_854 : (Jvm.Cond.selects "FlaringWords" ({ cls := "FlaringWords", name := "write", desc := "(III)I" } : Jvm.MethodName) ({ cls := "FlaringWords", name := "write", desc := "(III)I" } : Jvm.MethodName)) ∈ lw_good := lw_in (List.mem_of_getElem? (i := 854) (by decide +kernel)) (by decide +kernel)
theorem wd_865 : (Jvm.Cond.methodLink "FlaringWordsLaw" (97 : Nat) ({ cls := "FlaringWords", name := "tear", desc := "()I" } : Jvm.MethodName)) ∈ lw_good := lw_in (List.mem_of_getElem? (i := 865) (by decide +kernel)) (by decide +kernel)
theorem wd_866 : (Jvm.Cond.instanceMethod ({ cls := "FlaringWords", name := "tear", desc := "()I" } : Jvm.MethodName)) ∈ lw_good := lw_in (List.mem_of_getElem? (i := 866) (by decide +kernel)) (by decide +kernel)
theorem wd_867 : (Jvm.Cond.selects "FlaringWords" ({ cls := "FlaringWords", name := "tear", desc := "()I" } : Jvm.MethodName) ({ cls := "FlaringWords", name := "tear", desc := "()I" } : Jvm.MethodName)) ∈ lw_good := lw_in (List.mem_of_getElem? (i := 867) (by decide +kernel)) (by decide +kernel)
theorem wd_873 : (Jvm.Cond.methodLink "FlaringWordsLaw" (101 : Nat) ({ cls := "FlaringWords", name := "seed", desc := "(I)I" } : Jvm.MethodName)) ∈ lw_good := lw_in (List.mem_of_getElem? (i := 873) (by decide +kernel)) (by decide +kernel)
theorem wd_874 : (Jvm.Cond.instanceMethod ({ cls := "FlaringWords", name := "seed", desc := "(I)I" } : Jvm.MethodName)) ∈ lw_good := lw_in (List.mem_of_getElem? (i := 874) (by decide +kernel)) (by decide +kernel)
theorem wd_875 : (Jvm.Cond.selects "FlaringWords" ({ cls := "FlaringWords", name := "seed", desc := "(I)I" } : Jvm.MethodName) ({ cls := "FlaringWords", name := "seed", desc := "(I)I" } : Jvm.MethodName)) ∈ lw_good := lw_in (List.mem_of_getElem? (i := 875) (by decide +kernel)) (by decide +kernel)
theorem wd_877 : (Jvm.Cond.methodLink "FlaringWordsLaw" (105 : Nat) ({ cls := "FlaringWords", name := "keep", desc := "(I)I" } : Jvm.MethodName)) ∈ lw_good := lw_in (List.mem_of_getElem? (i := 877) (by decide +kernel)) (by decide +kernel)
theorem wd_878 : (Jvm.Cond.instanceMethod ({ cls := "FlaringWords", name := "keep", desc := "(I)I" } : Jvm.MethodName)) ∈ lw_good := lw_in (List.mem_of_getElem? (i := 878) (by decide +kernel)) (by decide +kernel)
theorem wd_879 : (Jvm.Cond.selects "FlaringWords" ({ cls := "FlaringWords", name := "keep", desc := "(I)I" } : Jvm.MethodName) ({ cls := "FlaringWords", name := "keep", desc := "(I)I" } : Jvm.MethodName)) ∈ lw_good := lw_in (List.mem_of_getElem? (i := 879) (by decide +kernel)) (by decide +kernel)
theorem wd_894 : (Jvm.Cond.methodLink "FlaringWordsLaw" (109 : Nat) ({ cls := "FlaringWords", name := "goBack", desc := "(I)I" } : Jvm.MethodName)) ∈ lw_good := lw_in (List.mem_of_getElem? (i := 894) (by decide +kernel)) (by decide +kernel)
theorem wd_895 : (Jvm.Cond.instanceMethod ({ cls := "FlaringWords", name := "goBack", desc := "(I)I" } : Jvm.MethodName)) ∈ lw_good := lw_in (List.mem_of_getElem? (i := 895) (by decide +kernel)) (by decide +kernel)
theorem wd_896 : (Jvm.Cond.selects "FlaringWords" ({ cls := "FlaringWords", name := "goBack", desc := "(I)I" } : Jvm.MethodName) ({ cls := "FlaringWords", name := "goBack", desc := "(I)I" } : Jvm.MethodName)) ∈ lw_good := lw_in (List.mem_of_getElem? (i := 896) (by decide +kernel)) (by decide +kernel)
theorem wd_990 : (Jvm.Cond.methodLink "FlaringWordsLaw" (17 : Nat) ({ cls := "FlaringWordsModel", name := "feed", desc := "(I)I" } : Jvm.MethodName)) ∈ lw_good := lw_in (List.mem_of_getElem? (i := 990) (by decide +kernel)) (by decide +kernel)
theorem wd_991 : (Jvm.Cond.instanceMethod ({ cls := "FlaringWordsModel", name := "feed", desc := "(I)I" } : Jvm.MethodName)) ∈ lw_good := lw_in (List.mem_of_getElem? (i := 991) (by decide +kernel)) (by decide +kernel)
theorem wd_992 : (Jvm.Cond.selects "FlaringWordsModel" ({ cls := "FlaringWordsModel", name := "feed", desc := "(I)I" } : Jvm.MethodName) ({ cls := "FlaringWordsModel", name := "feed", desc := "(I)I" } : Jvm.MethodName)) ∈ lw_good := lw_in (List.mem_of_getElem? (i := 992) (by decide +kernel)) (by decide +kernel)
theorem wd_1000 : (Jvm.Cond.methodLink "FlaringWordsLaw" (22 : Nat) ({ cls := "FlaringWordsModel", name := "pieces", desc := "()I" } : Jvm.MethodName)) ∈ lw_good := lw_in (List.mem_of_getElem? (i := 1000) (by decide +kernel)) (by decide +kernel)
theorem wd_1001 : (Jvm.Cond.instanceMethod ({ cls := "FlaringWordsModel", name := "pieces", desc := "()I" } : Jvm.MethodName)) ∈ lw_good := lw_in (List.mem_of_getElem? (i := 1001) (by decide +kernel)) (by decide +kernel)
theorem wd_1002 : (Jvm.Cond.selects "FlaringWordsModel" ({ cls := "FlaringWordsModel", name := "pieces", desc := "()I" } : Jvm.MethodName) ({ cls := "FlaringWordsModel", name := "pieces", desc := "()I" } : Jvm.MethodName)) ∈ lw_good := lw_in (List.mem_of_getElem? (i := 1002) (by decide +kernel)) (by decide +kernel)
theorem wd_1039 : (Jvm.Cond.methodLink "FlaringWordsLaw" (26 : Nat) ({ cls := "FlaringWordsModel", name := "fault", desc := "()I" } : Jvm.MethodName)) ∈ lw_good := lw_in (List.mem_of_getElem? (i := 1039) (by decide +kernel)) (by decide +kernel)
theorem wd_1040 : (Jvm.Cond.instanceMethod ({ cls := "FlaringWordsModel", name := "fault", desc := "()I" } : Jvm.MethodName)) ∈ lw_good := lw_in (List.mem_of_getElem? (i := 1040) (by decide +kernel)) (by decide +kernel)
theorem wd_1041 : (Jvm.Cond.selects "FlaringWordsModel" ({ cls := "FlaringWordsModel", name := "fault", desc := "()I" } : Jvm.MethodName) ({ cls := "FlaringWordsModel", name := "fault", desc := "()I" } : Jvm.MethodName)) ∈ lw_good := lw_in (List.mem_of_getElem? (i := 1041) (by decide +kernel)) (by decide +kernel)
theorem wd_1043 : (Jvm.Cond.methodLink "FlaringWordsLaw" (30 : Nat) ({ cls := "FlaringWordsModel", name := "told", desc := "(I)I" } : Jvm.MethodName)) ∈ lw_good := lw_in (List.mem_of_getElem? (i := 1043) (by decide +kernel)) (by decide +kernel)
theorem wd_1044 : (Jvm.Cond.instanceMethod ({ cls := "FlaringWordsModel", name := "told", desc := "(I)I" } : Jvm.MethodName)) ∈ lw_good := lw_in (List.mem_of_getElem? (i := 1044) (by decide +kernel)) (by decide +kernel)
theorem wd_1045 : (Jvm.Cond.selects "FlaringWordsModel" ({ cls := "FlaringWordsModel", name := "told", desc := "(I)I" } : Jvm.MethodName) ({ cls := "FlaringWordsModel", name := "told", desc := "(I)I" } : Jvm.MethodName)) ∈ lw_good := lw_in (List.mem_of_getElem? (i := 1045) (by decide +kernel)) (by decide +kernel)
theorem wd_1119 : (Jvm.Cond.methodLink "FlaringWordsLaw" (35 : Nat) ({ cls := "FlaringWordsModel", name := "at", desc := "(II)I" } : Jvm.MethodName)) ∈ lw_good := lw_in (List.mem_of_getElem? (i := 1119) (by decide +kernel)) (by decide +kernel)
theorem wd_1120 : (Jvm.Cond.instanceMethod ({ cls := "FlaringWordsModel", name := "at", desc := "(II)I" } : Jvm.MethodName)) ∈ lw_good := lw_in (List.mem_of_getElem? (i := 1120) (by decide +kernel)) (by decide +kernel)
theorem wd_1121 : (Jvm.Cond.selects "FlaringWordsModel" ({ cls := "FlaringWordsModel", name := "at", desc := "(II)I" } : Jvm.MethodName) ({ cls := "FlaringWordsModel", name := "at", desc := "(II)I" } : Jvm.MethodName)) ∈ lw_good := lw_in (List.mem_of_getElem? (i := 1121) (by decide +kernel)) (by decide +kernel)
theorem wd_1128 : (Jvm.Cond.methodLink "FlaringWordsLaw" (39 : Nat) ({ cls := "FlaringWordsModel", name := "day", desc := "(II)I" } : Jvm.MethodName)) ∈ lw_good := lw_in (List.mem_of_getElem? (i := 1128) (by decide +kernel)) (by decide +kernel)
theorem wd_1129 : (Jvm.Cond.instanceMethod ({ cls := "FlaringWordsModel", name := "day", desc := "(II)I" } : Jvm.MethodName)) ∈ lw_good := lw_in (List.mem_of_getElem? (i := 1129) (by decide +kernel)) (by decide +kernel)
theorem wd_1130 : (Jvm.Cond.selects "FlaringWordsModel" ({ cls := "FlaringWordsModel", name := "day", desc := "(II)I" } : Jvm.MethodName) ({ cls := "FlaringWordsModel", name := "day", desc := "(II)I" } : Jvm.MethodName)) ∈ lw_good := lw_in (List.mem_of_getElem? (i := 1130) (by decide +kernel)) (by decide +kernel)
theorem wd_1140 : (Jvm.Cond.methodLink "FlaringWordsLaw" (44 : Nat) ({ cls := "FlaringWordsModel", name := "word", desc := "(III)I" } : Jvm.MethodName)) ∈ lw_good := lw_in (List.mem_of_getElem? (i := 1140) (by decide +kernel)) (by decide +kernel)
theorem wd_1141 : (Jvm.Cond.instanceMethod ({ cls := "FlaringWordsModel", name := "word", desc := "(III)I" } : Jvm.MethodName)) ∈ lw_good := lw_in (List.mem_of_getElem? (i := 1141) (by decide +kernel)) (by decide +kernel)
theorem wd_1142 : (Jvm.Cond.selects "FlaringWordsModel" ({ cls := "FlaringWordsModel", name := "word", desc := "(III)I" } : Jvm.MethodName) ({ cls := "FlaringWordsModel", name := "word", desc := "(III)I" } : Jvm.MethodName)) ∈ lw_good := lw_in (List.mem_of_getElem? (i := 1142) (by decide +kernel)) (by decide +kernel)
theorem wd_1148 : (Jvm.Cond.methodLink "FlaringWordsLaw" (48 : Nat) ({ cls := "FlaringWordsModel", name := "cost", desc := "(I)I" } : Jvm.MethodName)) ∈ lw_good := lw_in (List.mem_of_getElem? (i := 1148) (by decide +kernel)) (by decide +kernel)
theorem wd_1149 : (Jvm.Cond.instanceMethod ({ cls := "FlaringWordsModel", name := "cost", desc := "(I)I" } : Jvm.MethodName)) ∈ lw_good := lw_in (List.mem_of_getElem? (i := 1149) (by decide +kernel)) (by decide +kernel)
theorem wd_1150 : (Jvm.Cond.selects "FlaringWordsModel" ({ cls := "FlaringWordsModel", name := "cost", desc := "(I)I" } : Jvm.MethodName) ({ cls := "FlaringWordsModel", name := "cost", desc := "(I)I" } : Jvm.MethodName)) ∈ lw_good := lw_in (List.mem_of_getElem? (i := 1150) (by decide +kernel)) (by decide +kernel)
theorem wd_1152 : (Jvm.Cond.methodLink "FlaringWordsLaw" (52 : Nat) ({ cls := "FlaringWordsModel", name := "steady", desc := "(II)I" } : Jvm.MethodName)) ∈ lw_good := lw_in (List.mem_of_getElem? (i := 1152) (by decide +kernel)) (by decide +kernel)
theorem wd_1153 : (Jvm.Cond.instanceMethod ({ cls := "FlaringWordsModel", name := "steady", desc := "(II)I" } : Jvm.MethodName)) ∈ lw_good := lw_in (List.mem_of_getElem? (i := 1153) (by decide +kernel)) (by decide +kernel)
theorem wd_1154 : (Jvm.Cond.selects "FlaringWordsModel" ({ cls := "FlaringWordsModel", name := "steady", desc := "(II)I" } : Jvm.MethodName) ({ cls := "FlaringWordsModel", name := "steady", desc := "(II)I" } : Jvm.MethodName)) ∈ lw_good := lw_in (List.mem_of_getElem? (i := 1154) (by decide +kernel)) (by decide +kernel)
theorem wd_1156 : (Jvm.Cond.methodLink "FlaringWordsLaw" (56 : Nat) ({ cls := "FlaringWordsModel", name := "flare", desc := "(II)I" } : Jvm.MethodName)) ∈ lw_good := lw_in (List.mem_of_getElem? (i := 1156) (by decide +kernel)) (by decide +kernel)
theorem wd_1157 : (Jvm.Cond.instanceMethod ({ cls := "FlaringWordsModel", name := "flare", desc := "(II)I" } : Jvm.MethodName)) ∈ lw_good := lw_in (List.mem_of_getElem? (i := 1157) (by decide +kernel)) (by decide +kernel)
theorem wd_1158 : (Jvm.Cond.selects "FlaringWordsModel" ({ cls := "FlaringWordsModel", name := "flare", desc := "(II)I" } : Jvm.MethodName) ({ cls := "FlaringWordsModel", name := "flare", desc := "(II)I" } : Jvm.MethodName)) ∈ lw_good := lw_in (List.mem_of_getElem? (i := 1158) (by decide +kernel)) (by decide +kernel)
theorem wd_1176 : (Jvm.Cond.methodLink "FlaringWordsLaw" (60 : Nat) ({ cls := "FlaringWordsModel", name := "story", desc := "(II)I" } : Jvm.MethodName)) ∈ lw_good := lw_in (List.mem_of_getElem? (i := 1176) (by decide +kernel)) (by decide +kernel)
theorem wd_1177 : (Jvm.Cond.instanceMethod ({ cls := "FlaringWordsModel", name := "story", desc := "(II)I" } : Jvm.MethodName)) ∈ lw_good := lw_in (List.mem_of_getElem? (i := 1177) (by decide +kernel)) (by decide +kernel)
theorem wd_1178 : (Jvm.Cond.selects "FlaringWordsModel" ({ cls := "FlaringWordsModel", name := "story", desc := "(II)I" } : Jvm.MethodName) ({ cls := "FlaringWordsModel", name := "story", desc := "(II)I" } : Jvm.MethodName)) ∈ lw_good := lw_in (List.mem_of_getElem? (i := 1178) (by decide +kernel)) (by decide +kernel)
theorem wd_1180 : (Jvm.Cond.methodLink "FlaringWordsLaw" (64 : Nat) ({ cls := "FlaringWordsModel", name := "together", desc := "(II)I" } : Jvm.MethodName)) ∈ lw_good := lw_in (List.mem_of_getElem? (i := 1180) (by decide +kernel)) (by decide +kernel)
theorem wd_1181 : (Jvm.Cond.instanceMethod ({ cls := "FlaringWordsModel", name := "together", desc := "(II)I" } : Jvm.MethodName)) ∈ lw_good := lw_in (List.mem_of_getElem? (i := 1181) (by decide +kernel)) (by decide +kernel)
theorem wd_1182 : (Jvm.Cond.selects "FlaringWordsModel" ({ cls := "FlaringWordsModel", name := "together", desc := "(II)I" } : Jvm.MethodName) ({ cls := "FlaringWordsModel", name := "together", desc := "(II)I" } : Jvm.MethodName)) ∈ lw_good := lw_in (List.mem_of_getElem? (i := 1182) (by decide +kernel)) (by decide +kernel)
theorem wd_1184 : (Jvm.Cond.methodLink "FlaringWordsLaw" (68 : Nat) ({ cls := "FlaringWordsModel", name := "piece", desc := "(II)I" } : Jvm.MethodName)) ∈ lw_good := lw_in (List.mem_of_getElem? (i := 1184) (by decide +kernel)) (by decide +kernel)
theorem wd_1185 : (Jvm.Cond.instanceMethod ({ cls := "FlaringWordsModel", name := "piece", desc := "(II)I" } : Jvm.MethodName)) ∈ lw_good := lw_in (List.mem_of_getElem? (i := 1185) (by decide +kernel)) (by decide +kernel)
theorem wd_1186 : (Jvm.Cond.selects "FlaringWordsModel" ({ cls := "FlaringWordsModel", name := "piece", desc := "(II)I" } : Jvm.MethodName) ({ cls := "FlaringWordsModel", name := "piece", desc := "(II)I" } : Jvm.MethodName)) ∈ lw_good := lw_in (List.mem_of_getElem? (i := 1186) (by decide +kernel)) (by decide +kernel)
theorem wd_1188 : (Jvm.Cond.methodLink "FlaringWordsLaw" (72 : Nat) ({ cls := "FlaringWordsModel", name := "take", desc := "(I)I" } : Jvm.MethodName)) ∈ lw_good := lw_in (List.mem_of_getElem? (i := 1188) (by decide +kernel)) (by decide +kernel)
theorem wd_1189 : (Jvm.Cond.instanceMethod ({ cls := "FlaringWordsModel", name := "take", desc := "(I)I" } : Jvm.MethodName)) ∈ lw_good := lw_in (List.mem_of_getElem? (i := 1189) (by decide +kernel)) (by decide +kernel)
theorem wd_1190 : (Jvm.Cond.selects "FlaringWordsModel" ({ cls := "FlaringWordsModel", name := "take", desc := "(I)I" } : Jvm.MethodName) ({ cls := "FlaringWordsModel", name := "take", desc := "(I)I" } : Jvm.MethodName)) ∈ lw_good := lw_in (List.mem_of_getElem? (i := 1190) (by decide +kernel)) (by decide +kernel)
theorem wd_1192 : (Jvm.Cond.methodLink "FlaringWordsLaw" (76 : Nat) ({ cls := "FlaringWordsModel", name := "move", desc := "(II)I" } : Jvm.MethodName)) ∈ lw_good := lw_in (List.mem_of_getElem? (i := 1192) (by decide +kernel)) (by decide +kernel)
theorem wd_1193 : (Jvm.Cond.instanceMethod ({ cls := "FlaringWordsModel", name := "move", desc := "(II)I" } : Jvm.MethodName)) ∈ lw_good := lw_in (List.mem_of_getElem? (i := 1193) (by decide +kernel)) (by decide +kernel)
theorem wd_1194 : (Jvm.Cond.selects "FlaringWordsModel" ({ cls := "FlaringWordsModel", name := "move", desc := "(II)I" } : Jvm.MethodName) ({ cls := "FlaringWordsModel", name := "move", desc := "(II)I" } : Jvm.MethodName)) ∈ lw_good := lw_in (List.mem_of_getElem? (i := 1194) (by decide +kernel)) (by decide +kernel)
theorem wd_1196 : (Jvm.Cond.methodLink "FlaringWordsLaw" (80 : Nat) ({ cls := "FlaringWordsModel", name := "days", desc := "(I)I" } : Jvm.MethodName)) ∈ lw_good := lw_in (List.mem_of_getElem? (i := 1196) (by decide +kernel)) (by decide +kernel)
theorem wd_1197 : (Jvm.Cond.instanceMethod ({ cls := "FlaringWordsModel", name := "days", desc := "(I)I" } : Jvm.MethodName)) ∈ lw_good := lw_in (List.mem_of_getElem? (i := 1197) (by decide +kernel)) (by decide +kernel)
theorem wd_1198 : (Jvm.Cond.selects "FlaringWordsModel" ({ cls := "FlaringWordsModel", name := "days", desc := "(I)I" } : Jvm.MethodName) ({ cls := "FlaringWordsModel", name := "days", desc := "(I)I" } : Jvm.MethodName)) ∈ lw_good := lw_in (List.mem_of_getElem? (i := 1198) (by decide +kernel)) (by decide +kernel)
theorem wd_1202 : (Jvm.Cond.methodLink "FlaringWordsLaw" (84 : Nat) ({ cls := "FlaringWordsModel", name := "term", desc := "(II)I" } : Jvm.MethodName)) ∈ lw_good := lw_in (List.mem_of_getElem? (i := 1202) (by decide +kernel)) (by decide +kernel)
theorem wd_1203 : (Jvm.Cond.instanceMethod ({ cls := "FlaringWordsModel", name := "term", desc := "(II)I" } : Jvm.MethodName)) ∈ lw_good := lw_in (List.mem_of_getElem? (i := 1203) (by decide +kernel)) (by decide +kernel)
theorem wd_1204 : (Jvm.Cond.selects "FlaringWordsModel" ({ cls := "FlaringWordsModel", name := "term", desc := "(II)I" } : Jvm.MethodName) ({ cls := "FlaringWordsModel", name := "term", desc := "(II)I" } : Jvm.MethodName)) ∈ lw_good := lw_in (List.mem_of_getElem? (i := 1204) (by decide +kernel)) (by decide +kernel)
theorem wd_1209 : (Jvm.Cond.methodLink "FlaringWordsLaw" (88 : Nat) ({ cls := "FlaringWordsModel", name := "drift", desc := "(I)I" } : Jvm.MethodName)) ∈ lw_good := lw_in (List.mem_of_getElem? (i := 1209) (by decide +kernel)) (by decide +kernel)
theorem wd_1210 : (Jvm.Cond.instanceMethod ({ cls := "FlaringWordsModel", name := "drift", desc := "(I)I" } : Jvm.MethodName)) ∈ lw_good := lw_in (List.mem_of_getElem? (i := 1210) (by decide +kernel)) (by decide +kernel)
theorem wd_1211 : (Jvm.Cond.selects "FlaringWordsModel" ({ cls := "FlaringWordsModel", name := "drift", desc := "(I)I" } : Jvm.MethodName) ({ cls := "FlaringWordsModel", name := "drift", desc := "(I)I" } : Jvm.MethodName)) ∈ lw_good := lw_in (List.mem_of_getElem? (i := 1211) (by decide +kernel)) (by decide +kernel)
theorem wd_1221 : (Jvm.Cond.methodLink "FlaringWordsLaw" (92 : Nat) ({ cls := "FlaringWordsModel", name := "undo", desc := "(I)I" } : Jvm.MethodName)) ∈ lw_good := lw_in (List.mem_of_getElem? (i := 1221) (by decide +kernel)) (by decide +kernel)
theorem wd_1222 : (Jvm.Cond.instanceMethod ({ cls := "FlaringWordsModel", name := "undo", desc := "(I)I" } : Jvm.MethodName)) ∈ lw_good := lw_in (List.mem_of_getElem? (i := 1222) (by decide +kernel)) (by decide +kernel)
theorem wd_1223 : (Jvm.Cond.selects "FlaringWordsModel" ({ cls := "FlaringWordsModel", name := "undo", desc := "(I)I" } : Jvm.MethodName) ({ cls := "FlaringWordsModel", name := "undo", desc := "(I)I" } : Jvm.MethodName)) ∈ lw_good := lw_in (List.mem_of_getElem? (i := 1223) (by decide +kernel)) (by decide +kernel)
theorem wd_1226 : (Jvm.Cond.methodLink "FlaringWordsLaw" (96 : Nat) ({ cls := "FlaringWordsModel", name := "write", desc := "(III)I" } : Jvm.MethodName)) ∈ lw_good := lw_in (List.mem_of_getElem? (i := 1226) (by decide +kernel)) (by decide +kernel)
theorem wd_1227 : (Jvm.Cond.instanceMethod ({ cls := "FlaringWordsModel", name := "write", desc := "(III)I" } : Jvm.MethodName)) ∈ lw_good := lw_in (List.mem_of_getElem? (i := 1227) (by decide +kernel)) (by decide +kernel)
theorem wd_1228 : (Jvm.Cond.selects "FlaringWordsModel" ({ cls := "FlaringWordsModel", name := "write", desc := "(III)I" } : Jvm.MethodName) ({ cls := "FlaringWordsModel", name := "write", desc := "(III)I" } : Jvm.MethodName)) ∈ lw_good := lw_in (List.mem_of_getElem? (i := 1228) (by decide +kernel)) (by decide +kernel)
theorem wd_1230 : (Jvm.Cond.methodLink "FlaringWordsLaw" (100 : Nat) ({ cls := "FlaringWordsModel", name := "tear", desc := "()I" } : Jvm.MethodName)) ∈ lw_good := lw_in (List.mem_of_getElem? (i := 1230) (by decide +kernel)) (by decide +kernel)
theorem wd_1231 : (Jvm.Cond.instanceMethod ({ cls := "FlaringWordsModel", name := "tear", desc := "()I" } : Jvm.MethodName)) ∈ lw_good := lw_in (List.mem_of_getElem? (i := 1231) (by decide +kernel)) (by decide +kernel)
theorem wd_1232 : (Jvm.Cond.selects "FlaringWordsModel" ({ cls := "FlaringWordsModel", name := "tear", desc := "()I" } : Jvm.MethodName) ({ cls := "FlaringWordsModel", name := "tear", desc := "()I" } : Jvm.MethodName)) ∈ lw_good := lw_in (List.mem_of_getElem? (i := 1232) (by decide +kernel)) (by decide +kernel)
theorem wd_1234 : (Jvm.Cond.methodLink "FlaringWordsLaw" (104 : Nat) ({ cls := "FlaringWordsModel", name := "seed", desc := "(I)I" } : Jvm.MethodName)) ∈ lw_good := lw_in (List.mem_of_getElem? (i := 1234) (by decide +kernel)) (by decide +kernel)
theorem wd_1235 : (Jvm.Cond.instanceMethod ({ cls := "FlaringWordsModel", name := "seed", desc := "(I)I" } : Jvm.MethodName)) ∈ lw_good := lw_in (List.mem_of_getElem? (i := 1235) (by decide +kernel)) (by decide +kernel)
theorem wd_1236 : (Jvm.Cond.selects "FlaringWordsModel" ({ cls := "FlaringWordsModel", name := "seed", desc := "(I)I" } : Jvm.MethodName) ({ cls := "FlaringWordsModel", name := "seed", desc := "(I)I" } : Jvm.MethodName)) ∈ lw_good := lw_in (List.mem_of_getElem? (i := 1236) (by decide +kernel)) (by decide +kernel)
theorem wd_1238 : (Jvm.Cond.methodLink "FlaringWordsLaw" (108 : Nat) ({ cls := "FlaringWordsModel", name := "keep", desc := "(I)I" } : Jvm.MethodName)) ∈ lw_good := lw_in (List.mem_of_getElem? (i := 1238) (by decide +kernel)) (by decide +kernel)
theorem wd_1239 : (Jvm.Cond.instanceMethod ({ cls := "FlaringWordsModel", name := "keep", desc := "(I)I" } : Jvm.MethodName)) ∈ lw_good := lw_in (List.mem_of_getElem? (i := 1239) (by decide +kernel)) (by decide +kernel)
theorem wd_1240 : (Jvm.Cond.selects "FlaringWordsModel" ({ cls := "FlaringWordsModel", name := "keep", desc := "(I)I" } : Jvm.MethodName) ({ cls := "FlaringWordsModel", name := "keep", desc := "(I)I" } : Jvm.MethodName)) ∈ lw_good := lw_in (List.mem_of_getElem? (i := 1240) (by decide +kernel)) (by decide +kernel)
theorem wd_1242 : (Jvm.Cond.methodLink "FlaringWordsLaw" (112 : Nat) ({ cls := "FlaringWordsModel", name := "goBack", desc := "(I)I" } : Jvm.MethodName)) ∈ lw_good := lw_in (List.mem_of_getElem? (i := 1242) (by decide +kernel)) (by decide +kernel)
theorem wd_1243 : (Jvm.Cond.instanceMethod ({ cls := "FlaringWordsModel", name := "goBack", desc := "(I)I" } : Jvm.MethodName)) ∈ lw_good := lw_in (List.mem_of_getElem? (i := 1243) (by decide +kernel)) (by decide +kernel)
theorem wd_1244 : (Jvm.Cond.selects "FlaringWordsModel" ({ cls := "FlaringWordsModel", name := "goBack", desc := "(I)I" } : Jvm.MethodName) ({ cls := "FlaringWordsModel", name := "goBack", desc := "(I)I" } : Jvm.MethodName)) ∈ lw_good := lw_in (List.mem_of_getElem? (i := 1244) (by decide +kernel)) (by decide +kernel)

/-! ===== once all is made: the memory as it stands ===== -/
def S0 : Mm := (cm_168.2.2.1, fun j => (cm_168.2.2.2 73 j).getD 0)
set_option maxRecDepth 1000000 in
theorem st0_kd : ∀ k, k < 169 → cm_168.2.1 k = KD k := by decide +kernel
set_option maxRecDepth 1000000 in
theorem st0_R : ∀ k, k < 169 → ((KD k).1 = 12 ∨ ∀ j, j < (KD k).2 → cm_168.2.2.2 k j = RFP S0.2 k j) := by decide +kernel
theorem arrV_cong {c : ClassId} {n : Nat} {f f' : Nat → Value} (h : ∀ j, j < n → f j = f' j) : arrV c n f = arrV c n f' := by
  unfold arrV
  congr 2
  funext j
  exact h j.val j.isLt
theorem hold0 {g : Gd} {B : Nat} {H : Heap} (h : va_P g.1 cls (wsOf g B cm_168) H) : va_P g.1 cls (wsOf g B (St S0)) H := by
  intro k q hk
  obtain ⟨hl, rfl⟩ := wsOf_got hk
  have hl : k < 169 := hl
  have h1 := h k _ (wsOf_get (by rw [cn_168]; exact hl))
  have e1 := st0_kd k hl
  have e2 := st0_R k hl
  have e3 : (St S0).2.1 k = KD k := rfl
  generalize hkd : KD k = d at e1 e2 e3
  obtain ⟨t, n⟩ := d
  by_cases ht : t < 12
  · rw [cellE_o e1 ht] at h1
    rw [cellE_o e3 ht]
    have e4 : (List.range n).map (slV B (St S0) t k) = (List.range n).map (slV B cm_168 t k) := by
      refine List.map_congr_left fun j hj => ?_
      have hj := List.mem_range.mp hj
      rcases e2 with e2 | e2
      · exact absurd e2 (by show ¬ t = 12; omega)
      · have e5 := e2 j hj
        unfold slV
        rw [e5]
        rfl
    rw [e4]
    exact h1
  · by_cases ht2 : t = 12
    · subst ht2
      rw [cellE_i e1] at h1
      rw [cellE_i e3]
      exact h1
    · have h12 : 12 < t := by omega
      rw [cellE_q e1 h12] at h1
      rw [cellE_q e3 h12]
      have h1 : H[B + k]? = some (vp_cell _ _) := h1
      show H[B + k]? = some (vp_cell _ _)
      rw [h1, vp_cell_q, vp_cell_q]
      congr 1
      refine arrV_cong fun j hj => ?_
      rcases e2 with e2 | e2
      · exact absurd e2 ht2
      · rw [e2 j hj]
        rfl
/-! ===== the law's walk ===== -/
/-- at pc of the law, i ints read, over the memory S: the law comes to its end with 1 -/
def LW (Ln : Nat) (xs : Nat → Int32) (pc i : Nat) (st : List Value) (S : Mm) : Prop :=
  ∀ (p : Program) (l : Launch) (e : Env) (s : State) (m : MethodId) (below : List Frame) (meth : Method) (c : Code) (b : Nat) (g : Gd) (H : Heap) (locs : List Loc) (ls : Array Slot),
    lw_At p s m meth c b Ln xs → va_K g.1 cls (tysOf g) s → Stc g s.heap.size s s.heap → va_P g.1 cls (wsOf g s.heap.size (St S)) H → va_S (fun q => s.heap.size ≤ q) s.heap H locs → lv_has ls 4 [(0, .ref b), (1, .ref (s.heap.size + 0)), (2, .ref (s.heap.size + 153)), (3, .int (nI i))] →
    W p l e room_1 s m #[Value.ref b] below meth c H locs 169 6677 (lw_Z below #[Value.ref b] s) (F0 m pc ls (st.map (sh s.heap.size)))
section LWS
variable {Ln : Nat} {xs : Nat → Int32} {pc i : Nat} {st : List Value} {S S' : Mm}
theorem lk_x (hd : decode code pc = .ok (.aload_n 1, 1)) (kk : LW Ln xs (pc + 1) i (.ref 0 :: st) S) : LW Ln xs pc i st S :=
  fun p l e s m below meth c b g H locs ls C hK hSt hP hS hl => lv_aload_n C.1 C.2.1 hd rfl (lv_at hl 1 rfl) (kk p l e s m below meth c b g H locs ls C hK hSt hP hS hl)
theorem lk_m (hd : decode code pc = .ok (.aload_n 2, 1)) (kk : LW Ln xs (pc + 1) i (.ref 153 :: st) S) : LW Ln xs pc i st S :=
  fun p l e s m below meth c b g H locs ls C hK hSt hP hS hl => lv_aload_n C.1 C.2.1 hd rfl (lv_at hl 2 rfl) (kk p l e s m below meth c b g H locs ls C hK hSt hP hS hl)
theorem lk_arg {k : Nat} {z : Int} (hd0 : decode code pc = .ok (.aload_n 0, 1)) (hd1 : decode code (pc + 1) = .ok (.iload_n 3, 1)) (hd2 : decode code (pc + 1 + 1) = .ok (.iconst z, 1)) (hd3 : decode code (pc + 1 + 1 + 1) = .ok (.iadd, 1)) (hd4 : decode code (pc + 1 + 1 + 1 + 1) = .ok (.iaload, 1)) (hz : Int32.ofInt z = nI k) (hi : i + k < Ln) (hL : Ln ≤ 2048)
    (kk : LW Ln xs (pc + 1 + 1 + 1 + 1 + 1) i (.int (xs (i + k)) :: st) S) : LW Ln xs pc i st S := by
  intro p l e s m below meth c b g H locs ls C hK hSt hP hS hl
  have hbA : ¬ (fun q : Nat => s.heap.size ≤ q) b := Nat.not_le.mpr C.2.2.2.2.2.2.2.1
  refine lv_aload_n C.1 C.2.1 hd0 rfl (lv_at hl 0 rfl) ?_
  refine lv_iload_n C.1 C.2.1 hd1 rfl (lv_at hl 3 rfl) ?_
  refine lv_iconst (v := nI k) C.1 C.2.1 hd2 hz ?_
  refine lv_iadd C.1 C.2.1 hd3 ?_
  rw [nI_add]
  refine va_sld C.1 C.2.1 C.2.2.2.2.2.2.1 C.2.2.2.2.2.2.2.1 hbA hS (vp_in_nI hi (by omega)) hd4 ?_
  rw [nI_clamp (by omega)]
  exact kk p l e s m below meth c b g H locs ls C hK hSt hP hS hl
theorem lk_V {D2 : Md} {idx ci n o : Nat} {as : List Value} {r : Option Value} (hd : decode code pc = .ok (.invokevirtual idx, 3)) (hC : CV RL D2 idx ci n) (hn : as.length = n) (hp : PO o ci) (hst : (st.map fun v => v.category).sum ≤ 8) (hR : (D2.2.2.2.2.1.frames + 1 ≤ 12 ∧ 8 + (D2.2.2.1 + 11) + D2.2.2.2.2.1.locals ≤ 482) ∧ D2.2.2.2.2.1.cells = 0 ∧ D2.2.2.2.2.1.slots = 0) (hc : Rs D2 (.ref o :: as) S r S') (kk : LW Ln xs (pc + 3) i (r.toList ++ st) S') : LW Ln xs pc i (as.reverse ++ .ref o :: st) S := by
  intro p l e s m below meth c b g H locs ls C hK hSt hP hS hl
  refine W_sz (M := St S) (show s.heap.size + 169 = s.heap.size + 169 from rfl) hP (show 0 < 169 by decide) fun hz => ?_
  obtain ⟨hCd, hw1, hw2, hw3, Cn, T, Nc, hCl, hCn⟩ := hC
  obtain ⟨hx, hb, hr, hml, hown, hts, hX, hbl, hlocks, hgv⟩ := id C
  have htg : ∀ w ∈ lw_good, w.before #[Value.ref b] s = true := fun w hw => hts w (List.mem_filter.mp hw).1
  obtain ⟨h1, N, h2⟩ := hp
  rw [map_rev]
  refine ok_after (M := St S) (va_runV (own := RL) (Ts := lw_good) (C := D2.1.cls) (g := F0 m pc ls ((as.map (sh s.heap.size)).reverse ++ sh s.heap.size (.ref o) :: st.map (sh s.heap.size))) (As := as.map (sh s.heap.size)) (b := s.heap.size + o) ⟨hx, hb, hml, hown, htg⟩ (hc l g s.heap.size) ⟨callB_of (Ts := lw_good) n htg hCd.goodIn rfl hR.2.1 hR.2.2 (htg _ hCd.2.1) (htg _ hw1) hCd.2.2 hR.1, htg _ hw2, htg _ hw3⟩ ⟨Hold.blind, ?_, fun U hU hW => ⟨rfl, va_K.moved hW.alike hK, hSt.moved hW (fun a h8 h9 => by rw [hU]; exact hS.2.1 a h8 h9), by rw [hU]; exact hz, by rw [hU]; exact hP⟩⟩ rfl (by rw [List.length_map]; exact hn) hl.1 rfl (lv_room (by rw [cat_sum]; exact hst)) hd ⟨Nat.le_of_ble_eq_true rfl, Nat.le_of_ble_eq_true rfl⟩) hz hS (fun r' M' H1 locs1 hp' hz1 hP1 hS1 => ?_)
  · rw [← hCn]
    exact va_recv (q := (Cn, T, Nc)) hK hP hCl.1 ((wsOf_get h1).trans (by rw [cellE_o h2 hCl.2.1]))
  · obtain ⟨rfl, rfl⟩ := hp'
    have h9 := kk p l e s m below meth c b g H1 locs1 ls C hK hSt hP1 hS1 hl
    cases r' with
    | none => exact h9
    | some v => exact h9
theorem lk_eq {r : Int32} (hd : decode code pc = .ok (.if_icmp .eq (796 - pc), 3)) (kk : LW Ln xs 796 i st S) : LW Ln xs pc i (.int r :: .int r :: st) S :=
  fun p l e s m below meth c b g H locs ls C hK hSt hP hS hl => lv_icmp_eq (tgt := 796) C.1 C.2.1 hd (by omega) (fun _ => kk p l e s m below meth c b g H locs ls C hK hSt hP hS hl) (fun h => absurd rfl h)
/-- the calls of one kind answer alike, and Inv stays -/
def Op (Inv : Mm → Prop) (fx fm : Mm → Option (Int32 × Mm)) : Prop := ∀ S, Inv S → ∃ r S1 S2, fx S = some (r, S1) ∧ fm S1 = some (r, S2) ∧ Inv S2
abbrev pu (f : Mm → Option Int32) : Mm → Option (Int32 × Mm) := fun S => (f S).map fun r => (r, S)
theorem pu_some {f : Mm → Option Int32} {S S1 : Mm} {r : Int32} (h : pu f S = some (r, S1)) : f S = some r ∧ S1 = S := by
  obtain ⟨r', h1, h2⟩ := Option.map_eq_some_iff.mp h
  cases h2
  exact ⟨h1, rfl⟩
end LWS
theorem cv_L_13 : CV RL D_X10_feed 13 10 1 := ⟨cd_X10_feed, wd_327, wd_328, wd_329, RX10, TX10, 9, cl_10, rfl⟩
theorem cv_L_17 : CV RL D_X11_feed 17 11 1 := ⟨cd_X11_feed, wd_990, wd_991, wd_992, RX11, TX11, 24, cl_11, rfl⟩
theorem cv_L_18 : CV RL D_X10_pieces 18 10 0 := ⟨cd_X10_pieces, wd_346, wd_347, wd_348, RX10, TX10, 9, cl_10, rfl⟩
theorem cv_L_22 : CV RL D_X11_pieces 22 11 0 := ⟨cd_X11_pieces, wd_1000, wd_1001, wd_1002, RX11, TX11, 24, cl_11, rfl⟩
theorem cv_L_23 : CV RL D_X10_fault 23 10 0 := ⟨cd_X10_fault, wd_438, wd_439, wd_440, RX10, TX10, 9, cl_10, rfl⟩
theorem cv_L_26 : CV RL D_X11_fault 26 11 0 := ⟨cd_X11_fault, wd_1039, wd_1040, wd_1041, RX11, TX11, 24, cl_11, rfl⟩
theorem cv_L_27 : CV RL D_X10_told 27 10 1 := ⟨cd_X10_told, wd_442, wd_443, wd_444, RX10, TX10, 9, cl_10, rfl⟩
theorem cv_L_30 : CV RL D_X11_told 30 11 1 := ⟨cd_X11_told, wd_1043, wd_1044, wd_1045, RX11, TX11, 24, cl_11, rfl⟩
theorem cv_L_31 : CV RL D_X10_at 31 10 2 := ⟨cd_X10_at, wd_680, wd_681, wd_682, RX10, TX10, 9, cl_10, rfl⟩
theorem cv_L_35 : CV RL D_X11_at 35 11 2 := ⟨cd_X11_at, wd_1119, wd_1120, wd_1121, RX11, TX11, 24, cl_11, rfl⟩
theorem cv_L_36 : CV RL D_X10_day 36 10 2 := ⟨cd_X10_day, wd_688, wd_689, wd_690, RX10, TX10, 9, cl_10, rfl⟩
theorem cv_L_39 : CV RL D_X11_day 39 11 2 := ⟨cd_X11_day, wd_1128, wd_1129, wd_1130, RX11, TX11, 24, cl_11, rfl⟩
theorem cv_L_40 : CV RL D_X10_word 40 10 3 := ⟨cd_X10_word, wd_712, wd_713, wd_714, RX10, TX10, 9, cl_10, rfl⟩
theorem cv_L_44 : CV RL D_X11_word 44 11 3 := ⟨cd_X11_word, wd_1140, wd_1141, wd_1142, RX11, TX11, 24, cl_11, rfl⟩
theorem cv_L_45 : CV RL D_X10_cost 45 10 1 := ⟨cd_X10_cost, wd_724, wd_725, wd_726, RX10, TX10, 9, cl_10, rfl⟩
theorem cv_L_48 : CV RL D_X11_cost 48 11 1 := ⟨cd_X11_cost, wd_1148, wd_1149, wd_1150, RX11, TX11, 24, cl_11, rfl⟩
theorem cv_L_49 : CV RL D_X10_steady 49 10 2 := ⟨cd_X10_steady, wd_732, wd_733, wd_734, RX10, TX10, 9, cl_10, rfl⟩
theorem cv_L_52 : CV RL D_X11_steady 52 11 2 := ⟨cd_X11_steady, wd_1152, wd_1153, wd_1154, RX11, TX11, 24, cl_11, rfl⟩
theorem cv_L_53 : CV RL D_X10_flare 53 10 2 := ⟨cd_X10_flare, wd_742, wd_743, wd_744, RX10, TX10, 9, cl_10, rfl⟩
theorem cv_L_56 : CV RL D_X11_flare 56 11 2 := ⟨cd_X11_flare, wd_1156, wd_1157, wd_1158, RX11, TX11, 24, cl_11, rfl⟩
theorem cv_L_57 : CV RL D_X10_story 57 10 2 := ⟨cd_X10_story, wd_749, wd_750, wd_751, RX10, TX10, 9, cl_10, rfl⟩
theorem cv_L_60 : CV RL D_X11_story 60 11 2 := ⟨cd_X11_story, wd_1176, wd_1177, wd_1178, RX11, TX11, 24, cl_11, rfl⟩
theorem cv_L_61 : CV RL D_X10_together 61 10 2 := ⟨cd_X10_together, wd_762, wd_763, wd_764, RX10, TX10, 9, cl_10, rfl⟩
theorem cv_L_64 : CV RL D_X11_together 64 11 2 := ⟨cd_X11_together, wd_1180, wd_1181, wd_1182, RX11, TX11, 24, cl_11, rfl⟩
theorem cv_L_65 : CV RL D_X10_piece 65 10 2 := ⟨cd_X10_piece, wd_768, wd_769, wd_770, RX10, TX10, 9, cl_10, rfl⟩
theorem cv_L_68 : CV RL D_X11_piece 68 11 2 := ⟨cd_X11_piece, wd_1184, wd_1185, wd_1186, RX11, TX11, 24, cl_11, rfl⟩
theorem cv_L_69 : CV RL D_X10_take 69 10 1 := ⟨cd_X10_take, wd_777, wd_778, wd_779, RX10, TX10, 9, cl_10, rfl⟩
theorem cv_L_72 : CV RL D_X11_take 72 11 1 := ⟨cd_X11_take, wd_1188, wd_1189, wd_1190, RX11, TX11, 24, cl_11, rfl⟩
theorem cv_L_73 : CV RL D_X10_move 73 10 2 := ⟨cd_X10_move, wd_785, wd_786, wd_787, RX10, TX10, 9, cl_10, rfl⟩
theorem cv_L_76 : CV RL D_X11_move 76 11 2 := ⟨cd_X11_move, wd_1192, wd_1193, wd_1194, RX11, TX11, 24, cl_11, rfl⟩
theorem cv_L_77 : CV RL D_X10_days 77 10 1 := ⟨cd_X10_days, wd_793, wd_794, wd_795, RX10, TX10, 9, cl_10, rfl⟩
theorem cv_L_80 : CV RL D_X11_days 80 11 1 := ⟨cd_X11_days, wd_1196, wd_1197, wd_1198, RX11, TX11, 24, cl_11, rfl⟩
theorem cv_L_81 : CV RL D_X10_term 81 10 2 := ⟨cd_X10_term, wd_808, wd_809, wd_810, RX10, TX10, 9, cl_10, rfl⟩
theorem cv_L_84 : CV RL D_X11_term 84 11 2 := ⟨cd_X11_term, wd_1202, wd_1203, wd_1204, RX11, TX11, 24, cl_11, rfl⟩
theorem cv_L_85 : CV RL D_X10_drift 85 10 1 := ⟨cd_X10_drift, wd_832, wd_833, wd_834, RX10, TX10, 9, cl_10, rfl⟩
theorem cv_L_88 : CV RL D_X11_drift 88 11 1 := ⟨cd_X11_drift, wd_1209, wd_1210, wd_1211, RX11, TX11, 24, cl_11, rfl⟩
theorem cv_L_89 : CV RL D_X10_undo 89 10 1 := ⟨cd_X10_undo, wd_844, wd_845, wd_846, RX10, TX10, 9, cl_10, rfl⟩
theorem cv_L_92 : CV RL D_X11_undo 92 11 1 := ⟨cd_X11_undo, wd_1221, wd_1222, wd_1223, RX11, TX11, 24, cl_11, rfl⟩
theorem cv_L_93 : CV RL D_X10_write 93 10 3 := ⟨cd_X10_write, wd_852, wd_853, wd_854, RX10, TX10, 9, cl_10, rfl⟩
theorem cv_L_96 : CV RL D_X11_write 96 11 3 := ⟨cd_X11_write, wd_1226, wd_1227, wd_1228, RX11, TX11, 24, cl_11, rfl⟩
theorem cv_L_97 : CV RL D_X10_tear 97 10 0 := ⟨cd_X10_tear, wd_865, wd_866, wd_867, RX10, TX10, 9, cl_10, rfl⟩
theorem cv_L_100 : CV RL D_X11_tear 100 11 0 := ⟨cd_X11_tear, wd_1230, wd_1231, wd_1232, RX11, TX11, 24, cl_11, rfl⟩
theorem cv_L_101 : CV RL D_X10_seed 101 10 1 := ⟨cd_X10_seed, wd_873, wd_874, wd_875, RX10, TX10, 9, cl_10, rfl⟩
theorem cv_L_104 : CV RL D_X11_seed 104 11 1 := ⟨cd_X11_seed, wd_1234, wd_1235, wd_1236, RX11, TX11, 24, cl_11, rfl⟩
theorem cv_L_105 : CV RL D_X10_keep 105 10 1 := ⟨cd_X10_keep, wd_877, wd_878, wd_879, RX10, TX10, 9, cl_10, rfl⟩
theorem cv_L_108 : CV RL D_X11_keep 108 11 1 := ⟨cd_X11_keep, wd_1238, wd_1239, wd_1240, RX11, TX11, 24, cl_11, rfl⟩
theorem cv_L_109 : CV RL D_X10_goBack 109 10 1 := ⟨cd_X10_goBack, wd_894, wd_895, wd_896, RX10, TX10, 9, cl_10, rfl⟩
theorem cv_L_112 : CV RL D_X11_goBack 112 11 1 := ⟨cd_X11_goBack, wd_1242, wd_1243, wd_1244, RX11, TX11, 24, cl_11, rfl⟩
set_option maxRecDepth 100000 in
set_option maxHeartbeats 4000000 in
theorem case_0 {Inv : Mm → Prop} {Ln : Nat} {xs : Nat → Int32} {i : Nat} {S : Mm} (hL : Ln ≤ 2048) (hi : i + 4 ≤ Ln) (hop : ∀ (a1 : Int32), Op Inv (fun S => f_X10_feed S a1) (fun S => f_X11_feed S a1)) (hI : Inv S) (next : ∀ S2, Inv S2 → LW Ln xs 796 i [] S2) : LW Ln xs 144 i [] S := by
  obtain ⟨r, S1, S2, e1, e2, hI2⟩ := hop (xs (i + 1)) S hI
  refine lk_x dL_law_144 ?_
  refine lk_arg (k := 1) dL_law_145 dL_law_146 dL_law_147 dL_law_148 dL_law_149 (by decide) (by omega) hL ?_
  refine lk_V (as := [.int (xs (i + 1))]) (st := []) (r := some (.int r)) (S' := _) dL_law_150 cv_L_13 rfl po_0 (Nat.le_of_ble_eq_true rfl) ⟨⟨by decide, by decide⟩, rfl, rfl⟩ (t_X10_feed e1) ?_
  show LW Ln xs 153 i [.int r] _
  refine lk_m dL_law_153 ?_
  refine lk_arg (k := 1) dL_law_154 dL_law_155 dL_law_156 dL_law_157 dL_law_158 (by decide) (by omega) hL ?_
  refine lk_V (as := [.int (xs (i + 1))]) (st := [.int r]) (r := some (.int r)) (S' := _) dL_law_159 cv_L_17 rfl po_153 (Nat.le_of_ble_eq_true rfl) ⟨⟨by decide, by decide⟩, rfl, rfl⟩ (t_X11_feed e2) ?_
  show LW Ln xs 162 i [.int r, .int r] _
  refine lk_eq dL_law_162 ?_
  exact next _ hI2
set_option maxRecDepth 100000 in
set_option maxHeartbeats 4000000 in
theorem case_1 {Inv : Mm → Prop} {Ln : Nat} {xs : Nat → Int32} {i : Nat} {S : Mm} (hL : Ln ≤ 2048) (hi : i + 4 ≤ Ln) (hop : Op Inv (fun S => f_X10_pieces S) (fun S => f_X11_pieces S)) (hI : Inv S) (next : ∀ S2, Inv S2 → LW Ln xs 796 i [] S2) : LW Ln xs 167 i [] S := by
  obtain ⟨r, S1, S2, e1, e2, hI2⟩ := hop  S hI
  refine lk_x dL_law_167 ?_
  refine lk_V (as := []) (st := []) (r := some (.int r)) (S' := _) dL_law_168 cv_L_18 rfl po_0 (Nat.le_of_ble_eq_true rfl) ⟨⟨by decide, by decide⟩, rfl, rfl⟩ (t_X10_pieces e1) ?_
  show LW Ln xs 171 i [.int r] _
  refine lk_m dL_law_171 ?_
  refine lk_V (as := []) (st := [.int r]) (r := some (.int r)) (S' := _) dL_law_172 cv_L_22 rfl po_153 (Nat.le_of_ble_eq_true rfl) ⟨⟨by decide, by decide⟩, rfl, rfl⟩ (t_X11_pieces e2) ?_
  show LW Ln xs 175 i [.int r, .int r] _
  refine lk_eq dL_law_175 ?_
  exact next _ hI2
set_option maxRecDepth 100000 in
set_option maxHeartbeats 4000000 in
theorem case_2 {Inv : Mm → Prop} {Ln : Nat} {xs : Nat → Int32} {i : Nat} {S : Mm} (hL : Ln ≤ 2048) (hi : i + 4 ≤ Ln) (hop : Op Inv (pu fun S => f_X10_fault S) (pu fun S => f_X11_fault S)) (hI : Inv S) (next : ∀ S2, Inv S2 → LW Ln xs 796 i [] S2) : LW Ln xs 180 i [] S := by
  obtain ⟨r, S1, S2, e1, e2, hI2⟩ := hop  S hI
  obtain ⟨e1, rfl⟩ := pu_some e1
  obtain ⟨e2, rfl⟩ := pu_some e2
  refine lk_x dL_law_180 ?_
  refine lk_V (as := []) (st := []) (r := some (.int r)) (S' := _) dL_law_181 cv_L_23 rfl po_0 (Nat.le_of_ble_eq_true rfl) ⟨⟨by decide, by decide⟩, rfl, rfl⟩ (t_X10_fault e1) ?_
  show LW Ln xs 184 i [.int r] _
  refine lk_m dL_law_184 ?_
  refine lk_V (as := []) (st := [.int r]) (r := some (.int r)) (S' := _) dL_law_185 cv_L_26 rfl po_153 (Nat.le_of_ble_eq_true rfl) ⟨⟨by decide, by decide⟩, rfl, rfl⟩ (t_X11_fault e2) ?_
  show LW Ln xs 188 i [.int r, .int r] _
  refine lk_eq dL_law_188 ?_
  exact next _ hI2
set_option maxRecDepth 100000 in
set_option maxHeartbeats 4000000 in
theorem case_3 {Inv : Mm → Prop} {Ln : Nat} {xs : Nat → Int32} {i : Nat} {S : Mm} (hL : Ln ≤ 2048) (hi : i + 4 ≤ Ln) (hop : ∀ (a1 : Int32), Op Inv (fun S => f_X10_told S a1) (fun S => f_X11_told S a1)) (hI : Inv S) (next : ∀ S2, Inv S2 → LW Ln xs 796 i [] S2) : LW Ln xs 193 i [] S := by
  obtain ⟨r, S1, S2, e1, e2, hI2⟩ := hop (xs (i + 1)) S hI
  refine lk_x dL_law_193 ?_
  refine lk_arg (k := 1) dL_law_194 dL_law_195 dL_law_196 dL_law_197 dL_law_198 (by decide) (by omega) hL ?_
  refine lk_V (as := [.int (xs (i + 1))]) (st := []) (r := some (.int r)) (S' := _) dL_law_199 cv_L_27 rfl po_0 (Nat.le_of_ble_eq_true rfl) ⟨⟨by decide, by decide⟩, rfl, rfl⟩ (t_X10_told e1) ?_
  show LW Ln xs 202 i [.int r] _
  refine lk_m dL_law_202 ?_
  refine lk_arg (k := 1) dL_law_203 dL_law_204 dL_law_205 dL_law_206 dL_law_207 (by decide) (by omega) hL ?_
  refine lk_V (as := [.int (xs (i + 1))]) (st := [.int r]) (r := some (.int r)) (S' := _) dL_law_208 cv_L_30 rfl po_153 (Nat.le_of_ble_eq_true rfl) ⟨⟨by decide, by decide⟩, rfl, rfl⟩ (t_X11_told e2) ?_
  show LW Ln xs 211 i [.int r, .int r] _
  refine lk_eq dL_law_211 ?_
  exact next _ hI2
set_option maxRecDepth 100000 in
set_option maxHeartbeats 4000000 in
theorem case_4 {Inv : Mm → Prop} {Ln : Nat} {xs : Nat → Int32} {i : Nat} {S : Mm} (hL : Ln ≤ 2048) (hi : i + 4 ≤ Ln) (hop : ∀ (a1 a2 : Int32), Op Inv (pu fun S => f_X10_at S a1 a2) (pu fun S => f_X11_at S a1 a2)) (hI : Inv S) (next : ∀ S2, Inv S2 → LW Ln xs 796 i [] S2) : LW Ln xs 216 i [] S := by
  obtain ⟨r, S1, S2, e1, e2, hI2⟩ := hop (xs (i + 1)) (xs (i + 2)) S hI
  obtain ⟨e1, rfl⟩ := pu_some e1
  obtain ⟨e2, rfl⟩ := pu_some e2
  refine lk_x dL_law_216 ?_
  refine lk_arg (k := 1) dL_law_217 dL_law_218 dL_law_219 dL_law_220 dL_law_221 (by decide) (by omega) hL ?_
  refine lk_arg (k := 2) dL_law_222 dL_law_223 dL_law_224 dL_law_225 dL_law_226 (by decide) (by omega) hL ?_
  refine lk_V (as := [.int (xs (i + 1)), .int (xs (i + 2))]) (st := []) (r := some (.int r)) (S' := _) dL_law_227 cv_L_31 rfl po_0 (Nat.le_of_ble_eq_true rfl) ⟨⟨by decide, by decide⟩, rfl, rfl⟩ (t_X10_at e1) ?_
  show LW Ln xs 230 i [.int r] _
  refine lk_m dL_law_230 ?_
  refine lk_arg (k := 1) dL_law_231 dL_law_232 dL_law_233 dL_law_234 dL_law_235 (by decide) (by omega) hL ?_
  refine lk_arg (k := 2) dL_law_236 dL_law_237 dL_law_238 dL_law_239 dL_law_240 (by decide) (by omega) hL ?_
  refine lk_V (as := [.int (xs (i + 1)), .int (xs (i + 2))]) (st := [.int r]) (r := some (.int r)) (S' := _) dL_law_241 cv_L_35 rfl po_153 (Nat.le_of_ble_eq_true rfl) ⟨⟨by decide, by decide⟩, rfl, rfl⟩ (t_X11_at e2) ?_
  show LW Ln xs 244 i [.int r, .int r] _
  refine lk_eq dL_law_244 ?_
  exact next _ hI2
set_option maxRecDepth 100000 in
set_option maxHeartbeats 4000000 in
theorem case_5 {Inv : Mm → Prop} {Ln : Nat} {xs : Nat → Int32} {i : Nat} {S : Mm} (hL : Ln ≤ 2048) (hi : i + 4 ≤ Ln) (hop : ∀ (a1 a2 : Int32), Op Inv (fun S => f_X10_day S a1 a2) (fun S => f_X11_day S a1 a2)) (hI : Inv S) (next : ∀ S2, Inv S2 → LW Ln xs 796 i [] S2) : LW Ln xs 249 i [] S := by
  obtain ⟨r, S1, S2, e1, e2, hI2⟩ := hop (xs (i + 1)) (xs (i + 2)) S hI
  refine lk_x dL_law_249 ?_
  refine lk_arg (k := 1) dL_law_250 dL_law_251 dL_law_252 dL_law_253 dL_law_254 (by decide) (by omega) hL ?_
  refine lk_arg (k := 2) dL_law_255 dL_law_256 dL_law_257 dL_law_258 dL_law_259 (by decide) (by omega) hL ?_
  refine lk_V (as := [.int (xs (i + 1)), .int (xs (i + 2))]) (st := []) (r := some (.int r)) (S' := _) dL_law_260 cv_L_36 rfl po_0 (Nat.le_of_ble_eq_true rfl) ⟨⟨by decide, by decide⟩, rfl, rfl⟩ (t_X10_day e1) ?_
  show LW Ln xs 263 i [.int r] _
  refine lk_m dL_law_263 ?_
  refine lk_arg (k := 1) dL_law_264 dL_law_265 dL_law_266 dL_law_267 dL_law_268 (by decide) (by omega) hL ?_
  refine lk_arg (k := 2) dL_law_269 dL_law_270 dL_law_271 dL_law_272 dL_law_273 (by decide) (by omega) hL ?_
  refine lk_V (as := [.int (xs (i + 1)), .int (xs (i + 2))]) (st := [.int r]) (r := some (.int r)) (S' := _) dL_law_274 cv_L_39 rfl po_153 (Nat.le_of_ble_eq_true rfl) ⟨⟨by decide, by decide⟩, rfl, rfl⟩ (t_X11_day e2) ?_
  show LW Ln xs 277 i [.int r, .int r] _
  refine lk_eq dL_law_277 ?_
  exact next _ hI2
set_option maxRecDepth 100000 in
set_option maxHeartbeats 4000000 in
theorem case_6 {Inv : Mm → Prop} {Ln : Nat} {xs : Nat → Int32} {i : Nat} {S : Mm} (hL : Ln ≤ 2048) (hi : i + 4 ≤ Ln) (hop : ∀ (a1 a2 a3 : Int32), Op Inv (fun S => f_X10_word S a1 a2 a3) (fun S => f_X11_word S a1 a2 a3)) (hI : Inv S) (next : ∀ S2, Inv S2 → LW Ln xs 796 i [] S2) : LW Ln xs 282 i [] S := by
  obtain ⟨r, S1, S2, e1, e2, hI2⟩ := hop (xs (i + 1)) (xs (i + 2)) (xs (i + 3)) S hI
  refine lk_x dL_law_282 ?_
  refine lk_arg (k := 1) dL_law_283 dL_law_284 dL_law_285 dL_law_286 dL_law_287 (by decide) (by omega) hL ?_
  refine lk_arg (k := 2) dL_law_288 dL_law_289 dL_law_290 dL_law_291 dL_law_292 (by decide) (by omega) hL ?_
  refine lk_arg (k := 3) dL_law_293 dL_law_294 dL_law_295 dL_law_296 dL_law_297 (by decide) (by omega) hL ?_
  refine lk_V (as := [.int (xs (i + 1)), .int (xs (i + 2)), .int (xs (i + 3))]) (st := []) (r := some (.int r)) (S' := _) dL_law_298 cv_L_40 rfl po_0 (Nat.le_of_ble_eq_true rfl) ⟨⟨by decide, by decide⟩, rfl, rfl⟩ (t_X10_word e1) ?_
  show LW Ln xs 301 i [.int r] _
  refine lk_m dL_law_301 ?_
  refine lk_arg (k := 1) dL_law_302 dL_law_303 dL_law_304 dL_law_305 dL_law_306 (by decide) (by omega) hL ?_
  refine lk_arg (k := 2) dL_law_307 dL_law_308 dL_law_309 dL_law_310 dL_law_311 (by decide) (by omega) hL ?_
  refine lk_arg (k := 3) dL_law_312 dL_law_313 dL_law_314 dL_law_315 dL_law_316 (by decide) (by omega) hL ?_
  refine lk_V (as := [.int (xs (i + 1)), .int (xs (i + 2)), .int (xs (i + 3))]) (st := [.int r]) (r := some (.int r)) (S' := _) dL_law_317 cv_L_44 rfl po_153 (Nat.le_of_ble_eq_true rfl) ⟨⟨by decide, by decide⟩, rfl, rfl⟩ (t_X11_word e2) ?_
  show LW Ln xs 320 i [.int r, .int r] _
  refine lk_eq dL_law_320 ?_
  exact next _ hI2
set_option maxRecDepth 100000 in
set_option maxHeartbeats 4000000 in
theorem case_7 {Inv : Mm → Prop} {Ln : Nat} {xs : Nat → Int32} {i : Nat} {S : Mm} (hL : Ln ≤ 2048) (hi : i + 4 ≤ Ln) (hop : ∀ (a1 : Int32), Op Inv (fun S => f_X10_cost S a1) (fun S => f_X11_cost S a1)) (hI : Inv S) (next : ∀ S2, Inv S2 → LW Ln xs 796 i [] S2) : LW Ln xs 325 i [] S := by
  obtain ⟨r, S1, S2, e1, e2, hI2⟩ := hop (xs (i + 1)) S hI
  refine lk_x dL_law_325 ?_
  refine lk_arg (k := 1) dL_law_326 dL_law_327 dL_law_328 dL_law_329 dL_law_330 (by decide) (by omega) hL ?_
  refine lk_V (as := [.int (xs (i + 1))]) (st := []) (r := some (.int r)) (S' := _) dL_law_331 cv_L_45 rfl po_0 (Nat.le_of_ble_eq_true rfl) ⟨⟨by decide, by decide⟩, rfl, rfl⟩ (t_X10_cost e1) ?_
  show LW Ln xs 334 i [.int r] _
  refine lk_m dL_law_334 ?_
  refine lk_arg (k := 1) dL_law_335 dL_law_336 dL_law_337 dL_law_338 dL_law_339 (by decide) (by omega) hL ?_
  refine lk_V (as := [.int (xs (i + 1))]) (st := [.int r]) (r := some (.int r)) (S' := _) dL_law_340 cv_L_48 rfl po_153 (Nat.le_of_ble_eq_true rfl) ⟨⟨by decide, by decide⟩, rfl, rfl⟩ (t_X11_cost e2) ?_
  show LW Ln xs 343 i [.int r, .int r] _
  refine lk_eq dL_law_343 ?_
  exact next _ hI2
set_option maxRecDepth 100000 in
set_option maxHeartbeats 4000000 in
theorem case_8 {Inv : Mm → Prop} {Ln : Nat} {xs : Nat → Int32} {i : Nat} {S : Mm} (hL : Ln ≤ 2048) (hi : i + 4 ≤ Ln) (hop : ∀ (a1 a2 : Int32), Op Inv (fun S => f_X10_steady S a1 a2) (pu fun S => f_X11_steady S a1 a2)) (hI : Inv S) (next : ∀ S2, Inv S2 → LW Ln xs 796 i [] S2) : LW Ln xs 348 i [] S := by
  obtain ⟨r, S1, S2, e1, e2, hI2⟩ := hop (xs (i + 1)) (xs (i + 2)) S hI
  obtain ⟨e2, rfl⟩ := pu_some e2
  refine lk_x dL_law_348 ?_
  refine lk_arg (k := 1) dL_law_349 dL_law_350 dL_law_351 dL_law_352 dL_law_353 (by decide) (by omega) hL ?_
  refine lk_arg (k := 2) dL_law_354 dL_law_355 dL_law_356 dL_law_357 dL_law_358 (by decide) (by omega) hL ?_
  refine lk_V (as := [.int (xs (i + 1)), .int (xs (i + 2))]) (st := []) (r := some (.int r)) (S' := _) dL_law_359 cv_L_49 rfl po_0 (Nat.le_of_ble_eq_true rfl) ⟨⟨by decide, by decide⟩, rfl, rfl⟩ (t_X10_steady e1) ?_
  show LW Ln xs 362 i [.int r] _
  refine lk_m dL_law_362 ?_
  refine lk_arg (k := 1) dL_law_363 dL_law_364 dL_law_365 dL_law_366 dL_law_367 (by decide) (by omega) hL ?_
  refine lk_arg (k := 2) dL_law_368 dL_law_369 dL_law_370 dL_law_371 dL_law_372 (by decide) (by omega) hL ?_
  refine lk_V (as := [.int (xs (i + 1)), .int (xs (i + 2))]) (st := [.int r]) (r := some (.int r)) (S' := _) dL_law_373 cv_L_52 rfl po_153 (Nat.le_of_ble_eq_true rfl) ⟨⟨by decide, by decide⟩, rfl, rfl⟩ (t_X11_steady e2) ?_
  show LW Ln xs 376 i [.int r, .int r] _
  refine lk_eq dL_law_376 ?_
  exact next _ hI2
set_option maxRecDepth 100000 in
set_option maxHeartbeats 4000000 in
theorem case_9 {Inv : Mm → Prop} {Ln : Nat} {xs : Nat → Int32} {i : Nat} {S : Mm} (hL : Ln ≤ 2048) (hi : i + 4 ≤ Ln) (hop : ∀ (a1 a2 : Int32), Op Inv (fun S => f_X10_flare S a1 a2) (fun S => f_X11_flare S a1 a2)) (hI : Inv S) (next : ∀ S2, Inv S2 → LW Ln xs 796 i [] S2) : LW Ln xs 381 i [] S := by
  obtain ⟨r, S1, S2, e1, e2, hI2⟩ := hop (xs (i + 1)) (xs (i + 2)) S hI
  refine lk_x dL_law_381 ?_
  refine lk_arg (k := 1) dL_law_382 dL_law_383 dL_law_384 dL_law_385 dL_law_386 (by decide) (by omega) hL ?_
  refine lk_arg (k := 2) dL_law_387 dL_law_388 dL_law_389 dL_law_390 dL_law_391 (by decide) (by omega) hL ?_
  refine lk_V (as := [.int (xs (i + 1)), .int (xs (i + 2))]) (st := []) (r := some (.int r)) (S' := _) dL_law_392 cv_L_53 rfl po_0 (Nat.le_of_ble_eq_true rfl) ⟨⟨by decide, by decide⟩, rfl, rfl⟩ (t_X10_flare e1) ?_
  show LW Ln xs 395 i [.int r] _
  refine lk_m dL_law_395 ?_
  refine lk_arg (k := 1) dL_law_396 dL_law_397 dL_law_398 dL_law_399 dL_law_400 (by decide) (by omega) hL ?_
  refine lk_arg (k := 2) dL_law_401 dL_law_402 dL_law_403 dL_law_404 dL_law_405 (by decide) (by omega) hL ?_
  refine lk_V (as := [.int (xs (i + 1)), .int (xs (i + 2))]) (st := [.int r]) (r := some (.int r)) (S' := _) dL_law_406 cv_L_56 rfl po_153 (Nat.le_of_ble_eq_true rfl) ⟨⟨by decide, by decide⟩, rfl, rfl⟩ (t_X11_flare e2) ?_
  show LW Ln xs 409 i [.int r, .int r] _
  refine lk_eq dL_law_409 ?_
  exact next _ hI2
set_option maxRecDepth 100000 in
set_option maxHeartbeats 4000000 in
theorem case_10 {Inv : Mm → Prop} {Ln : Nat} {xs : Nat → Int32} {i : Nat} {S : Mm} (hL : Ln ≤ 2048) (hi : i + 4 ≤ Ln) (hop : ∀ (a1 a2 : Int32), Op Inv (fun S => f_X10_story S a1 a2) (fun S => f_X11_story S a1 a2)) (hI : Inv S) (next : ∀ S2, Inv S2 → LW Ln xs 796 i [] S2) : LW Ln xs 414 i [] S := by
  obtain ⟨r, S1, S2, e1, e2, hI2⟩ := hop (xs (i + 1)) (xs (i + 2)) S hI
  refine lk_x dL_law_414 ?_
  refine lk_arg (k := 1) dL_law_415 dL_law_416 dL_law_417 dL_law_418 dL_law_419 (by decide) (by omega) hL ?_
  refine lk_arg (k := 2) dL_law_420 dL_law_421 dL_law_422 dL_law_423 dL_law_424 (by decide) (by omega) hL ?_
  refine lk_V (as := [.int (xs (i + 1)), .int (xs (i + 2))]) (st := []) (r := some (.int r)) (S' := _) dL_law_425 cv_L_57 rfl po_0 (Nat.le_of_ble_eq_true rfl) ⟨⟨by decide, by decide⟩, rfl, rfl⟩ (t_X10_story e1) ?_
  show LW Ln xs 428 i [.int r] _
  refine lk_m dL_law_428 ?_
  refine lk_arg (k := 1) dL_law_429 dL_law_430 dL_law_431 dL_law_432 dL_law_433 (by decide) (by omega) hL ?_
  refine lk_arg (k := 2) dL_law_434 dL_law_435 dL_law_436 dL_law_437 dL_law_438 (by decide) (by omega) hL ?_
  refine lk_V (as := [.int (xs (i + 1)), .int (xs (i + 2))]) (st := [.int r]) (r := some (.int r)) (S' := _) dL_law_439 cv_L_60 rfl po_153 (Nat.le_of_ble_eq_true rfl) ⟨⟨by decide, by decide⟩, rfl, rfl⟩ (t_X11_story e2) ?_
  show LW Ln xs 442 i [.int r, .int r] _
  refine lk_eq dL_law_442 ?_
  exact next _ hI2
set_option maxRecDepth 100000 in
set_option maxHeartbeats 4000000 in
theorem case_11 {Inv : Mm → Prop} {Ln : Nat} {xs : Nat → Int32} {i : Nat} {S : Mm} (hL : Ln ≤ 2048) (hi : i + 4 ≤ Ln) (hop : ∀ (a1 a2 : Int32), Op Inv (pu fun S => f_X10_together S a1 a2) (pu fun S => f_X11_together S a1 a2)) (hI : Inv S) (next : ∀ S2, Inv S2 → LW Ln xs 796 i [] S2) : LW Ln xs 447 i [] S := by
  obtain ⟨r, S1, S2, e1, e2, hI2⟩ := hop (xs (i + 1)) (xs (i + 2)) S hI
  obtain ⟨e1, rfl⟩ := pu_some e1
  obtain ⟨e2, rfl⟩ := pu_some e2
  refine lk_x dL_law_447 ?_
  refine lk_arg (k := 1) dL_law_448 dL_law_449 dL_law_450 dL_law_451 dL_law_452 (by decide) (by omega) hL ?_
  refine lk_arg (k := 2) dL_law_453 dL_law_454 dL_law_455 dL_law_456 dL_law_457 (by decide) (by omega) hL ?_
  refine lk_V (as := [.int (xs (i + 1)), .int (xs (i + 2))]) (st := []) (r := some (.int r)) (S' := _) dL_law_458 cv_L_61 rfl po_0 (Nat.le_of_ble_eq_true rfl) ⟨⟨by decide, by decide⟩, rfl, rfl⟩ (t_X10_together e1) ?_
  show LW Ln xs 461 i [.int r] _
  refine lk_m dL_law_461 ?_
  refine lk_arg (k := 1) dL_law_462 dL_law_463 dL_law_464 dL_law_465 dL_law_466 (by decide) (by omega) hL ?_
  refine lk_arg (k := 2) dL_law_467 dL_law_468 dL_law_469 dL_law_470 dL_law_471 (by decide) (by omega) hL ?_
  refine lk_V (as := [.int (xs (i + 1)), .int (xs (i + 2))]) (st := [.int r]) (r := some (.int r)) (S' := _) dL_law_472 cv_L_64 rfl po_153 (Nat.le_of_ble_eq_true rfl) ⟨⟨by decide, by decide⟩, rfl, rfl⟩ (t_X11_together e2) ?_
  show LW Ln xs 475 i [.int r, .int r] _
  refine lk_eq dL_law_475 ?_
  exact next _ hI2
set_option maxRecDepth 100000 in
set_option maxHeartbeats 4000000 in
theorem case_12 {Inv : Mm → Prop} {Ln : Nat} {xs : Nat → Int32} {i : Nat} {S : Mm} (hL : Ln ≤ 2048) (hi : i + 4 ≤ Ln) (hop : ∀ (a1 a2 : Int32), Op Inv (fun S => f_X10_piece S a1 a2) (fun S => f_X11_piece S a1 a2)) (hI : Inv S) (next : ∀ S2, Inv S2 → LW Ln xs 796 i [] S2) : LW Ln xs 480 i [] S := by
  obtain ⟨r, S1, S2, e1, e2, hI2⟩ := hop (xs (i + 1)) (xs (i + 2)) S hI
  refine lk_x dL_law_480 ?_
  refine lk_arg (k := 1) dL_law_481 dL_law_482 dL_law_483 dL_law_484 dL_law_485 (by decide) (by omega) hL ?_
  refine lk_arg (k := 2) dL_law_486 dL_law_487 dL_law_488 dL_law_489 dL_law_490 (by decide) (by omega) hL ?_
  refine lk_V (as := [.int (xs (i + 1)), .int (xs (i + 2))]) (st := []) (r := some (.int r)) (S' := _) dL_law_491 cv_L_65 rfl po_0 (Nat.le_of_ble_eq_true rfl) ⟨⟨by decide, by decide⟩, rfl, rfl⟩ (t_X10_piece e1) ?_
  show LW Ln xs 494 i [.int r] _
  refine lk_m dL_law_494 ?_
  refine lk_arg (k := 1) dL_law_495 dL_law_496 dL_law_497 dL_law_498 dL_law_499 (by decide) (by omega) hL ?_
  refine lk_arg (k := 2) dL_law_500 dL_law_501 dL_law_502 dL_law_503 dL_law_504 (by decide) (by omega) hL ?_
  refine lk_V (as := [.int (xs (i + 1)), .int (xs (i + 2))]) (st := [.int r]) (r := some (.int r)) (S' := _) dL_law_505 cv_L_68 rfl po_153 (Nat.le_of_ble_eq_true rfl) ⟨⟨by decide, by decide⟩, rfl, rfl⟩ (t_X11_piece e2) ?_
  show LW Ln xs 508 i [.int r, .int r] _
  refine lk_eq dL_law_508 ?_
  exact next _ hI2
set_option maxRecDepth 100000 in
set_option maxHeartbeats 4000000 in
theorem case_13 {Inv : Mm → Prop} {Ln : Nat} {xs : Nat → Int32} {i : Nat} {S : Mm} (hL : Ln ≤ 2048) (hi : i + 4 ≤ Ln) (hop : ∀ (a1 : Int32), Op Inv (fun S => f_X10_take S a1) (fun S => f_X11_take S a1)) (hI : Inv S) (next : ∀ S2, Inv S2 → LW Ln xs 796 i [] S2) : LW Ln xs 513 i [] S := by
  obtain ⟨r, S1, S2, e1, e2, hI2⟩ := hop (xs (i + 1)) S hI
  refine lk_x dL_law_513 ?_
  refine lk_arg (k := 1) dL_law_514 dL_law_515 dL_law_516 dL_law_517 dL_law_518 (by decide) (by omega) hL ?_
  refine lk_V (as := [.int (xs (i + 1))]) (st := []) (r := some (.int r)) (S' := _) dL_law_519 cv_L_69 rfl po_0 (Nat.le_of_ble_eq_true rfl) ⟨⟨by decide, by decide⟩, rfl, rfl⟩ (t_X10_take e1) ?_
  show LW Ln xs 522 i [.int r] _
  refine lk_m dL_law_522 ?_
  refine lk_arg (k := 1) dL_law_523 dL_law_524 dL_law_525 dL_law_526 dL_law_527 (by decide) (by omega) hL ?_
  refine lk_V (as := [.int (xs (i + 1))]) (st := [.int r]) (r := some (.int r)) (S' := _) dL_law_528 cv_L_72 rfl po_153 (Nat.le_of_ble_eq_true rfl) ⟨⟨by decide, by decide⟩, rfl, rfl⟩ (t_X11_take e2) ?_
  show LW Ln xs 531 i [.int r, .int r] _
  refine lk_eq dL_law_531 ?_
  exact next _ hI2
set_option maxRecDepth 100000 in
set_option maxHeartbeats 4000000 in
theorem case_14 {Inv : Mm → Prop} {Ln : Nat} {xs : Nat → Int32} {i : Nat} {S : Mm} (hL : Ln ≤ 2048) (hi : i + 4 ≤ Ln) (hop : ∀ (a1 a2 : Int32), Op Inv (fun S => f_X10_move S a1 a2) (fun S => f_X11_move S a1 a2)) (hI : Inv S) (next : ∀ S2, Inv S2 → LW Ln xs 796 i [] S2) : LW Ln xs 536 i [] S := by
  obtain ⟨r, S1, S2, e1, e2, hI2⟩ := hop (xs (i + 1)) (xs (i + 2)) S hI
  refine lk_x dL_law_536 ?_
  refine lk_arg (k := 1) dL_law_537 dL_law_538 dL_law_539 dL_law_540 dL_law_541 (by decide) (by omega) hL ?_
  refine lk_arg (k := 2) dL_law_542 dL_law_543 dL_law_544 dL_law_545 dL_law_546 (by decide) (by omega) hL ?_
  refine lk_V (as := [.int (xs (i + 1)), .int (xs (i + 2))]) (st := []) (r := some (.int r)) (S' := _) dL_law_547 cv_L_73 rfl po_0 (Nat.le_of_ble_eq_true rfl) ⟨⟨by decide, by decide⟩, rfl, rfl⟩ (t_X10_move e1) ?_
  show LW Ln xs 550 i [.int r] _
  refine lk_m dL_law_550 ?_
  refine lk_arg (k := 1) dL_law_551 dL_law_552 dL_law_553 dL_law_554 dL_law_555 (by decide) (by omega) hL ?_
  refine lk_arg (k := 2) dL_law_556 dL_law_557 dL_law_558 dL_law_559 dL_law_560 (by decide) (by omega) hL ?_
  refine lk_V (as := [.int (xs (i + 1)), .int (xs (i + 2))]) (st := [.int r]) (r := some (.int r)) (S' := _) dL_law_561 cv_L_76 rfl po_153 (Nat.le_of_ble_eq_true rfl) ⟨⟨by decide, by decide⟩, rfl, rfl⟩ (t_X11_move e2) ?_
  show LW Ln xs 564 i [.int r, .int r] _
  refine lk_eq dL_law_564 ?_
  exact next _ hI2
set_option maxRecDepth 100000 in
set_option maxHeartbeats 4000000 in
theorem case_15 {Inv : Mm → Prop} {Ln : Nat} {xs : Nat → Int32} {i : Nat} {S : Mm} (hL : Ln ≤ 2048) (hi : i + 4 ≤ Ln) (hop : ∀ (a1 : Int32), Op Inv (fun S => f_X10_days S a1) (fun S => f_X11_days S a1)) (hI : Inv S) (next : ∀ S2, Inv S2 → LW Ln xs 796 i [] S2) : LW Ln xs 569 i [] S := by
  obtain ⟨r, S1, S2, e1, e2, hI2⟩ := hop (xs (i + 1)) S hI
  refine lk_x dL_law_569 ?_
  refine lk_arg (k := 1) dL_law_570 dL_law_571 dL_law_572 dL_law_573 dL_law_574 (by decide) (by omega) hL ?_
  refine lk_V (as := [.int (xs (i + 1))]) (st := []) (r := some (.int r)) (S' := _) dL_law_575 cv_L_77 rfl po_0 (Nat.le_of_ble_eq_true rfl) ⟨⟨by decide, by decide⟩, rfl, rfl⟩ (t_X10_days e1) ?_
  show LW Ln xs 578 i [.int r] _
  refine lk_m dL_law_578 ?_
  refine lk_arg (k := 1) dL_law_579 dL_law_580 dL_law_581 dL_law_582 dL_law_583 (by decide) (by omega) hL ?_
  refine lk_V (as := [.int (xs (i + 1))]) (st := [.int r]) (r := some (.int r)) (S' := _) dL_law_584 cv_L_80 rfl po_153 (Nat.le_of_ble_eq_true rfl) ⟨⟨by decide, by decide⟩, rfl, rfl⟩ (t_X11_days e2) ?_
  show LW Ln xs 587 i [.int r, .int r] _
  refine lk_eq dL_law_587 ?_
  exact next _ hI2
set_option maxRecDepth 100000 in
set_option maxHeartbeats 4000000 in
theorem case_16 {Inv : Mm → Prop} {Ln : Nat} {xs : Nat → Int32} {i : Nat} {S : Mm} (hL : Ln ≤ 2048) (hi : i + 4 ≤ Ln) (hop : ∀ (a1 a2 : Int32), Op Inv (fun S => f_X10_term S a1 a2) (fun S => f_X11_term S a1 a2)) (hI : Inv S) (next : ∀ S2, Inv S2 → LW Ln xs 796 i [] S2) : LW Ln xs 592 i [] S := by
  obtain ⟨r, S1, S2, e1, e2, hI2⟩ := hop (xs (i + 1)) (xs (i + 2)) S hI
  refine lk_x dL_law_592 ?_
  refine lk_arg (k := 1) dL_law_593 dL_law_594 dL_law_595 dL_law_596 dL_law_597 (by decide) (by omega) hL ?_
  refine lk_arg (k := 2) dL_law_598 dL_law_599 dL_law_600 dL_law_601 dL_law_602 (by decide) (by omega) hL ?_
  refine lk_V (as := [.int (xs (i + 1)), .int (xs (i + 2))]) (st := []) (r := some (.int r)) (S' := _) dL_law_603 cv_L_81 rfl po_0 (Nat.le_of_ble_eq_true rfl) ⟨⟨by decide, by decide⟩, rfl, rfl⟩ (t_X10_term e1) ?_
  show LW Ln xs 606 i [.int r] _
  refine lk_m dL_law_606 ?_
  refine lk_arg (k := 1) dL_law_607 dL_law_608 dL_law_609 dL_law_610 dL_law_611 (by decide) (by omega) hL ?_
  refine lk_arg (k := 2) dL_law_612 dL_law_613 dL_law_614 dL_law_615 dL_law_616 (by decide) (by omega) hL ?_
  refine lk_V (as := [.int (xs (i + 1)), .int (xs (i + 2))]) (st := [.int r]) (r := some (.int r)) (S' := _) dL_law_617 cv_L_84 rfl po_153 (Nat.le_of_ble_eq_true rfl) ⟨⟨by decide, by decide⟩, rfl, rfl⟩ (t_X11_term e2) ?_
  show LW Ln xs 620 i [.int r, .int r] _
  refine lk_eq dL_law_620 ?_
  exact next _ hI2
set_option maxRecDepth 100000 in
set_option maxHeartbeats 4000000 in
theorem case_17 {Inv : Mm → Prop} {Ln : Nat} {xs : Nat → Int32} {i : Nat} {S : Mm} (hL : Ln ≤ 2048) (hi : i + 4 ≤ Ln) (hop : ∀ (a1 : Int32), Op Inv (fun S => f_X10_drift S a1) (fun S => f_X11_drift S a1)) (hI : Inv S) (next : ∀ S2, Inv S2 → LW Ln xs 796 i [] S2) : LW Ln xs 625 i [] S := by
  obtain ⟨r, S1, S2, e1, e2, hI2⟩ := hop (xs (i + 1)) S hI
  refine lk_x dL_law_625 ?_
  refine lk_arg (k := 1) dL_law_626 dL_law_627 dL_law_628 dL_law_629 dL_law_630 (by decide) (by omega) hL ?_
  refine lk_V (as := [.int (xs (i + 1))]) (st := []) (r := some (.int r)) (S' := _) dL_law_631 cv_L_85 rfl po_0 (Nat.le_of_ble_eq_true rfl) ⟨⟨by decide, by decide⟩, rfl, rfl⟩ (t_X10_drift e1) ?_
  show LW Ln xs 634 i [.int r] _
  refine lk_m dL_law_634 ?_
  refine lk_arg (k := 1) dL_law_635 dL_law_636 dL_law_637 dL_law_638 dL_law_639 (by decide) (by omega) hL ?_
  refine lk_V (as := [.int (xs (i + 1))]) (st := [.int r]) (r := some (.int r)) (S' := _) dL_law_640 cv_L_88 rfl po_153 (Nat.le_of_ble_eq_true rfl) ⟨⟨by decide, by decide⟩, rfl, rfl⟩ (t_X11_drift e2) ?_
  show LW Ln xs 643 i [.int r, .int r] _
  refine lk_eq dL_law_643 ?_
  exact next _ hI2
set_option maxRecDepth 100000 in
set_option maxHeartbeats 4000000 in
theorem case_18 {Inv : Mm → Prop} {Ln : Nat} {xs : Nat → Int32} {i : Nat} {S : Mm} (hL : Ln ≤ 2048) (hi : i + 4 ≤ Ln) (hop : ∀ (a1 : Int32), Op Inv (fun S => f_X10_undo S a1) (fun S => f_X11_undo S a1)) (hI : Inv S) (next : ∀ S2, Inv S2 → LW Ln xs 796 i [] S2) : LW Ln xs 648 i [] S := by
  obtain ⟨r, S1, S2, e1, e2, hI2⟩ := hop (xs (i + 1)) S hI
  refine lk_x dL_law_648 ?_
  refine lk_arg (k := 1) dL_law_649 dL_law_650 dL_law_651 dL_law_652 dL_law_653 (by decide) (by omega) hL ?_
  refine lk_V (as := [.int (xs (i + 1))]) (st := []) (r := some (.int r)) (S' := _) dL_law_654 cv_L_89 rfl po_0 (Nat.le_of_ble_eq_true rfl) ⟨⟨by decide, by decide⟩, rfl, rfl⟩ (t_X10_undo e1) ?_
  show LW Ln xs 657 i [.int r] _
  refine lk_m dL_law_657 ?_
  refine lk_arg (k := 1) dL_law_658 dL_law_659 dL_law_660 dL_law_661 dL_law_662 (by decide) (by omega) hL ?_
  refine lk_V (as := [.int (xs (i + 1))]) (st := [.int r]) (r := some (.int r)) (S' := _) dL_law_663 cv_L_92 rfl po_153 (Nat.le_of_ble_eq_true rfl) ⟨⟨by decide, by decide⟩, rfl, rfl⟩ (t_X11_undo e2) ?_
  show LW Ln xs 666 i [.int r, .int r] _
  refine lk_eq dL_law_666 ?_
  exact next _ hI2
set_option maxRecDepth 100000 in
set_option maxHeartbeats 4000000 in
theorem case_19 {Inv : Mm → Prop} {Ln : Nat} {xs : Nat → Int32} {i : Nat} {S : Mm} (hL : Ln ≤ 2048) (hi : i + 4 ≤ Ln) (hop : ∀ (a1 a2 a3 : Int32), Op Inv (fun S => f_X10_write S a1 a2 a3) (fun S => f_X11_write S a1 a2 a3)) (hI : Inv S) (next : ∀ S2, Inv S2 → LW Ln xs 796 i [] S2) : LW Ln xs 671 i [] S := by
  obtain ⟨r, S1, S2, e1, e2, hI2⟩ := hop (xs (i + 1)) (xs (i + 2)) (xs (i + 3)) S hI
  refine lk_x dL_law_671 ?_
  refine lk_arg (k := 1) dL_law_672 dL_law_673 dL_law_674 dL_law_675 dL_law_676 (by decide) (by omega) hL ?_
  refine lk_arg (k := 2) dL_law_677 dL_law_678 dL_law_679 dL_law_680 dL_law_681 (by decide) (by omega) hL ?_
  refine lk_arg (k := 3) dL_law_682 dL_law_683 dL_law_684 dL_law_685 dL_law_686 (by decide) (by omega) hL ?_
  refine lk_V (as := [.int (xs (i + 1)), .int (xs (i + 2)), .int (xs (i + 3))]) (st := []) (r := some (.int r)) (S' := _) dL_law_687 cv_L_93 rfl po_0 (Nat.le_of_ble_eq_true rfl) ⟨⟨by decide, by decide⟩, rfl, rfl⟩ (t_X10_write e1) ?_
  show LW Ln xs 690 i [.int r] _
  refine lk_m dL_law_690 ?_
  refine lk_arg (k := 1) dL_law_691 dL_law_692 dL_law_693 dL_law_694 dL_law_695 (by decide) (by omega) hL ?_
  refine lk_arg (k := 2) dL_law_696 dL_law_697 dL_law_698 dL_law_699 dL_law_700 (by decide) (by omega) hL ?_
  refine lk_arg (k := 3) dL_law_701 dL_law_702 dL_law_703 dL_law_704 dL_law_705 (by decide) (by omega) hL ?_
  refine lk_V (as := [.int (xs (i + 1)), .int (xs (i + 2)), .int (xs (i + 3))]) (st := [.int r]) (r := some (.int r)) (S' := _) dL_law_706 cv_L_96 rfl po_153 (Nat.le_of_ble_eq_true rfl) ⟨⟨by decide, by decide⟩, rfl, rfl⟩ (t_X11_write e2) ?_
  show LW Ln xs 709 i [.int r, .int r] _
  refine lk_eq dL_law_709 ?_
  exact next _ hI2
set_option maxRecDepth 100000 in
set_option maxHeartbeats 4000000 in
theorem case_20 {Inv : Mm → Prop} {Ln : Nat} {xs : Nat → Int32} {i : Nat} {S : Mm} (hL : Ln ≤ 2048) (hi : i + 4 ≤ Ln) (hop : Op Inv (fun S => f_X10_tear S) (fun S => f_X11_tear S)) (hI : Inv S) (next : ∀ S2, Inv S2 → LW Ln xs 796 i [] S2) : LW Ln xs 714 i [] S := by
  obtain ⟨r, S1, S2, e1, e2, hI2⟩ := hop  S hI
  refine lk_x dL_law_714 ?_
  refine lk_V (as := []) (st := []) (r := some (.int r)) (S' := _) dL_law_715 cv_L_97 rfl po_0 (Nat.le_of_ble_eq_true rfl) ⟨⟨by decide, by decide⟩, rfl, rfl⟩ (t_X10_tear e1) ?_
  show LW Ln xs 718 i [.int r] _
  refine lk_m dL_law_718 ?_
  refine lk_V (as := []) (st := [.int r]) (r := some (.int r)) (S' := _) dL_law_719 cv_L_100 rfl po_153 (Nat.le_of_ble_eq_true rfl) ⟨⟨by decide, by decide⟩, rfl, rfl⟩ (t_X11_tear e2) ?_
  show LW Ln xs 722 i [.int r, .int r] _
  refine lk_eq dL_law_722 ?_
  exact next _ hI2
set_option maxRecDepth 100000 in
set_option maxHeartbeats 4000000 in
theorem case_21 {Inv : Mm → Prop} {Ln : Nat} {xs : Nat → Int32} {i : Nat} {S : Mm} (hL : Ln ≤ 2048) (hi : i + 4 ≤ Ln) (hop : ∀ (a1 : Int32), Op Inv (fun S => f_X10_seed S a1) (fun S => f_X11_seed S a1)) (hI : Inv S) (next : ∀ S2, Inv S2 → LW Ln xs 796 i [] S2) : LW Ln xs 727 i [] S := by
  obtain ⟨r, S1, S2, e1, e2, hI2⟩ := hop (xs (i + 1)) S hI
  refine lk_x dL_law_727 ?_
  refine lk_arg (k := 1) dL_law_728 dL_law_729 dL_law_730 dL_law_731 dL_law_732 (by decide) (by omega) hL ?_
  refine lk_V (as := [.int (xs (i + 1))]) (st := []) (r := some (.int r)) (S' := _) dL_law_733 cv_L_101 rfl po_0 (Nat.le_of_ble_eq_true rfl) ⟨⟨by decide, by decide⟩, rfl, rfl⟩ (t_X10_seed e1) ?_
  show LW Ln xs 736 i [.int r] _
  refine lk_m dL_law_736 ?_
  refine lk_arg (k := 1) dL_law_737 dL_law_738 dL_law_739 dL_law_740 dL_law_741 (by decide) (by omega) hL ?_
  refine lk_V (as := [.int (xs (i + 1))]) (st := [.int r]) (r := some (.int r)) (S' := _) dL_law_742 cv_L_104 rfl po_153 (Nat.le_of_ble_eq_true rfl) ⟨⟨by decide, by decide⟩, rfl, rfl⟩ (t_X11_seed e2) ?_
  show LW Ln xs 745 i [.int r, .int r] _
  refine lk_eq dL_law_745 ?_
  exact next _ hI2
set_option maxRecDepth 100000 in
set_option maxHeartbeats 4000000 in
theorem case_22 {Inv : Mm → Prop} {Ln : Nat} {xs : Nat → Int32} {i : Nat} {S : Mm} (hL : Ln ≤ 2048) (hi : i + 4 ≤ Ln) (hop : ∀ (a1 : Int32), Op Inv (fun S => f_X10_keep S a1) (fun S => f_X11_keep S a1)) (hI : Inv S) (next : ∀ S2, Inv S2 → LW Ln xs 796 i [] S2) : LW Ln xs 750 i [] S := by
  obtain ⟨r, S1, S2, e1, e2, hI2⟩ := hop (xs (i + 1)) S hI
  refine lk_x dL_law_750 ?_
  refine lk_arg (k := 1) dL_law_751 dL_law_752 dL_law_753 dL_law_754 dL_law_755 (by decide) (by omega) hL ?_
  refine lk_V (as := [.int (xs (i + 1))]) (st := []) (r := some (.int r)) (S' := _) dL_law_756 cv_L_105 rfl po_0 (Nat.le_of_ble_eq_true rfl) ⟨⟨by decide, by decide⟩, rfl, rfl⟩ (t_X10_keep e1) ?_
  show LW Ln xs 759 i [.int r] _
  refine lk_m dL_law_759 ?_
  refine lk_arg (k := 1) dL_law_760 dL_law_761 dL_law_762 dL_law_763 dL_law_764 (by decide) (by omega) hL ?_
  refine lk_V (as := [.int (xs (i + 1))]) (st := [.int r]) (r := some (.int r)) (S' := _) dL_law_765 cv_L_108 rfl po_153 (Nat.le_of_ble_eq_true rfl) ⟨⟨by decide, by decide⟩, rfl, rfl⟩ (t_X11_keep e2) ?_
  show LW Ln xs 768 i [.int r, .int r] _
  refine lk_eq dL_law_768 ?_
  exact next _ hI2
set_option maxRecDepth 100000 in
set_option maxHeartbeats 4000000 in
theorem case_23 {Inv : Mm → Prop} {Ln : Nat} {xs : Nat → Int32} {i : Nat} {S : Mm} (hL : Ln ≤ 2048) (hi : i + 4 ≤ Ln) (hop : ∀ (a1 : Int32), Op Inv (fun S => f_X10_goBack S a1) (fun S => f_X11_goBack S a1)) (hI : Inv S) (next : ∀ S2, Inv S2 → LW Ln xs 796 i [] S2) : LW Ln xs 773 i [] S := by
  obtain ⟨r, S1, S2, e1, e2, hI2⟩ := hop (xs (i + 1)) S hI
  refine lk_x dL_law_773 ?_
  refine lk_arg (k := 1) dL_law_774 dL_law_775 dL_law_776 dL_law_777 dL_law_778 (by decide) (by omega) hL ?_
  refine lk_V (as := [.int (xs (i + 1))]) (st := []) (r := some (.int r)) (S' := _) dL_law_779 cv_L_109 rfl po_0 (Nat.le_of_ble_eq_true rfl) ⟨⟨by decide, by decide⟩, rfl, rfl⟩ (t_X10_goBack e1) ?_
  show LW Ln xs 782 i [.int r] _
  refine lk_m dL_law_782 ?_
  refine lk_arg (k := 1) dL_law_783 dL_law_784 dL_law_785 dL_law_786 dL_law_787 (by decide) (by omega) hL ?_
  refine lk_V (as := [.int (xs (i + 1))]) (st := [.int r]) (r := some (.int r)) (S' := _) dL_law_788 cv_L_112 rfl po_153 (Nat.le_of_ble_eq_true rfl) ⟨⟨by decide, by decide⟩, rfl, rfl⟩ (t_X11_goBack e2) ?_
  show LW Ln xs 791 i [.int r, .int r] _
  refine lk_eq dL_law_791 ?_
  exact next _ hI2
/-- all calls answer alike -/
def AllOps (Inv : Mm → Prop) : Prop := (∀ (a1 : Int32), Op Inv (fun S => f_X10_feed S a1) (fun S => f_X11_feed S a1)) ∧ (Op Inv (fun S => f_X10_pieces S) (fun S => f_X11_pieces S)) ∧ (Op Inv (pu fun S => f_X10_fault S) (pu fun S => f_X11_fault S)) ∧ (∀ (a1 : Int32), Op Inv (fun S => f_X10_told S a1) (fun S => f_X11_told S a1)) ∧ (∀ (a1 a2 : Int32), Op Inv (pu fun S => f_X10_at S a1 a2) (pu fun S => f_X11_at S a1 a2)) ∧ (∀ (a1 a2 : Int32), Op Inv (fun S => f_X10_day S a1 a2) (fun S => f_X11_day S a1 a2)) ∧ (∀ (a1 a2 a3 : Int32), Op Inv (fun S => f_X10_word S a1 a2 a3) (fun S => f_X11_word S a1 a2 a3)) ∧ (∀ (a1 : Int32), Op Inv (fun S => f_X10_cost S a1) (fun S => f_X11_cost S a1)) ∧ (∀ (a1 a2 : Int32), Op Inv (fun S => f_X10_steady S a1 a2) (pu fun S => f_X11_steady S a1 a2)) ∧ (∀ (a1 a2 : Int32), Op Inv (fun S => f_X10_flare S a1 a2) (fun S => f_X11_flare S a1 a2)) ∧ (∀ (a1 a2 : Int32), Op Inv (fun S => f_X10_story S a1 a2) (fun S => f_X11_story S a1 a2)) ∧ (∀ (a1 a2 : Int32), Op Inv (pu fun S => f_X10_together S a1 a2) (pu fun S => f_X11_together S a1 a2)) ∧ (∀ (a1 a2 : Int32), Op Inv (fun S => f_X10_piece S a1 a2) (fun S => f_X11_piece S a1 a2)) ∧ (∀ (a1 : Int32), Op Inv (fun S => f_X10_take S a1) (fun S => f_X11_take S a1)) ∧ (∀ (a1 a2 : Int32), Op Inv (fun S => f_X10_move S a1 a2) (fun S => f_X11_move S a1 a2)) ∧ (∀ (a1 : Int32), Op Inv (fun S => f_X10_days S a1) (fun S => f_X11_days S a1)) ∧ (∀ (a1 a2 : Int32), Op Inv (fun S => f_X10_term S a1 a2) (fun S => f_X11_term S a1 a2)) ∧ (∀ (a1 : Int32), Op Inv (fun S => f_X10_drift S a1) (fun S => f_X11_drift S a1)) ∧ (∀ (a1 : Int32), Op Inv (fun S => f_X10_undo S a1) (fun S => f_X11_undo S a1)) ∧ (∀ (a1 a2 a3 : Int32), Op Inv (fun S => f_X10_write S a1 a2 a3) (fun S => f_X11_write S a1 a2 a3)) ∧ (Op Inv (fun S => f_X10_tear S) (fun S => f_X11_tear S)) ∧ (∀ (a1 : Int32), Op Inv (fun S => f_X10_seed S a1) (fun S => f_X11_seed S a1)) ∧ (∀ (a1 : Int32), Op Inv (fun S => f_X10_keep S a1) (fun S => f_X11_keep S a1)) ∧ (∀ (a1 : Int32), Op Inv (fun S => f_X10_goBack S a1) (fun S => f_X11_goBack S a1))
theorem lk_next {Ln : Nat} {xs : Nat → Int32} {i : Nat} {S : Mm} (kk : LW Ln xs 18 (i + 4) [] S) : LW Ln xs 796 i [] S := by
  intro p l e s m below meth c b g H locs ls C hK hSt hP hS hl
  refine lv_iinc (v := nI (i + 4)) (lv' := [(3, .int (nI (i + 4))), (0, .ref b), (1, .ref (s.heap.size + 0)), (2, .ref (s.heap.size + 153))]) C.1 C.2.1 dL_law_796 hl (k := 3) rfl (by rw [show Int32.ofInt 4 = nI 4 from by decide]; exact nI_add i 4) (by decide) rfl (fun ls hl => ?_)
  refine lv_goto (tgt := 18) C.1 C.2.1 dL_law_799 (by decide) ?_
  exact kk p l e s m below meth c b g H locs ls C hK hSt hP hS (lv_sub hl [1, 2, 3, 0] rfl)
set_option maxRecDepth 100000 in
theorem lk_cmp {i Ln : Nat} (hL : Ln ≤ 2048) (h0 : i ≤ Ln + 4) : (nI Ln - nI 4 < nI i) ↔ ¬ i + 4 ≤ Ln := by
  rw [Int32.lt_iff_toInt_lt, pk_sub_toInt (by omega) (by decide), nI_toInt (by omega)]
  omega
theorem lk_exit {Ln : Nat} {xs : Nat → Int32} {i : Nat} {S : Mm} (hL : Ln ≤ 2048) (h0 : i ≤ Ln + 4) (hi : ¬ i + 4 ≤ Ln) : LW Ln xs 18 i [] S := by
  intro p l e s m below meth c b g H locs ls C hK hSt hP hS hl
  have hbA : ¬ (fun q : Nat => s.heap.size ≤ q) b := Nat.not_le.mpr C.2.2.2.2.2.2.2.1
  refine lv_iload_n C.1 C.2.1 dL_law_18 rfl (lv_at hl 3 rfl) ?_
  refine lv_aload_n C.1 C.2.1 dL_law_19 rfl (lv_at hl 0 rfl) ?_
  refine va_slen C.1 C.2.1 C.2.2.2.2.2.2.1 C.2.2.2.2.2.2.2.1 hbA hS dL_law_20 ?_
  refine lv_iconst (v := nI 4) C.1 C.2.1 dL_law_21 (by decide) ?_
  refine lv_isub C.1 C.2.1 dL_law_22 ?_
  refine lv_icmp_gt (tgt := 802) C.1 C.2.1 dL_law_23 (by decide) (fun hc => ?_) (fun hc => absurd ((lk_cmp hL h0).mpr hi) hc)
  refine lv_iconst (v := 1) C.1 C.2.1 dL_law_802 (by decide) ?_
  refine va_forget (fun q hq => hS.2.2 q hq) ?_
  refine W.widen (k := 600000) (n := 7302250) (Nat.le_of_ble_eq_true rfl) (Nat.le_of_ble_eq_true rfl) ?_
  exact lw_ret C.1 C.2.1 C.2.2.1 C.2.2.2.2.2.2.2.2.1 dL_law_803
theorem lk_head {Ln : Nat} {xs : Nat → Int32} {i : Nat} {S : Mm} (hL : Ln ≤ 2048) (hi : i + 4 ≤ Ln) (kk : LW Ln xs 32 i [.int (xs i &&& 31)] S) : LW Ln xs 18 i [] S := by
  intro p l e s m below meth c b g H locs ls C hK hSt hP hS hl
  have hbA : ¬ (fun q : Nat => s.heap.size ≤ q) b := Nat.not_le.mpr C.2.2.2.2.2.2.2.1
  refine lv_iload_n C.1 C.2.1 dL_law_18 rfl (lv_at hl 3 rfl) ?_
  refine lv_aload_n C.1 C.2.1 dL_law_19 rfl (lv_at hl 0 rfl) ?_
  refine va_slen C.1 C.2.1 C.2.2.2.2.2.2.1 C.2.2.2.2.2.2.2.1 hbA hS dL_law_20 ?_
  refine lv_iconst (v := nI 4) C.1 C.2.1 dL_law_21 (by decide) ?_
  refine lv_isub C.1 C.2.1 dL_law_22 ?_
  refine lv_icmp_gt (tgt := 802) C.1 C.2.1 dL_law_23 (by decide) (fun hc => absurd hi ((lk_cmp hL (by omega)).mp hc)) (fun hc => ?_)
  refine lv_aload_n C.1 C.2.1 dL_law_26 rfl (lv_at hl 0 rfl) ?_
  refine lv_iload_n C.1 C.2.1 dL_law_27 rfl (lv_at hl 3 rfl) ?_
  refine va_sld C.1 C.2.1 C.2.2.2.2.2.2.1 C.2.2.2.2.2.2.2.1 hbA hS (vp_in_nI (by omega) (by omega)) dL_law_28 ?_
  rw [nI_clamp (by omega)]
  refine lv_bipush (v := 31) C.1 C.2.1 dL_law_29 (by decide) ?_
  refine lv_iand C.1 C.2.1 dL_law_31 ?_
  exact kk p l e s m below meth c b g H locs ls C hK hSt hP hS hl
set_option maxRecDepth 100000 in
set_option maxHeartbeats 4000000 in
theorem law_loop {Inv : Mm → Prop} (hA : AllOps Inv) {Ln : Nat} {xs : Nat → Int32} (hL : Ln ≤ 2048) : ∀ (n i : Nat) (S : Mm), Ln < i + n → i ≤ Ln + 4 → Inv S → LW Ln xs 18 i [] S := by
  obtain ⟨h_feed, h_pieces, h_fault, h_told, h_at, h_day, h_word, h_cost, h_steady, h_flare, h_story, h_together, h_piece, h_take, h_move, h_days, h_term, h_drift, h_undo, h_write, h_tear, h_seed, h_keep, h_goBack⟩ := hA
  intro n
  induction n with
  | zero =>
    intro i S h1 h0 hI
    have hexit : ¬ i + 4 ≤ Ln := by omega
    exact lk_exit hL h0 hexit
  | succ n ih =>
    intro i S h1 h0 hI
    by_cases hi : i + 4 ≤ Ln
    · have next : ∀ S2, Inv S2 → LW Ln xs 796 i [] S2 := fun S2 hI2 => lk_next (ih (i + 4) S2 (by omega) (by omega) hI2)
      refine lk_head hL hi ?_
      intro p l e s m below meth c b g H locs ls C hK hSt hP hS hl
      by_cases h0 : xs i &&& 31 = 0
      · refine lv_tableIn (tgt := 144) C.1 C.2.1 dL_law_32 (by rw [h0]; decide) (by rw [h0]; decide) (by rw [h0]; rfl) (by decide) ?_
        exact case_0 hL hi h_feed hI next p l e s m below meth c b g H locs ls C hK hSt hP hS hl
      by_cases h1 : xs i &&& 31 = 1
      · refine lv_tableIn (tgt := 167) C.1 C.2.1 dL_law_32 (by rw [h1]; decide) (by rw [h1]; decide) (by rw [h1]; rfl) (by decide) ?_
        exact case_1 hL hi h_pieces hI next p l e s m below meth c b g H locs ls C hK hSt hP hS hl
      by_cases h2 : xs i &&& 31 = 2
      · refine lv_tableIn (tgt := 180) C.1 C.2.1 dL_law_32 (by rw [h2]; decide) (by rw [h2]; decide) (by rw [h2]; rfl) (by decide) ?_
        exact case_2 hL hi h_fault hI next p l e s m below meth c b g H locs ls C hK hSt hP hS hl
      by_cases h3 : xs i &&& 31 = 3
      · refine lv_tableIn (tgt := 193) C.1 C.2.1 dL_law_32 (by rw [h3]; decide) (by rw [h3]; decide) (by rw [h3]; rfl) (by decide) ?_
        exact case_3 hL hi h_told hI next p l e s m below meth c b g H locs ls C hK hSt hP hS hl
      by_cases h4 : xs i &&& 31 = 4
      · refine lv_tableIn (tgt := 216) C.1 C.2.1 dL_law_32 (by rw [h4]; decide) (by rw [h4]; decide) (by rw [h4]; rfl) (by decide) ?_
        exact case_4 hL hi h_at hI next p l e s m below meth c b g H locs ls C hK hSt hP hS hl
      by_cases h5 : xs i &&& 31 = 5
      · refine lv_tableIn (tgt := 249) C.1 C.2.1 dL_law_32 (by rw [h5]; decide) (by rw [h5]; decide) (by rw [h5]; rfl) (by decide) ?_
        exact case_5 hL hi h_day hI next p l e s m below meth c b g H locs ls C hK hSt hP hS hl
      by_cases h6 : xs i &&& 31 = 6
      · refine lv_tableIn (tgt := 282) C.1 C.2.1 dL_law_32 (by rw [h6]; decide) (by rw [h6]; decide) (by rw [h6]; rfl) (by decide) ?_
        exact case_6 hL hi h_word hI next p l e s m below meth c b g H locs ls C hK hSt hP hS hl
      by_cases h7 : xs i &&& 31 = 7
      · refine lv_tableIn (tgt := 325) C.1 C.2.1 dL_law_32 (by rw [h7]; decide) (by rw [h7]; decide) (by rw [h7]; rfl) (by decide) ?_
        exact case_7 hL hi h_cost hI next p l e s m below meth c b g H locs ls C hK hSt hP hS hl
      by_cases h8 : xs i &&& 31 = 8
      · refine lv_tableIn (tgt := 348) C.1 C.2.1 dL_law_32 (by rw [h8]; decide) (by rw [h8]; decide) (by rw [h8]; rfl) (by decide) ?_
        exact case_8 hL hi h_steady hI next p l e s m below meth c b g H locs ls C hK hSt hP hS hl
      by_cases h9 : xs i &&& 31 = 9
      · refine lv_tableIn (tgt := 381) C.1 C.2.1 dL_law_32 (by rw [h9]; decide) (by rw [h9]; decide) (by rw [h9]; rfl) (by decide) ?_
        exact case_9 hL hi h_flare hI next p l e s m below meth c b g H locs ls C hK hSt hP hS hl
      by_cases h10 : xs i &&& 31 = 10
      · refine lv_tableIn (tgt := 414) C.1 C.2.1 dL_law_32 (by rw [h10]; decide) (by rw [h10]; decide) (by rw [h10]; rfl) (by decide) ?_
        exact case_10 hL hi h_story hI next p l e s m below meth c b g H locs ls C hK hSt hP hS hl
      by_cases h11 : xs i &&& 31 = 11
      · refine lv_tableIn (tgt := 447) C.1 C.2.1 dL_law_32 (by rw [h11]; decide) (by rw [h11]; decide) (by rw [h11]; rfl) (by decide) ?_
        exact case_11 hL hi h_together hI next p l e s m below meth c b g H locs ls C hK hSt hP hS hl
      by_cases h12 : xs i &&& 31 = 12
      · refine lv_tableIn (tgt := 480) C.1 C.2.1 dL_law_32 (by rw [h12]; decide) (by rw [h12]; decide) (by rw [h12]; rfl) (by decide) ?_
        exact case_12 hL hi h_piece hI next p l e s m below meth c b g H locs ls C hK hSt hP hS hl
      by_cases h13 : xs i &&& 31 = 13
      · refine lv_tableIn (tgt := 513) C.1 C.2.1 dL_law_32 (by rw [h13]; decide) (by rw [h13]; decide) (by rw [h13]; rfl) (by decide) ?_
        exact case_13 hL hi h_take hI next p l e s m below meth c b g H locs ls C hK hSt hP hS hl
      by_cases h14 : xs i &&& 31 = 14
      · refine lv_tableIn (tgt := 536) C.1 C.2.1 dL_law_32 (by rw [h14]; decide) (by rw [h14]; decide) (by rw [h14]; rfl) (by decide) ?_
        exact case_14 hL hi h_move hI next p l e s m below meth c b g H locs ls C hK hSt hP hS hl
      by_cases h15 : xs i &&& 31 = 15
      · refine lv_tableIn (tgt := 569) C.1 C.2.1 dL_law_32 (by rw [h15]; decide) (by rw [h15]; decide) (by rw [h15]; rfl) (by decide) ?_
        exact case_15 hL hi h_days hI next p l e s m below meth c b g H locs ls C hK hSt hP hS hl
      by_cases h16 : xs i &&& 31 = 16
      · refine lv_tableIn (tgt := 592) C.1 C.2.1 dL_law_32 (by rw [h16]; decide) (by rw [h16]; decide) (by rw [h16]; rfl) (by decide) ?_
        exact case_16 hL hi h_term hI next p l e s m below meth c b g H locs ls C hK hSt hP hS hl
      by_cases h17 : xs i &&& 31 = 17
      · refine lv_tableIn (tgt := 625) C.1 C.2.1 dL_law_32 (by rw [h17]; decide) (by rw [h17]; decide) (by rw [h17]; rfl) (by decide) ?_
        exact case_17 hL hi h_drift hI next p l e s m below meth c b g H locs ls C hK hSt hP hS hl
      by_cases h18 : xs i &&& 31 = 18
      · refine lv_tableIn (tgt := 648) C.1 C.2.1 dL_law_32 (by rw [h18]; decide) (by rw [h18]; decide) (by rw [h18]; rfl) (by decide) ?_
        exact case_18 hL hi h_undo hI next p l e s m below meth c b g H locs ls C hK hSt hP hS hl
      by_cases h19 : xs i &&& 31 = 19
      · refine lv_tableIn (tgt := 671) C.1 C.2.1 dL_law_32 (by rw [h19]; decide) (by rw [h19]; decide) (by rw [h19]; rfl) (by decide) ?_
        exact case_19 hL hi h_write hI next p l e s m below meth c b g H locs ls C hK hSt hP hS hl
      by_cases h20 : xs i &&& 31 = 20
      · refine lv_tableIn (tgt := 714) C.1 C.2.1 dL_law_32 (by rw [h20]; decide) (by rw [h20]; decide) (by rw [h20]; rfl) (by decide) ?_
        exact case_20 hL hi h_tear hI next p l e s m below meth c b g H locs ls C hK hSt hP hS hl
      by_cases h21 : xs i &&& 31 = 21
      · refine lv_tableIn (tgt := 727) C.1 C.2.1 dL_law_32 (by rw [h21]; decide) (by rw [h21]; decide) (by rw [h21]; rfl) (by decide) ?_
        exact case_21 hL hi h_seed hI next p l e s m below meth c b g H locs ls C hK hSt hP hS hl
      by_cases h22 : xs i &&& 31 = 22
      · refine lv_tableIn (tgt := 750) C.1 C.2.1 dL_law_32 (by rw [h22]; decide) (by rw [h22]; decide) (by rw [h22]; rfl) (by decide) ?_
        exact case_22 hL hi h_keep hI next p l e s m below meth c b g H locs ls C hK hSt hP hS hl
      by_cases h23 : xs i &&& 31 = 23
      · refine lv_tableIn (tgt := 773) C.1 C.2.1 dL_law_32 (by rw [h23]; decide) (by rw [h23]; decide) (by rw [h23]; rfl) (by decide) ?_
        exact case_23 hL hi h_goBack hI next p l e s m below meth c b g H locs ls C hK hSt hP hS hl
      refine lv_tableOut (tgt := 796) C.1 C.2.1 dL_law_32 (sw_out _ (by intro n h1 h2; rcases (show n = 0 ∨ n = 1 ∨ n = 2 ∨ n = 3 ∨ n = 4 ∨ n = 5 ∨ n = 6 ∨ n = 7 ∨ n = 8 ∨ n = 9 ∨ n = 10 ∨ n = 11 ∨ n = 12 ∨ n = 13 ∨ n = 14 ∨ n = 15 ∨ n = 16 ∨ n = 17 ∨ n = 18 ∨ n = 19 ∨ n = 20 ∨ n = 21 ∨ n = 22 ∨ n = 23 by omega) with rfl | rfl | rfl | rfl | rfl | rfl | rfl | rfl | rfl | rfl | rfl | rfl | rfl | rfl | rfl | rfl | rfl | rfl | rfl | rfl | rfl | rfl | rfl | rfl <;> assumption)) (by decide) ?_
      exact next S hI p l e s m below meth c b g H locs ls C hK hSt hP hS hl
    · exact lk_exit hL h0 hi
