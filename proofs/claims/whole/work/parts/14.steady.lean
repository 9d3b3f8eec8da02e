/-! ===== the cells as they stand once all is made: their kinds and references, which nobody changes but in the array of what is to be undone ===== -/
def kdL : List Kd := [(10, 9), (6, 5), (12, 4), (12, 40), (12, 40), (2, 4), (8, 8), (12, 12), (15, 8), (12, 12), (12, 12), (12, 12), (12, 12), (12, 12), (12, 12), (12, 12), (12, 12), (15, 8), (12, 12), (12, 12), (12, 12), (12, 12), (12, 12), (12, 12), (12, 12), (12, 12), (5, 3), (15, 8), (12, 12), (12, 12), (12, 12), (12, 12), (12, 12), (12, 12), (12, 12), (12, 12), (12, 8), (15, 12), (12, 4), (12, 4), (12, 4), (12, 4), (12, 4), (12, 4), (12, 4), (12, 4), (12, 4), (12, 4), (12, 4), (12, 4), (3, 2), (15, 9), (12, 144), (12, 144), (12, 144), (12, 144), (12, 144), (12, 144), (12, 144), (12, 144), (12, 144), (7, 3), (12, 144), (15, 4), (12, 48), (12, 48), (12, 48), (12, 48), (9, 6), (12, 60), (12, 20), (12, 20), (1, 2), (14, 16), (6, 5), (12, 4), (12, 40), (12, 40), (6, 5), (12, 4), (12, 40), (12, 40), (6, 5), (12, 4), (12, 40), (12, 40), (6, 5), (12, 4), (12, 40), (12, 40), (6, 5), (12, 4), (12, 40), (12, 40), (6, 5), (12, 4), (12, 40), (12, 40), (6, 5), (12, 4), (12, 40), (12, 40), (6, 5), (12, 4), (12, 40), (12, 40), (6, 5), (12, 4), (12, 40), (12, 40), (6, 5), (12, 4), (12, 40), (12, 40), (6, 5), (12, 4), (12, 40), (12, 40), (6, 5), (12, 4), (12, 40), (12, 40), (6, 5), (12, 4), (12, 40), (12, 40), (6, 5), (12, 4), (12, 40), (12, 40), (6, 5), (12, 4), (12, 40), (12, 40), (6, 5), (12, 4), (12, 40), (12, 40), (0, 4), (12, 20), (12, 20), (12, 20), (13, 2), (4, 3), (6, 5), (12, 4), (12, 40), (12, 40), (4, 3), (6, 5), (12, 4), (12, 40), (12, 40), (11, 24), (12, 1634), (12, 2), (12, 60), (12, 20), (12, 20), (12, 20), (12, 52), (12, 12), (12, 160), (12, 160), (12, 160), (12, 160), (12, 160), (12, 40), (12, 40)]
def KD (k : Nat) : Kd := kdL.getD k (0, 0)
def rfL : List (List (Option Nat)) := [[some 1, some 5, some 68, some 72, some 138, some 142], [some 2, some 3, some 4], [], [], [], [some 6, some 26, some 50, some 61], [some 7, some 8, some 17], [], [some 9, some 10, some 11, some 12, some 13, some 14, some 15, some 16], [], [], [], [], [], [], [], [], [some 18, some 19, some 20, some 21, some 22, some 23, some 24, some 25], [], [], [], [], [], [], [], [], [some 27, some 36, some 37], [some 28, some 29, some 30, some 31, some 32, some 33, some 34, some 35], [], [], [], [], [], [], [], [], [], [some 38, some 39, some 40, some 41, some 42, some 43, some 44, some 45, some 46, some 47, some 48, some 49], [], [], [], [], [], [], [], [], [], [], [], [], [some 51], [some 52, some 53, some 54, some 55, some 56, some 57, some 58, some 59, some 60], [], [], [], [], [], [], [], [], [], [some 62, some 63], [], [some 64, some 65, some 66, some 67], [], [], [], [], [some 69, some 70, some 71], [], [], [], [some 73], [], [some 75, some 76, some 77], [], [], [], [some 79, some 80, some 81], [], [], [], [some 83, some 84, some 85], [], [], [], [some 87, some 88, some 89], [], [], [], [some 91, some 92, some 93], [], [], [], [some 95, some 96, some 97], [], [], [], [some 99, some 100, some 101], [], [], [], [some 103, some 104, some 105], [], [], [], [some 107, some 108, some 109], [], [], [], [some 111, some 112, some 113], [], [], [], [some 115, some 116, some 117], [], [], [], [some 119, some 120, some 121], [], [], [], [some 123, some 124, some 125], [], [], [], [some 127, some 128, some 129], [], [], [], [some 131, some 132, some 133], [], [], [], [some 135, some 136, some 137], [], [], [], [some 139, some 140, some 141], [], [], [], [some 143, some 148], [some 144], [some 145, some 146, some 147], [], [], [], [some 149], [some 150, some 151, some 152], [], [], [], [some 154, none, none, none, some 155, some 156, none, none, some 157, some 158, some 159, none, some 160, some 161, some 162, some 163, some 164, some 165, some 166, none, none, some 167, some 168], [], [], [], [], [], [], [], [], [], [], [], [], [], [], []]
def RF (k j : Nat) : Option Nat := (rfL.getD k []).getD j none
/-- the whole numbers, and which News the array of what is to be undone holds at each place -/
abbrev Mm : Type := (Nat → Nat → Int32) × (Nat → Nat)
def RFP (P : Nat → Nat) (k j : Nat) : Option Nat := if k = 73 then (if j < 16 then some (P j) else none) else RF k j
def St (S : Mm) : Mem := (169, KD, S.1, RFP S.2)
def wr (S : Mm) (k j : Nat) (v : Int32) : Mm := (u2 S.1 k j v, S.2)
def wp (S : Mm) (j y : Nat) : Mm := (S.1, fun i => if i = j then y else S.2 i)
def NW (o : Nat) : Bool := decide (o ∈ [1, 74, 78, 82, 86, 90, 94, 98, 102, 106, 110, 114, 118, 122, 126, 130, 134, 144, 149])
abbrev inb (i : Int32) (n : Nat) : Prop := ¬ (i < 0 ∨ n ≤ i.toNatClampNeg)
theorem inb_lt {i : Int32} {n : Nat} (h : inb i n) : i.toNatClampNeg < n := Nat.not_le.mp fun q => h (Or.inr q)
theorem it_pos {c : Prop} [Decidable c] {α : Type} {a b x : α} (hc : c) (h : (if c then a else b) = x) : a = x := by rw [if_pos hc] at h; exact h
theorem it_neg {c : Prop} [Decidable c] {α : Type} {a b x : α} (hc : ¬ c) (h : (if c then a else b) = x) : b = x := by rw [if_neg hc] at h; exact h
theorem it_some {c : Prop} [Decidable c] {α : Type} {a : Option α} {x : α} (h : (if c then a else none) = some x) : c ∧ a = some x := by
  by_cases hc : c
  · rw [if_pos hc] at h; exact ⟨hc, h⟩
  · rw [if_neg hc] at h; cases h
theorem it_bind {α β : Type} {o : Option α} {f : α → Option β} {x : β} (h : o.bind f = some x) : ∃ a, o = some a ∧ f a = some x := Option.bind_eq_some_iff.mp h
/-- a whole number's place; a reference's; an array; an array of rows -/
def PI (o ci j : Nat) : Prop := o < 169 ∧ refS ci j = false ∧ ∃ n, KD o = (ci, n) ∧ j < n
def PR (o ci j t : Nat) : Prop := o < 169 ∧ refS ci j = true ∧ (∃ n, KD o = (ci, n) ∧ j < n) ∧ o ≠ 73 ∧ RF o j = some t
def PA (o n : Nat) : Prop := o < 169 ∧ KD o = (12, n)
def PG (o n t : Nat) : Prop := o < 169 ∧ KD o = (15, n) ∧ o ≠ 73 ∧ ∀ i, i < n → RF o i = some (t + i)
def PO (o ci : Nat) : Prop := o < 169 ∧ ∃ n, KD o = (ci, n)

section OKS
variable {D D2 : Md} {z : Nat × Nat} {pc : Nat} {L : List (Nat × Value)} {st : List Value} {S S' : Mm} {post : Option Value → Mem → Prop}
theorem okS_getI {o idx ci j : Nat} {f : Bool} (hd : decode D.2.1 pc = .ok (.getfield idx, 3)) (hf : Fl D.2.2.2.2.2 idx ci j f) (hp : PI o ci j) (kk : Ok D (0, 0) z (pc + 3) L (.int (S.1 o j) :: st) (St S) post) : Ok D (0, 0) z pc L (.ref o :: st) (St S) post := by
  obtain ⟨h1, h2, n, h3, h4⟩ := hp
  exact ok_getI hd hf h1 h3 h4 h2 kk
theorem okS_getR {o idx ci j t : Nat} {f : Bool} (hd : decode D.2.1 pc = .ok (.getfield idx, 3)) (hf : Fl D.2.2.2.2.2 idx ci j f) (hp : PR o ci j t) (kk : Ok D (0, 0) z (pc + 3) L (.ref t :: st) (St S) post) : Ok D (0, 0) z pc L (.ref o :: st) (St S) post := by
  obtain ⟨h1, h2, ⟨n, h3, h4⟩, h5, h6⟩ := hp
  exact ok_getR hd hf h1 h3 h4 h2 (show RFP S.2 o j = some t by unfold RFP; rw [if_neg h5]; exact h6) kk
theorem okS_putI {o idx ci j : Nat} {v : Int32} (hd : decode D.2.1 pc = .ok (.putfield idx, 3)) (hf : Fl D.2.2.2.2.2 idx ci j false) (hp : PI o ci j) (hn : narrow (tyOf ci j) (.int v) = .int v ∧ fits (tyOf ci j) (.int v) = true) (kk : Ok D (0, 0) z (pc + 3) L st (St (wr S o j v)) post) : Ok D (0, 0) z pc L (.int v :: .ref o :: st) (St S) post := by
  obtain ⟨h1, h2, n, h3, h4⟩ := hp
  exact ok_putI hd hf h1 h3 h4 h2 hn.1 hn.2 kk
theorem okS_iaload {o n : Nat} {i : Int32} (hd : decode D.2.1 pc = .ok (.iaload, 1)) (hp : PA o n) (hi : inb i n) (kk : Ok D (0, 0) z (pc + 1) L (.int (S.1 o i.toNatClampNeg) :: st) (St S) post) : Ok D (0, 0) z pc L (.int i :: .ref o :: st) (St S) post := ok_iaload hd hp.1 hp.2 hi kk
theorem okS_iastore {o n : Nat} {i x : Int32} (hd : decode D.2.1 pc = .ok (.iastore, 1)) (hp : PA o n) (hi : inb i n) (kk : Ok D (0, 0) z (pc + 1) L st (St (wr S o i.toNatClampNeg x)) post) : Ok D (0, 0) z pc L (.int x :: .int i :: .ref o :: st) (St S) post := ok_iastore hd hp.1 hp.2 hi kk
theorem okS_row {o n t : Nat} {i : Int32} (hd : decode D.2.1 pc = .ok (.aaload, 1)) (hp : PG o n t) (hi : inb i n) (kk : Ok D (0, 0) z (pc + 1) L (.ref (t + i.toNatClampNeg) :: st) (St S) post) : Ok D (0, 0) z pc L (.int i :: .ref o :: st) (St S) post :=
  ok_aaload2 hd hp.1 hp.2.1 hi (show RFP S.2 o _ = _ by unfold RFP; rw [if_neg hp.2.2.1]; exact hp.2.2.2 _ (inb_lt hi)) kk
theorem okS_ialoadL {o n j : Nat} {i : Int32} (hd : decode D.2.1 pc = .ok (.iaload, 1)) (hp : PA o n) (hi : inb i n) (hj : i.toNatClampNeg = j) (kk : Ok D (0, 0) z (pc + 1) L (.int (S.1 o j) :: st) (St S) post) : Ok D (0, 0) z pc L (.int i :: .ref o :: st) (St S) post := by
  subst hj
  exact ok_iaload hd hp.1 hp.2 hi kk
theorem okS_iastoreL {o n j : Nat} {i x : Int32} (hd : decode D.2.1 pc = .ok (.iastore, 1)) (hp : PA o n) (hi : inb i n) (hj : i.toNatClampNeg = j) (kk : Ok D (0, 0) z (pc + 1) L st (St (wr S o j x)) post) : Ok D (0, 0) z pc L (.int x :: .int i :: .ref o :: st) (St S) post := by
  subst hj
  exact ok_iastore hd hp.1 hp.2 hi kk
theorem okS_rowL {o n t y : Nat} {i : Int32} (hd : decode D.2.1 pc = .ok (.aaload, 1)) (hp : PG o n t) (hi : inb i n) (hy : t + i.toNatClampNeg = y) (kk : Ok D (0, 0) z (pc + 1) L (.ref y :: st) (St S) post) : Ok D (0, 0) z pc L (.int i :: .ref o :: st) (St S) post := by
  subst hy
  exact okS_row hd hp hi kk
theorem okS_ahead {i : Int32} (hd : decode D.2.1 pc = .ok (.aaload, 1)) (hi : inb i 16) (kk : Ok D (0, 0) z (pc + 1) L (.ref (S.2 i.toNatClampNeg) :: st) (St S) post) : Ok D (0, 0) z pc L (.int i :: .ref 73 :: st) (St S) post :=
  ok_aaload hd (show 73 < 169 by decide) (show KD 73 = (14, 16) by rfl) (Or.inr rfl) hi (show RFP S.2 73 _ = _ by unfold RFP; rw [if_pos rfl, if_pos (inb_lt hi)]) kk
theorem NW_kd {o : Nat} (h : NW o = true) : o < 169 ∧ KD o = (6, 5) := by
  have h : o ∈ [1, 74, 78, 82, 86, 90, 94, 98, 102, 106, 110, 114, 118, 122, 126, 130, 134, 144, 149] := of_decide_eq_true h
  simp only [List.mem_cons, List.not_mem_nil, or_false] at h
  rcases h with rfl | rfl | rfl | rfl | rfl | rfl | rfl | rfl | rfl | rfl | rfl | rfl | rfl | rfl | rfl | rfl | rfl | rfl | rfl <;> exact ⟨by decide, rfl⟩
theorem mR_ahead {j y : Nat} (hj : j < 16) : mR (St S) 73 j (some y) = St (wp S j y) := by
  unfold mR St wp
  congr 3
  funext a b
  simp only [u2, RFP]
  by_cases ha : a = 73
  · subst ha
    by_cases hb : b = j
    · subst hb; simp [hj]
    · simp [hb]
  · simp [ha]
theorem okS_aheadSet {i : Int32} {y : Nat} (hd : decode D.2.1 pc = .ok (.aastore, 1)) (hi : inb i 16) (hy : NW y = true) (kk : Ok D (0, 0) z (pc + 1) L st (St (wp S i.toNatClampNeg y)) post) : Ok D (0, 0) z pc L (.ref y :: .int i :: .ref 73 :: st) (St S) post :=
  ok_aastore hd (show 73 < 169 by decide) (show KD 73 = (14, 16) by rfl) (Or.inr ⟨rfl, rfl⟩) hi (NW_kd hy).1 (NW_kd hy).2 rfl (by decide) (by rw [mR_ahead (inb_lt hi)]; exact kk)
theorem okS_image {i : Int32} {t : Nat} (hd : decode D.2.1 pc = .ok (.aaload, 1)) (hi : inb i 2) (ht : RF 142 i.toNatClampNeg = some t) (kk : Ok D (0, 0) z (pc + 1) L (.ref t :: st) (St S) post) : Ok D (0, 0) z pc L (.int i :: .ref 142 :: st) (St S) post :=
  ok_aaload hd (show 142 < 169 by decide) (show KD 142 = (13, 2) by rfl) (Or.inl rfl) hi (show RFP S.2 142 _ = _ by unfold RFP; rw [if_neg (by decide)]; exact ht) kk
/-- what a method answers and leaves -/
abbrev An (r : Option Value) (S' : Mm) : Option Value → Mem → Prop := fun r' M' => r' = r ∧ M' = St S'
/-- a contract over the memory as it stands: nothing new is made -/
def Rs (D : Md) (as : List Value) (S : Mm) (r : Option Value) (S' : Mm) : Prop := Rn D (0, 0) as (St S) (An r S')
theorem rs_of {as : List Value} {r : Option Value} (hy : plainName D.1.cls = true) (hown : D.1.cls = D.2.2.2.2.2) (hn : (lg_sl as).length ≤ D.2.2.1) (h : Ok D (0, 0) (0, 0) 0 (lv_args 0 as) [] (St S) (An r S')) : Rs D as S r S' := rn_of hy hown hn h
theorem okS_ret {v : Int32} {ty : FieldType} (hd : decode D.2.1 pc = .ok (.ireturn, 1)) (hr : D.2.2.2.1 = some ty) (hn : narrow ty (.int v) = .int v) (h : post (some (.int v)) (St S)) : Ok D (0, 0) (0, 0) pc L [.int v] (St S) post := ok_ret (show 0 < 169 by decide) hd hr hn h
theorem okS_retv (hd : decode D.2.1 pc = .ok (.return_, 1)) (hr : D.2.2.2.1 = none) (h : post none (St S)) : Ok D (0, 0) (0, 0) pc L [] (St S) post := ok_retv (show 0 < 169 by decide) hd hr h
theorem okS_reta {v : Value} {n : String} (hd : decode D.2.1 pc = .ok (.areturn, 1)) (hr : D.2.2.2.1 = some (.object n)) (hv : v = .null ∨ ∃ a, v = .ref a) (h : post (some v) (St S)) : Ok D (0, 0) (0, 0) pc L [v] (St S) post := ok_reta (show 0 < 169 by decide) hd hr hv h
/-- the room of a call of a method that makes nothing -/
def R0 (D D2 : Md) : Prop := Rm D D2 ∧ D2.2.2.2.2.1.cells = 0 ∧ D2.2.2.2.2.1.slots = 0
theorem okS_V {idx ci n o : Nat} {as : List Value} {r : Option Value} (hd : decode D.2.1 pc = .ok (.invokevirtual idx, 3)) (hC : CV D.2.2.2.2.2 D2 idx ci n) (hn : as.length = n) (hp : PO o ci) (hst : (st.map fun v => v.category).sum ≤ 8) (hR : R0 D D2) (hc : Rs D2 (.ref o :: as) S r S') (kk : Ok D (0, 0) z (pc + 3) L (r.toList ++ st) (St S') post) : Ok D (0, 0) z pc L (as.reverse ++ .ref o :: st) (St S) post := by
  obtain ⟨hR1, hR2, hR3⟩ := hR
  obtain ⟨h1, N, h2⟩ := hp
  refine ok_callV (q := (0, 0)) (N := N) hd hC hn h1 h2 hst hR1 ?_ (post2 := An r S') ?_ ?_ ?_
  · rw [hR2, hR3]; exact ⟨Nat.zero_le _, Nat.zero_le _⟩
  · rw [hR2, hR3]; exact hc
  · rintro r' M' ⟨-, rfl⟩; rw [hR2]; rfl
  · rintro r' M' ⟨rfl, rfl⟩
    rw [hR2, hR3]
    exact kk
theorem okS_S {idx n : Nat} {as : List Value} {r : Option Value} (hd : decode D.2.1 pc = .ok (.invokestatic idx, 3)) (hC : CS D.2.2.2.2.2 D2 idx n) (hn : as.length = n) (hst : (st.map fun v => v.category).sum ≤ 8) (hR : R0 D D2) (hc : Rs D2 as S r S') (kk : Ok D (0, 0) z (pc + 3) L (r.toList ++ st) (St S') post) : Ok D (0, 0) z pc L (as.reverse ++ st) (St S) post := by
  obtain ⟨hR1, hR2, hR3⟩ := hR
  refine ok_callS (q := (0, 0)) hd hC hn (show 0 < 169 by decide) hst hR1 ?_ (post2 := An r S') ?_ ?_ ?_
  · rw [hR2, hR3]; exact ⟨Nat.zero_le _, Nat.zero_le _⟩
  · rw [hR2, hR3]; exact hc
  · rintro r' M' ⟨-, rfl⟩; rw [hR2]; rfl
  · rintro r' M' ⟨rfl, rfl⟩
    rw [hR2, hR3]
    exact kk
theorem okS_SN {idx n : Nat} {host : String} {as : List Value} {r : Option Value} (hd : decode D.2.1 pc = .ok (.invokestatic idx, 3)) (hC : CSN D.2.2.2.2.2 D2 idx n host) (hn : as.length = n) (hst : (st.map fun v => v.category).sum ≤ 8) (hR : R0 D D2) (hc : Rs D2 as S r S') (kk : Ok D (0, 0) z (pc + 3) L (r.toList ++ st) (St S') post) : Ok D (0, 0) z pc L (as.reverse ++ st) (St S) post := by
  obtain ⟨hR1, hR2, hR3⟩ := hR
  refine ok_callSN (q := (0, 0)) hd hC hn (show 0 < 169 by decide) hst hR1 ?_ (post2 := An r S') ?_ ?_ ?_
  · rw [hR2, hR3]; exact ⟨Nat.zero_le _, Nat.zero_le _⟩
  · rw [hR2, hR3]; exact hc
  · rintro r' M' ⟨-, rfl⟩; rw [hR2]; rfl
  · rintro r' M' ⟨rfl, rfl⟩
    rw [hR2, hR3]
    exact kk
end OKS
theorem po_0 : PO 0 10 := ⟨by decide, 9, rfl⟩
theorem pr_0_0 : PR 0 10 0 1 := ⟨by decide, rfl, ⟨9, rfl, by decide⟩, by decide, rfl⟩
theorem pr_0_1 : PR 0 10 1 5 := ⟨by decide, rfl, ⟨9, rfl, by decide⟩, by decide, rfl⟩
theorem pr_0_2 : PR 0 10 2 68 := ⟨by decide, rfl, ⟨9, rfl, by decide⟩, by decide, rfl⟩
theorem pr_0_3 : PR 0 10 3 72 := ⟨by decide, rfl, ⟨9, rfl, by decide⟩, by decide, rfl⟩
theorem pr_0_4 : PR 0 10 4 138 := ⟨by decide, rfl, ⟨9, rfl, by decide⟩, by decide, rfl⟩
theorem pr_0_5 : PR 0 10 5 142 := ⟨by decide, rfl, ⟨9, rfl, by decide⟩, by decide, rfl⟩
theorem pi_0_6 : PI 0 10 6 := ⟨by decide, rfl, 9, rfl, by decide⟩
theorem pi_0_7 : PI 0 10 7 := ⟨by decide, rfl, 9, rfl, by decide⟩
theorem pi_0_8 : PI 0 10 8 := ⟨by decide, rfl, 9, rfl, by decide⟩
theorem po_1 : PO 1 6 := ⟨by decide, 5, rfl⟩
theorem pr_1_0 : PR 1 6 0 2 := ⟨by decide, rfl, ⟨5, rfl, by decide⟩, by decide, rfl⟩
theorem pr_1_1 : PR 1 6 1 3 := ⟨by decide, rfl, ⟨5, rfl, by decide⟩, by decide, rfl⟩
theorem pr_1_2 : PR 1 6 2 4 := ⟨by decide, rfl, ⟨5, rfl, by decide⟩, by decide, rfl⟩
theorem pi_1_3 : PI 1 6 3 := ⟨by decide, rfl, 5, rfl, by decide⟩
theorem pi_1_4 : PI 1 6 4 := ⟨by decide, rfl, 5, rfl, by decide⟩
theorem pa_2 : PA 2 4 := ⟨by decide, rfl⟩
theorem pa_3 : PA 3 40 := ⟨by decide, rfl⟩
theorem pa_4 : PA 4 40 := ⟨by decide, rfl⟩
theorem po_5 : PO 5 2 := ⟨by decide, 4, rfl⟩
theorem pr_5_0 : PR 5 2 0 6 := ⟨by decide, rfl, ⟨4, rfl, by decide⟩, by decide, rfl⟩
theorem pr_5_1 : PR 5 2 1 26 := ⟨by decide, rfl, ⟨4, rfl, by decide⟩, by decide, rfl⟩
theorem pr_5_2 : PR 5 2 2 50 := ⟨by decide, rfl, ⟨4, rfl, by decide⟩, by decide, rfl⟩
theorem pr_5_3 : PR 5 2 3 61 := ⟨by decide, rfl, ⟨4, rfl, by decide⟩, by decide, rfl⟩
theorem po_6 : PO 6 8 := ⟨by decide, 8, rfl⟩
theorem pr_6_0 : PR 6 8 0 7 := ⟨by decide, rfl, ⟨8, rfl, by decide⟩, by decide, rfl⟩
theorem pr_6_1 : PR 6 8 1 8 := ⟨by decide, rfl, ⟨8, rfl, by decide⟩, by decide, rfl⟩
theorem pr_6_2 : PR 6 8 2 17 := ⟨by decide, rfl, ⟨8, rfl, by decide⟩, by decide, rfl⟩
theorem pi_6_3 : PI 6 8 3 := ⟨by decide, rfl, 8, rfl, by decide⟩
theorem pi_6_4 : PI 6 8 4 := ⟨by decide, rfl, 8, rfl, by decide⟩
theorem pi_6_5 : PI 6 8 5 := ⟨by decide, rfl, 8, rfl, by decide⟩
theorem pi_6_6 : PI 6 8 6 := ⟨by decide, rfl, 8, rfl, by decide⟩
theorem pi_6_7 : PI 6 8 7 := ⟨by decide, rfl, 8, rfl, by decide⟩
theorem pa_7 : PA 7 12 := ⟨by decide, rfl⟩
theorem pg_8 : PG 8 8 9 := ⟨by decide, rfl, by decide, by decide⟩
theorem pq_8 : ∀ i, i < 8 → PA (9 + i) 12 := by unfold PA; decide
theorem pa_9 : PA 9 12 := ⟨by decide, rfl⟩
theorem pa_10 : PA 10 12 := ⟨by decide, rfl⟩
theorem pa_11 : PA 11 12 := ⟨by decide, rfl⟩
theorem pa_12 : PA 12 12 := ⟨by decide, rfl⟩
theorem pa_13 : PA 13 12 := ⟨by decide, rfl⟩
theorem pa_14 : PA 14 12 := ⟨by decide, rfl⟩
theorem pa_15 : PA 15 12 := ⟨by decide, rfl⟩
theorem pa_16 : PA 16 12 := ⟨by decide, rfl⟩
theorem pg_17 : PG 17 8 18 := ⟨by decide, rfl, by decide, by decide⟩
theorem pq_17 : ∀ i, i < 8 → PA (18 + i) 12 := by unfold PA; decide
theorem pa_18 : PA 18 12 := ⟨by decide, rfl⟩
theorem pa_19 : PA 19 12 := ⟨by decide, rfl⟩
theorem pa_20 : PA 20 12 := ⟨by decide, rfl⟩
theorem pa_21 : PA 21 12 := ⟨by decide, rfl⟩
theorem pa_22 : PA 22 12 := ⟨by decide, rfl⟩
theorem pa_23 : PA 23 12 := ⟨by decide, rfl⟩
theorem pa_24 : PA 24 12 := ⟨by decide, rfl⟩
theorem pa_25 : PA 25 12 := ⟨by decide, rfl⟩
theorem po_26 : PO 26 5 := ⟨by decide, 3, rfl⟩
theorem pr_26_0 : PR 26 5 0 27 := ⟨by decide, rfl, ⟨3, rfl, by decide⟩, by decide, rfl⟩
theorem pr_26_1 : PR 26 5 1 36 := ⟨by decide, rfl, ⟨3, rfl, by decide⟩, by decide, rfl⟩
theorem pr_26_2 : PR 26 5 2 37 := ⟨by decide, rfl, ⟨3, rfl, by decide⟩, by decide, rfl⟩
theorem pg_27 : PG 27 8 28 := ⟨by decide, rfl, by decide, by decide⟩
theorem pq_27 : ∀ i, i < 8 → PA (28 + i) 12 := by unfold PA; decide
theorem pa_28 : PA 28 12 := ⟨by decide, rfl⟩
theorem pa_29 : PA 29 12 := ⟨by decide, rfl⟩
theorem pa_30 : PA 30 12 := ⟨by decide, rfl⟩
theorem pa_31 : PA 31 12 := ⟨by decide, rfl⟩
theorem pa_32 : PA 32 12 := ⟨by decide, rfl⟩
theorem pa_33 : PA 33 12 := ⟨by decide, rfl⟩
theorem pa_34 : PA 34 12 := ⟨by decide, rfl⟩
theorem pa_35 : PA 35 12 := ⟨by decide, rfl⟩
theorem pa_36 : PA 36 8 := ⟨by decide, rfl⟩
theorem pg_37 : PG 37 12 38 := ⟨by decide, rfl, by decide, by decide⟩
theorem pq_37 : ∀ i, i < 12 → PA (38 + i) 4 := by unfold PA; decide
theorem pa_38 : PA 38 4 := ⟨by decide, rfl⟩
theorem pa_39 : PA 39 4 := ⟨by decide, rfl⟩
theorem pa_40 : PA 40 4 := ⟨by decide, rfl⟩
theorem pa_41 : PA 41 4 := ⟨by decide, rfl⟩
theorem pa_42 : PA 42 4 := ⟨by decide, rfl⟩
theorem pa_43 : PA 43 4 := ⟨by decide, rfl⟩
theorem pa_44 : PA 44 4 := ⟨by decide, rfl⟩
theorem pa_45 : PA 45 4 := ⟨by decide, rfl⟩
theorem pa_46 : PA 46 4 := ⟨by decide, rfl⟩
theorem pa_47 : PA 47 4 := ⟨by decide, rfl⟩
theorem pa_48 : PA 48 4 := ⟨by decide, rfl⟩
theorem pa_49 : PA 49 4 := ⟨by decide, rfl⟩
theorem po_50 : PO 50 3 := ⟨by decide, 2, rfl⟩
theorem pr_50_0 : PR 50 3 0 51 := ⟨by decide, rfl, ⟨2, rfl, by decide⟩, by decide, rfl⟩
theorem pi_50_1 : PI 50 3 1 := ⟨by decide, rfl, 2, rfl, by decide⟩
theorem pg_51 : PG 51 9 52 := ⟨by decide, rfl, by decide, by decide⟩
theorem pq_51 : ∀ i, i < 9 → PA (52 + i) 144 := by unfold PA; decide
theorem pa_52 : PA 52 144 := ⟨by decide, rfl⟩
theorem pa_53 : PA 53 144 := ⟨by decide, rfl⟩
theorem pa_54 : PA 54 144 := ⟨by decide, rfl⟩
theorem pa_55 : PA 55 144 := ⟨by decide, rfl⟩
theorem pa_56 : PA 56 144 := ⟨by decide, rfl⟩
theorem pa_57 : PA 57 144 := ⟨by decide, rfl⟩
theorem pa_58 : PA 58 144 := ⟨by decide, rfl⟩
theorem pa_59 : PA 59 144 := ⟨by decide, rfl⟩
theorem pa_60 : PA 60 144 := ⟨by decide, rfl⟩
theorem po_61 : PO 61 7 := ⟨by decide, 3, rfl⟩
theorem pr_61_0 : PR 61 7 0 62 := ⟨by decide, rfl, ⟨3, rfl, by decide⟩, by decide, rfl⟩
theorem pr_61_1 : PR 61 7 1 63 := ⟨by decide, rfl, ⟨3, rfl, by decide⟩, by decide, rfl⟩
theorem pi_61_2 : PI 61 7 2 := ⟨by decide, rfl, 3, rfl, by decide⟩
theorem pa_62 : PA 62 144 := ⟨by decide, rfl⟩
theorem pg_63 : PG 63 4 64 := ⟨by decide, rfl, by decide, by decide⟩
theorem pq_63 : ∀ i, i < 4 → PA (64 + i) 48 := by unfold PA; decide
theorem pa_64 : PA 64 48 := ⟨by decide, rfl⟩
theorem pa_65 : PA 65 48 := ⟨by decide, rfl⟩
theorem pa_66 : PA 66 48 := ⟨by decide, rfl⟩
theorem pa_67 : PA 67 48 := ⟨by decide, rfl⟩
theorem po_68 : PO 68 9 := ⟨by decide, 6, rfl⟩
theorem pr_68_0 : PR 68 9 0 69 := ⟨by decide, rfl, ⟨6, rfl, by decide⟩, by decide, rfl⟩
theorem pr_68_1 : PR 68 9 1 70 := ⟨by decide, rfl, ⟨6, rfl, by decide⟩, by decide, rfl⟩
theorem pr_68_2 : PR 68 9 2 71 := ⟨by decide, rfl, ⟨6, rfl, by decide⟩, by decide, rfl⟩
theorem pi_68_3 : PI 68 9 3 := ⟨by decide, rfl, 6, rfl, by decide⟩
theorem pi_68_4 : PI 68 9 4 := ⟨by decide, rfl, 6, rfl, by decide⟩
theorem pi_68_5 : PI 68 9 5 := ⟨by decide, rfl, 6, rfl, by decide⟩
theorem pa_69 : PA 69 60 := ⟨by decide, rfl⟩
theorem pa_70 : PA 70 20 := ⟨by decide, rfl⟩
theorem pa_71 : PA 71 20 := ⟨by decide, rfl⟩
theorem po_72 : PO 72 1 := ⟨by decide, 2, rfl⟩
theorem pr_72_0 : PR 72 1 0 73 := ⟨by decide, rfl, ⟨2, rfl, by decide⟩, by decide, rfl⟩
theorem pi_72_1 : PI 72 1 1 := ⟨by decide, rfl, 2, rfl, by decide⟩
theorem po_74 : PO 74 6 := ⟨by decide, 5, rfl⟩
theorem pr_74_0 : PR 74 6 0 75 := ⟨by decide, rfl, ⟨5, rfl, by decide⟩, by decide, rfl⟩
theorem pr_74_1 : PR 74 6 1 76 := ⟨by decide, rfl, ⟨5, rfl, by decide⟩, by decide, rfl⟩
theorem pr_74_2 : PR 74 6 2 77 := ⟨by decide, rfl, ⟨5, rfl, by decide⟩, by decide, rfl⟩
theorem pi_74_3 : PI 74 6 3 := ⟨by decide, rfl, 5, rfl, by decide⟩
theorem pi_74_4 : PI 74 6 4 := ⟨by decide, rfl, 5, rfl, by decide⟩
theorem pa_75 : PA 75 4 := ⟨by decide, rfl⟩
theorem pa_76 : PA 76 40 := ⟨by decide, rfl⟩
theorem pa_77 : PA 77 40 := ⟨by decide, rfl⟩
theorem po_78 : PO 78 6 := ⟨by decide, 5, rfl⟩
theorem pr_78_0 : PR 78 6 0 79 := ⟨by decide, rfl, ⟨5, rfl, by decide⟩, by decide, rfl⟩
theorem pr_78_1 : PR 78 6 1 80 := ⟨by decide, rfl, ⟨5, rfl, by decide⟩, by decide, rfl⟩
theorem pr_78_2 : PR 78 6 2 81 := ⟨by decide, rfl, ⟨5, rfl, by decide⟩, by decide, rfl⟩
theorem pi_78_3 : PI 78 6 3 := ⟨by decide, rfl, 5, rfl, by decide⟩
theorem pi_78_4 : PI 78 6 4 := ⟨by decide, rfl, 5, rfl, by decide⟩
theorem pa_79 : PA 79 4 := ⟨by decide, rfl⟩
theorem pa_80 : PA 80 40 := ⟨by decide, rfl⟩
theorem pa_81 : PA 81 40 := ⟨by decide, rfl⟩
theorem po_82 : PO 82 6 := ⟨by decide, 5, rfl⟩
theorem pr_82_0 : PR 82 6 0 83 := ⟨by decide, rfl, ⟨5, rfl, by decide⟩, by decide, rfl⟩
theorem pr_82_1 : PR 82 6 1 84 := ⟨by decide, rfl, ⟨5, rfl, by decide⟩, by decide, rfl⟩
theorem pr_82_2 : PR 82 6 2 85 := ⟨by decide, rfl, ⟨5, rfl, by decide⟩, by decide, rfl⟩
theorem pi_82_3 : PI 82 6 3 := ⟨by decide, rfl, 5, rfl, by decide⟩
theorem pi_82_4 : PI 82 6 4 := ⟨by decide, rfl, 5, rfl, by decide⟩
theorem pa_83 : PA 83 4 := ⟨by decide, rfl⟩
theorem pa_84 : PA 84 40 := ⟨by decide, rfl⟩
theorem pa_85 : PA 85 40 := ⟨by decide, rfl⟩
theorem po_86 : PO 86 6 := ⟨by decide, 5, rfl⟩
theorem pr_86_0 : PR 86 6 0 87 := ⟨by decide, rfl, ⟨5, rfl, by decide⟩, by decide, rfl⟩
theorem pr_86_1 : PR 86 6 1 88 := ⟨by decide, rfl, ⟨5, rfl, by decide⟩, by decide, rfl⟩
theorem pr_86_2 : PR 86 6 2 89 := ⟨by decide, rfl, ⟨5, rfl, by decide⟩, by decide, rfl⟩
theorem pi_86_3 : PI 86 6 3 := ⟨by decide, rfl, 5, rfl, by decide⟩
theorem pi_86_4 : PI 86 6 4 := ⟨by decide, rfl, 5, rfl, by decide⟩
theorem pa_87 : PA 87 4 := ⟨by decide, rfl⟩
theorem pa_88 : PA 88 40 := ⟨by decide, rfl⟩
theorem pa_89 : PA 89 40 := ⟨by decide, rfl⟩
theorem po_90 : PO 90 6 := ⟨by decide, 5, rfl⟩
theorem pr_90_0 : PR 90 6 0 91 := ⟨by decide, rfl, ⟨5, rfl, by decide⟩, by decide, rfl⟩
theorem pr_90_1 : PR 90 6 1 92 := ⟨by decide, rfl, ⟨5, rfl, by decide⟩, by decide, rfl⟩
theorem pr_90_2 : PR 90 6 2 93 := ⟨by decide, rfl, ⟨5, rfl, by decide⟩, by decide, rfl⟩
theorem pi_90_3 : PI 90 6 3 := ⟨by decide, rfl, 5, rfl, by decide⟩
theorem pi_90_4 : PI 90 6 4 := ⟨by decide, rfl, 5, rfl, by decide⟩
theorem pa_91 : PA 91 4 := ⟨by decide, rfl⟩
theorem pa_92 : PA 92 40 := ⟨by decide, rfl⟩
theorem pa_93 : PA 93 40 := ⟨by decide, rfl⟩
theorem po_94 : PO 94 6 := ⟨by decide, 5, rfl⟩
theorem pr_94_0 : PR 94 6 0 95 := ⟨by decide, rfl, ⟨5, rfl, by decide⟩, by decide, rfl⟩
theorem pr_94_1 : PR 94 6 1 96 := ⟨by decide, rfl, ⟨5, rfl, by decide⟩, by decide, rfl⟩
theorem pr_94_2 : PR 94 6 2 97 := ⟨by decide, rfl, ⟨5, rfl, by decide⟩, by decide, rfl⟩
theorem pi_94_3 : PI 94 6 3 := ⟨by decide, rfl, 5, rfl, by decide⟩
theorem pi_94_4 : PI 94 6 4 := ⟨by decide, rfl, 5, rfl, by decide⟩
theorem pa_95 : PA 95 4 := ⟨by decide, rfl⟩
theorem pa_96 : PA 96 40 := ⟨by decide, rfl⟩
theorem pa_97 : PA 97 40 := ⟨by decide, rfl⟩
theorem po_98 : PO 98 6 := ⟨by decide, 5, rfl⟩
theorem pr_98_0 : PR 98 6 0 99 := ⟨by decide, rfl, ⟨5, rfl, by decide⟩, by decide, rfl⟩
theorem pr_98_1 : PR 98 6 1 100 := ⟨by decide, rfl, ⟨5, rfl, by decide⟩, by decide, rfl⟩
theorem pr_98_2 : PR 98 6 2 101 := ⟨by decide, rfl, ⟨5, rfl, by decide⟩, by decide, rfl⟩
theorem pi_98_3 : PI 98 6 3 := ⟨by decide, rfl, 5, rfl, by decide⟩
theorem pi_98_4 : PI 98 6 4 := ⟨by decide, rfl, 5, rfl, by decide⟩
theorem pa_99 : PA 99 4 := ⟨by decide, rfl⟩
theorem pa_100 : PA 100 40 := ⟨by decide, rfl⟩
theorem pa_101 : PA 101 40 := ⟨by decide, rfl⟩
theorem po_102 : PO 102 6 := ⟨by decide, 5, rfl⟩
theorem pr_102_0 : PR 102 6 0 103 := ⟨by decide, rfl, ⟨5, rfl, by decide⟩, by decide, rfl⟩
theorem pr_102_1 : PR 102 6 1 104 := ⟨by decide, rfl, ⟨5, rfl, by decide⟩, by decide, rfl⟩
theorem pr_102_2 : PR 102 6 2 105 := ⟨by decide, rfl, ⟨5, rfl, by decide⟩, by decide, rfl⟩
theorem pi_102_3 : PI 102 6 3 := ⟨by decide, rfl, 5, rfl, by decide⟩
theorem pi_102_4 : PI 102 6 4 := ⟨by decide, rfl, 5, rfl, by decide⟩
theorem pa_103 : PA 103 4 := ⟨by decide, rfl⟩
theorem pa_104 : PA 104 40 := ⟨by decide, rfl⟩
theorem pa_105 : PA 105 40 := ⟨by decide, rfl⟩
theorem po_106 : PO 106 6 := ⟨by decide, 5, rfl⟩
theorem pr_106_0 : PR 106 6 0 107 := ⟨by decide, rfl, ⟨5, rfl, by decide⟩, by decide, rfl⟩
theorem pr_106_1 : PR 106 6 1 108 := ⟨by decide, rfl, ⟨5, rfl, by decide⟩, by decide, rfl⟩
theorem pr_106_2 : PR 106 6 2 109 := ⟨by decide, rfl, ⟨5, rfl, by decide⟩, by decide, rfl⟩
theorem pi_106_3 : PI 106 6 3 := ⟨by decide, rfl, 5, rfl, by decide⟩
theorem pi_106_4 : PI 106 6 4 := ⟨by decide, rfl, 5, rfl, by decide⟩
theorem pa_107 : PA 107 4 := ⟨by decide, rfl⟩
theorem pa_108 : PA 108 40 := ⟨by decide, rfl⟩
theorem pa_109 : PA 109 40 := ⟨by decide, rfl⟩
theorem po_110 : PO 110 6 := ⟨by decide, 5, rfl⟩
theorem pr_110_0 : PR 110 6 0 111 := ⟨by decide, rfl, ⟨5, rfl, by decide⟩, by decide, rfl⟩
theorem pr_110_1 : PR 110 6 1 112 := ⟨by decide, rfl, ⟨5, rfl, by decide⟩, by decide, rfl⟩
theorem pr_110_2 : PR 110 6 2 113 := ⟨by decide, rfl, ⟨5, rfl, by decide⟩, by decide, rfl⟩
theorem pi_110_3 : PI 110 6 3 := ⟨by decide, rfl, 5, rfl, by decide⟩
theorem pi_110_4 : PI 110 6 4 := ⟨by decide, rfl, 5, rfl, by decide⟩
theorem pa_111 : PA 111 4 := ⟨by decide, rfl⟩
theorem pa_112 : PA 112 40 := ⟨by decide, rfl⟩
theorem pa_113 : PA 113 40 := ⟨by decide, rfl⟩
theorem po_114 : PO 114 6 := ⟨by decide, 5, rfl⟩
theorem pr_114_0 : PR 114 6 0 115 := ⟨by decide, rfl, ⟨5, rfl, by decide⟩, by decide, rfl⟩
theorem pr_114_1 : PR 114 6 1 116 := ⟨by decide, rfl, ⟨5, rfl, by decide⟩, by decide, rfl⟩
theorem pr_114_2 : PR 114 6 2 117 := ⟨by decide, rfl, ⟨5, rfl, by decide⟩, by decide, rfl⟩
theorem pi_114_3 : PI 114 6 3 := ⟨by decide, rfl, 5, rfl, by decide⟩
theorem pi_114_4 : PI 114 6 4 := ⟨by decide, rfl, 5, rfl, by decide⟩
theorem pa_115 : PA 115 4 := ⟨by decide, rfl⟩
theorem pa_116 : PA 116 40 := ⟨by decide, rfl⟩
theorem pa_117 : PA 117 40 := ⟨by decide, rfl⟩
theorem po_118 : PO 118 6 := ⟨by decide, 5, rfl⟩
theorem pr_118_0 : PR 118 6 0 119 := ⟨by decide, rfl, ⟨5, rfl, by decide⟩, by decide, rfl⟩
theorem pr_118_1 : PR 118 6 1 120 := ⟨by decide, rfl, ⟨5, rfl, by decide⟩, by decide, rfl⟩
theorem pr_118_2 : PR 118 6 2 121 := ⟨by decide, rfl, ⟨5, rfl, by decide⟩, by decide, rfl⟩
theorem pi_118_3 : PI 118 6 3 := ⟨by decide, rfl, 5, rfl, by decide⟩
theorem pi_118_4 : PI 118 6 4 := ⟨by decide, rfl, 5, rfl, by decide⟩
theorem pa_119 : PA 119 4 := ⟨by decide, rfl⟩
theorem pa_120 : PA 120 40 := ⟨by decide, rfl⟩
theorem pa_121 : PA 121 40 := ⟨by decide, rfl⟩
theorem po_122 : PO 122 6 := ⟨by decide, 5, rfl⟩
theorem pr_122_0 : PR 122 6 0 123 := ⟨by decide, rfl, ⟨5, rfl, by decide⟩, by decide, rfl⟩
theorem pr_122_1 : PR 122 6 1 124 := ⟨by decide, rfl, ⟨5, rfl, by decide⟩, by decide, rfl⟩
theorem pr_122_2 : PR 122 6 2 125 := ⟨by decide, rfl, ⟨5, rfl, by decide⟩, by decide, rfl⟩
theorem pi_122_3 : PI 122 6 3 := ⟨by decide, rfl, 5, rfl, by decide⟩
theorem pi_122_4 : PI 122 6 4 := ⟨by decide, rfl, 5, rfl, by decide⟩
theorem pa_123 : PA 123 4 := ⟨by decide, rfl⟩
theorem pa_124 : PA 124 40 := ⟨by decide, rfl⟩
theorem pa_125 : PA 125 40 := ⟨by decide, rfl⟩
theorem po_126 : PO 126 6 := ⟨by decide, 5, rfl⟩
theorem pr_126_0 : PR 126 6 0 127 := ⟨by decide, rfl, ⟨5, rfl, by decide⟩, by decide, rfl⟩
theorem pr_126_1 : PR 126 6 1 128 := ⟨by decide, rfl, ⟨5, rfl, by decide⟩, by decide, rfl⟩
theorem pr_126_2 : PR 126 6 2 129 := ⟨by decide, rfl, ⟨5, rfl, by decide⟩, by decide, rfl⟩
theorem pi_126_3 : PI 126 6 3 := ⟨by decide, rfl, 5, rfl, by decide⟩
theorem pi_126_4 : PI 126 6 4 := ⟨by decide, rfl, 5, rfl, by decide⟩
theorem pa_127 : PA 127 4 := ⟨by decide, rfl⟩
theorem pa_128 : PA 128 40 := ⟨by decide, rfl⟩
theorem pa_129 : PA 129 40 := ⟨by decide, rfl⟩
theorem po_130 : PO 130 6 := ⟨by decide, 5, rfl⟩
theorem pr_130_0 : PR 130 6 0 131 := ⟨by decide, rfl, ⟨5, rfl, by decide⟩, by decide, rfl⟩
theorem pr_130_1 : PR 130 6 1 132 := ⟨by decide, rfl, ⟨5, rfl, by decide⟩, by decide, rfl⟩
theorem pr_130_2 : PR 130 6 2 133 := ⟨by decide, rfl, ⟨5, rfl, by decide⟩, by decide, rfl⟩
theorem pi_130_3 : PI 130 6 3 := ⟨by decide, rfl, 5, rfl, by decide⟩
theorem pi_130_4 : PI 130 6 4 := ⟨by decide, rfl, 5, rfl, by decide⟩
theorem pa_131 : PA 131 4 := ⟨by decide, rfl⟩
theorem pa_132 : PA 132 40 := ⟨by decide, rfl⟩
theorem pa_133 : PA 133 40 := ⟨by decide, rfl⟩
theorem po_134 : PO 134 6 := ⟨by decide, 5, rfl⟩
theorem pr_134_0 : PR 134 6 0 135 := ⟨by decide, rfl, ⟨5, rfl, by decide⟩, by decide, rfl⟩
theorem pr_134_1 : PR 134 6 1 136 := ⟨by decide, rfl, ⟨5, rfl, by decide⟩, by decide, rfl⟩
theorem pr_134_2 : PR 134 6 2 137 := ⟨by decide, rfl, ⟨5, rfl, by decide⟩, by decide, rfl⟩
theorem pi_134_3 : PI 134 6 3 := ⟨by decide, rfl, 5, rfl, by decide⟩
theorem pi_134_4 : PI 134 6 4 := ⟨by decide, rfl, 5, rfl, by decide⟩
theorem pa_135 : PA 135 4 := ⟨by decide, rfl⟩
theorem pa_136 : PA 136 40 := ⟨by decide, rfl⟩
theorem pa_137 : PA 137 40 := ⟨by decide, rfl⟩
theorem po_138 : PO 138 0 := ⟨by decide, 4, rfl⟩
theorem pr_138_0 : PR 138 0 0 139 := ⟨by decide, rfl, ⟨4, rfl, by decide⟩, by decide, rfl⟩
theorem pr_138_1 : PR 138 0 1 140 := ⟨by decide, rfl, ⟨4, rfl, by decide⟩, by decide, rfl⟩
theorem pr_138_2 : PR 138 0 2 141 := ⟨by decide, rfl, ⟨4, rfl, by decide⟩, by decide, rfl⟩
theorem pi_138_3 : PI 138 0 3 := ⟨by decide, rfl, 4, rfl, by decide⟩
theorem pa_139 : PA 139 20 := ⟨by decide, rfl⟩
theorem pa_140 : PA 140 20 := ⟨by decide, rfl⟩
theorem pa_141 : PA 141 20 := ⟨by decide, rfl⟩
theorem po_143 : PO 143 4 := ⟨by decide, 3, rfl⟩
theorem pr_143_0 : PR 143 4 0 144 := ⟨by decide, rfl, ⟨3, rfl, by decide⟩, by decide, rfl⟩
theorem pi_143_1 : PI 143 4 1 := ⟨by decide, rfl, 3, rfl, by decide⟩
theorem pi_143_2 : PI 143 4 2 := ⟨by decide, rfl, 3, rfl, by decide⟩
theorem po_144 : PO 144 6 := ⟨by decide, 5, rfl⟩
theorem pr_144_0 : PR 144 6 0 145 := ⟨by decide, rfl, ⟨5, rfl, by decide⟩, by decide, rfl⟩
theorem pr_144_1 : PR 144 6 1 146 := ⟨by decide, rfl, ⟨5, rfl, by decide⟩, by decide, rfl⟩
theorem pr_144_2 : PR 144 6 2 147 := ⟨by decide, rfl, ⟨5, rfl, by decide⟩, by decide, rfl⟩
theorem pi_144_3 : PI 144 6 3 := ⟨by decide, rfl, 5, rfl, by decide⟩
theorem pi_144_4 : PI 144 6 4 := ⟨by decide, rfl, 5, rfl, by decide⟩
theorem pa_145 : PA 145 4 := ⟨by decide, rfl⟩
theorem pa_146 : PA 146 40 := ⟨by decide, rfl⟩
theorem pa_147 : PA 147 40 := ⟨by decide, rfl⟩
theorem po_148 : PO 148 4 := ⟨by decide, 3, rfl⟩
theorem pr_148_0 : PR 148 4 0 149 := ⟨by decide, rfl, ⟨3, rfl, by decide⟩, by decide, rfl⟩
theorem pi_148_1 : PI 148 4 1 := ⟨by decide, rfl, 3, rfl, by decide⟩
theorem pi_148_2 : PI 148 4 2 := ⟨by decide, rfl, 3, rfl, by decide⟩
theorem po_149 : PO 149 6 := ⟨by decide, 5, rfl⟩
theorem pr_149_0 : PR 149 6 0 150 := ⟨by decide, rfl, ⟨5, rfl, by decide⟩, by decide, rfl⟩
theorem pr_149_1 : PR 149 6 1 151 := ⟨by decide, rfl, ⟨5, rfl, by decide⟩, by decide, rfl⟩
theorem pr_149_2 : PR 149 6 2 152 := ⟨by decide, rfl, ⟨5, rfl, by decide⟩, by decide, rfl⟩
theorem pi_149_3 : PI 149 6 3 := ⟨by decide, rfl, 5, rfl, by decide⟩
theorem pi_149_4 : PI 149 6 4 := ⟨by decide, rfl, 5, rfl, by decide⟩
theorem pa_150 : PA 150 4 := ⟨by decide, rfl⟩
theorem pa_151 : PA 151 40 := ⟨by decide, rfl⟩
theorem pa_152 : PA 152 40 := ⟨by decide, rfl⟩
theorem po_153 : PO 153 11 := ⟨by decide, 24, rfl⟩
theorem pr_153_0 : PR 153 11 0 154 := ⟨by decide, rfl, ⟨24, rfl, by decide⟩, by decide, rfl⟩
theorem pi_153_1 : PI 153 11 1 := ⟨by decide, rfl, 24, rfl, by decide⟩
theorem pi_153_2 : PI 153 11 2 := ⟨by decide, rfl, 24, rfl, by decide⟩
theorem pi_153_3 : PI 153 11 3 := ⟨by decide, rfl, 24, rfl, by decide⟩
theorem pr_153_4 : PR 153 11 4 155 := ⟨by decide, rfl, ⟨24, rfl, by decide⟩, by decide, rfl⟩
theorem pr_153_5 : PR 153 11 5 156 := ⟨by decide, rfl, ⟨24, rfl, by decide⟩, by decide, rfl⟩
theorem pi_153_6 : PI 153 11 6 := ⟨by decide, rfl, 24, rfl, by decide⟩
theorem pi_153_7 : PI 153 11 7 := ⟨by decide, rfl, 24, rfl, by decide⟩
theorem pr_153_8 : PR 153 11 8 157 := ⟨by decide, rfl, ⟨24, rfl, by decide⟩, by decide, rfl⟩
theorem pr_153_9 : PR 153 11 9 158 := ⟨by decide, rfl, ⟨24, rfl, by decide⟩, by decide, rfl⟩
theorem pr_153_10 : PR 153 11 10 159 := ⟨by decide, rfl, ⟨24, rfl, by decide⟩, by decide, rfl⟩
theorem pi_153_11 : PI 153 11 11 := ⟨by decide, rfl, 24, rfl, by decide⟩
theorem pr_153_12 : PR 153 11 12 160 := ⟨by decide, rfl, ⟨24, rfl, by decide⟩, by decide, rfl⟩
theorem pr_153_13 : PR 153 11 13 161 := ⟨by decide, rfl, ⟨24, rfl, by decide⟩, by decide, rfl⟩
theorem pr_153_14 : PR 153 11 14 162 := ⟨by decide, rfl, ⟨24, rfl, by decide⟩, by decide, rfl⟩
theorem pr_153_15 : PR 153 11 15 163 := ⟨by decide, rfl, ⟨24, rfl, by decide⟩, by decide, rfl⟩
theorem pr_153_16 : PR 153 11 16 164 := ⟨by decide, rfl, ⟨24, rfl, by decide⟩, by decide, rfl⟩
theorem pr_153_17 : PR 153 11 17 165 := ⟨by decide, rfl, ⟨24, rfl, by decide⟩, by decide, rfl⟩
theorem pr_153_18 : PR 153 11 18 166 := ⟨by decide, rfl, ⟨24, rfl, by decide⟩, by decide, rfl⟩
theorem pi_153_19 : PI 153 11 19 := ⟨by decide, rfl, 24, rfl, by decide⟩
theorem pi_153_20 : PI 153 11 20 := ⟨by decide, rfl, 24, rfl, by decide⟩
theorem pr_153_21 : PR 153 11 21 167 := ⟨by decide, rfl, ⟨24, rfl, by decide⟩, by decide, rfl⟩
theorem pr_153_22 : PR 153 11 22 168 := ⟨by decide, rfl, ⟨24, rfl, by decide⟩, by decide, rfl⟩
theorem pi_153_23 : PI 153 11 23 := ⟨by decide, rfl, 24, rfl, by decide⟩
theorem pa_154 : PA 154 1634 := ⟨by decide, rfl⟩
theorem pa_155 : PA 155 2 := ⟨by decide, rfl⟩
theorem pa_156 : PA 156 60 := ⟨by decide, rfl⟩
theorem pa_157 : PA 157 20 := ⟨by decide, rfl⟩
theorem pa_158 : PA 158 20 := ⟨by decide, rfl⟩
theorem pa_159 : PA 159 20 := ⟨by decide, rfl⟩
theorem pa_160 : PA 160 52 := ⟨by decide, rfl⟩
theorem pa_161 : PA 161 12 := ⟨by decide, rfl⟩
theorem pa_162 : PA 162 160 := ⟨by decide, rfl⟩
theorem pa_163 : PA 163 160 := ⟨by decide, rfl⟩
theorem pa_164 : PA 164 160 := ⟨by decide, rfl⟩
theorem pa_165 : PA 165 160 := ⟨by decide, rfl⟩
theorem pa_166 : PA 166 160 := ⟨by decide, rfl⟩
theorem pa_167 : PA 167 40 := ⟨by decide, rfl⟩
theorem pa_168 : PA 168 40 := ⟨by decide, rfl⟩
