theorem bi_m10 : (Int8.ofInt (-10)).toInt32 = (-10) := by decide
theorem bi_6 : (Int8.ofInt 6).toInt32 = 6 := by decide
theorem bi_7 : (Int8.ofInt 7).toInt32 = 7 := by decide
theorem bi_8 : (Int8.ofInt 8).toInt32 = 8 := by decide
theorem bi_9 : (Int8.ofInt 9).toInt32 = 9 := by decide
theorem bi_10 : (Int8.ofInt 10).toInt32 = 10 := by decide
theorem bi_12 : (Int8.ofInt 12).toInt32 = 12 := by decide
theorem bi_15 : (Int8.ofInt 15).toInt32 = 15 := by decide
theorem bi_16 : (Int8.ofInt 16).toInt32 = 16 := by decide
theorem bi_20 : (Int8.ofInt 20).toInt32 = 20 := by decide
theorem bi_40 : (Int8.ofInt 40).toInt32 = 40 := by decide
theorem bi_46 : (Int8.ofInt 46).toInt32 = 46 := by decide
theorem bi_48 : (Int8.ofInt 48).toInt32 = 48 := by decide
theorem bi_49 : (Int8.ofInt 49).toInt32 = 49 := by decide
theorem bi_57 : (Int8.ofInt 57).toInt32 = 57 := by decide
theorem bi_58 : (Int8.ofInt 58).toInt32 = 58 := by decide
theorem bi_59 : (Int8.ofInt 59).toInt32 = 59 := by decide
theorem bi_60 : (Int8.ofInt 60).toInt32 = 60 := by decide
theorem bi_86 : (Int8.ofInt 86).toInt32 = 86 := by decide
theorem bi_97 : (Int8.ofInt 97).toInt32 = 97 := by decide
theorem bi_100 : (Int8.ofInt 100).toInt32 = 100 := by decide
theorem ic_m1 : Int32.ofInt (-1) = (-1) := by decide
theorem ic_0 : Int32.ofInt 0 = 0 := by decide
theorem ic_1 : Int32.ofInt 1 = 1 := by decide
theorem ic_2 : Int32.ofInt 2 = 2 := by decide
theorem ic_3 : Int32.ofInt 3 = 3 := by decide
theorem ic_4 : Int32.ofInt 4 = 4 := by decide
theorem ic_5 : Int32.ofInt 5 = 5 := by decide
theorem si_144 : (Int16.ofInt 144).toInt32 = 144 := by decide
theorem si_160 : (Int16.ofInt 160).toInt32 = 160 := by decide
theorem si_256 : (Int16.ofInt 256).toInt32 = 256 := by decide
theorem si_1000 : (Int16.ofInt 1000).toInt32 = 1000 := by decide
theorem si_1462 : (Int16.ofInt 1462).toInt32 = 1462 := by decide
theorem tnl_0 : (0 : Int32).toNatClampNeg = 0 := by decide
theorem tnl_1 : (1 : Int32).toNatClampNeg = 1 := by decide
theorem tnl_2 : (2 : Int32).toNatClampNeg = 2 := by decide
theorem tnl_3 : (3 : Int32).toNatClampNeg = 3 := by decide
theorem tnl_4 : (4 : Int32).toNatClampNeg = 4 := by decide
theorem tnl_5 : (5 : Int32).toNatClampNeg = 5 := by decide
theorem tnl_6 : (6 : Int32).toNatClampNeg = 6 := by decide
theorem tnl_7 : (7 : Int32).toNatClampNeg = 7 := by decide
theorem tnl_8 : (8 : Int32).toNatClampNeg = 8 := by decide
theorem tnl_15 : (15 : Int32).toNatClampNeg = 15 := by decide
theorem ii_1 (x : Int32) : x + Int32.ofInt 1 = x + 1 := by rw [ic_1]
theorem ii_m1 (x : Int32) : x + Int32.ofInt (-1) = x + (-1) := by rw [ic_m1]
theorem sw_out (x : Int32) {lo hi : Int} (h : ∀ n : Int, lo ≤ n → n ≤ hi → ¬ x = Int32.ofInt n) : x.toInt < lo ∨ hi < x.toInt := by
  by_cases h1 : x.toInt < lo
  · exact Or.inl h1
  · by_cases h2 : hi < x.toInt
    · exact Or.inr h2
    · exact absurd (Int32.ofInt_toInt x).symm (h x.toInt (by omega) (by omega))
theorem nb {v : Int32} (h : v = 0 ∨ v = 1) : narrow .boolean (.int v) = .int v := by rcases h with rfl | rfl <;> decide
section OKT
variable {D D2 : Md} {z q : Nat × Nat} {pc : Nat} {L : List (Nat × Value)} {st : List Value} {S S' : Mm} {M : Mem} {post : Option Value → Mem → Prop}
theorem ok_aload_nN {k : Fin 4} (hd : decode D.2.1 pc = .ok (.aload_n k, 1)) (j : Nat) (hj : L[j]? = some (k.val, .null)) (kk : Ok D q z (pc + 1) L (.null :: st) M post) : Ok D q z pc L st M post :=
  fun g B p l e s m args below meth c H locs ls C h1 h2 h3 h4 => lv_aload_nN C.1 C.2.1 hd rfl (ls_at h4 hj) (kk g B p l e s m args below meth c H locs ls C h1 h2 h3 h4)
theorem ok_astore_nN {k : Fin 4} {L1 : List (Nat × Value)} (hd : decode D.2.1 pc = .ok (.astore_n k, 1)) (hn : k.val < D.2.2.1) (hL : (k.val, Value.null) :: L.filter (fun q => !(q.1 == k.val) && !(q.1 + 1 == k.val && q.2.category == 2)) = L1) (kk : Ok D q z (pc + 1) L1 st M post) : Ok D q z pc L (.null :: st) M post :=
  fun g B p l e s m args below meth c H locs ls C h1 h2 h3 h4 => lv_astore_nN C.1 C.2.1 hd rfl h4 hn (ls_put hL) (fun ls9 hl9 => kk g B p l e s m args below meth c H locs ls9 C h1 h2 h3 hl9)
theorem okS_aheadL {j : Nat} {i : Int32} (hd : decode D.2.1 pc = .ok (.aaload, 1)) (hi : inb i 16) (hj : i.toNatClampNeg = j) (kk : Ok D (0, 0) z (pc + 1) L (.ref (S.2 j) :: st) (St S) post) : Ok D (0, 0) z pc L (.int i :: .ref 73 :: st) (St S) post := by
  subst hj
  exact okS_ahead hd hi kk
theorem okS_aheadSetL {j : Nat} {i : Int32} {y : Nat} (hd : decode D.2.1 pc = .ok (.aastore, 1)) (hi : inb i 16) (hj : i.toNatClampNeg = j) (hy : NW y = true) (kk : Ok D (0, 0) z (pc + 1) L st (St (wp S j y)) post) : Ok D (0, 0) z pc L (.ref y :: .int i :: .ref 73 :: st) (St S) post := by
  subst hj
  exact okS_aheadSet hd hi hy kk
end OKT
