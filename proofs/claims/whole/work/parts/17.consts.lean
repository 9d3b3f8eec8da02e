theorem bi_m10 : (Int8.ofInt (-10)).toInt32 = (-10) := by decide
theorem bi_6 : (Int8.ofInt 6).toInt32 = 6 := by decide
theorem bi_7 : (Int8.ofInt 7).toInt32 = 7 := by decide
theorem bi_8 : (Int8.ofInt 8).toInt32 = 8 := by decide
theorem bi_9 : (Int8.ofInt 9).toInt32 = 9 := by decide
theorem bi_10 : (Int8.ofInt 10).toInt32 = 10 := by decide
theorem bi_12 : (Int8.ofInt 12).toInt32 = 12 := by decide
theorem bi_15 : (Int8.ofInt 15).toInt32 = 15 := by decide
theorem bi_16 : (Int8.ofInt 16).toInt32 = 16 := by decide
theorem bi_20 : (Int8.ofInt 20).toInt32 = 20 := by decide
theorem bi_40 : (Int8.ofInt 40).toInt32 = 40 := by decide
theorem bi_46 : (Int8.ofInt 46).toInt32 = 46 := by decide
theorem bi_48 : (Int8.ofInt 48).toInt32 = 48 := by decide
theorem bi_49 : (Int8.ofInt 49).toInt32 = 49 := by decide
theorem bi_57 : (Int8.ofInt 57).toInt32 = 57 := by decide
theorem bi_58 : (Int8.ofInt 58).toInt32 = 58 := by decide
theorem bi_59 : (Int8.ofInt 59).toInt32 = 59 := by decide
theorem bi_60 : (Int8.ofInt 60).toInt32 = 60 := by decide
theorem bi_86 : (Int8.ofInt 86).toInt32 = 86 := by decide
theorem bi_97 : (Int8.ofInt 97).toInt32 = 97 := by decide
theorem bi_100 : (Int8.ofInt 100).toInt32 = 100 := by decide
theorem ic_m1 : Int32.ofInt (-1) = (-1) := by decide
theorem ic_0 : Int32.ofInt 0 = 0 := by decide
theorem ic_1 : Int32.ofInt 1 = 1 := by decide
theorem ic_2 : Int32.ofInt 2 = 2 := by decide
theorem ic_3 : Int32.ofInt 3 = 3 := by decide
theorem ic_4 : Int32.ofInt 4 = 4 := by decide
theorem ic_5 : Int32.ofInt 5 = 5 := by decide
theorem si_144 : (Int16.ofInt 144).toInt32 = 144 := by decide
theorem si_160 : (Int16.ofInt 160).toInt32 = 160 := by decide
theorem si_256 : (Int16.ofInt 256).toInt32 = 256 := by decide
theorem si_1000 : (Int16.ofInt 1000).toInt32 = 1000 := by decide
theorem si_1462 : (Int16.ofInt 1462).toInt32 = 1462 := by decide
theorem ii_1 (x : Int32) : x + Int32.ofInt 1 = x + 1 := by rw [ic_1]
theorem ii_m1 (x : Int32) : x + Int32.ofInt (-1) = x + (-1) := by rw [ic_m1]
theorem sw_out (x : Int32) {lo hi : Int} (h : ∀ n : Int, lo ≤ n → n ≤ hi → ¬ x = Int32.ofInt n) : x.toInt < lo ∨ hi < x.toInt := by
  by_cases h1 : x.toInt < lo
  · exact Or.inl h1
  · by_cases h2 : hi < x.toInt
    · exact Or.inr h2
    · exact absurd (Int32.ofInt_toInt x).symm (h x.toInt (by omega) (by omega))
