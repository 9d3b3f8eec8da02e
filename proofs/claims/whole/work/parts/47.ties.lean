/-! ===== ties and heaps ===== -/
def hb (x : Int32) (w : Nat) : Bool := x.toBitVec.getLsbD w
theorem bit_pow : ∀ w, w < 8 → (bit w).toBitVec = BitVec.twoPow 32 w := by decide
theorem bit_ne : ∀ w, w < 8 → bit w ≠ 0 := by decide
theorem and_bit (x : Int32) {w : Nat} (hw : w < 8) : x &&& bit w = if hb x w then bit w else 0 := by
  apply Int32.toBitVec_inj.mp
  rw [Int32.toBitVec_and, bit_pow w hw, BitVec.and_twoPow]
  unfold hb
  split
  · exact (bit_pow w hw).symm
  · rfl
def l1 (xs : List Fq) (f : Nat) : Bool := (xs[f]?).any fun q => decide (q.2.1 = 1)
def dk (r : Nat → Int32) (k : Nat) : Nat := (r (6 + k)).toNatClampNeg
def tch (r : Nat → Int32) (xs : List Fq) (k f : Nat) : Bool := (xs[f]?).any fun q => decide (q.2.1 = 1) && (decide (q.2.2.1 ≤ dk r k ∧ dk r k ≤ q.2.2.2) && hb (r (46 + k)) q.1)
theorem l1_at {xs : List Fq} {f : Nat} {q : Fq} (h : xs[f]? = some q) : l1 xs f = decide (q.2.1 = 1) := by unfold l1; rw [h]; rfl
theorem l1_lt {xs : List Fq} {f : Nat} (h : l1 xs f = true) : f < xs.length := by
  refine Nat.not_le.mp fun h1 => ?_
  unfold l1 at h
  rw [List.getElem?_eq_none h1] at h
  cases h
theorem tch_at {r : Nat → Int32} {xs : List Fq} {k f : Nat} {q : Fq} (h : xs[f]? = some q) : tch r xs k f = (decide (q.2.1 = 1) && (decide (q.2.2.1 ≤ dk r k ∧ dk r k ≤ q.2.2.2) && hb (r (46 + k)) q.1)) := by unfold tch; rw [h]; rfl
theorem tch_l1 {r : Nat → Int32} {xs : List Fq} {k f : Nat} (h : tch r xs k f = true) : l1 xs f = true := by
  unfold tch at h
  unfold l1
  cases hx : xs[f]? with
  | none => rw [hx] at h; cases h
  | some q =>
    rw [hx] at h
    rw [Option.any_some, Bool.and_eq_true] at h
    rw [Option.any_some]
    exact h.1
def Cc (r : Nat → Int32) (xs : List Fq) (K : Nat) (lab : Nat → Nat) : Prop := ∀ k, k < K → ∀ f g, tch r xs k f = true → tch r xs k g = true → lab f = lab g
def Gx (r : Nat → Int32) (xs : List Fq) (K : Nat) (lab : Nat → Nat) : Prop := (∀ f, l1 xs f = true → lab f ≤ f ∧ l1 xs (lab f) = true) ∧ ∀ lab' : Nat → Nat, Cc r xs K lab' → ∀ f, l1 xs f = true → lab' f = lab' (lab f)
theorem Gx_uniq {r : Nat → Int32} {xs : List Fq} {K : Nat} {a b : Nat → Nat} (ha : Gx r xs K a) (ca : Cc r xs K a) (hb : Gx r xs K b) (cb : Cc r xs K b) (f : Nat) (hf : l1 xs f = true) : a f = b f := by
  have h1 := hb.2 a ca f hf
  have h2 := ha.2 b cb f hf
  have h3 := (ha.1 (b f) (hb.1 f hf).2).1
  have h4 := (hb.1 (a f) (ha.1 f hf).2).1
  omega
theorem Gx.idem {r : Nat → Int32} {xs : List Fq} {K : Nat} {a : Nat → Nat} (ha : Gx r xs K a) (ca : Cc r xs K a) (f : Nat) (hf : l1 xs f = true) : a (a f) = a f := (ha.2 a ca f hf).symm
theorem Cc.down {r : Nat → Int32} {xs : List Fq} {K : Nat} {lab : Nat → Nat} (h : Cc r xs (K + 1) lab) : Cc r xs K lab := fun k hk => h k (by omega)
theorem Gx.up {r : Nat → Int32} {xs : List Fq} {K : Nat} {lab : Nat → Nat} (h : Gx r xs K lab) : Gx r xs (K + 1) lab := ⟨h.1, fun l' hl => h.2 l' hl.down⟩
/-- u and v one heap -/
def jn (lab : Nat → Nat) (go st : Nat) (f : Nat) : Nat := if lab f = go then st else lab f
def HX (S : Mm) (xs : List Fq) (lab : Nat → Nat) : Prop := ∀ f, f < xs.length → S.1 62 f = if l1 xs f then nI (lab f) else -1
theorem x_has {S : Mm} {n f : Nat} (hn : S.1 50 1 = nI n) (h144 : n ≤ 144) (hf : f < n) : f_X3_has S (nI f) = some 1 := by
  unfold f_X3_has
  simp (disch := omega) only [nI_add, nI_1, nI_leI, nI_ltI, nI_eq, inb_nI, nI_clamp, if_pos, if_neg, if_true, if_false, bnd, l_0, l_1, l_2, l_3, l_4, l_5, l_6, l_7, l_8, l_9, l_10, l_11, l_12, l_13, l_14, l_15, l_16, l_17, l_18, l_19, l_20, l_21, l_22, l_23, l_24, l_25, l_26, l_27, l_28, l_29, l_30, l_31, l_32, l_33, l_34, l_35, l_36, l_37, l_38, l_39, l_40, l_41, l_42, l_43, l_44, l_45, l_46, l_47, l_48, l_49, l_50, l_51, l_52, l_53, l_54, l_55, l_56, l_57, l_58, l_59, l_60, l_61, l_62, l_63, l_64, l_65, l_66, l_67, l_68, l_69, l_70, l_71, l_72, l_73, l_74, l_75, l_76, l_77, l_78, l_79, l_80, l_81, l_82, l_83, l_84, l_85, l_86, l_87, l_88, l_89, l_90, l_91, l_92, l_93, l_94, l_95, l_96, l_97, l_98, l_99, l_100, l_123, l_144, l_160, l_255, l_256, l_1000, l_1462, l_1634, l_65536, hn]
theorem x_isAtOne {S : Mm} {xs : List Fq} {f : Nat} {q : Fq} (hH : Hf S 52 xs) (hB : Bq xs) (hn : S.1 50 1 = nI xs.length) (h144 : xs.length ≤ 144) (hf : xs[f]? = some q) : f_X3_isAtOne S (nI f) = some (if l1 xs f then 1 else 0) := by
  have hl : f < xs.length := (List.getElem?_eq_some_iff.mp hf).1
  obtain ⟨-, e2, -, -⟩ := hH f q hf
  obtain ⟨b1, b2, b3, b4, b5⟩ := hB f q hf
  unfold f_X3_isAtOne
  rw [x_has hn h144 hl, l1_at hf, bnd, if_neg (by decide), if_pos ((inb_nI (by omega)).mpr (by omega)), nI_clamp (by omega), e2]
  by_cases h : q.2.1 = 1
  · rw [if_pos (by rw [h]; rfl), if_pos (by simp [h])]
  · rw [if_neg (by rw [l_1]; exact fun e => h ((nI_eq (by omega) (by omega)).mp e)), if_neg (by simp [h])]
theorem x_setOf {S : Mm} {xs : List Fq} {f : Nat} {q : Fq} (hH : Hf S 52 xs) (hn : S.1 50 1 = nI xs.length) (h144 : xs.length ≤ 144) (hf : xs[f]? = some q) : f_X3_setOf S (nI f) = some (bit q.1) := by
  have hl : f < xs.length := (List.getElem?_eq_some_iff.mp hf).1
  obtain ⟨e1, -, -, -⟩ := hH f q hf
  unfold f_X3_setOf
  rw [x_has hn h144 hl, bnd, if_neg (by decide), if_pos ((inb_nI (by omega)).mpr (by omega)), nI_clamp (by omega), e1, set_y]
  rfl
theorem x_joined_loop {n go st : Nat} {c1 c2 : Int32} {k : Int32 → Mm → Option (Int32 × Mm)} (h144 : n ≤ 144) : ∀ (m i fuel : Nat) (S : Mm), i + m = n → m < fuel → ∃ S', lp_X7_joined_17 k c1 c2 (nI n) (nI st) (nI go) fuel (nI i) S = k (nI n) S' ∧ S'.2 = S.2 ∧ (∀ a j, a ≠ 62 ∨ j < i → S'.1 a j = S.1 a j) ∧ ∀ j, i ≤ j → j < n → S'.1 62 j = if S.1 62 j = nI go then nI st else S.1 62 j := by
  intro m
  induction m with
  | zero =>
    intro i fuel S h1 h2
    obtain ⟨f, rfl⟩ : ∃ f, fuel = f + 1 := ⟨fuel - 1, by omega⟩
    refine ⟨S, ?_, rfl, fun _ _ _ => rfl, fun j h3 h4 => absurd h4 (by omega)⟩
    rw [lp_X7_joined_17, show i = n by omega, if_pos (nI_le (Nat.le_refl n) (by omega))]
  | succ m ih =>
    intro i fuel S h1 h2
    obtain ⟨f, rfl⟩ : ∃ f, fuel = f + 1 := ⟨fuel - 1, by omega⟩
    have hb : inb (nI i) 144 := (inb_nI (by omega)).mpr (by omega)
    by_cases hc : S.1 62 i = nI go
    · have hk : ∀ a j, ¬ (a = 62 ∧ j = i) → (wr S 62 i (nI st)).1 a j = S.1 a j := fun a j h => if_neg h
      obtain ⟨S', e1, e2, e3, e4⟩ := ih (i + 1) f (wr S 62 i (nI st)) (by omega) (by omega)
      refine ⟨S', ?_, e2, fun a j h => (e3 a j (by omega)).trans (hk a j (by omega)), fun j h3 h4 => ?_⟩
      · rw [lp_X7_joined_17]
        simp (disch := omega) only [nI_add, nI_1, nI_leI, nI_ltI, nI_eq, inb_nI, nI_clamp, if_pos, if_neg, if_true, if_false, bnd, hc]
        exact e1
      · by_cases hj : j = i
        · subst hj
          rw [e3 62 j (Or.inr (by omega)), if_pos hc]; exact wr_s _ _ _ _
        · rw [e4 j (by omega) h4, hk 62 j (by omega)]
    · obtain ⟨S', e1, e2, e3, e4⟩ := ih (i + 1) f S (by omega) (by omega)
      refine ⟨S', ?_, e2, fun a j h => e3 a j (by omega), fun j h3 h4 => ?_⟩
      · rw [lp_X7_joined_17]
        simp (disch := omega) only [nI_add, nI_1, nI_leI, nI_ltI, nI_eq, inb_nI, nI_clamp, if_pos, if_neg, if_true, if_false, bnd, hc]
        exact e1
      · by_cases hj : j = i
        · subst hj
          rw [e3 62 j (Or.inr (by omega)), if_neg hc]
        · exact e4 j (by omega) h4
theorem x_joined {S : Mm} {xs : List Fq} {lab : Nat → Nat} {u v : Nat} (h144 : xs.length ≤ 144) (hX : HX S xs lab) (hlab : ∀ f, l1 xs f = true → lab f < 144) (hu : u < 144) (hv : v < 144) : ∃ S', f_X7_joined S (nI u) (nI v) (nI xs.length) = some (nI (min u v), S') ∧ S'.2 = S.2 ∧ (∀ a j, a ≠ 62 → S'.1 a j = S.1 a j) ∧ HX S' xs (jn lab (max u v) (min u v)) := by
  obtain ⟨F, hFu⟩ : ∃ F : Nat, 100000 = F := ⟨_, rfl⟩
  have e5 : (if nI v < nI u then nI v else nI u) = nI (min u v) := by
    by_cases h : v < u
    · rw [if_pos (nI_lt h (by omega)), Nat.min_eq_right (by omega)]
    · rw [if_neg (nI_nlt (by omega) (by omega)), Nat.min_eq_left (by omega)]
  have e6 : (if nI u < nI v then nI v else nI u) = nI (max u v) := by
    by_cases h : u < v
    · rw [if_pos (nI_lt h (by omega)), Nat.max_eq_right (by omega)]
    · rw [if_neg (nI_nlt (by omega) (by omega)), Nat.max_eq_left (by omega)]
  obtain ⟨S', e1, e2, e3, e4⟩ := x_joined_loop (go := max u v) (st := min u v) (c1 := nI u) (c2 := nI v) (k := fun _ S4 => some (nI (min u v), S4)) h144 xs.length 0 F S (by omega) (by omega)
  refine ⟨S', ?_, e2, fun a j h => e3 a j (Or.inl h), fun f hf => ?_⟩
  · unfold f_X7_joined
    rw [hFu, l_0]
    rw [e5, e6, e1]
  · rw [e4 f (Nat.zero_le f) hf, hX f hf]
    cases hl : l1 xs f with
    | false =>
      simp only [Bool.false_eq_true, if_false]
      rw [if_neg]
      intro h
      exact nI_pos (show max u v < 2 ^ 31 by omega) (by rw [← h]; decide)
    | true =>
      have := hlab f hl
      simp only [if_true]
      unfold jn
      by_cases h : lab f = max u v
      · rw [if_pos (by rw [h]), if_pos h]
      · rw [if_neg (fun e => h ((nI_eq (by omega) (by omega)).mp e)), if_neg h]

/-- cells but the heaps -/
def Fh (S S' : Mm) : Prop := S'.2 = S.2 ∧ ∀ a j, a ≠ 62 → S'.1 a j = S.1 a j
theorem Fh.hf {S S' : Mm} {xs : List Fq} (h : Fh S S') (hH : Hf S 52 xs) : Hf S' 52 xs := hH.keep (fun a j h3 h4 => h.2 a j (by omega))
theorem fi_ne {t : Nat} (h : t < 2 ^ 31) : fi (some t) ≠ -1 := fun e => nI_pos h (by have e : nI t = -1 := e; rw [e]; decide)
theorem x_tie_loop {r : Nat → Int32} {xs : List Fq} {K d : Nat} {k : Int32 → Int32 → Mm → Option Mm} (hB : Bq xs) (h144 : xs.length ≤ 144) (hd : r (6 + K) = nI d) (hd12 : d < 12) : ∀ (m i fuel : Nat) (st : Option Nat) (lab : Nat → Nat) (S : Mm), i + m = xs.length → m < fuel → Hf S 52 xs → S.1 50 1 = nI xs.length → HX S xs lab → Gx r xs (K + 1) lab → Cc r xs K lab → (∀ f, f < i → tch r xs K f = true → st = some (lab f)) → (∀ t, st = some t → ∃ f, f < i ∧ tch r xs K f = true ∧ lab f = t) → ∃ (y z : Int32) (lab' : Nat → Nat) (S' : Mm), lp_X7_tieBy_6 k (r (6 + K)) (r (46 + K)) fuel (fi st) (nI i) S = k y z S' ∧ Fh S S' ∧ HX S' xs lab' ∧ Gx r xs (K + 1) lab' ∧ Cc r xs (K + 1) lab' := by
  intro m
  induction m with
  | zero =>
    intro i fuel st lab S h1 h2 hH hn hX hG hC ha hbk
    obtain ⟨f, rfl⟩ : ∃ f, fuel = f + 1 := ⟨fuel - 1, by omega⟩
    refine ⟨fi st, nI i, lab, S, ?_, ⟨rfl, fun _ _ _ => rfl⟩, hX, hG, fun k hk f g h3 h4 => ?_⟩
    · rw [lp_X7_tieBy_6, f_X3_number, bnd, hn, if_pos (nI_le (by omega) (by omega))]
    · by_cases hkK : k = K
      · subst hkK
        have h5 := l1_lt (tch_l1 h3)
        have h6 := l1_lt (tch_l1 h4)
        exact Option.some.inj ((ha f (by omega) h3).symm.trans (ha g (by omega) h4))
      · exact hC k (by omega) f g h3 h4
  | succ m ih =>
    intro i fuel st lab S h1 h2 hH hn hX hG hC ha hbk
    obtain ⟨f, rfl⟩ : ∃ f, fuel = f + 1 := ⟨fuel - 1, by omega⟩
    have hil : i < xs.length := by omega
    obtain ⟨q, hq⟩ : ∃ q, xs[i]? = some q := ⟨xs[i], List.getElem?_eq_getElem hil⟩
    obtain ⟨b1, b2, b3, b4, b5⟩ := hB i q hq
    have hdk : dk r K = d := by unfold dk; rw [hd, nI_clamp (by omega)]
    have ht := tch_at (r := r) (k := K) hq
    have e0 : f_X3_hasDay S (nI i) (r (6 + K)) = some (if q.2.2.1 ≤ d ∧ d ≤ q.2.2.2 then 1 else 0) := by rw [hd]; exact x_hasDay hH hB hn h144 hq (by omega)
    -- not touched
    have hno : tch r xs K i = false → ∃ (y z : Int32) (lab' : Nat → Nat) (S' : Mm), lp_X7_tieBy_6 k (r (6 + K)) (r (46 + K)) f (fi st) (nI i + 1) S = k y z S' ∧ Fh S S' ∧ HX S' xs lab' ∧ Gx r xs (K + 1) lab' ∧ Cc r xs (K + 1) lab' := by
      intro hz
      rw [nI_1]
      refine ih (i + 1) f st lab S (by omega) (by omega) hH hn hX hG hC (fun g hg hy => ?_) (fun t h => ?_)
      · have : g ≠ i := fun e => by rw [e, hz] at hy; cases hy
        exact ha g (by omega) hy
      · obtain ⟨g, h3, h4⟩ := hbk t h
        exact ⟨g, by omega, h4⟩
    rw [lp_X7_tieBy_6, f_X3_number, bnd, hn, if_neg (nI_ge hil (by omega)), x_isAtOne hH hB hn h144 hq, bnd]
    by_cases c1 : q.2.1 = 1
    · rw [l1_at hq, decide_eq_true c1, if_pos rfl, if_neg (by decide), e0, bnd]
      by_cases c2 : q.2.2.1 ≤ d ∧ d ≤ q.2.2.2
      · rw [if_pos c2, if_neg (by decide), x_setOf hH hn h144 hq, bnd, and_bit _ b1]
        by_cases c3 : hb (r (46 + K)) q.1 = true
        · have hti : tch r xs K i = true := by rw [ht, hdk, c3, decide_eq_true c1, decide_eq_true c2]; rfl
          have hl1 : l1 xs i = true := tch_l1 hti
          have hXi : S.1 62 i = nI (lab i) := by rw [hX i hil, hl1]; rfl
          have hlab : ∀ g, l1 xs g = true → lab g < 144 := fun g hg => by
            have := (hG.1 g hg).1
            have := l1_lt hg
            omega
          have hli := hlab i hl1
          rw [if_pos c3, if_neg (bit_ne _ b1)]
          cases st with
          | none =>
            rw [if_pos (show fi none = -1 from rfl), if_pos ((inb_nI (by omega)).mpr (by omega)), nI_clamp (by omega), hXi, nI_1]
            exact ih (i + 1) f (some (lab i)) lab S (by omega) (by omega) hH hn hX hG hC (fun g hg hy => by
              by_cases hgi : g = i
              · rw [hgi]
              · exact absurd (ha g (by omega) hy) (by simp)) (fun t h => ⟨i, by omega, hti, Option.some.inj h⟩)
          | some t =>
            obtain ⟨f0, g1, g2, g3⟩ := hbk t rfl
            have ht144 : t < 144 := by rw [← g3]; exact hlab f0 (tch_l1 g2)
            rw [if_neg (fi_ne (by omega)), if_pos ((inb_nI (by omega)).mpr (by omega)), nI_clamp (by omega), hXi, bnd]
            obtain ⟨S1, a1, a2, a3, a4⟩ := x_joined h144 hX hlab ht144 hli
            have hFh : Fh S S1 := ⟨a2, a3⟩
            rw [show fi (some t) = nI t from rfl, a1, bnd, nI_1]
            have hmm : ∀ lab' : Nat → Nat, Cc r xs (K + 1) lab' → lab' (max t (lab i)) = lab' (min t (lab i)) := fun lab' hl => by
              have h7 := hG.2 lab' hl f0 (tch_l1 g2)
              have h8 := hG.2 lab' hl i hl1
              have h9 := hl K (by omega) f0 i g2 hti
              rw [g3] at h7
              have h10 : lab' t = lab' (lab i) := by rw [← h7, ← h8, h9]
              rcases Nat.le_total t (lab i) with h | h
              · rw [Nat.max_eq_right h, Nat.min_eq_left h, h10]
              · rw [Nat.max_eq_left h, Nat.min_eq_right h, h10]
            have q1 : ∀ g, l1 xs g = true → jn lab (max t (lab i)) (min t (lab i)) g ≤ g ∧ l1 xs (jn lab (max t (lab i)) (min t (lab i)) g) = true := fun g hg => by
              unfold jn
              have h5 := hG.1 g hg
              by_cases h : lab g = max t (lab i)
              · rw [if_pos h]
                refine ⟨by omega, ?_⟩
                rcases Nat.le_total t (lab i) with h6 | h6
                · rw [Nat.min_eq_left h6, ← g3]; exact (hG.1 f0 (tch_l1 g2)).2
                · rw [Nat.min_eq_right h6]; exact (hG.1 i hl1).2
              · rw [if_neg h]; exact h5
            have q2 : ∀ lab' : Nat → Nat, Cc r xs (K + 1) lab' → ∀ g, l1 xs g = true → lab' g = lab' (jn lab (max t (lab i)) (min t (lab i)) g) := fun lab' hl g hg => by
              have h5 := hG.2 lab' hl g hg
              unfold jn
              by_cases h : lab g = max t (lab i)
              · rw [if_pos h, h5, h]; exact hmm lab' hl
              · rw [if_neg h]; exact h5
            have q3 : Cc r xs K (jn lab (max t (lab i)) (min t (lab i))) := fun k hk g g' h3 h4 => by unfold jn; rw [hC k hk g g' h3 h4]
            have q4 : ∀ g, g < i + 1 → tch r xs K g = true → some (min t (lab i)) = some (jn lab (max t (lab i)) (min t (lab i)) g) := fun g hg hy => by
              have h5 : lab g = t ∨ lab g = lab i := by
                by_cases hgi : g = i
                · right; rw [hgi]
                · left; exact (Option.some.inj (ha g (by omega) hy)).symm
              unfold jn
              by_cases h : lab g = max t (lab i)
              · rw [if_pos h]
              · rw [if_neg h]
                congr 1
                omega
            have q5 : ∀ t', some (min t (lab i)) = some t' → ∃ f, f < i + 1 ∧ tch r xs K f = true ∧ jn lab (max t (lab i)) (min t (lab i)) f = t' := fun t' h => by
              refine ⟨i, by omega, hti, ?_⟩
              unfold jn
              have := Option.some.inj h
              by_cases h6 : lab i = max t (lab i)
              · rw [if_pos h6]; exact this
              · rw [if_neg h6]; omega
            obtain ⟨y, z, lab', S', e1, e2, e3⟩ := ih (i + 1) f (some (min t (lab i))) (jn lab (max t (lab i)) (min t (lab i))) S1 (by omega) (by omega) (hFh.hf hH) ((a3 50 1 (by omega)).trans hn) a4 ⟨q1, q2⟩ q3 q4 q5
            exact ⟨y, z, lab', S', e1, ⟨e2.1.trans a2, fun a j h => (e2.2 a j h).trans (a3 a j h)⟩, e3⟩
        · have c3 : hb (r (46 + K)) q.1 = false := by simpa using c3
          rw [c3, if_neg (show ¬ (false = true) by decide), if_pos rfl]
          exact hno (by rw [ht, c3]; simp)
      · rw [if_neg c2, if_pos rfl]
        exact hno (by rw [ht, hdk, decide_eq_false c2]; simp)
    · rw [l1_at hq, decide_eq_false c1, if_neg (show ¬ (false = true) by decide), if_pos rfl]
      exact hno (by rw [ht, decide_eq_false c1]; rfl)
theorem x_tie {S : Mm} {r : Nat → Int32} {xs : List Fq} {K d : Nat} {lab : Nat → Nat} (hB : Bq xs) (h144 : xs.length ≤ 144) (hd : r (6 + K) = nI d) (hd12 : d < 12) (hH : Hf S 52 xs) (hn : S.1 50 1 = nI xs.length) (hX : HX S xs lab) (hG : Gx r xs K lab) (hC : Cc r xs K lab) : ∃ (lab' : Nat → Nat) (S' : Mm), f_X7_tieBy S (r (6 + K)) (r (46 + K)) = some S' ∧ Fh S S' ∧ HX S' xs lab' ∧ Gx r xs (K + 1) lab' ∧ Cc r xs (K + 1) lab' := by
  obtain ⟨F, hFu⟩ : ∃ F : Nat, 100000 = F := ⟨_, rfl⟩
  obtain ⟨y, z, lab', S', e1, e2⟩ := x_tie_loop (k := fun _ _ S => some S) hB h144 hd hd12 xs.length 0 F none lab S (by omega) (by omega) hH hn hX hG.up hC (fun f hf => absurd hf (by omega)) (fun t h => by cases h)
  refine ⟨lab', S', ?_, e2⟩
  unfold f_X7_tieBy
  rw [hFu, l_0]
  exact e1
theorem x_heaps_loop {r : Nat → Int32} {xs : List Fq} {n D : Nat} {k : Int32 → Mm → Option Mm} (hB : Bq xs) (h144 : xs.length ≤ 144) (hn1 : r 1 = nI n) (h40 : n ≤ 40) (hD : D ≤ 12) (hV : ∀ k, k < n → ∃ d, r (6 + k) = nI d ∧ d < D) : ∀ (m i fuel : Nat) (lab : Nat → Nat) (S : Mm), i + m = n → m < fuel → Row S 1 r → Hf S 52 xs → S.1 50 1 = nI xs.length → HX S xs lab → Gx r xs i lab → Cc r xs i lab → ∃ (lab' : Nat → Nat) (S' : Mm), lp_X7_findAll_37 k fuel (nI i) S = k (nI n) S' ∧ Fh S S' ∧ HX S' xs lab' ∧ Gx r xs n lab' ∧ Cc r xs n lab' := by
  intro m
  induction m with
  | zero =>
    intro i fuel lab S h1 h2 hR hH hn hX hG hC
    obtain ⟨f, rfl⟩ : ∃ f, fuel = f + 1 := ⟨fuel - 1, by omega⟩
    obtain rfl : i = n := by omega
    refine ⟨lab, S, ?_, ⟨rfl, fun _ _ _ => rfl⟩, hX, hG, hC⟩
    rw [lp_X7_findAll_37, f_X6_count, bnd, hR.2.1, hn1, if_pos (nI_le (Nat.le_refl i) (by omega))]
  | succ m ih =>
    intro i fuel lab S h1 h2 hR hH hn hX hG hC
    obtain ⟨f, rfl⟩ : ∃ f, fuel = f + 1 := ⟨fuel - 1, by omega⟩
    obtain ⟨d, hd, hdD⟩ := hV i (by omega)
    obtain ⟨lab1, S1, a1, a2, a3, a4, a5⟩ := x_tie hB h144 hd (by omega) hH hn hX hG hC
    obtain ⟨lab2, S2, b1, b2, b3⟩ := ih (i + 1) f lab1 S1 (by omega) (by omega) (hR.keep (fun a j h3 => a2.2 a j (by omega))) (a2.hf hH) ((a2.2 50 1 (by omega)).trans hn) a3 a4 a5
    refine ⟨lab2, S2, ?_, ⟨b2.1.trans a2.1, fun a j h => (b2.2 a j h).trans (a2.2 a j h)⟩, b3⟩
    have e1 : f_X6_dayOf S (nI i) = some (r (6 + i)) := by
      unfold f_X6_dayOf f_X6_hasPiece
      rw [hR.2.1, hn1]
      simp (disch := omega) only [nI_add, nI_1, nI_leI, nI_ltI, nI_eq, inb_nI, nI_clamp, if_pos, if_neg, if_true, if_false, bnd, l_0, l_1, l_2, l_3, l_4, l_5, l_6, l_7, l_8, l_9, l_10, l_11, l_12, l_13, l_14, l_15, l_16, l_17, l_18, l_19, l_20, l_21, l_22, l_23, l_24, l_25, l_26, l_27, l_28, l_29, l_30, l_31, l_32, l_33, l_34, l_35, l_36, l_37, l_38, l_39, l_40, l_41, l_42, l_43, l_44, l_45, l_46, l_47, l_48, l_49, l_50, l_51, l_52, l_53, l_54, l_55, l_56, l_57, l_58, l_59, l_60, l_61, l_62, l_63, l_64, l_65, l_66, l_67, l_68, l_69, l_70, l_71, l_72, l_73, l_74, l_75, l_76, l_77, l_78, l_79, l_80, l_81, l_82, l_83, l_84, l_85, l_86, l_87, l_88, l_89, l_90, l_91, l_92, l_93, l_94, l_95, l_96, l_97, l_98, l_99, l_100, l_123, l_144, l_160, l_255, l_256, l_1000, l_1462, l_1634, l_65536]
      exact congrArg some (hR.2.2.2.1 i (by omega))
    have e2 : f_X6_setOf S (nI i) = some (r (46 + i)) := by
      unfold f_X6_setOf f_X6_hasPiece
      rw [hR.2.1, hn1]
      simp (disch := omega) only [nI_add, nI_1, nI_leI, nI_ltI, nI_eq, inb_nI, nI_clamp, if_pos, if_neg, if_true, if_false, bnd, l_0, l_1, l_2, l_3, l_4, l_5, l_6, l_7, l_8, l_9, l_10, l_11, l_12, l_13, l_14, l_15, l_16, l_17, l_18, l_19, l_20, l_21, l_22, l_23, l_24, l_25, l_26, l_27, l_28, l_29, l_30, l_31, l_32, l_33, l_34, l_35, l_36, l_37, l_38, l_39, l_40, l_41, l_42, l_43, l_44, l_45, l_46, l_47, l_48, l_49, l_50, l_51, l_52, l_53, l_54, l_55, l_56, l_57, l_58, l_59, l_60, l_61, l_62, l_63, l_64, l_65, l_66, l_67, l_68, l_69, l_70, l_71, l_72, l_73, l_74, l_75, l_76, l_77, l_78, l_79, l_80, l_81, l_82, l_83, l_84, l_85, l_86, l_87, l_88, l_89, l_90, l_91, l_92, l_93, l_94, l_95, l_96, l_97, l_98, l_99, l_100, l_123, l_144, l_160, l_255, l_256, l_1000, l_1462, l_1634, l_65536]
      exact congrArg some (hR.2.2.2.2 i (by omega))
    rw [lp_X7_findAll_37, f_X6_count, bnd, hR.2.1, hn1, if_neg (nI_ge (by omega) (by omega)), e1, bnd, e2, bnd, a1, bnd, nI_1]
    exact b1
theorem x_lay_loop {xs : List Fq} {k : Int32 → Mm → Option Mm} (hB : Bq xs) (h144 : xs.length ≤ 144) : ∀ (m i fuel : Nat) (S : Mm), i + m = xs.length → m < fuel → Hf S 52 xs → S.1 50 1 = nI xs.length → ∃ S', lp_X7_findAll_2 k fuel (nI i) S = k (nI xs.length) S' ∧ Fh S S' ∧ (∀ j, j < i → S'.1 62 j = S.1 62 j) ∧ ∀ j, i ≤ j → j < xs.length → S'.1 62 j = if l1 xs j then nI j else -1 := by
  intro m
  induction m with
  | zero =>
    intro i fuel S h1 h2 hH hn
    obtain ⟨f, rfl⟩ : ∃ f, fuel = f + 1 := ⟨fuel - 1, by omega⟩
    refine ⟨S, ?_, ⟨rfl, fun _ _ _ => rfl⟩, fun _ _ => rfl, fun j h3 h4 => absurd h4 (by omega)⟩
    rw [lp_X7_findAll_2, f_X3_number, bnd, hn, show i = xs.length by omega, if_pos (nI_le (Nat.le_refl _) (by omega))]
  | succ m ih =>
    intro i fuel S h1 h2 hH hn
    obtain ⟨f, rfl⟩ : ∃ f, fuel = f + 1 := ⟨fuel - 1, by omega⟩
    have hil : i < xs.length := by omega
    obtain ⟨q, hq⟩ : ∃ q, xs[i]? = some q := ⟨xs[i], List.getElem?_eq_getElem hil⟩
    have hk : ∀ (v : Int32) a j, ¬ (a = 62 ∧ j = i) → (wr S 62 i v).1 a j = S.1 a j := fun v a j h => if_neg h
    obtain ⟨S', e1, e2, e3, e4⟩ := ih (i + 1) f (wr S 62 i (if l1 xs i then nI i else -1)) (by omega) (by omega) (hH.keep (fun a j h3 h4 => hk _ a j (by omega))) ((hk _ 50 1 (by omega)).trans hn)
    refine ⟨S', ?_, ⟨e2.1, fun a j h => (e2.2 a j h).trans (hk _ a j (by omega))⟩, fun j h => (e3 j (by omega)).trans (hk _ 62 j (by omega)), fun j h3 h4 => ?_⟩
    · rw [lp_X7_findAll_2, f_X3_number, bnd, hn, if_neg (nI_ge hil (by omega)), x_isAtOne hH hB hn h144 hq, bnd]
      cases hl : l1 xs i with
      | false =>
        rw [hl] at e1
        simp (disch := omega) only [nI_add, nI_1, nI_leI, nI_ltI, nI_eq, inb_nI, nI_clamp, if_pos, if_neg, if_true, if_false, bnd, Bool.false_eq_true]
        exact e1
      | true =>
        rw [hl] at e1
        rw [if_pos rfl, if_neg (by decide)]
        simp (disch := omega) only [nI_add, nI_1, nI_leI, nI_ltI, nI_eq, inb_nI, nI_clamp, if_pos, if_neg, if_true, if_false, bnd]
        exact e1
    · by_cases hj : j = i
      · subst hj
        exact (e3 j (by omega)).trans (wr_s _ _ _ _)
      · exact e4 j (by omega) h4
