/-! ===== the reference's ties and heaps ===== -/
def an (p : Nat → Bool) (i : Nat) : Nat → Bool
  | 0 => false
  | m + 1 => p i || an p (i + 1) m
theorem an_iff (p : Nat → Bool) : ∀ (m i : Nat), an p i m = true ↔ ∃ k, i ≤ k ∧ k < i + m ∧ p k = true
  | 0, i => ⟨fun h => (by cases h), fun ⟨k, h1, h2, _⟩ => absurd h2 (by omega)⟩
  | m + 1, i => by
    rw [an, Bool.or_eq_true, an_iff p m (i + 1)]
    constructor
    · rintro (h | ⟨k, h1, h2, h3⟩)
      · exact ⟨i, by omega, by omega, h⟩
      · exact ⟨k, by omega, by omega, h3⟩
    · rintro ⟨k, h1, h2, h3⟩
      by_cases hk : k = i
      · left; rw [← hk]; exact h3
      · right; exact ⟨k, by omega, by omega, h3⟩
def ind (r : Nat → Int32) (k : Nat) (p : Fq) : Bool := decide (p.2.2.1 ≤ dk r k ∧ dk r k ≤ p.2.2.2)
def tp (r : Nat → Int32) (p q : Fq) (k : Nat) : Bool := ind r k p && (ind r k q && decide ((r (46 + k) &&& (bit p.1 ||| bit q.1)) = (bit p.1 ||| bit q.1)))
def tb (r : Nat → Int32) (p q : Fq) (N : Nat) : Bool := an (tp r p q) 0 N && (decide (p.1 ≠ q.1) && (decide (p.2.1 = 1) && decide (q.2.1 = 1)))
def fg (b : Bool) : Int32 := if b then 1 else 0
theorem m_tied_loop {S : Mm} {r : Nat → Int32} {xs : List Fq} {f g N D : Nat} {p q : Fq} {k : Int32 → Int32 → Option Int32} (hr : S.1 154 = r) (hn1 : r 1 = nI N) (h40 : N ≤ 40) (hD : D ≤ 12) (hV : ∀ k, k < N → ∃ d, r (6 + k) = nI d ∧ d < D) (hH : Hf S 162 xs) (hB : Bq xs) (h144 : xs.length ≤ 144) (hf : xs[f]? = some p) (hg : xs[g]? = some q) : ∀ (m i fuel : Nat) (b : Bool), i + m = N → m < fuel → lp_X11_areTied_24 k S (nI f) (nI g) (bit p.1 ||| bit q.1) fuel (fg b) (nI i) = k (fg (b || an (tp r p q) i m)) (nI N) := by
  intro m
  induction m with
  | zero =>
    intro i fuel b h1 h2
    obtain ⟨f, rfl⟩ : ∃ f, fuel = f + 1 := ⟨fuel - 1, by omega⟩
    rw [lp_X11_areTied_24, hr, hn1, show i = N by omega, if_pos (nI_le (Nat.le_refl N) (by omega)), an, Bool.or_false]
  | succ m ih =>
    intro i fuel b h1 h2
    obtain ⟨f', rfl⟩ : ∃ f, fuel = f + 1 := ⟨fuel - 1, by omega⟩
    obtain ⟨d, hd, hdD⟩ := hV i (by omega)
    have hdk : dk r i = d := by unfold dk; rw [hd, nI_clamp (by omega)]
    have e1 := m_isIn hH hB h144 hf (show d < 2 ^ 31 by omega)
    have e2 := m_isIn hH hB h144 hg (show d < 2 ^ 31 by omega)
    have ih0 := ih (i + 1) f' false (by omega) (by omega)
    have ih1 := ih (i + 1) f' true (by omega) (by omega)
    have i6 : (6 + nI i).toNatClampNeg = 6 + i := by rw [l_6, nI_add, nI_clamp (by omega)]
    have b6 : inb (6 + nI i) 1634 := by rw [l_6, nI_add]; exact (inb_nI (by omega)).mpr (by omega)
    have i46 : (46 + nI i).toNatClampNeg = 46 + i := by rw [l_46, nI_add, nI_clamp (by omega)]
    have b46 : inb (46 + nI i) 1634 := by rw [l_46, nI_add]; exact (inb_nI (by omega)).mpr (by omega)
    rw [lp_X11_areTied_24, hr, hn1, if_neg (nI_ge (by omega) (by omega)), an]
    cases b with
    | true =>
      rw [if_neg (show ¬ fg true = 0 by decide), nI_1]
      rw [Bool.true_or] at ih1 ⊢
      exact ih1
    | false =>
      have hz : (fg false = 0) = True := by decide
      have h10 : ((1 : Int32) = 0) = False := by decide
      simp only [hz, if_pos b6, i6, hd, e1, bnd, e2, if_pos b46, i46, nI_1, if_true]
      rw [Bool.false_or] at ih0 ⊢
      rw [Bool.true_or] at ih1
      by_cases c1 : p.2.2.1 ≤ d ∧ d ≤ p.2.2.2
      · by_cases c2 : q.2.2.1 ≤ d ∧ d ≤ q.2.2.2
        · by_cases c3 : (r (46 + i) &&& (bit p.1 ||| bit q.1)) = (bit p.1 ||| bit q.1)
          · have : tp r p q i = true := by unfold tp ind; rw [hdk, decide_eq_true c1, decide_eq_true c2, decide_eq_true c3]; rfl
            simp only [if_pos c1, h10, if_false, if_pos c2, if_pos c3, this, Bool.true_or, if_pos b6, if_true, if_pos b46]
            exact ih1
          · have : tp r p q i = false := by unfold tp ind; rw [decide_eq_false c3]; simp
            simp only [if_pos c1, h10, if_false, if_pos c2, if_neg c3, this, Bool.false_or, if_pos b6, if_true, if_pos b46]
            exact ih0
        · have : tp r p q i = false := by unfold tp ind; rw [hdk, decide_eq_false c2]; simp
          simp only [if_pos c1, h10, if_false, if_neg c2, this, Bool.false_or, if_pos b6, if_true, if_pos b46]
          exact ih0
      · have : tp r p q i = false := by unfold tp ind; rw [hdk, decide_eq_false c1]; simp
        simp only [if_neg c1, this, Bool.false_or, if_true]
        exact ih0
theorem m_tied {S : Mm} {r : Nat → Int32} {xs : List Fq} {f g N D : Nat} {p q : Fq} (hr : S.1 154 = r) (hn1 : r 1 = nI N) (h40 : N ≤ 40) (hD : D ≤ 12) (hV : ∀ k, k < N → ∃ d, r (6 + k) = nI d ∧ d < D) (hH : Hf S 162 xs) (hB : Bq xs) (h144 : xs.length ≤ 144) (hf : xs[f]? = some p) (hg : xs[g]? = some q) : f_X11_areTied S (nI f) (nI g) = some (fg (tb r p q N)) := by
  obtain ⟨F, hFu⟩ : ∃ F : Nat, 100000 = F := ⟨_, rfl⟩
  have hfl : f < xs.length := (List.getElem?_eq_some_iff.mp hf).1
  have hgl : g < xs.length := (List.getElem?_eq_some_iff.mp hg).1
  obtain ⟨a1, a2, -, -⟩ := hH f p hf
  obtain ⟨c1, c2, -, -⟩ := hH g q hg
  obtain ⟨b1, b2, b3, b4, b5⟩ := hB f p hf
  obtain ⟨d1, d2, d3, d4, d5⟩ := hB g q hg
  have i1 : inb (nI f) 160 := (inb_nI (by omega)).mpr (by omega)
  have i2 : inb (nI g) 160 := (inb_nI (by omega)).mpr (by omega)
  unfold f_X11_areTied
  have hlp := fun k => m_tied_loop (k := k) hr hn1 h40 hD hV hH hB h144 hf hg N 0 F false (by omega) (by omega)
  rw [hFu]
  simp only [if_pos i1, if_pos i2, if_true, nI_clamp (show f < 2 ^ 31 by omega), nI_clamp (show g < 2 ^ 31 by omega), a1, c1]
  refine (hlp _).trans ?_
  rw [Bool.false_or]
  unfold tb
  simp only [if_pos i1, if_pos i2, if_true, a2, c2]
  cases hA : an (tp r p q) 0 N with
  | false => rfl
  | true =>
    rw [if_neg (show ¬ fg true = 0 by decide)]
    by_cases e1 : p.1 = q.1
    · rw [if_pos (by rw [e1]), decide_eq_false (by simpa using e1)]; rfl
    · rw [if_neg (fun h => e1 ((nI_eq (by omega) (by omega)).mp h)), decide_eq_true e1]
      have o1 : ∀ x : Nat, x ≤ 3 → ((nI x = (1 : Int32)) ↔ x = 1) := by decide
      by_cases e2 : p.2.1 = 1
      · rw [if_pos ((o1 _ b3).mpr e2), decide_eq_true e2]
        by_cases e3 : q.2.1 = 1
        · rw [if_pos ((o1 _ d3).mpr e3), decide_eq_true e3]; rfl
        · rw [if_neg (fun h => e3 ((o1 _ d3).mp h)), decide_eq_false e3]; rfl
      · rw [if_neg (fun h => e2 ((o1 _ b3).mp h)), decide_eq_false e2]; rfl
def td (r : Nat → Int32) (xs : List Fq) (N f g : Nat) : Bool := (xs[f]?).any fun p => (xs[g]?).any fun q => tb r p q N
def Fos (xs : List Fq) : Prop := ∀ (i j : Nat) (p q : Fq), xs[i]? = some p → xs[j]? = some q → i < j → Fo p q
theorem orb : ∀ w, w < 8 → ∀ v, v < 8 → w ≠ v → ¬ bit v = (bit w ||| bit v) ∧ ¬ bit w = (bit w ||| bit v) ∧ ¬ 0 = (bit w ||| bit v) := by decide
theorem and_orb (x : Int32) {w v : Nat} (hw : w < 8) (hv : v < 8) (hne : w ≠ v) : (x &&& (bit w ||| bit v)) = (bit w ||| bit v) ↔ hb x w = true ∧ hb x v = true := by
  have e : x &&& (bit w ||| bit v) = (x &&& bit w) ||| (x &&& bit v) := by
    apply Int32.toBitVec_inj.mp
    simp only [Int32.toBitVec_and, Int32.toBitVec_or]
    exact BitVec.and_or_distrib_left
  obtain ⟨o1, o2, o3⟩ := orb w hw v hv hne
  rw [e, and_bit x hw, and_bit x hv]
  cases hb x w <;> cases hb x v <;> simp [o1, o2, o3]
theorem td_tch {r : Nat → Int32} {xs : List Fq} {N f g : Nat} (hB : Bq xs) (h : td r xs N f g = true) : ∃ k, k < N ∧ tch r xs k f = true ∧ tch r xs k g = true := by
  unfold td at h
  cases hf : xs[f]? with
  | none => rw [hf] at h; cases h
  | some p =>
    cases hg : xs[g]? with
    | none => rw [hf, hg] at h; cases h
    | some q =>
      rw [hf, hg, Option.any_some, Option.any_some] at h
      unfold tb at h
      simp only [Bool.and_eq_true, decide_eq_true_eq] at h
      obtain ⟨h1, h2, h3, h4⟩ := h
      obtain ⟨k, -, k2, k3⟩ := (an_iff _ _ _).mp h1
      unfold tp ind at k3
      simp only [Bool.and_eq_true, decide_eq_true_eq] at k3
      obtain ⟨k3, k4, k5⟩ := k3
      have := (and_orb _ (hB f p hf).1 (hB g q hg).1 h2).mp k5
      refine ⟨k, by omega, ?_, ?_⟩
      · rw [tch_at hf, decide_eq_true h3, decide_eq_true k3, this.1]; rfl
      · rw [tch_at hg, decide_eq_true h4, decide_eq_true k4, this.2]; rfl
theorem tch_td {r : Nat → Int32} {xs : List Fq} {N k f g : Nat} (hB : Bq xs) (hF : Fos xs) (hk : k < N) (h1 : tch r xs k f = true) (h2 : tch r xs k g = true) (hne : f ≠ g) : td r xs N f g = true := by
  obtain ⟨p, hf⟩ : ∃ q, xs[f]? = some q := ⟨xs[f]'(l1_lt (tch_l1 h1)), List.getElem?_eq_getElem _⟩
  obtain ⟨q, hg⟩ : ∃ q, xs[g]? = some q := ⟨xs[g]'(l1_lt (tch_l1 h2)), List.getElem?_eq_getElem _⟩
  rw [tch_at hf] at h1
  rw [tch_at hg] at h2
  simp only [Bool.and_eq_true, decide_eq_true_eq] at h1 h2
  have hw : p.1 ≠ q.1 := by
    intro e
    rcases Nat.lt_or_gt_of_ne hne with h | h
    · have := hF f g p q hf hg h
      unfold Fo at this
      omega
    · have := hF g f q p hg hf h
      unfold Fo at this
      omega
  unfold td
  rw [hf, hg, Option.any_some, Option.any_some]
  unfold tb
  rw [(an_iff _ _ _).mpr ⟨k, by omega, by omega, ?_⟩, decide_eq_true hw, decide_eq_true h1.1, decide_eq_true h2.1]
  · rfl
  · unfold tp ind
    rw [decide_eq_true h1.2.1, decide_eq_true h2.2.1, decide_eq_true ((and_orb _ (hB f p hf).1 (hB g q hg).1 hw).mpr ⟨h1.2.2, h2.2.2⟩)]
    rfl
theorem td_sym {r : Nat → Int32} {xs : List Fq} {N f g : Nat} (hB : Bq xs) (hF : Fos xs) (hne : f ≠ g) (h : td r xs N f g = true) : td r xs N g f = true := by
  obtain ⟨k, h1, h2, h3⟩ := td_tch hB h
  exact tch_td hB hF h1 h3 h2 (fun e => hne e.symm)

def sm (h : Nat → Nat) : Nat → Nat
  | 0 => 0
  | n + 1 => sm h n + h n
theorem sm_le (h : Nat → Nat) (B : Nat) : ∀ n, (∀ f, f < n → h f ≤ B) → sm h n ≤ n * B
  | 0, _ => Nat.zero_le _
  | n + 1, hh => by
    have h1 := sm_le h B n (fun f hf => hh f (by omega))
    have h2 := hh n (by omega)
    rw [sm, Nat.succ_mul]
    omega
def up (h : Nat → Nat) (f v : Nat) (j : Nat) : Nat := if j = f then v else h j
theorem up_s (h : Nat → Nat) (f v : Nat) : up h f v f = v := if_pos rfl
theorem up_n (h : Nat → Nat) {f v j : Nat} (hj : j ≠ f) : up h f v j = h j := if_neg hj
theorem sm_up (h : Nat → Nat) (f v : Nat) : ∀ n, n ≤ f → sm (up h f v) n = sm h n
  | 0, _ => rfl
  | n + 1, hn => by
    rw [sm, sm, sm_up h f v n (by omega), up_n h (by omega)]
theorem sm_lt (h : Nat → Nat) (f v : Nat) (hv : v < h f) : ∀ n, f < n → sm (up h f v) n < sm h n
  | 0, hn => absurd hn (by omega)
  | n + 1, hn => by
    rw [sm, sm]
    by_cases hf : f = n
    · subst hf
      rw [sm_up h f v f (Nat.le_refl f), up_s]; omega
    · have := sm_lt h f v hv n (by omega)
      rw [up_n h (by omega)]; omega
/-- the heaps' cells; all that the heaps rest on; what stays true of the heaps -/
def HM (S : Mm) (n : Nat) (h : Nat → Nat) : Prop := ∀ f, f < n → S.1 166 f = nI (h f)
def MH (S : Mm) (r : Nat → Int32) (xs : List Fq) : Prop := S.1 154 = r ∧ Hf S 162 xs ∧ S.1 153 19 = nI xs.length
def Fm (S S' : Mm) : Prop := S'.2 = S.2 ∧ ∀ a j, a ≠ 166 → S'.1 a j = S.1 a j
theorem Fm.mh {S S' : Mm} {r : Nat → Int32} {xs : List Fq} (h : Fm S S') (hM : MH S r xs) : MH S' r xs := ⟨(funext fun j => h.2 154 j (by omega)).trans hM.1, hM.2.1.keep (fun a j h3 h4 => h.2 a j (by omega)), (h.2 153 19 (by omega)).trans hM.2.2⟩
theorem Fm.tr {S S1 S2 : Mm} (h1 : Fm S S1) (h2 : Fm S1 S2) : Fm S S2 := ⟨h2.1.trans h1.1, fun a j h => (h2.2 a j h).trans (h1.2 a j h)⟩
def Jh (r : Nat → Int32) (xs : List Fq) (N : Nat) (h : Nat → Nat) : Prop := Gx r xs N h ∧ ∀ f, f < xs.length → h f ≤ f
theorem Jh.up {r : Nat → Int32} {xs : List Fq} {N f g : Nat} {h : Nat → Nat} (hB : Bq xs) (hJ : Jh r xs N h) (ht : td r xs N f g = true) (hlt : h g < h f) : Jh r xs N (up h f (h g)) := by
  obtain ⟨k, hk, h1, h2⟩ := td_tch hB ht
  refine ⟨⟨fun j hj => ?_, fun lab' hl j hj => ?_⟩, fun j hj => ?_⟩
  · by_cases e : j = f
    · subst e
      rw [up_s]
      have := (hJ.1.1 j hj).1
      exact ⟨by omega, (hJ.1.1 g (tch_l1 h2)).2⟩
    · rw [up_n h e]; exact hJ.1.1 j hj
  · by_cases e : j = f
    · subst e
      rw [up_s, hl k hk j g h1 h2]
      exact hJ.1.2 lab' hl g (tch_l1 h2)
    · rw [up_n h e]; exact hJ.1.2 lab' hl j hj
  · by_cases e : j = f
    · subst e
      rw [up_s]
      have := hJ.2 j hj
      omega
    · rw [up_n h e]; exact hJ.2 j hj
theorem m_pass_in {r : Nat → Int32} {xs : List Fq} {N D : Nat} (hn1 : r 1 = nI N) (h40 : N ≤ 40) (hD : D ≤ 12) (hV : ∀ k, k < N → ∃ d, r (6 + k) = nI d ∧ d < D) (hB : Bq xs) (h144 : xs.length ≤ 144) {f : Nat} {k : Int32 → Int32 → Mm → Option Mm} (hf : f < xs.length) : ∀ (m j fuel : Nat) (c : Bool) (h : Nat → Nat) (S : Mm), j + m = xs.length → m < fuel → MH S r xs → HM S xs.length h → Jh r xs N h → ∃ (c' : Bool) (h' : Nat → Nat) (S' : Mm), lp_X11_layHeaps_47 k (nI f) fuel (fg c) (nI j) S = k (fg c') (nI xs.length) S' ∧ Fm S S' ∧ HM S' xs.length h' ∧ Jh r xs N h' ∧ (c' = false → c = false ∧ h' = h ∧ ∀ g, j ≤ g → g < xs.length → td r xs N f g = true → h f ≤ h g) ∧ sm h' xs.length ≤ sm h xs.length ∧ (c' = true → c = true ∨ sm h' xs.length < sm h xs.length) := by
  intro m
  induction m with
  | zero =>
    intro j fuel c h S h1 h2 hM hh hJ
    obtain ⟨f', rfl⟩ : ∃ f, fuel = f + 1 := ⟨fuel - 1, by omega⟩
    refine ⟨c, h, S, ?_, ⟨rfl, fun _ _ _ => rfl⟩, hh, hJ, fun e => ⟨e, rfl, fun g h3 h4 => absurd h4 (by omega)⟩, Nat.le_refl _, fun e => Or.inl e⟩
    rw [lp_X11_layHeaps_47, hM.2.2, show j = xs.length by omega, if_pos (nI_le (Nat.le_refl _) (by omega))]
  | succ m ih =>
    intro j fuel c h S h1 h2 hM hh hJ
    obtain ⟨f', rfl⟩ : ∃ f, fuel = f + 1 := ⟨fuel - 1, by omega⟩
    have hj : j < xs.length := by omega
    obtain ⟨p, hp⟩ : ∃ q, xs[f]? = some q := ⟨xs[f], List.getElem?_eq_getElem hf⟩
    obtain ⟨q, hq⟩ : ∃ q, xs[j]? = some q := ⟨xs[j], List.getElem?_eq_getElem hj⟩
    have htd : td r xs N f j = tb r p q N := by unfold td; rw [hp, hq]; rfl
    have hti := m_tied hM.1 hn1 h40 hD hV hM.2.1 hB h144 hp hq
    rw [← htd] at hti
    have x1 := hJ.2 f hf
    have x2 := hJ.2 j hj
    have i1 : inb (nI j) 160 := (inb_nI (by omega)).mpr (by omega)
    have i2 : inb (nI f) 160 := (inb_nI (by omega)).mpr (by omega)
    have cl1 : (nI j).toNatClampNeg = j := nI_clamp (by omega)
    have cl2 : (nI f).toNatClampNeg = f := nI_clamp (by omega)
    -- nothing done here
    have hno : (td r xs N f j = true → h f ≤ h j) → ∃ (c' : Bool) (h' : Nat → Nat) (S' : Mm), lp_X11_layHeaps_47 k (nI f) f' (fg c) (nI j + 1) S = k (fg c') (nI xs.length) S' ∧ Fm S S' ∧ HM S' xs.length h' ∧ Jh r xs N h' ∧ (c' = false → c = false ∧ h' = h ∧ ∀ g, j ≤ g → g < xs.length → td r xs N f g = true → h f ≤ h g) ∧ sm h' xs.length ≤ sm h xs.length ∧ (c' = true → c = true ∨ sm h' xs.length < sm h xs.length) := by
      intro hz
      obtain ⟨c', h', S', e1, e2, e3, e4, e5, e6⟩ := ih (j + 1) f' c h S (by omega) (by omega) hM hh hJ
      rw [nI_1]
      refine ⟨c', h', S', e1, e2, e3, e4, fun e => ⟨(e5 e).1, (e5 e).2.1, fun g h3 h4 h5 => ?_⟩, e6⟩
      by_cases hg : g = j
      · subst hg; exact hz h5
      · exact (e5 e).2.2 g (by omega) h4 h5
    rw [lp_X11_layHeaps_47, hM.2.2, if_neg (nI_ge hj (by omega)), if_pos i1, if_pos i2]
    simp only [cl1, cl2, hh f hf, hh j hj, hti, bnd, if_pos i1, if_pos i2]
    by_cases c1 : h f ≤ h j
    · rw [if_pos (nI_le c1 (by omega))]
      exact hno (fun _ => c1)
    · rw [if_neg (nI_ge (by omega) (by omega))]
      cases ht : td r xs N f j with
      | false =>
        rw [if_pos (show fg false = 0 by decide)]
        exact hno (fun e => absurd (ht.symm.trans e) (by decide))
      | true =>
        rw [if_neg (show ¬ fg true = 0 by decide), nI_1]
        have hk : ∀ a b, ¬ (a = 166 ∧ b = f) → (wr S 166 f (nI (h j))).1 a b = S.1 a b := fun a b e => if_neg e
        have hFm : Fm S (wr S 166 f (nI (h j))) := ⟨rfl, fun a b e => hk a b (by omega)⟩
        have hh' : HM (wr S 166 f (nI (h j))) xs.length (up h f (h j)) := fun g hg => by
          by_cases e : g = f
          · subst e; rw [up_s]; exact wr_s _ _ _ _
          · rw [up_n h e, hk 166 g (by omega)]; exact hh g hg
        obtain ⟨c', h', S', e1, e2, e3, e4, e5, e6, e7⟩ := ih (j + 1) f' true (up h f (h j)) _ (by omega) (by omega) (hFm.mh hM) hh' (hJ.up hB ht (by omega))
        have hsm := sm_lt h f (h j) (by omega) xs.length hf
        exact ⟨c', h', S', e1, hFm.tr e2, e3, e4, fun e => absurd (e5 e).1 (by decide), by omega, fun _ => Or.inr (by omega)⟩
theorem m_pass {r : Nat → Int32} {xs : List Fq} {N D : Nat} (hn1 : r 1 = nI N) (h40 : N ≤ 40) (hD : D ≤ 12) (hV : ∀ k, k < N → ∃ d, r (6 + k) = nI d ∧ d < D) (hB : Bq xs) (h144 : xs.length ≤ 144) {k : Int32 → Int32 → Mm → Option Mm} : ∀ (m f fuel : Nat) (c : Bool) (h : Nat → Nat) (S : Mm), f + m = xs.length → m < fuel → MH S r xs → HM S xs.length h → Jh r xs N h → ∃ (c' : Bool) (h' : Nat → Nat) (S' : Mm), lp_X11_layHeaps_37 k fuel (fg c) (nI f) S = k (fg c') (nI xs.length) S' ∧ Fm S S' ∧ HM S' xs.length h' ∧ Jh r xs N h' ∧ (c' = false → c = false ∧ h' = h ∧ ∀ f' g, f ≤ f' → f' < xs.length → g < xs.length → td r xs N f' g = true → h f' ≤ h g) ∧ sm h' xs.length ≤ sm h xs.length ∧ (c' = true → c = true ∨ sm h' xs.length < sm h xs.length) := by
  intro m
  induction m with
  | zero =>
    intro f fuel c h S h1 h2 hM hh hJ
    obtain ⟨f', rfl⟩ : ∃ f, fuel = f + 1 := ⟨fuel - 1, by omega⟩
    refine ⟨c, h, S, ?_, ⟨rfl, fun _ _ _ => rfl⟩, hh, hJ, fun e => ⟨e, rfl, fun f' g h3 h4 => absurd h4 (by omega)⟩, Nat.le_refl _, fun e => Or.inl e⟩
    rw [lp_X11_layHeaps_37, hM.2.2, show f = xs.length by omega, if_pos (nI_le (Nat.le_refl _) (by omega))]
  | succ m ih =>
    intro f fuel c h S h1 h2 hM hh hJ
    obtain ⟨f', rfl⟩ : ∃ f, fuel = f + 1 := ⟨fuel - 1, by omega⟩
    obtain ⟨F, hFu⟩ : ∃ F : Nat, 100000 = F := ⟨_, rfl⟩
    obtain ⟨c1, g1, S1, a1, a2, a3, a4, a5, a6, a7⟩ := m_pass_in hn1 h40 hD hV hB h144 (f := f) (k := fun y _ S15 => lp_X11_layHeaps_37 k f' y (nI f + 1) S15) (by omega) xs.length 0 F c h S (by omega) (by omega) hM hh hJ
    obtain ⟨c2, g2, S2, b1, b2, b3, b4, b5, b6, b7⟩ := ih (f + 1) f' c1 g1 S1 (by omega) (by omega) (a2.mh hM) a3 a4
    refine ⟨c2, g2, S2, ?_, a2.tr b2, b3, b4, fun e => ?_, by omega, fun e => ?_⟩
    · rw [lp_X11_layHeaps_37, hM.2.2, if_neg (nI_ge (by omega) (by omega)), hFu]
      refine Eq.trans a1 ?_
      rw [nI_1]
      exact b1
    · obtain ⟨p1, p2, p3⟩ := b5 e
      obtain ⟨q1, q2, q3⟩ := a5 p1
      subst q2
      refine ⟨q1, p2, fun x g h3 h4 h5 h6 => ?_⟩
      by_cases hx : x = f
      · subst hx; exact q3 g (Nat.zero_le g) h5 h6
      · exact p3 x g (by omega) h4 h5 h6
    · rcases b7 e with h3 | h3
      · rcases a7 h3 with h4 | h4
        · exact Or.inl h4
        · exact Or.inr (by omega)
      · exact Or.inr (by omega)
theorem m_while {r : Nat → Int32} {xs : List Fq} {N D : Nat} (hn1 : r 1 = nI N) (h40 : N ≤ 40) (hD : D ≤ 12) (hV : ∀ k, k < N → ∃ d, r (6 + k) = nI d ∧ d < D) (hB : Bq xs) (h144 : xs.length ≤ 144) {k : Int32 → Mm → Option Mm} (hF : Fos xs) : ∀ (B fuel : Nat) (h : Nat → Nat) (S : Mm), sm h xs.length < B → B + 1 < fuel → MH S r xs → HM S xs.length h → Jh r xs N h → ∃ (h' : Nat → Nat) (S' : Mm), lp_X11_layHeaps_29 k fuel 1 S = k 0 S' ∧ Fm S S' ∧ HM S' xs.length h' ∧ Jh r xs N h' ∧ Cc r xs N h' := by
  intro B
  induction B with
  | zero => intro fuel h S h1; exact absurd h1 (by omega)
  | succ B ih =>
    intro fuel h S h1 h2 hM hh hJ
    obtain ⟨f', rfl⟩ : ∃ f, fuel = f + 1 + 1 := ⟨fuel - 2, by omega⟩
    obtain ⟨F, hFu⟩ : ∃ F : Nat, 100000 = F := ⟨_, rfl⟩
    obtain ⟨c1, g1, S1, a1, a2, a3, a4, a5, a6, a7⟩ := m_pass hn1 h40 hD hV hB h144 (k := fun y _ S19 => lp_X11_layHeaps_29 k (f' + 1) y S19) xs.length 0 F false h S (by omega) (by omega) hM hh hJ
    have e0 : lp_X11_layHeaps_29 k (f' + 1 + 1) 1 S = lp_X11_layHeaps_29 k (f' + 1) (fg c1) S1 := by
      rw [lp_X11_layHeaps_29, if_neg (by decide), hFu]
      exact a1
    rw [e0]
    cases c1 with
    | false =>
      obtain ⟨-, q2, q3⟩ := a5 rfl
      subst q2
      refine ⟨g1, S1, ?_, a2, a3, a4, fun kk hk f g h3 h4 => ?_⟩
      · rw [lp_X11_layHeaps_29, if_pos (by decide)]; rfl
      · by_cases e : f = g
        · rw [e]
        · have t1 := tch_td hB hF hk h3 h4 e
          have l1' := l1_lt (tch_l1 h3)
          have l2' := l1_lt (tch_l1 h4)
          have u1 := q3 f g (Nat.zero_le f) l1' l2' t1
          have u2 := q3 g f (Nat.zero_le g) l2' l1' (td_sym hB hF e t1)
          omega
    | true =>
      have hlt : sm g1 xs.length < B := by
        rcases a7 rfl with h3 | h3
        · cases h3
        · omega
      obtain ⟨h', S', b1, b2, b3⟩ := ih (f' + 1) g1 S1 hlt (by omega) (a2.mh hM) a3 a4
      exact ⟨h', S', b1, a2.tr b2, b3⟩
theorem m_own {xs : List Fq} (h144 : xs.length ≤ 144) {k : Int32 → Mm → Option Mm} : ∀ (m i fuel : Nat) (S : Mm), i + m = xs.length → m < fuel → S.1 153 19 = nI xs.length → ∃ S', lp_X11_layHeaps_6 k fuel (nI i) S = k (nI xs.length) S' ∧ Fm S S' ∧ (∀ j, j < i → S'.1 166 j = S.1 166 j) ∧ ∀ j, i ≤ j → j < xs.length → S'.1 166 j = nI j := by
  intro m
  induction m with
  | zero =>
    intro i fuel S h1 h2 hn
    obtain ⟨f', rfl⟩ : ∃ f, fuel = f + 1 := ⟨fuel - 1, by omega⟩
    refine ⟨S, ?_, ⟨rfl, fun _ _ _ => rfl⟩, fun _ _ => rfl, fun j h3 h4 => absurd h4 (by omega)⟩
    rw [lp_X11_layHeaps_6, hn, show i = xs.length by omega, if_pos (nI_le (Nat.le_refl _) (by omega))]
  | succ m ih =>
    intro i fuel S h1 h2 hn
    obtain ⟨f', rfl⟩ : ∃ f, fuel = f + 1 := ⟨fuel - 1, by omega⟩
    have hk : ∀ a b, ¬ (a = 166 ∧ b = i) → (wr S 166 i (nI i)).1 a b = S.1 a b := fun a b e => if_neg e
    obtain ⟨S', e1, e2, e3, e4⟩ := ih (i + 1) f' (wr S 166 i (nI i)) (by omega) (by omega) ((hk 153 19 (by omega)).trans hn)
    refine ⟨S', ?_, ⟨e2.1, fun a j h => (e2.2 a j h).trans (hk a j (by omega))⟩, fun j h => (e3 j (by omega)).trans (hk 166 j (by omega)), fun j h3 h4 => ?_⟩
    · rw [lp_X11_layHeaps_6, hn]
      simp (disch := omega) only [nI_add, nI_1, nI_leI, nI_ltI, nI_eq, inb_nI, nI_clamp, if_pos, if_neg, if_true, if_false, bnd]
      exact e1
    · by_cases hj : j = i
      · subst hj
        exact (e3 j (by omega)).trans (wr_s _ _ _ _)
      · exact e4 j (by omega) h4
