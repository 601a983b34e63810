/-! reading: a sign's kind (class) -/
def isS10 (c : Int32) : Bool := decide (c = 42 ∨ c = 43 ∨ c = 45 ∨ c = 47 ∨ c = 59 ∨ c = 60 ∨ c = 61 ∨ c = 62 ∨ c = 91 ∨ c = 93)
theorem h_isSign (c : Int32) (st : HSt) : fh_X10_isSign c st = some (st, if isS10 c = true then 1 else 0) := by
  unfold fh_X10_isSign isS10
  by_cases h1 : c = 42
  · rw [if_pos h1, if_pos (decide_eq_true (Or.inl h1))]
  rw [if_neg h1]
  by_cases h2 : c = 43
  · rw [if_pos h2, if_pos (decide_eq_true (by simp [h2]))]
  rw [if_neg h2]
  by_cases h3 : c = 45
  · rw [if_pos h3, if_pos (decide_eq_true (by simp [h3]))]
  rw [if_neg h3]
  by_cases h4 : c = 47
  · rw [if_pos h4, if_pos (decide_eq_true (by simp [h4]))]
  rw [if_neg h4]
  by_cases h5 : c = 59
  · rw [if_pos h5, if_pos (decide_eq_true (by simp [h5]))]
  rw [if_neg h5]
  by_cases h6 : c = 60
  · rw [if_pos h6, if_pos (decide_eq_true (by simp [h6]))]
  rw [if_neg h6]
  by_cases h7 : c = 61
  · rw [if_pos h7, if_pos (decide_eq_true (by simp [h7]))]
  rw [if_neg h7]
  by_cases h8 : c = 62
  · rw [if_pos h8, if_pos (decide_eq_true (by simp [h8]))]
  rw [if_neg h8]
  by_cases h9 : c = 91
  · rw [if_pos h9, if_pos (decide_eq_true (by simp [h9]))]
  rw [if_neg h9]
  by_cases h10 : c = 93
  · rw [if_pos h10, if_pos (decide_eq_true (by simp [h10]))]
  rw [if_neg h10, if_neg (fun z => by have := of_decide_eq_true z; simp [h1, h2, h3, h4, h5, h6, h7, h8, h9, h10] at this)]
/-- which word stands there: the i-th of the 23, or none -/
def WdR (t : Nat → Int32) (q e a b : Nat) (c : Int32) : Prop := (∃ i, a ≤ i ∧ i < b ∧ Spl t q e i ∧ c = nI (256 + i)) ∨ (c = 1 ∧ ∀ i, a ≤ i → i < b → ¬ Spl t q e i)
theorem WdR.hit {t : Nat → Int32} {q e a b i : Nat} {c : Int32} (h : Spl t q e i) (h1 : a ≤ i) (h2 : i < b) (hc : c = nI (256 + i)) : WdR t q e a b c := Or.inl ⟨i, h1, h2, h, hc⟩
theorem WdR.skip {t : Nat → Int32} {q e a b : Nat} {c : Int32} (h : ¬ Spl t q e a) (g : WdR t q e (a + 1) b c) : WdR t q e a b c := by
  rcases g with ⟨i, h1, h2, h3, h4⟩ | ⟨h1, h2⟩
  · exact Or.inl ⟨i, by omega, h2, h3, h4⟩
  · refine Or.inr ⟨h1, fun i a1 a2 => ?_⟩
    by_cases z : i = a
    · rw [z]; exact h
    · exact h2 i (by omega) a2
theorem WdR.no {t : Nat → Int32} {q e a : Nat} : WdR t q e a a 1 := Or.inr ⟨rfl, fun i h1 h2 => by omega⟩
/-- one word tried -/
theorem sp_step {st : HSt} {T q e i b : Nat} {r : Int32} {K : HSt × Int32 → Option (HSt × Int32)} {r1 : Int32} (f : fh_X10_spells (some T) (nI q) (nI e) i st = some (st, r)) (g : (r = 1 ∧ Spl (gA st T) q e i) ∨ (r = 0 ∧ ¬ Spl (gA st T) q e i)) (hib : i < b) (hr1 : r1 = nI (256 + i)) (h : ∃ c, K (st, r) = some (st, c) ∧ WdR (gA st T) q e (i + 1) b c) : ∃ c, ((fh_X10_spells (some T) (nI q) (nI e) i st).bind fun x => if x.2 = 0 then K x else some (x.1, r1)) = some (st, c) ∧ WdR (gA st T) q e i b c := by
  rw [f, bs_]
  dsimp only
  rcases g with ⟨g1, g2⟩ | ⟨g1, g2⟩
  · rw [if_neg (by rw [g1]; decide)]
    exact ⟨r1, rfl, WdR.hit g2 (Nat.le_refl _) hib hr1⟩
  · rw [if_pos g1]
    obtain ⟨c, h1, h2⟩ := h
    exact ⟨c, h1, WdR.skip g2 h2⟩
theorem h_river {st : HSt} {T q e : Nat} (k : gK st T = 21) (l : gL st T = 400) (he : e ≤ 400) (hq : q < e) : ∃ c, fh_X10_riverWord (some T) (nI q) (nI e) st = some (st, c) ∧ WdR (gA st T) q e 0 6 c := by
  obtain ⟨r0, f0, g0⟩ := h_spells (i := 0) k l he hq (by omega)
  obtain ⟨r1, f1, g1⟩ := h_spells (i := 1) k l he hq (by omega)
  obtain ⟨r2, f2, g2⟩ := h_spells (i := 2) k l he hq (by omega)
  obtain ⟨r3, f3, g3⟩ := h_spells (i := 3) k l he hq (by omega)
  obtain ⟨r4, f4, g4⟩ := h_spells (i := 4) k l he hq (by omega)
  obtain ⟨r5, f5, g5⟩ := h_spells (i := 5) k l he hq (by omega)
  unfold fh_X10_riverWord
  exact sp_step f0 g0 (by omega) rfl (sp_step f1 g1 (by omega) rfl (sp_step f2 g2 (by omega) rfl (sp_step f3 g3 (by omega) rfl (sp_step f4 g4 (by omega) rfl (sp_step f5 g5 (by omega) rfl ⟨1, rfl, WdR.no⟩)))))
theorem h_valueWord {st : HSt} {T q e : Nat} (k : gK st T = 21) (l : gL st T = 400) (he : e ≤ 400) (hq : q < e) : ∃ c, fh_X10_valueWord (some T) (nI q) (nI e) st = some (st, c) ∧ WdR (gA st T) q e 14 23 c := by
  obtain ⟨r0, f0, g0⟩ := h_spells (i := 14) k l he hq (by omega)
  obtain ⟨r1, f1, g1⟩ := h_spells (i := 15) k l he hq (by omega)
  obtain ⟨r2, f2, g2⟩ := h_spells (i := 16) k l he hq (by omega)
  obtain ⟨r3, f3, g3⟩ := h_spells (i := 17) k l he hq (by omega)
  obtain ⟨r4, f4, g4⟩ := h_spells (i := 18) k l he hq (by omega)
  obtain ⟨r5, f5, g5⟩ := h_spells (i := 19) k l he hq (by omega)
  obtain ⟨r6, f6, g6⟩ := h_spells (i := 20) k l he hq (by omega)
  obtain ⟨r7, f7, g7⟩ := h_spells (i := 21) k l he hq (by omega)
  obtain ⟨r8, f8, g8⟩ := h_spells (i := 22) k l he hq (by omega)
  unfold fh_X10_valueWord
  exact sp_step f0 g0 (by omega) rfl (sp_step f1 g1 (by omega) rfl (sp_step f2 g2 (by omega) rfl (sp_step f3 g3 (by omega) rfl (sp_step f4 g4 (by omega) rfl (sp_step f5 g5 (by omega) rfl (sp_step f6 g6 (by omega) rfl (sp_step f7 g7 (by omega) rfl (sp_step f8 g8 (by omega) rfl ⟨1, rfl, WdR.no⟩))))))))
theorem h_ruleWord {st : HSt} {T q e : Nat} (k : gK st T = 21) (l : gL st T = 400) (he : e ≤ 400) (hq : q < e) : ∃ c, fh_X10_ruleWord (some T) (nI q) (nI e) st = some (st, c) ∧ WdR (gA st T) q e 6 23 c := by
  obtain ⟨r0, f0, g0⟩ := h_spells (i := 6) k l he hq (by omega)
  obtain ⟨r1, f1, g1⟩ := h_spells (i := 7) k l he hq (by omega)
  obtain ⟨r2, f2, g2⟩ := h_spells (i := 8) k l he hq (by omega)
  obtain ⟨r3, f3, g3⟩ := h_spells (i := 9) k l he hq (by omega)
  obtain ⟨r4, f4, g4⟩ := h_spells (i := 10) k l he hq (by omega)
  obtain ⟨r5, f5, g5⟩ := h_spells (i := 11) k l he hq (by omega)
  obtain ⟨r6, f6, g6⟩ := h_spells (i := 12) k l he hq (by omega)
  obtain ⟨r7, f7, g7⟩ := h_spells (i := 13) k l he hq (by omega)
  obtain ⟨c, fv, gv⟩ := h_valueWord k l he hq
  unfold fh_X10_ruleWord
  exact sp_step f0 g0 (by omega) rfl (sp_step f1 g1 (by omega) rfl (sp_step f2 g2 (by omega) rfl (sp_step f3 g3 (by omega) rfl (sp_step f4 g4 (by omega) rfl (sp_step f5 g5 (by omega) rfl (sp_step f6 g6 (by omega) rfl (sp_step f7 g7 (by omega) rfl ⟨c, (by dsimp only; rw [fv, bs_]), gv⟩)))))))
/-- the kind c of the sign that begins at q -/
def KdR (t : Nat → Int32) (n q : Nat) (c : Int32) : Prop := (fL t q = true ∧ WdR t q (tE t n q) 0 23 c) ∨ (¬ fL t q = true ∧ fD t q = true ∧ c = 2) ∨ (¬ fL t q = true ∧ ¬ fD t q = true ∧ ((tE t n q - q = 2 ∧ c = if t q = 60 then 3 else 4) ∨ (tE t n q - q ≠ 2 ∧ c = if isS10 (t q) = true then t q else 1)))
theorem h_kindOf {st : HSt} {T n q : Nat} (k : gK st T = 21) (l : gL st T = 400) (hn : n ≤ 400) (hq : q < n) : ∃ c, fh_X10_kindOf (some T) (nI q) (nI (tE (gA st T) n q)) st = some (st, c) ∧ KdR (gA st T) n q c := by
  obtain ⟨b1, b2⟩ := tE_b (t := gA st T) hq
  unfold fh_X10_kindOf KdR
  generalize tE (gA st T) n q = e at *
  rw [dr_of k, bs_, l, chk_t (inb_n (by omega) (by omega)), nI_clamp (by omega), h_isL, bs_]
  dsimp only
  by_cases a : fL (gA st T) q = true
  · rw [if_pos (show isL (gA st T q) = true from a), if_neg (show ¬ (1 : Int32) = 0 by decide)]
    obtain ⟨c, f, g⟩ := h_river k l (show e ≤ 400 by omega) b1
    obtain ⟨c2, f2, g2⟩ := h_ruleWord k l (show e ≤ 400 by omega) b1
    rw [f, bs_]
    dsimp only
    rcases g with ⟨i, i1, i2, i3, i4⟩ | ⟨i1, i2⟩
    · rw [if_neg (by rw [i4]; intro z; have := (nI_eq (a := 256 + i) (b := 1) (by omega) (by omega)).mp z; omega)]
      exact ⟨c, rfl, Or.inl ⟨a, Or.inl ⟨i, i1, by omega, i3, i4⟩⟩⟩
    · rw [if_pos i1, f2, bs_]
      refine ⟨c2, rfl, Or.inl ⟨a, ?_⟩⟩
      rcases g2 with ⟨i, j1, j2, j3, j4⟩ | ⟨j1, j2⟩
      · exact Or.inl ⟨i, by omega, j2, j3, j4⟩
      · refine Or.inr ⟨j1, fun i h1 h2 => ?_⟩
        rcases Nat.lt_or_ge i 6 with z | z
        · exact i2 i h1 z
        · exact j2 i z h2
  · rw [if_neg (show ¬ isL (gA st T q) = true from a), if_pos rfl, h_isD, bs_]
    dsimp only
    by_cases b : fD (gA st T) q = true
    · rw [if_pos (show isD (gA st T q) = true from b), if_neg (show ¬ (1 : Int32) = 0 by decide)]
      exact ⟨2, rfl, Or.inr (Or.inl ⟨a, b, rfl⟩)⟩
    · rw [if_neg (show ¬ isD (gA st T q) = true from b), if_pos rfl, zsub (by omega) (by omega)]
      by_cases d : e - q = 2
      · rw [if_pos (show nI (e - q) = 2 by rw [d]; rfl)]
        refine ⟨if gA st T q = 60 then 3 else 4, ?_, Or.inr (Or.inr ⟨a, b, Or.inl ⟨d, rfl⟩⟩)⟩
        split <;> rfl
      · rw [if_neg (show ¬ nI (e - q) = 2 from fun z => d ((nI_eq (b := 2) (by omega) (by omega)).mp z)), h_isSign, bs_]
        dsimp only
        refine ⟨if isS10 (gA st T q) = true then gA st T q else 1, ?_, Or.inr (Or.inr ⟨a, b, Or.inr ⟨d, rfl⟩⟩)⟩
        by_cases z : isS10 (gA st T q) = true
        · rw [if_pos z, if_pos z, if_neg (show ¬ (1 : Int32) = 0 by decide)]
        · rw [if_neg z, if_neg z, if_pos rfl]
