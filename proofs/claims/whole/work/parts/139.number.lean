/-! reading: a number (class) -/
theorem h_number {st : HSt} {R H n M i L U : Nat} {t : Nat → Int32} {f : Int32} (kR : gK st R = 6) (r5 : gR st 500 R = some H) (h : Tk st H t n M i f) (hL : L < 2 ^ 30) (hU : U < 2 ^ 30) : ∃ st2 v, fh_X5_number R (nI L) (nI U) st = some (st2, v) ∧ Fr (fun b => b = H) st st2 ∧ gA st2 = gA st ∧
    ((f = 0 ∧ i < M ∧ fD t (ps t n i) = true ∧ nOk t (ps t n i) (rE (fD t) n (ps t n i)) L U ∧ v = nI (numN t (ps t n i) (rE (fD t) n (ps t n i) - ps t n i)) ∧ Tk st2 H t n M (i + 1) 0) ∨
     (f = 0 ∧ i < M ∧ fD t (ps t n i) = true ∧ ¬ nOk t (ps t n i) (rE (fD t) n (ps t n i)) L U ∧ v = nI L ∧ Tk st2 H t n M i (nI (1 + 8 * ps t n i + 1))) ∨
     (f = 0 ∧ ¬ (i < M ∧ fD t (ps t n i) = true) ∧ v = nI L ∧ Tk st2 H t n M i (nI (1 + 8 * ps t n i + 0))) ∨
     (f ≠ 0 ∧ v = nI L ∧ Tk st2 H t n M i f)) := by
  have h0 := h
  obtain ⟨⟨a0, -⟩, b, c, d, -, g1, g2, g3⟩ := h
  obtain ⟨s0, f0, F0, -, T0, A0⟩ := h_fail (a := 0) h0
  obtain ⟨s1, f1, F1, -, T1, A1⟩ := h_fail (a := 1) h0
  obtain ⟨s2, f2, F2, -, T2, A2⟩ := h_next h0
  have f0' : fh_X10_fail H (0 : Int32) st = some s0 := f0
  have f1' : fh_X10_fail H (1 : Int32) st = some s1 := f1
  have head : fh_X5_number R (nI L) (nI U) st = (if (if f = 0 then gA st (H + 1) i else 1) = (2 : Int32) then (if gA st (H + 3) i < nI L then some (s1, nI L) else (if gA st (H + 3) i ≤ nI U then some (s2, gA st (H + 3) i) else some (s1, nI L))) else some (s0, nI L)) := by
    unfold fh_X5_number
    simp only [chk_t (isk_t kR), r5, dr_of a0, bs_, h_kind h0, h_value h0, f0', f1', f2]
  rw [head]
  by_cases z : f = 0
  · subst z
    rw [if_pos rfl]
    rw [if_pos rfl] at T0 T1
    by_cases w : i < M ∧ fD t (ps t n i) = true
    · obtain ⟨w1, w2⟩ := w
      obtain ⟨p1, p2, p3, p4⟩ := g3 i w1
      obtain ⟨b1, b2⟩ := tE_b (t := t) p1
      rw [if_pos w1] at T2
      rw [if_pos (p2.dig.mpr w2), p4]
      unfold tV
      rw [tE_d w2] at b1 b2 ⊢
      rw [if_pos w2]
      obtain ⟨-, -, r3, -⟩ := rE_s (f := fD t) (n := n) (p := ps t n i) (by omega)
      generalize rE (fD t) n (ps t n i) = e at *
      rcases Nat.lt_or_ge 5 (e - ps t n i) with u | u
      · rw [if_pos u, if_pos (show (-1 : Int32) < nI L from Int32.lt_iff_toInt_lt.mpr (by rw [nI_toInt (by omega), show (-1 : Int32).toInt = -1 by decide]; omega))]
        exact ⟨s1, _, rfl, F1, A1, Or.inr (Or.inl ⟨rfl, w1, w2, fun y => by have := y.1; omega, rfl, T1⟩)⟩
      · rw [if_neg (show ¬ 5 < e - ps t n i by omega)]
        have lt := numN_lt (t := t) (q := ps t n i) (e - ps t n i) (fun j h1 h2 => r3 j h1 (by omega))
        have lt2 : numN t (ps t n i) (e - ps t n i) < 100000 := Nat.lt_of_lt_of_le lt (Nat.le_trans (Nat.pow_le_pow_right (n := 10) (by omega) (show e - ps t n i ≤ 5 by omega)) (by decide))
        rcases Nat.lt_or_ge (numN t (ps t n i) (e - ps t n i)) L with x | x
        · rw [if_pos (nI_lt x (by omega))]
          exact ⟨s1, _, rfl, F1, A1, Or.inr (Or.inl ⟨rfl, w1, w2, fun y => by have := y.2.1; omega, rfl, T1⟩)⟩
        · rw [if_neg (nI_nlt x (by omega))]
          rcases Nat.lt_or_ge U (numN t (ps t n i) (e - ps t n i)) with y | y
          · rw [if_neg (nI_ge y (by omega))]
            exact ⟨s1, _, rfl, F1, A1, Or.inr (Or.inl ⟨rfl, w1, w2, fun q => by have := q.2.2; omega, rfl, T1⟩)⟩
          · rw [if_pos (nI_le y (by omega))]
            exact ⟨s2, _, rfl, F2, A2, Or.inl ⟨rfl, w1, w2, ⟨u, x, y⟩, rfl, T2⟩⟩
    · rw [if_neg (fun q => w ?_)]
      · exact ⟨s0, _, rfl, F0, A0, Or.inr (Or.inr (Or.inl ⟨rfl, w, rfl, T0⟩))⟩
      · rcases Nat.lt_or_ge i M with w1 | w1
        · exact ⟨w1, (g3 i w1).2.1.dig.mp q⟩
        · have : i = M := by omega
          rw [this, g1] at q; exact absurd q (by decide)
  · rw [if_neg z, if_neg (show ¬ (1 : Int32) = 2 by decide)]
    rw [if_neg z] at T0
    exact ⟨s0, _, rfl, F0, A0, Or.inr (Or.inr (Or.inr ⟨z, rfl, T0⟩))⟩
