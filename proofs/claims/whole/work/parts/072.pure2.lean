theorem lg_gt {a b : Int64} : 0 < lg_cmp a b ↔ b < a := by
  unfold lg_cmp
  split
  · rename_i h; constructor
    · intro _; exact h
    · intro _; decide
  · rename_i h
    split
    · constructor
      · intro q; exact absurd q (by decide)
      · intro q; exact absurd q h
    · constructor
      · intro q; exact absurd q (by decide)
      · intro q; exact absurd q h
theorem fm_in_eq (a : Int32) (l u : Int64) : fm_in a.toInt64 l u = some (if a.toInt < l.toInt then 0 else if u.toInt < a.toInt then 0 else 1) := by
  unfold fm_in
  simp only [lg_lt, lg_gt, Int64.lt_iff_toInt_lt, Int32.toInt_toInt64]
  split
  · rfl
  · split <;> rfl
theorem fh_within (a l u : Int32) (st : HSt) : fh_X11_isWithin a l u st = some (st, if a.toInt < l.toInt then 0 else if u.toInt < a.toInt then 0 else 1) := by
  unfold fh_X11_isWithin
  simp only [Int32.lt_iff_toInt_lt]
  split
  · rfl
  · split <;> rfl
theorem leap_h (hx : Nat) (a : Int32) (st : HSt) : ∃ r, fh_X11_leap hx a st = some (st, r) ∧ ∀ ms : MSt, fm_leap a ms = some (ms, r) := by
  unfold fh_X11_leap fm_leap fh_X11_leap_j26
  rw [fh_within, fm_in_eq]
  simp only [bs_]
  have e1 : (1 : Int32).toInt = 1 := by decide
  have e2 : (9999 : Int32).toInt = 9999 := by decide
  have e3 : (1 : Int64).toInt = 1 := by decide
  have e4 : (9999 : Int64).toInt = 9999 := by decide
  rw [e1, e2]
  by_cases h1 : a.toInt < 1
  · refine ⟨-1, ?_, fun ms => ?_⟩ <;> simp [h1, e3]
  · by_cases h2 : 9999 < a.toInt
    · refine ⟨-1, ?_, fun ms => ?_⟩ <;> simp [h1, h2, e3, e4]
    · by_cases h3 : a - a / 400 * 400 = 0
      · by_cases h4 : a - a / 4 * 4 = 0
        · by_cases h5 : a - a / 100 * 100 = 0
          · refine ⟨1, ?_, fun ms => ?_⟩ <;> simp [h1, h2, h3, h4, h5, e3, e4]
          · refine ⟨1, ?_, fun ms => ?_⟩ <;> simp [h1, h2, h3, h4, h5, e3, e4]
        · refine ⟨1, ?_, fun ms => ?_⟩ <;> simp [h1, h2, h3, h4, e3, e4]
      · by_cases h4 : a - a / 4 * 4 = 0
        · by_cases h5 : a - a / 100 * 100 = 0
          · refine ⟨0, ?_, fun ms => ?_⟩ <;> simp [h1, h2, h3, h4, h5, e3, e4]
          · refine ⟨1, ?_, fun ms => ?_⟩ <;> simp [h1, h2, h3, h4, h5, e3, e4]
        · refine ⟨0, ?_, fun ms => ?_⟩ <;> simp [h1, h2, h3, h4, e3, e4]
theorem Sim_leap (Rel : Nat → HSt → MSt → Prop) (hN : ∀ hx hst mst n, Rel hx hst mst → gN hst ≤ n → Rel hx (setN hst n) mst) : Sim1 Rel fh_X11_leap fm_leap := by
  intro hx hst mst n a hR hn
  obtain ⟨r, e1, e2⟩ := leap_h hx a (setN hst n)
  exact ⟨(setN hst n, r), (mst, r), e1, e2 mst, rfl, hN hx hst mst n hR hn⟩
