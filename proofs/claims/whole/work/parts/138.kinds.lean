/-! reading: what a kind says of the text -/
theorem w_ne : ∀ i, i < 23 → ∀ j, j < 23 → i ≠ j → ¬ (wl i = wl j ∧ ∀ k, k < wl i → wc i k = wc j k) := by decide +kernel
theorem spl_uq {t : Nat → Int32} {q e i j : Nat} (hi : i < 23) (hj : j < 23) (a : Spl t q e i) (b : Spl t q e j) : i = j := by
  by_cases h : i = j
  · exact h
  · refine absurd ⟨a.1.symm.trans b.1, fun k hk => ?_⟩ (w_ne i hi j hj h)
    exact (a.2 k hk).symm.trans (b.2 k (by rw [← b.1, a.1]; exact hk))
theorem s10_c {c : Int32} (h : isS10 c = true) : ∃ k, k < 100 ∧ 42 ≤ k ∧ c = nI k := by
  have := of_decide_eq_true h
  rcases this with z | z | z | z | z | z | z | z | z | z
  · exact ⟨42, by omega, by omega, z⟩
  · exact ⟨43, by omega, by omega, z⟩
  · exact ⟨45, by omega, by omega, z⟩
  · exact ⟨47, by omega, by omega, z⟩
  · exact ⟨59, by omega, by omega, z⟩
  · exact ⟨60, by omega, by omega, z⟩
  · exact ⟨61, by omega, by omega, z⟩
  · exact ⟨62, by omega, by omega, z⟩
  · exact ⟨91, by omega, by omega, z⟩
  · exact ⟨93, by omega, by omega, z⟩
theorem KdR.dig {t : Nat → Int32} {n q : Nat} {c : Int32} (h : KdR t n q c) : c = 2 ↔ fD t q = true := by
  have n2 : ∀ k, k < 2 ^ 31 → k ≠ 2 → ¬ nI k = (2 : Int32) := fun k hk h2 z => h2 ((nI_eq (b := 2) hk (by omega)).mp z)
  rcases h with ⟨a, b⟩ | ⟨a, b, d⟩ | ⟨a, b, d⟩
  · refine ⟨fun z => ?_, fun z => absurd a (dg_not z)⟩
    rcases b with ⟨i, -, hi, -, e⟩ | ⟨e, -⟩
    · rw [e] at z; exact absurd z (n2 _ (by omega) (by omega))
    · rw [e] at z; exact absurd z (by decide)
  · exact ⟨fun _ => b, fun _ => d⟩
  · refine ⟨fun z => ?_, fun z => absurd z b⟩
    rcases d with ⟨-, e⟩ | ⟨-, e⟩
    · rw [e] at z; split at z <;> exact absurd z (by decide)
    · rw [e] at z
      split at z
      · rename_i s
        obtain ⟨k, k1, k2, k3⟩ := s10_c s
        rw [k3] at z; exact absurd z (n2 _ (by omega) (by omega))
      · exact absurd z (by decide)
theorem KdR.word {t : Nat → Int32} {n q i : Nat} {c : Int32} (h : KdR t n q c) (hi : i < 23) : c = nI (256 + i) ↔ (fL t q = true ∧ Spl t q (tE t n q) i) := by
  have n2 : ∀ k, k < 256 → ¬ nI k = nI (256 + i) := fun k hk z => by have := (nI_eq (by omega) (by omega)).mp z; omega
  rcases h with ⟨a, b⟩ | ⟨a, b, d⟩ | ⟨a, b, d⟩
  · rcases b with ⟨j, -, hj, s, e⟩ | ⟨e, g⟩
    · refine ⟨fun z => ?_, fun z => ?_⟩
      · rw [e] at z
        have := (nI_eq (by omega) (by omega)).mp z
        rw [show i = j by omega]; exact ⟨a, s⟩
      · rw [e, spl_uq hj hi s z.2]
    · refine ⟨fun z => ?_, fun z => absurd z.2 (g i (by omega) hi)⟩
      rw [e] at z; exact absurd z (n2 1 (by omega))
  · refine ⟨fun z => ?_, fun z => absurd z.1 a⟩
    rw [d] at z; exact absurd z (n2 2 (by omega))
  · refine ⟨fun z => ?_, fun z => absurd z.1 a⟩
    rcases d with ⟨-, e⟩ | ⟨-, e⟩
    · rw [e] at z; split at z
      · exact absurd z (n2 3 (by omega))
      · exact absurd z (n2 4 (by omega))
    · rw [e] at z
      split at z
      · rename_i s
        obtain ⟨k, k1, k2, k3⟩ := s10_c s
        rw [k3] at z; exact absurd z (n2 _ (by omega))
      · exact absurd z (n2 1 (by omega))
theorem s10_not {t : Nat → Int32} {q : Nat} {c : Int32} (hc : isS10 c = true) (h : t q = c) : ¬ fL t q = true ∧ ¬ fD t q = true := by
  have := of_decide_eq_true hc
  unfold fL fD
  rw [h]
  rcases this with z | z | z | z | z | z | z | z | z | z <;> rw [z] <;> decide
/-- a sign of one place -/
theorem KdR.sign {t : Nat → Int32} {n q : Nat} {c c0 : Int32} (h : KdR t n q c) (h0 : isS10 c0 = true) : c = c0 ↔ (t q = c0 ∧ tE t n q - q ≠ 2) := by
  obtain ⟨k0, a1, a2, a3⟩ := s10_c h0
  have n2 : ∀ k, k < 2 ^ 31 → k < 42 ∨ 100 ≤ k → ¬ nI k = c0 := fun k hk h2 z => by rw [a3] at z; have := (nI_eq hk (by omega)).mp z; omega
  have no := fun z : t q = c0 => s10_not h0 z
  rcases h with ⟨a, b⟩ | ⟨a, b, d⟩ | ⟨a, b, d⟩
  · refine ⟨fun z => ?_, fun z => absurd a (no z.1).1⟩
    rcases b with ⟨i, -, hi, -, e⟩ | ⟨e, -⟩
    · rw [e] at z; exact absurd z (n2 _ (by omega) (by omega))
    · rw [e] at z; exact absurd z (n2 1 (by omega) (by omega))
  · refine ⟨fun z => ?_, fun z => absurd b (no z.1).2⟩
    rw [d] at z; exact absurd z (n2 2 (by omega) (by omega))
  · rcases d with ⟨d, e⟩ | ⟨d, e⟩
    · refine ⟨fun z => ?_, fun z => absurd d z.2⟩
      rw [e] at z; split at z
      · exact absurd z (n2 3 (by omega) (by omega))
      · exact absurd z (n2 4 (by omega) (by omega))
    · rw [e]
      by_cases s : isS10 (t q) = true
      · rw [if_pos s]; exact ⟨fun z => ⟨z, d⟩, fun z => z.1⟩
      · rw [if_neg s]
        refine ⟨fun z => absurd z (n2 1 (by omega) (by omega)), fun z => ?_⟩
        rw [z.1] at s; exact absurd h0 s
