/-! a new HalfBridge is as a new HalfBridgeModel -/
theorem kOf_hi : ∀ {os : List Op} {c j : Nat}, c + cO os ≤ j → kOf os c j = none
  | [], _, _, _ => rfl
  | o :: os, c, j, h => by
    have ec : cO (o :: os) = (if o.1 = 0 then 1 else 0) + cO os := rfl
    rw [ec] at h
    unfold kOf
    by_cases h0 : o.1 = 0
    · rw [if_pos h0] at h
      rw [if_pos h0, if_neg (by omega)]; exact kOf_hi (by omega)
    · rw [if_neg h0] at h
      rw [if_neg h0]; exact kOf_hi (by omega)
theorem all_n : cO allO = 110 := by decide +kernel
theorem all_k : ∀ j, j < 110 → kOf allO 0 j = some (kd j) := by decide +kernel
theorem all_S1 : ∀ j, j < 110 → kd j = 10 → kd (j + 1) = 5 := by decide +kernel
theorem all_S2 : ∀ j, j < 110 → kd j = 10 → ∀ i, i < 10 → 1 < i → kd (j + i) = 22 := by decide +kernel
theorem all_S3 : ∀ j, j < 110 → kd j = 10 → j + 10 ≤ 110 := by decide +kernel
theorem all_Sr902 : ∀ j, j < 110 → kd j = 10 → rOf 902 allO 0 j none = some (some (j + 7)) := by decide +kernel
theorem all_Sl902 : ∀ j, j < 110 → kd j = 10 → lOf allO 0 (j + 7) = some 2 := by decide +kernel
theorem all_Sr903 : ∀ j, j < 110 → kd j = 10 → rOf 903 allO 0 j none = some (some (j + 8)) := by decide +kernel
theorem all_Sl903 : ∀ j, j < 110 → kd j = 10 → lOf allO 0 (j + 8) = some 80 := by decide +kernel
theorem all_Sr904 : ∀ j, j < 110 → kd j = 10 → rOf 904 allO 0 j none = some (some (j + 9)) := by decide +kernel
theorem all_Sl904 : ∀ j, j < 110 → kd j = 10 → lOf allO 0 (j + 9) = some 80 := by decide +kernel
theorem all_R1 : ∀ j, j < 110 → kd j = 5 → ∀ i, i < 6 → 0 < i → kd (j + i) = 22 := by decide +kernel
theorem all_R2 : ∀ j, j < 110 → kd j = 5 → j + 6 ≤ 110 := by decide +kernel
theorem all_Rr404 : ∀ j, j < 110 → kd j = 5 → rOf 404 allO 0 j none = some (some (j + 1)) := by decide +kernel
theorem all_Rl404 : ∀ j, j < 110 → kd j = 5 → lOf allO 0 (j + 1) = some 2 := by decide +kernel
theorem all_Rr405 : ∀ j, j < 110 → kd j = 5 → rOf 405 allO 0 j none = some (some (j + 2)) := by decide +kernel
theorem all_Rl405 : ∀ j, j < 110 → kd j = 5 → lOf allO 0 (j + 2) = some 2 := by decide +kernel
theorem all_Rr406 : ∀ j, j < 110 → kd j = 5 → rOf 406 allO 0 j none = some (some (j + 3)) := by decide +kernel
theorem all_Rl406 : ∀ j, j < 110 → kd j = 5 → lOf allO 0 (j + 3) = some 2 := by decide +kernel
theorem all_Rr407 : ∀ j, j < 110 → kd j = 5 → rOf 407 allO 0 j none = some (some (j + 4)) := by decide +kernel
theorem all_Rl407 : ∀ j, j < 110 → kd j = 5 → lOf allO 0 (j + 4) = some 8 := by decide +kernel
theorem all_Rr408 : ∀ j, j < 110 → kd j = 5 → rOf 408 allO 0 j none = some (some (j + 5)) := by decide +kernel
theorem all_Rl408 : ∀ j, j < 110 → kd j = 5 → lOf allO 0 (j + 5) = some 8 := by decide +kernel
theorem all_I : ∀ j, j < 110 → kd j = 9 → j = 3 := by decide +kernel
theorem all_q : ∀ i, i < 7 → qOf i allO 0 31 none = some (some (33 + 10 * i)) := by decide +kernel
theorem all_im : ∀ i, i < 4 → qOf i allO 0 16 none = some none := by decide +kernel
theorem all_w : wfO allO 0 = true := by decide +kernel
theorem all_f : ∀ i, i < 110 → i ≠ 15 → fOf2 allO 0 i 0 = 0 := by decide +kernel
theorem sm9_0 : sm9 0 := ⟨by decide, by decide⟩
theorem VOk_0 : VOk 9999 (fun _ => 0) := ⟨0, fun _ => 0, 0, 0, 0, rfl, fun _ _ => rfl, rfl, rfl, rfl, by omega, Nat.le_refl _, by omega, by omega, by omega, fun _ _ => ⟨0, rfl, by omega⟩, fun f hf => by omega, fun _ _ _ _ => sm9_0, fun _ k _ _ hk _ => absurd hk (Nat.not_lt_zero _)⟩
theorem hinit_rel : HInit Rel := by
  intro n
  have hN := hE_N n
  refine ⟨run n (hE n) allO, s_hb n, ?_⟩
  have K : ∀ j, j < 110 → gK (run n (hE n) allO) (n + j) = kd j := fun j hj => by
    have := (run_K (N := n) (i := j) (os := allO) (st := hE n) (c := 0) rfl).1
    rw [all_k j hj] at this; exact this
  have K0 : ∀ a, (a < n ∨ n + 110 ≤ a) → gK (run n (hE n) allO) a = 0 := fun a ha => by
    rcases ha with ha | ha
    · exact (run_old (N := n) ha (os := allO) (st := hE n) (by rw [hN]; exact Nat.le_refl _)).1
    · have := (run_K (N := n) (i := a - n) (os := allO) (st := hE n) (c := 0) rfl).1
      rw [kOf_hi (by rw [all_n]; omega), show n + (a - n) = a by omega] at this
      exact this
  have at_ : ∀ a k, gK (run n (hE n) allO) a = k → k ≠ 0 → ∃ j, j < 110 ∧ a = n + j ∧ kd j = k := fun a k h hk => by
    rcases (by omega : (a < n ∨ n + 110 ≤ a) ∨ (n ≤ a ∧ a < n + 110)) with z | z
    · rw [K0 a z] at h; exact absurd h.symm hk
    · have := K (a - n) (by omega)
      rw [show n + (a - n) = a by omega, h] at this
      exact ⟨a - n, by omega, by omega, this.symm⟩
  have R : ∀ f j v, rOf f allO 0 j none = some (some v) → gR (run n (hE n) allO) f (n + j) = some (n + v) := fun f j v h => s_gR hN h
  have L : ∀ j k, lOf allO 0 j = some k → gL (run n (hE n) allO) (n + j) = k := fun j k h => s_gL hN h
  have I0 : ∀ f j, j < 110 → gI (run n (hE n) allO) f (n + j) = 0 := fun f j hj => (run_I (N := n) (i := j) (os := allO) (st := hE n) (c := 0) rfl (by omega) (by rw [all_n]; omega)).1 f
  have A0 : ∀ j i, j < 110 → j ≠ 15 → gA (run n (hE n) allO) (n + j) i = 0 := fun j i hj h15 => by
    rw [run_A (N := n) (i := j) (os := allO) (st := hE n) (c := 0) (q := 0) rfl all_w (fun z => by omega) (by rw [all_n]; omega), all_f j hj h15]
    show (if i < 0 then (100000 : Int32) else 0) = 0; rw [if_neg (by omega)]
  have W : Wf (run n (hE n) allO) := by
    refine ⟨fun a ha => ?_, fun a ha => ?_, fun a ha => ?_, fun a ha => ?_⟩
    · obtain ⟨j, hj, rfl, kj⟩ := at_ a 10 ha (by omega)
      have s3 := all_S3 j hj kj
      have e : ∀ i, n + j + i = n + (j + i) := fun i => Nat.add_assoc _ _ _
      rw [e, e, e, e]
      exact ⟨(K (j + 1) (by omega)).trans (all_S1 j hj kj), fun i h1 h2 => by rw [e]; exact (K (j + i) (by omega)).trans (all_S2 j hj kj i h2 h1), R 902 j _ (all_Sr902 j hj kj), L _ _ (all_Sl902 j hj kj), R 903 j _ (all_Sr903 j hj kj), L _ _ (all_Sl903 j hj kj), R 904 j _ (all_Sr904 j hj kj), L _ _ (all_Sl904 j hj kj)⟩
    · obtain ⟨j, hj, rfl, kj⟩ := at_ a 5 ha (by omega)
      have s2 := all_R2 j hj kj
      have e : ∀ i, n + j + i = n + (j + i) := fun i => Nat.add_assoc _ _ _
      rw [e, e, e, e, e]
      exact ⟨fun i h1 h2 => by rw [e]; exact (K (j + i) (by omega)).trans (all_R1 j hj kj i h2 h1), R 404 j _ (all_Rr404 j hj kj), L _ _ (all_Rl404 j hj kj), R 405 j _ (all_Rr405 j hj kj), L _ _ (all_Rl405 j hj kj), R 406 j _ (all_Rr406 j hj kj), L _ _ (all_Rl406 j hj kj), R 407 j _ (all_Rr407 j hj kj), L _ _ (all_Rl407 j hj kj), R 408 j _ (all_Rr408 j hj kj), L _ _ (all_Rl408 j hj kj)⟩
    · obtain ⟨j, hj, rfl, kj⟩ := at_ a 7 ha (by omega)
      exact absurd kj (kd_7 j hj)
    · obtain ⟨j, hj, rfl, kj⟩ := at_ a 9 ha (by omega)
      have := all_I j hj kj
      subst this
      exact ⟨K 4 (by omega), K 14 (by omega), K 15 (by omega), R 800 3 4 (by decide +kernel), R 803 3 14 (by decide +kernel), L 14 16 (by decide +kernel), R 804 3 15 (by decide +kernel), L 15 80 (by decide +kernel)⟩
  have S : Sh n (run n (hE n) allO) := by
    refine ⟨K, ⟨R 1100 0 1 (by decide +kernel), L 1 400 (by decide +kernel), R 1102 0 2 (by decide +kernel), L 2 6 (by decide +kernel), R 1104 0 3 (by decide +kernel), R 1105 0 16 (by decide +kernel), L 16 4 (by decide +kernel), R 1106 0 17 (by decide +kernel), R 1107 0 21 (by decide +kernel), R 1108 0 22 (by decide +kernel), R 1109 0 27 (by decide +kernel)⟩, ⟨R 1000 17 18 (by decide +kernel), L 18 401 (by decide +kernel), R 1001 17 19 (by decide +kernel), L 19 401 (by decide +kernel), R 1002 17 20 (by decide +kernel), L 20 401 (by decide +kernel), R 500 21 17 (by decide +kernel)⟩, ⟨R 700 22 17 (by decide +kernel), R 701 22 23 (by decide +kernel), L 23 12 (by decide +kernel), R 702 22 24 (by decide +kernel), L 24 13 (by decide +kernel), R 703 22 25 (by decide +kernel), L 25 12 (by decide +kernel), R 704 22 26 (by decide +kernel), L 26 400 (by decide +kernel)⟩, ⟨R 0 27 28 (by decide +kernel), R 300 28 29 (by decide +kernel), L 29 9 (by decide +kernel), R 301 28 30 (by decide +kernel), L 30 64 (by decide +kernel), R 6 27 31 (by decide +kernel), L 31 7 (by decide +kernel), R 7 27 32 (by decide +kernel), L 32 3 (by decide +kernel), R 1 27 103 (by decide +kernel), R 2 27 106 (by decide +kernel), fun i hi => ?_⟩, ⟨R 102 103 28 (by decide +kernel), R 103 103 31 (by decide +kernel), R 104 103 104 (by decide +kernel), L 104 6 (by decide +kernel), R 105 103 105 (by decide +kernel), L 105 6 (by decide +kernel)⟩, ⟨R 201 106 28 (by decide +kernel), R 202 106 31 (by decide +kernel), R 203 106 107 (by decide +kernel), L 107 8 (by decide +kernel), R 204 106 108 (by decide +kernel), L 108 12 (by decide +kernel), R 205 106 109 (by decide +kernel), L 109 8 (by decide +kernel)⟩⟩
    have := run_Q (N := n) (i := 31) (p := i) (x0 := none) (os := allO) (st := hE n) (c := 0) (q := none) rfl rfl
    rw [all_q i hi] at this
    rw [this]
    show some (n + (33 + 10 * i)) = _
    exact congrArg some (by omega)
  have gN0 : gN (run n (hE n) allO) = n + 110 := by rw [run_N, all_n, hN]
  refine ⟨0, 0, n + 5, W, fun a ha => K0 a (Or.inr (by omega)), S, Or.inl ?_, ⟨K 0 (by omega), S.2.1.1, K 1 (by omega), S.2.1.2.1, I0 1101 0 (by omega), rfl, by omega, fun i hi => by omega⟩, ⟨I0 1103 0 (by omega), rfl, by omega, fun k hk => by omega⟩, ⟨⟨R 900 4 5 (by decide +kernel), ⟨K 5 (by omega), I0 400 5 (by omega), I0 401 5 (by omega), I0 402 5 (by omega), I0 403 5 (by omega), fun s hs => ⟨A0 6 s (by omega) (by omega), A0 7 s (by omega) (by omega), A0 8 s (by omega) (by omega)⟩, fun f hf => ?_⟩, ⟨K 4 (by omega), I0 901 4 (by omega), fun s hs => A0 11 s (by omega) (by omega), fun s k hs hk => ?_⟩⟩, ⟨K 3 (by omega), fun s k hs hk => A0 14 _ (by omega) (by omega)⟩, I0 801 3 (by omega), by show (0 : Int32) ≤ 0; decide, fun _ => I0 802 3 (by omega), fun z => absurd rfl z⟩, VOk_0, fun k hk => Or.inl ⟨?_, rfl⟩, fun j k S hj hk h1 h2 => ?_⟩
  · have := run_R (N := n) (i := 27) (f := 10) (x0 := none) (os := allO) (st := hE n) (c := 0) (q := none) rfl rfl
    rw [show rOf 10 allO 0 27 none = some none by decide +kernel] at this
    exact this
  · have : (mz.2.1 26 4).toNatClampNeg = 0 := cln0
    omega
  · have : yN (mz.2.1 26) s = 0 := cln0
    omega
  · have := run_Q (N := n) (i := 16) (p := k) (x0 := none) (os := allO) (st := hE n) (c := 0) (q := none) rfl rfl
    rw [all_im k hk] at this
    exact this
  · have := run_Q (N := n) (i := 16) (p := j) (x0 := none) (os := allO) (st := hE n) (c := 0) (q := none) rfl rfl
    rw [all_im j hj] at this
    rw [this] at h1; cases h1
