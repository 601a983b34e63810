/-! reading: both see a sign -/
theorem b255p : ∀ m, m < 128 → nI m &&& 255 = nI m := by decide +kernel
theorem b255n : ∀ m, m < 128 → (nI m - 128) &&& 255 = nI (m + 128) := by decide +kernel
theorem b255 {x : Int32} {k : Nat} (h : by8 x) (hk : k < 128) : x &&& 255 = nI k ↔ x = nI k := by
  obtain ⟨h1, h2⟩ := h
  by_cases z : 0 ≤ x.toInt
  · have e : x = nI x.toInt.toNat := i32_of (by rw [nI_toInt (by omega)]; omega)
    rw [e, b255p _ (by omega)]
  · have e : x = nI (x.toInt + 128).toNat - 128 := i32_of (by
      have q : (nI (x.toInt + 128).toNat - 128).toInt = ((x.toInt + 128).toNat : Int) - 128 := pk_sub_toInt (b := 128) (by omega) (by omega)
      rw [q]; omega)
    refine ⟨fun y => ?_, fun y => ?_⟩
    · rw [e, b255n _ (by omega)] at y
      have := (nI_eq (by omega) (by omega)).mp y; omega
    · have : x.toInt = k := by rw [y, nI_toInt (by omega)]
      omega
theorem j_see {st : HSt} {ms : MSt} {H n M i p : Nat} (J : Jt2 st ms H n M i p) : fm_see ms = some (msi ms 14 (nI (ps (ms.2.1 0) n i)), if ps (ms.2.1 0) n i = n then -1 else ms.2.1 0 (ps (ms.2.1 0) n i) &&& 255) := by
  obtain ⟨T, A, h15, hs⟩ := J
  rw [m_see A, hs]
theorem j_end {st : HSt} {ms : MSt} {H n M i p : Nat} (J : Jt2 st ms H n M i p) : gA st (H + 1) i = 0 ↔ ps (ms.2.1 0) n i = n := by
  obtain ⟨T, A, h15, hs⟩ := J
  have lt := T.ps_lt
  have le := ps_le (t := ms.2.1 0) (n := n) i
  obtain ⟨a, b, c, d, -, g1, g2, g3⟩ := T
  rcases Nat.lt_or_ge i M with z | z
  · obtain ⟨p1, p2, -⟩ := g3 i z
    refine ⟨fun y => ?_, fun y => by omega⟩
    exfalso
    rw [y] at p2
    rcases p2 with ⟨-, ⟨k, -, hk, -, e⟩ | ⟨e, -⟩⟩ | ⟨-, -, e⟩ | ⟨-, -, ⟨-, e⟩ | ⟨-, e⟩⟩
    · have := (nI_eq (a := 0) (b := 256 + k) (by omega) (by omega)).mp e; omega
    · exact absurd e (by decide)
    · exact absurd e (by decide)
    · split at e <;> exact absurd e (by decide)
    · split at e
      · rename_i s
        obtain ⟨k, k1, k2, k3⟩ := s10_c s
        rw [k3] at e
        have := (nI_eq (a := 0) (b := k) (by omega) (by omega)).mp e; omega
      · exact absurd e (by decide)
  · have e : i = M := by omega
    rw [e]; exact ⟨fun _ => d, fun _ => g1⟩
