/-! reading: both look at a word -/
theorem sk_sk {t : Nat → Int32} {n p : Nat} (hp : p ≤ n) : sk t n (sk t n p) = sk t n p := by
  obtain ⟨a, b, c, d⟩ := rE_s (f := fB t) hp
  exact Rn.uq (rE_s (f := fB t) (n := n) b) ⟨Nat.le_refl _, b, fun i h1 h2 => by have h3 : i < sk t n p := h2; have h4 : sk t n p ≤ i := h1; omega, d⟩
theorem Jt2.seen {st : HSt} {ms : MSt} {H n M i p : Nat} (J : Jt2 st ms H n M i p) : Jt2 st (msi ms 14 (nI (ps (ms.2.1 0) n i))) H n M i (ps (ms.2.1 0) n i) := by
  obtain ⟨T, A, h15, hs⟩ := J
  refine ⟨T, A.to (ps_le i), by rw [msi_n (by omega)]; exact h15, ?_⟩
  show sk (ms.2.1 0) n (ps (ms.2.1 0) n i) = ps (ms.2.1 0) n i
  rw [← hs]; exact sk_sk A.2.2.2
theorem j_word {st : HSt} {ms : MSt} {H n M i p k : Nat} {w : Int64} (J : Jt2 st ms H n M i p) (hk : k < 23) (hw : w = nL (wN k (wl k))) : ∃ r, fm_isWord w ms = some (msi ms 14 (nI (ps (ms.2.1 0) n i)), r) ∧ ((r = 1 ∧ gA st (H + 1) i = nI (256 + k) ∧ i < M) ∨ (r = 0 ∧ ¬ gA st (H + 1) i = nI (256 + k))) := by
  obtain ⟨T, A, h15, hs⟩ := J
  have lt := T.ps_lt
  refine ⟨_, by rw [m_isWord A, hs], ?_⟩
  obtain ⟨a, b, c, d, -, g1, g2, g3⟩ := T
  rcases Nat.lt_or_ge i M with z | z
  · obtain ⟨p1, p2, -⟩ := g3 i z
    rcases iW_iff (t := ms.2.1 0) p1 hk hw (wN_all k hk) with ⟨x1, x2⟩ | ⟨x1, x2⟩
    · exact Or.inl ⟨x1, (p2.word hk).mpr x2, z⟩
    · exact Or.inr ⟨x1, fun y => x2 ((p2.word hk).mp y)⟩
  · have e : i = M := by omega
    right
    refine ⟨?_, fun y => ?_⟩
    · rw [e, d]
      have r2 := (rE_s (f := fL (ms.2.1 0)) (n := n) (p := n) (Nat.le_refl _)).2.1
      unfold iW
      rw [if_pos r2]
    · rw [e, g1] at y
      have := (nI_eq (a := 0) (b := 256 + k) (by omega) (by omega)).mp y
      omega
