/-! reading: both pass a word; both see a sign -/
theorem j_pass {st : HSt} {ms : MSt} {H n M i k : Nat} (J : Jt2 st ms H n M i (ps (ms.2.1 0) n i)) (hk : k < 23) (hi : i < M) (hg : gA st (H + 1) i = nI (256 + k)) : ∃ st2 ms2, fh_X10_next H st = some st2 ∧ fm_passWord ms = some ms2 ∧ Fr (fun b => b = H) st st2 ∧ gA st2 = gA st ∧ MF (fun k => k == 14) ms ms2 ∧ Jt2 st2 ms2 H n M (i + 1) (rE (fL (ms.2.1 0)) n (ps (ms.2.1 0) n i)) := by
  obtain ⟨T, A, h15, hs⟩ := J
  have p1 : ps (ms.2.1 0) n i < n := T.ps_lt.mp hi
  have fl : fL (ms.2.1 0) (ps (ms.2.1 0) n i) = true := (((T.2.2.2.2.2.2.2 i hi).2.1.word hk).mp hg).1
  have te : tE (ms.2.1 0) n (ps (ms.2.1 0) n i) = rE (fL (ms.2.1 0)) n (ps (ms.2.1 0) n i) := by unfold tE; rw [if_pos fl]
  have r2 : rE (fL (ms.2.1 0)) n (ps (ms.2.1 0) n i) ≤ n := (rE_s (by omega)).2.1
  obtain ⟨st2, e, F, -, T2, gA2⟩ := h_next T
  rw [if_pos hi] at T2
  refine ⟨st2, _, e, m_passWord A, F, gA2, MF.msi rfl, T2, A.to r2, by rw [msi_n (by omega)]; exact h15, ?_⟩
  show sk (ms.2.1 0) n (rE (fL (ms.2.1 0)) n (ps (ms.2.1 0) n i)) = if ps (ms.2.1 0) n i < n then sk (ms.2.1 0) n (tE (ms.2.1 0) n (ps (ms.2.1 0) n i)) else n
  rw [if_pos p1, te]
