/-! reading: both begin; both read a number -/
theorem Sh.tk {hx : Nat} {st : HSt} (h : Sh hx st) : TkH st (hx + 17) := by
  obtain ⟨K, -, ⟨a1, a2, a3, a4, a5, a6, -⟩, -⟩ := h
  exact ⟨(K 17 (by omega)).trans rfl, ⟨a1, (K 18 (by omega)).trans rfl, a2⟩, ⟨a3, (K 19 (by omega)).trans rfl, a4⟩, ⟨a5, (K 20 (by omega)).trans rfl, a6⟩⟩
theorem tk_scan {hx n : Nat} {st : HSt} {ms : MSt} (h : Sh hx st) (T : TpR hx st ms n) : ∃ st2 M, fh_X10_scan (hx + 17) (some (hx + 1)) (nI n) st = some st2 ∧ Fr (TkX (hx + 17)) st st2 ∧ Tk st2 (hx + 17) (ms.2.1 0) n M 0 0 := by
  obtain ⟨t1, t2, t3, t4, t5, t6, t7, t8⟩ := T
  have S : Sm (gA st (hx + 1)) (ms.2.1 0) n := fun i hi => (t8 i hi).1
  obtain ⟨st2, M, e, F, hM, pM, i1, i2, i3, g1, g2, g3⟩ := h_scan h.tk t3 t4 t7 (by unfold TkX; omega)
  refine ⟨st2, M, e, F, h.tk.fr F, hM, by omega, by rw [← ps_x S]; exact pM, ⟨i1, i2, i3⟩, g1, g2, fun j hj => ?_⟩
  obtain ⟨a, b, c, d⟩ := g3 j hj
  rw [← ps_x S j]
  exact ⟨a, b.x S a, c, by rw [d]; exact tV_x S a⟩
/-- the two readers stand at the same sign, no fault as yet -/
def Jt2 (st : HSt) (ms : MSt) (H n M i p : Nat) : Prop := Tk st H (ms.2.1 0) n M i 0 ∧ At ms n p ∧ ms.1 15 = 0 ∧ sk (ms.2.1 0) n p = ps (ms.2.1 0) n i
theorem Tk.ps_lt {st : HSt} {H n M i : Nat} {t : Nat → Int32} {f : Int32} (h : Tk st H t n M i f) : i < M ↔ ps t n i < n := by
  obtain ⟨a, b, c, d, -, g1, g2, g3⟩ := h
  refine ⟨fun z => (g3 i z).1, fun z => ?_⟩
  rcases Nat.lt_or_ge i M with y | y
  · exact y
  · have : i = M := by omega
    rw [this, d] at z; omega
/-- both read a number: the same number, or the same fault -/
theorem j_number {st : HSt} {ms : MSt} {R H n M i p L U : Nat} (kR : gK st R = 6) (r5 : gR st 500 R = some H) (J : Jt2 st ms H n M i p) (hL : L < 2 ^ 30) (hU : U < 2 ^ 30) : ∃ st2 v ms2 r, fh_X5_number R (nI L) (nI U) st = some (st2, v) ∧ fm_numberHere (nI L) (nI U) ms = some (ms2, r) ∧ Fr (fun b => b = H) st st2 ∧ gA st2 = gA st ∧ MF (fun k => k == 14 || k == 15 || k == 16) ms ms2 ∧
    ((r = 1 ∧ ∃ N q, L ≤ N ∧ N ≤ U ∧ v = nI N ∧ ms2.1 16 = nI N ∧ Jt2 st2 ms2 H n M (i + 1) q) ∨ (r = 0 ∧ v = nI L ∧ ∃ f, f ≠ 0 ∧ ms2.1 15 = f ∧ Tk st2 H (ms.2.1 0) n M i f)) := by
  obtain ⟨T, A, h15, hs⟩ := J
  obtain ⟨st2, v, e, F, gA2, cs⟩ := h_number kR r5 T hL hU
  obtain ⟨ms2, r, e2, F2, cm⟩ := m_number (L := L) (U := U) A h15 (by omega) (by omega)
  rw [hs] at cm
  have lt := T.ps_lt
  have hp4 : ps (ms.2.1 0) n i ≤ 400 := Nat.le_trans (ps_le i) A.2.1
  have nz : ∀ k, k < 2 → ¬ nI (1 + 8 * ps (ms.2.1 0) n i + k) = 0 := fun k hk z => by have := (nI_eq (b := 0) (by omega) (by omega)).mp z; omega
  refine ⟨st2, v, ms2, r, e, e2, F, gA2, F2, ?_⟩
  rcases cs with ⟨-, c1, c2, c3, c4, c5⟩ | ⟨-, c1, c2, c3, c4, c5⟩ | ⟨-, c1, c4, c5⟩ | ⟨z, -⟩
  · rcases cm with ⟨m1, -, m3, m4, m5, m6⟩ | ⟨-, -, m3, -⟩ | ⟨-, m3, -⟩
    · refine Or.inl ⟨m1, _, _, c3.2.1, c3.2.2, c4, m6, ?_, m4, m5, ?_⟩
      · rw [F2.A 0 rfl]; exact c5
      · rw [F2.A 0 rfl]
        show _ = if ps (ms.2.1 0) n i < n then sk (ms.2.1 0) n (tE (ms.2.1 0) n (ps (ms.2.1 0) n i)) else n
        rw [if_pos (lt.mp c1), tE_d c2]
    · exact absurd c3 m3
    · exact absurd ⟨lt.mp c1, c2⟩ m3
  · rcases cm with ⟨-, -, m3, -⟩ | ⟨m1, -, -, m4⟩ | ⟨-, m3, -⟩
    · exact absurd m3 c3
    · exact Or.inr ⟨m1, c4, _, nz 1 (by omega), m4, c5⟩
    · exact absurd ⟨lt.mp c1, c2⟩ m3
  · rcases cm with ⟨-, m2, -⟩ | ⟨-, m2, -⟩ | ⟨m1, -, m4⟩
    · exact absurd ⟨lt.mpr m2.1, m2.2⟩ c1
    · exact absurd ⟨lt.mpr m2.1, m2.2⟩ c1
    · exact Or.inr ⟨m1, c4, _, nz 0 (by omega), m4, c5⟩
  · exact absurd rfl z
