/-! reading: numbers (reference) -/
def dv (c : Int32) : Nat := (c.toInt - 48).toNat
theorem isD_n {c : Int32} (h : isD c = true) : dv c ≤ 9 ∧ c = nI (48 + dv c) := by
  unfold isD at h
  rw [Bool.and_eq_true] at h
  have a := of_decide_eq_true h.1
  have b := of_decide_eq_true h.2
  have a' : ¬ c.toInt < 48 := fun z => a (Int32.lt_iff_toInt_lt.mpr z)
  have b' : ¬ 57 < c.toInt := fun z => b (Int32.lt_iff_toInt_lt.mpr z)
  refine ⟨by unfold dv; omega, i32_of ?_⟩
  rw [nI_toInt (by unfold dv; omega)]
  unfold dv; omega
def numN (t : Nat → Int32) (q : Nat) : Nat → Nat
  | 0 => 0
  | k + 1 => 10 * numN t q k + dv (t (q + k))
theorem numN_lt {t : Nat → Int32} {q : Nat} : ∀ k, (∀ i, q ≤ i → i < q + k → fD t i = true) → numN t q k < 10 ^ k
  | 0, _ => Nat.zero_lt_one
  | k + 1, h => by
    have ih := numN_lt k (fun i h1 h2 => h i h1 (by omega))
    have := (isD_n (h (q + k) (by omega) (by omega))).1
    unfold numN
    rw [Nat.pow_succ]; omega
theorem num_step {N : Nat} {c : Int32} (h : isD c = true) : (10 : Int32) * nI N + c - 48 = nI (10 * N + dv c) := by
  obtain ⟨a, b⟩ := isD_n h
  have e : (10 : Int32) * nI N + nI (48 + dv c) - nI 48 = nI (10 * N + dv c) := by
    show nI 10 * nI N + nI (48 + dv c) - nI 48 = _
    rw [pk_mul, show nI (48 + dv c) = nI (dv c) + nI 48 by rw [nI_add, Nat.add_comm], ← Int32.add_assoc, Int32.add_sub_cancel, nI_add]
  rw [← b] at e; exact e
/-- a fault is told -/
theorem m_fails {ms : MSt} {a q : Nat} (h : ms.1 15 = 0) : fm_fails (nI a) (nI q) ms = some (msi ms 15 (nI (1 + 8 * q + a)), 0) := by
  unfold fm_fails
  rw [if_pos h]
  have : (1 : Int32) + 8 * nI q + nI a = nI (1 + 8 * q + a) := by
    show nI 1 + nI 8 * nI q + nI a = _
    rw [pk_mul, nI_add, nI_add]
  rw [this]
def nOk (t : Nat → Int32) (q e L U : Nat) : Prop := e - q ≤ 5 ∧ L ≤ numN t q (e - q) ∧ numN t q (e - q) ≤ U
theorem m_number {ms : MSt} {n p L U : Nat} (h : At ms n p) (h15 : ms.1 15 = 0) (hL : L < 2 ^ 31) (hU : U < 2 ^ 31) : ∃ ms2 r, fm_numberHere (nI L) (nI U) ms = some (ms2, r) ∧ MF (fun k => k == 14 || k == 15 || k == 16) ms ms2 ∧
    ((r = 1 ∧ (sk (ms.2.1 0) n p < n ∧ fD (ms.2.1 0) (sk (ms.2.1 0) n p) = true) ∧ nOk (ms.2.1 0) (sk (ms.2.1 0) n p) (rE (fD (ms.2.1 0)) n (sk (ms.2.1 0) n p)) L U ∧ At ms2 n (rE (fD (ms.2.1 0)) n (sk (ms.2.1 0) n p)) ∧ ms2.1 15 = 0 ∧ ms2.1 16 = nI (numN (ms.2.1 0) (sk (ms.2.1 0) n p) (rE (fD (ms.2.1 0)) n (sk (ms.2.1 0) n p) - sk (ms.2.1 0) n p))) ∨
     (r = 0 ∧ (sk (ms.2.1 0) n p < n ∧ fD (ms.2.1 0) (sk (ms.2.1 0) n p) = true) ∧ ¬ nOk (ms.2.1 0) (sk (ms.2.1 0) n p) (rE (fD (ms.2.1 0)) n (sk (ms.2.1 0) n p)) L U ∧ ms2.1 15 = nI (1 + 8 * sk (ms.2.1 0) n p + 1)) ∨
     (r = 0 ∧ ¬ (sk (ms.2.1 0) n p < n ∧ fD (ms.2.1 0) (sk (ms.2.1 0) n p) = true) ∧ ms2.1 15 = nI (1 + 8 * sk (ms.2.1 0) n p + 0))) := by
  obtain ⟨h1, hn, h14, hp⟩ := id h
  have hq : sk (ms.2.1 0) n p ≤ n := (rE_s (f := fB (ms.2.1 0)) hp).2.1
  generalize hqd : sk (ms.2.1 0) n p = q at *
  let m := msi ms 14 (nI q)
  have hm : At m n q := h.to hq
  have m15 : m.1 15 = 0 := by show (msi ms 14 (nI q)).1 15 = 0; rw [msi_n (by omega)]; exact h15
  have F0 : MF (fun k => k == 14 || k == 15 || k == 16) ms m := MF.msi rfl
  unfold fm_numberHere
  rw [m_see h, bs_]
  dsimp only
  rw [hqd]
  show ∃ ms2 r, ((fm_isDigit (m.1 14) m).bind _) = some (ms2, r) ∧ _
  rw [hm.2.2.1, m_isDigit hm.1 hn (by omega), bs_]
  dsimp only
  by_cases hd : q < n ∧ fD (ms.2.1 0) q = true
  · rw [if_pos (show q < n ∧ fD (m.2.1 0) q = true from hd), if_neg (show ¬ (1 : Int32) = 0 by decide)]
    obtain ⟨r1, r2, r3, r4⟩ := rE_s (f := fD (ms.2.1 0)) hq
    generalize hed : rE (fD (ms.2.1 0)) n q = e at *
    obtain ⟨y, ey, y1, y2⟩ : ∃ y : Int32 × MSt, iter (fun x : (Int32 × MSt) => fm_numberHere_s34 (nI L) (nI U) (nI q) x.1 x.2) mFuel ((0 : Int32), m) = some (.inr y) ∧ y.1 = nI (numN (ms.2.1 0) q (min (e - q) 5)) ∧ y.2 = msi ms 14 (nI e) := by
      refine iter_w (ο := MSt × Int32) (fun k (x : Int32 × MSt) => x.1 = nI (numN (ms.2.1 0) q (min k 5)) ∧ x.2 = msi ms 14 (nI (q + k))) (e - q) _ ?_ ⟨rfl, rfl⟩ (by omega)
      rintro k ⟨x1, x2⟩ hk ⟨c1, c2⟩
      simp only at c1 c2
      subst c1; subst c2
      have e1 : (msi ms 14 (nI (q + k))).1 1 = nI n := by rw [msi_n (by omega)]; exact h1
      have e14 : (msi ms 14 (nI (q + k))).1 14 = nI (q + k) := by rw [msi_s]
      rcases Nat.lt_or_ge k (e - q) with hlt | hge
      · left
        have dk := r3 (q + k) (by omega) (by omega)
        refine ⟨(nI (numN (ms.2.1 0) q (min (k + 1) 5)), msi ms 14 (nI (q + (k + 1)))), ?_, ⟨rfl, rfl⟩, hlt⟩
        show fm_numberHere_s34 (nI L) (nI U) (nI q) (nI (numN (ms.2.1 0) q (min k 5))) (msi ms 14 (nI (q + k))) = _
        unfold fm_numberHere_s34
        rw [e14, m_isDigit e1 hn (by omega), bs_]
        dsimp only
        rw [if_pos (show q + k < n ∧ fD ((msi ms 14 (nI (q + k))).2.1 0) (q + k) = true from ⟨by omega, dk⟩), if_neg (show ¬ (1 : Int32) = 0 by decide), e14, zsub (by omega) (by omega), nI_1, msi_msi, show q + k - q = k by omega]
        rcases Nat.lt_or_ge k 5 with c | c
        · rw [if_neg (show ¬ (5 : Int32) ≤ nI k from nI_ge (b := 5) c (by omega)), chk_t (inb_n (by omega) (by omega)), nI_clamp (by omega), show min k 5 = k by omega, show min (k + 1) 5 = k + 1 by omega]
          show some (Sum.inr (Sum.inl ((10 : Int32) * nI (numN (ms.2.1 0) q k) + ms.2.1 0 (q + k) - 48, msi ms 14 (nI (q + k + 1))))) = _
          rw [num_step dk]; rfl
        · rw [if_pos (show (5 : Int32) ≤ nI k from nI_le (a := 5) c (by omega)), show min k 5 = 5 by omega, show min (k + 1) 5 = 5 by omega]
          rfl
      · right
        have ek : k = e - q := by omega
        refine ⟨(nI (numN (ms.2.1 0) q (min k 5)), msi ms 14 (nI (q + k))), ?_, by rw [ek], by rw [show q + k = e by omega]⟩
        show fm_numberHere_s34 (nI L) (nI U) (nI q) (nI (numN (ms.2.1 0) q (min k 5))) (msi ms 14 (nI (q + k))) = _
        unfold fm_numberHere_s34
        rw [e14, m_isDigit e1 hn (by omega), bs_]
        dsimp only
        rw [if_neg (show ¬ (q + k < n ∧ fD ((msi ms 14 (nI (q + k))).2.1 0) (q + k) = true) from fun z => ?_), if_pos rfl]
        have z1 := z.1
        have z2 : fD (ms.2.1 0) (q + k) = true := z.2
        rw [show q + k = e by omega, r4 (by omega)] at z2; cases z2
    rw [hm.2.2.1, ey]
    let N := numN (ms.2.1 0) q (min (e - q) 5)
    let m3 := msi (msi ms 14 (nI e)) 16 (nI N)
    have hN : N < 100000 := by
      have := numN_lt (t := ms.2.1 0) (q := q) (min (e - q) 5) (fun i h1 h2 => r3 i h1 (by omega))
      exact Nat.lt_of_lt_of_le this (Nat.le_trans (Nat.pow_le_pow_right (n := 10) (by omega) (show min (e - q) 5 ≤ 5 by omega)) (by decide))
    have A3 : At m3 n e := ⟨by show (msi (msi ms 14 (nI e)) 16 (nI N)).1 1 = _; rw [msi_n (by omega), msi_n (by omega)]; exact h1, hn, by show (msi (msi ms 14 (nI e)) 16 (nI N)).1 14 = _; rw [msi_n (by omega), msi_s], r2⟩
    have f15 : m3.1 15 = 0 := by show (msi (msi ms 14 (nI e)) 16 (nI N)).1 15 = 0; rw [msi_n (by omega), msi_n (by omega)]; exact h15
    have F3 : MF (fun k => k == 14 || k == 15 || k == 16) ms m3 := (MF.msi rfl).tr (MF.msi rfl)
    have j117 : fm_numberHere_j117 (nI q) m3 = some (msi m3 15 (nI (1 + 8 * q + 1)), 0) := by
      unfold fm_numberHere_j117
      rw [show fm_fails (1 : Int32) (nI q) m3 = some (msi m3 15 (nI (1 + 8 * q + 1)), 0) from m_fails (a := 1) f15, bs_]
      dsimp only
      rw [if_pos rfl]
    have head : fm_numberHere_j88 (nI L) (nI U) (nI q) y.1 y.2 = (if (5 : Int32) < nI (e - q) then fm_numberHere_j117 (nI q) m3 else (if wI (nI N) L U = 0 then fm_numberHere_j117 (nI q) m3 else some (m3, (1 : Int32)))) := by
      unfold fm_numberHere_j88
      rw [y1, y2]
      show (if (5 : Int32) < m3.1 14 - nI q then fm_numberHere_j117 (nI q) m3 else (fm_in (nI N).toInt64 (nI L).toInt64 (nI U).toInt64).bind fun x10 => if x10 = 0 then fm_numberHere_j117 (nI q) m3 else some (m3, (1 : Int32))) = _
      rw [A3.2.2.1, zsub (by omega) (by omega), m_in (L := (L : Int)) (U := (U : Int)) (by rw [l64, nI_toInt hL]) (by rw [l64, nI_toInt hU]), bs_]
    show ∃ ms2 r, fm_numberHere_j88 (nI L) (nI U) (nI q) y.1 y.2 = some (ms2, r) ∧ _
    rw [head]
    have bad : ¬ nOk (ms.2.1 0) q e L U → ∃ ms2 r, fm_numberHere_j117 (nI q) m3 = some (ms2, r) ∧ MF (fun k => k == 14 || k == 15 || k == 16) ms ms2 ∧ ((r = 1 ∧ (q < n ∧ fD (ms.2.1 0) q = true) ∧ nOk (ms.2.1 0) q e L U ∧ At ms2 n e ∧ ms2.1 15 = 0 ∧ ms2.1 16 = nI (numN (ms.2.1 0) q (e - q))) ∨ (r = 0 ∧ (q < n ∧ fD (ms.2.1 0) q = true) ∧ ¬ nOk (ms.2.1 0) q e L U ∧ ms2.1 15 = nI (1 + 8 * q + 1)) ∨ (r = 0 ∧ ¬ (q < n ∧ fD (ms.2.1 0) q = true) ∧ ms2.1 15 = nI (1 + 8 * q + 0))) := fun no => ⟨_, _, j117, F3.tr (MF.msi rfl), Or.inr (Or.inl ⟨rfl, hd, no, msi_s _ _ _⟩)⟩
    rcases Nat.lt_or_ge 5 (e - q) with c | c
    · rw [if_pos (show (5 : Int32) < nI (e - q) from nI_lt (a := 5) c (by omega))]
      exact bad (fun z => by have := z.1; omega)
    · have eN : N = numN (ms.2.1 0) q (e - q) := by show numN (ms.2.1 0) q (min (e - q) 5) = _; rw [show min (e - q) 5 = e - q by omega]
      rw [if_neg (show ¬ (5 : Int32) < nI (e - q) from nI_nlt (a := 5) c (by omega))]
      rcases wI_c (nI N) L U with ⟨w0, w1⟩ | ⟨w0, w1, w2⟩
      · rw [if_pos w0]
        refine bad (fun z => w1 ?_)
        rw [nI_toInt (by omega), eN]
        exact ⟨Int.ofNat_le.mpr z.2.1, Int.ofNat_le.mpr z.2.2⟩
      · rw [if_neg (by rw [w0]; decide)]
        rw [nI_toInt (by omega), eN] at w1 w2
        refine ⟨m3, 1, rfl, F3, Or.inl ⟨rfl, hd, ⟨c, Int.ofNat_le.mp w1, Int.ofNat_le.mp w2⟩, A3, f15, ?_⟩⟩
        show (msi (msi ms 14 (nI e)) 16 (nI N)).1 16 = _
        rw [msi_s, eN]
  · rw [if_neg (show ¬ (q < n ∧ fD (m.2.1 0) q = true) from hd), if_pos rfl]
    rw [hm.2.2.1, show fm_fails (0 : Int32) (nI q) m = some (msi m 15 (nI (1 + 8 * q + 0)), 0) from m_fails (a := 0) m15, bs_]
    dsimp only
    exact ⟨msi m 15 (nI (1 + 8 * q + 0)), 0, chk_t (by decide), F0.tr (MF.msi rfl), Or.inr (Or.inr ⟨rfl, hd, msi_s _ _ _⟩)⟩
