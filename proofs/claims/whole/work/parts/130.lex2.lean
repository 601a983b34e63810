/-! reading: words and numbers (reference) -/
theorem m_passWord {ms : MSt} {n p : Nat} (h : At ms n p) : fm_passWord ms = some (msi ms 14 (nI (rE (fL (ms.2.1 0)) n p))) := by
  obtain ⟨h1, hn, h14, hp⟩ := id h
  obtain ⟨r1, r2, r3, r4⟩ := rE_s (f := fL (ms.2.1 0)) hp
  obtain ⟨y, e, y2⟩ : ∃ y : MSt, iter (fun x : MSt => fm_passWord_s0 x) mFuel ms = some (.inr y) ∧ y = msi ms 14 (nI (rE (fL (ms.2.1 0)) n p)) := by
    refine iter_w (ο := MSt) (fun k (x : MSt) => p + k ≤ rE (fL (ms.2.1 0)) n p ∧ x = msi ms 14 (nI (p + k))) (rE (fL (ms.2.1 0)) n p - p) _ ?_ ⟨r1, (msi_id h14).symm⟩ (by omega)
    rintro k x hk ⟨q1, q2⟩
    subst q2
    have e1 : (msi ms 14 (nI (p + k))).1 1 = nI n := by rw [msi_n (by omega)]; exact h1
    have e14 : (msi ms 14 (nI (p + k))).1 14 = nI (p + k) := by rw [msi_s]
    rcases Nat.lt_or_ge (p + k) (rE (fL (ms.2.1 0)) n p) with hlt | hge
    · left
      refine ⟨msi ms 14 (nI (p + (k + 1))), ?_, ⟨by omega, rfl⟩, by omega⟩
      show fm_passWord_s0 (msi ms 14 (nI (p + k))) = _
      unfold fm_passWord_s0
      rw [e14, m_isLetter e1 hn (by omega), bs_]
      dsimp only
      rw [if_pos (show p + k < n ∧ fL ((msi ms 14 (nI (p + k))).2.1 0) (p + k) = true from ⟨by omega, r3 _ (by omega) hlt⟩), if_neg (show ¬ (1 : Int32) = 0 by decide), e14, nI_1, msi_msi]
      rfl
    · right
      have ek : p + k = rE (fL (ms.2.1 0)) n p := by omega
      refine ⟨msi ms 14 (nI (p + k)), ?_, by rw [ek]⟩
      show fm_passWord_s0 (msi ms 14 (nI (p + k))) = _
      unfold fm_passWord_s0
      rw [e14, m_isLetter e1 hn (by omega), bs_]
      dsimp only
      rw [if_neg (show ¬ (p + k < n ∧ fL ((msi ms 14 (nI (p + k))).2.1 0) (p + k) = true) from fun z => ?_), if_pos rfl]
      have := r4 (by omega)
      rw [← ek] at this
      have z2 : fL (ms.2.1 0) (p + k) = true := z.2
      rw [this] at z2; cases z2
  unfold fm_passWord
  rw [e, y2]; rfl
/-- signs packed into a long -/
def pkc (t : Nat → Int32) (q : Nat) : Nat → Int64
  | 0 => 0
  | k + 1 => (pkc t q k <<< ((8 : Int32).toInt64 &&& 63)) ||| (t (q + k)).toInt64
def iW (t : Nat → Int32) (n q : Nat) (w : Int64) : Int32 := if rE (fL t) n q ≤ q then 0 else if q + 8 ≤ rE (fL t) n q then 0 else if pkc t q (rE (fL t) n q - q) = w then 1 else 0
theorem m_isWord {ms : MSt} {n p : Nat} {w : Int64} (h : At ms n p) : fm_isWord w ms = some (msi ms 14 (nI (sk (ms.2.1 0) n p)), iW (ms.2.1 0) n (sk (ms.2.1 0) n p) w) := by
  obtain ⟨h1, hn, h14, hp⟩ := id h
  have hq : sk (ms.2.1 0) n p ≤ n := (rE_s (f := fB (ms.2.1 0)) hp).2.1
  let q := sk (ms.2.1 0) n p
  let m := msi ms 14 (nI q)
  have hm : At m n q := h.to hq
  obtain ⟨r1, r2, r3, r4⟩ := rE_s (f := fL (ms.2.1 0)) hq
  let e := rE (fL (ms.2.1 0)) n q
  have r1' : q ≤ e := r1
  have r2' : e ≤ n := r2
  have tm : m.2.1 0 = ms.2.1 0 := rfl
  obtain ⟨y, ey, y1, y2, y3⟩ : ∃ y : Int64 × Int32 × MSt, iter (fun x : (Int64 × Int32 × MSt) => fm_isWord_s10 w x.1 x.2.1 x.2.2) mFuel ((0 : Int64), (0 : Int32), m) = some (.inr y) ∧ y.1 = pkc (ms.2.1 0) q (min (e - q) 8) ∧ y.2.1 = nI (e - q) ∧ y.2.2 = m := by
    refine iter_w (ο := MSt × Int32) (fun k (x : Int64 × Int32 × MSt) => x.1 = pkc (ms.2.1 0) q (min k 8) ∧ x.2.1 = nI k ∧ x.2.2 = m) (e - q) _ ?_ ⟨rfl, rfl, rfl⟩ (by omega)
    rintro k ⟨x1, x2, x3⟩ hk ⟨c1, c2, c3⟩
    simp only at c1 c2 c3
    subst c1; subst c2; subst c3
    have ei : m.1 14 + nI k = nI (q + k) := by rw [hm.2.2.1, nI_add]
    rcases Nat.lt_or_ge k (e - q) with hlt | hge
    · left
      refine ⟨(pkc (ms.2.1 0) q (min (k + 1) 8), nI (k + 1), m), ?_, ⟨rfl, rfl, rfl⟩, hlt⟩
      show fm_isWord_s10 w (pkc (ms.2.1 0) q (min k 8)) (nI k) m = _
      unfold fm_isWord_s10
      rw [ei, m_isLetter hm.1 hn (by omega), bs_]
      dsimp only
      rw [if_pos (show q + k < n ∧ fL (m.2.1 0) (q + k) = true from ⟨by omega, r3 _ (by omega) (show q + k < e by omega)⟩), if_neg (show ¬ (1 : Int32) = 0 by decide), nI_1]
      rcases Nat.lt_or_ge k 8 with c | c
      · rw [if_neg (show ¬ (8 : Int32) ≤ nI k from nI_ge (b := 8) c (by omega)), ei, chk_t (inb_n (by omega) (by omega)), nI_clamp (by omega), show min k 8 = k by omega, show min (k + 1) 8 = k + 1 by omega]
        rfl
      · rw [if_pos (show (8 : Int32) ≤ nI k from nI_le (a := 8) c (by omega)), show min k 8 = 8 by omega, show min (k + 1) 8 = 8 by omega]
    · right
      have ek : k = e - q := by omega
      refine ⟨(pkc (ms.2.1 0) q (min k 8), nI k, m), ?_, by rw [ek], by rw [ek], rfl⟩
      show fm_isWord_s10 w (pkc (ms.2.1 0) q (min k 8)) (nI k) m = _
      unfold fm_isWord_s10
      rw [ei, m_isLetter hm.1 hn (by omega), bs_]
      dsimp only
      rw [if_neg (show ¬ (q + k < n ∧ fL (m.2.1 0) (q + k) = true) from fun z => ?_), if_pos rfl]
      have hqk : q + k = e := by omega
      have z1 := z.1
      have := r4 (show e < n by omega)
      have z2 : fL (ms.2.1 0) (q + k) = true := z.2
      rw [hqk] at z2
      rw [show fL (ms.2.1 0) e = false from this] at z2; cases z2
  unfold fm_isWord
  rw [m_see h, bs_]
  dsimp only
  show (iter (fun x : (Int64 × Int32 × MSt) => fm_isWord_s10 w x.1 x.2.1 x.2.2) mFuel ((0 : Int64), (0 : Int32), m)).bind _ = _
  rw [ey]
  show fm_isWord_j56 w y.1 y.2.1 y.2.2 = some (m, if e ≤ q then 0 else if q + 8 ≤ e then 0 else if pkc (ms.2.1 0) q (e - q) = w then 1 else 0)
  unfold fm_isWord_j56
  rw [y1, y2, y3]
  by_cases c1 : e ≤ q
  · rw [if_pos c1, if_pos (show nI (e - q) ≤ 0 by rw [show e - q = 0 by omega]; decide)]
  · rw [if_neg c1, if_neg (show ¬ nI (e - q) ≤ 0 from nI_ge (b := e - q) (a := 0) (by omega) (by omega))]
    by_cases c2 : q + 8 ≤ e
    · rw [if_pos c2, if_pos (show (8 : Int32) ≤ nI (e - q) from nI_le (a := 8) (by omega) (by omega))]
    · rw [if_neg c2, if_neg (show ¬ (8 : Int32) ≤ nI (e - q) from nI_ge (b := 8) (by omega) (by omega)), show min (e - q) 8 = e - q by omega]
      by_cases c3 : pkc (ms.2.1 0) q (e - q) = w
      · rw [if_pos c3, if_pos (lg_eq.mpr c3)]
      · rw [if_neg c3, if_neg (fun z => c3 (lg_eq.mp z))]
