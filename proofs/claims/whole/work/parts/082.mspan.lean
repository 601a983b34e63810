/-! the reference: its reads of 'said', yards taken and built -/
def setV (ms : MSt) (u : Nat → Int32) : MSt := (ms.1, va_up ms.2.1 26 u, ms.2.2)
theorem setV_said (ms : MSt) (u : Nat → Int32) : (setV ms u).2.1 26 = u := by
  show va_up ms.2.1 26 u 26 = u
  exact va_up_self _ _ _
theorem setV_o {ms : MSt} {u : Nat → Int32} {k : Nat} (h : k ≠ 26) : (setV ms u).2.1 k = ms.2.1 k := va_up_ne _ _ h
theorem setV_2 (ms : MSt) (u z : Nat → Int32) : setV (setV ms u) z = setV ms z := by
  show (ms.1, va_up (va_up ms.2.1 26 u) 26 z, ms.2.2) = _; rw [vup_vup]; rfl
theorem setV_id (ms : MSt) : setV ms (ms.2.1 26) = ms := by
  show (ms.1, va_up ms.2.1 26 (ms.2.1 26), ms.2.2) = ms
  have : va_up ms.2.1 26 (ms.2.1 26) = ms.2.1 := by funext j; unfold va_up; by_cases h : j = 26 <;> simp [h]
  rw [this]
theorem msa_26 (ms : MSt) (i : Nat) (x : Int32) : msa ms 26 i x = setV ms (upd (ms.2.1 26) i x) := rfl
section MSPAN
variable {ms : MSt} {v : Nat → Int32}
theorem m_gap (hv : ms.2.1 26 = v) : fm_gap ms = some (ms, pGap v) := by
  subst hv
  unfold fm_gap
  rw [chk_t (by decide), chk_t (by decide), chk_t (by decide)]
  rfl
theorem m_met (hv : ms.2.1 26 = v) : fm_isMet ms = some (ms, if pGap v = 0 then 1 else 0) := by
  unfold fm_isMet
  rw [m_gap hv, bs_]
  split <;> rfl
theorem m_river (hv : ms.2.1 26 = v) : fm_isRiver ms = some (ms, if v 0 ≤ 0 then 0 else 1) := by
  subst hv
  unfold fm_isRiver
  rw [chk_t (by decide)]
  show (if ms.2.1 26 0 ≤ 0 then some (ms, (0 : Int32)) else some (ms, (1 : Int32))) = _
  split <;> rfl
theorem m_yardOf {s k w : Nat} {x z y : Int32} (hv : ms.2.1 26 = v) (hx : x = nI s) (hs : s < 2) (hz : z = nI k - 1) (hk : k ≤ 40) (hy : y = nI w) (hw : w < 2) : fm_yardOf x z y ms = some (ms, pAt v s k w) := by
  subst hx; subst hz; subst hy; subst hv
  unfold fm_yardOf pAt
  cases k with
  | zero =>
    have e : (8 : Int32) + 2 * nI s + nI w = nI (8 + 2 * s + w) := by show nI 8 + nI 2 * nI s + nI w = _; rw [pk_mul, nI_add, nI_add]
    rw [if_neg (show ¬ 0 ≤ nI 0 - 1 by decide), e, chk_t (inb_n (by omega) (by omega)), nI_clamp (by omega), if_pos rfl]
  | succ k =>
    rw [nI_pred, if_pos (nI_pos' (by omega)), if_neg (show ¬ k + 1 = 0 by omega)]
    rcases (by omega : w = 0 ∨ w = 1) with rfl | rfl
    · have e : (126 : Int32) + 40 * nI s + nI k = nI (126 + 80 * 0 + 40 * s + (k + 1 - 1)) := by show nI 126 + nI 40 * nI s + nI k = _; rw [pk_mul, nI_add, nI_add]; exact congrArg nI (by omega)
      rw [if_pos (show nI 0 = 0 from rfl)]
      unfold fm_yardOf_j36
      rw [e, chk_t (inb_n (by omega) (by omega)), nI_clamp (by omega)]
    · have e : (206 : Int32) + 40 * nI s + nI k = nI (126 + 80 * 1 + 40 * s + (k + 1 - 1)) := by show nI 206 + nI 40 * nI s + nI k = _; rw [pk_mul, nI_add, nI_add]; exact congrArg nI (by omega)
      rw [if_neg (show ¬ nI 1 = 0 by decide)]
      unfold fm_yardOf_j36
      rw [e, chk_t (inb_n (by omega) (by omega)), nI_clamp (by omega)]
theorem n6 (s : Nat) : (6 : Int32) + nI s = nI (6 + s) := by show nI 6 + nI s = _; rw [nI_add]
theorem m_tipOf {s w y : Nat} {x z : Int32} (hv : ms.2.1 26 = v) (hx : x = nI s) (hs : s < 2) (hy : v (6 + s) = nI y) (hy40 : y ≤ 40) (hz : z = nI w) (hw : w < 2) : fm_tipOf x z ms = some (ms, pTip v s w) := by
  subst hx
  have e := m_yardOf (s := s) (k := y) (w := w) (z := nI y - 1) hv rfl hs rfl hy40 hz hw
  unfold fm_tipOf
  rw [n6, chk_t (inb_n (by omega) (by omega)), nI_clamp (by omega), hv, hy, e, bs_]
  unfold pTip; rw [yN_e hy hy40]
theorem m_moreOf {s k w : Nat} {x z y : Int32} (hv : ms.2.1 26 = v) (hx : x = nI s) (hs : s < 2) (hz : z = nI k) (hk : k < 40) (hy : y = nI w) (hw : w < 2) : fm_moreOf x z y ms = some (ms, pAt v s (k + 1) w - pAt v s k w) := by
  unfold fm_moreOf
  rw [m_yardOf (k := k + 1) hv hx hs (by rw [hz, nI_pred]) (by omega) hy hw, bs_]
  dsimp only
  rw [m_yardOf (k := k) hv hx hs (by rw [hz]) (by omega) hy hw, bs_]
theorem m_plain (x : Int32) : fm_plain x = some (pAbs x) := by
  unfold fm_plain pAbs
  rw [Int32.zero_sub]
  split <;> rfl
theorem m_miss {w y0 y1 : Nat} {z : Int32} (hv : ms.2.1 26 = v) (h6 : v 6 = nI y0) (h7 : v 7 = nI y1) (hy0 : y0 ≤ 40) (hy1 : y1 ≤ 40) (hz : z = nI w) (hw : w < 2) : fm_missOf z ms = some (ms, pMiss v w) := by
  unfold fm_missOf pMiss
  rw [m_tipOf (s := 0) (x := 0) hv rfl (by omega) h6 hy0 hz hw, bs_]
  dsimp only
  rw [m_tipOf (s := 1) (x := 1) hv rfl (by omega) h7 hy1 hz hw, bs_]
  dsimp only
  rw [m_plain, bs_]
theorem m_crooked {s y : Nat} {x : Int32} (hv : ms.2.1 26 = v) (hx : x = nI s) (hs : s < 2) (hy : v (6 + s) = nI y) (hy40 : y ≤ 40) : fm_crooked x ms = some (ms, pCrk v s y) := by
  subst hx
  obtain ⟨z, e, h1, h2⟩ : ∃ z : Int32 × Int32 × MSt, iter (fun x : (Int32 × Int32 × MSt) => fm_crooked_s4 (nI s) x.1 x.2.1 x.2.2) mFuel ((0 : Int32), (0 : Int32), ms) = some (.inr z) ∧ z.1 = pCrk v s y ∧ z.2.2 = ms := by
    refine iter_n (fun k (x : Int32 × Int32 × MSt) => x.1 = pCrk v s k ∧ x.2.1 = nI k ∧ x.2.2 = ms) y _ ?_ ?_ ⟨rfl, rfl, rfl⟩ (by omega)
    · rintro k ⟨a, i, m⟩ hk ⟨ha, hi, hm⟩
      simp only at ha hi hm
      subst ha; subst hi; subst hm
      refine ⟨(pCrk v s (k + 1), nI (k + 1), m), ?_, rfl, rfl, rfl⟩
      show fm_crooked_s4 (nI s) (pCrk v s k) (nI k) m = _
      unfold fm_crooked_s4
      rw [n6, chk_t (inb_n (by omega) (by omega)), nI_clamp (by omega), hv, hy, if_neg (nI_ge hk (by omega)), m_moreOf (k := k) (w := 0) (y := 0) hv rfl hs rfl (by omega) rfl (by omega), bs_]
      dsimp only
      rw [m_plain, bs_, m_moreOf (k := k) (w := 1) (y := 1) hv rfl hs rfl (by omega) rfl (by omega), bs_]
      dsimp only
      rw [m_plain, bs_, nI_1, ← Int32.add_assoc]
      rfl
    · rintro ⟨a, i, m⟩ ⟨ha, hi, hm⟩
      simp only at ha hi hm
      subst ha; subst hi; subst hm
      refine ⟨(pCrk v s y, nI y, m), ?_, rfl, rfl⟩
      show fm_crooked_s4 (nI s) (pCrk v s y) (nI y) m = _
      unfold fm_crooked_s4
      rw [n6, chk_t (inb_n (by omega) (by omega)), nI_clamp (by omega), hv, hy, if_pos (nI_le (Nat.le_refl _) (by omega))]
  unfold fm_crooked
  rw [e]
  show fm_crooked_j47 z.1 z.2.2 = _
  rw [h1, h2]; rfl
theorem m_time {D : Nat} (hv : ms.2.1 26 = v) (V : VOk D v) : fm_isInTime ms = some (ms, if pGap v = 0 then (if v 3 < pMiss v 0 then 0 else if v 3 < pMiss v 1 then 0 else 1) else 0) := by
  obtain ⟨w0, y, d, sp, fl, h0, h6, h1, h2, h4, hw, hy, -⟩ := V
  unfold fm_isInTime
  rw [m_met hv, bs_]
  by_cases hg : pGap v = 0
  · rw [if_pos hg, if_pos hg, if_neg (show ¬ (1 : Int32) = 0 by decide)]
    rw [m_miss (w := 0) (z := 0) hv (h6 0 (by omega)) (h6 1 (by omega)) (by omega) (by omega) rfl (by omega), bs_]
    dsimp only
    rw [chk_t (by decide), hv]
    show (if v 3 < pMiss v 0 then _ else _) = _
    by_cases hm : v 3 < pMiss v 0
    · rw [if_pos hm, if_pos hm]
    · rw [if_neg hm, if_neg hm, m_miss (w := 1) (z := 1) hv (h6 0 (by omega)) (h6 1 (by omega)) (by omega) (by omega) rfl (by omega), bs_]
      dsimp only
      rw [chk_t (by decide), hv]
      show (if v 3 < pMiss v 1 then some (ms, (0 : Int32)) else some (ms, (1 : Int32))) = _
      split <;> rfl
  · rw [if_neg hg, if_neg hg, if_pos rfl]
theorem m_takes {s : Nat} {x n : Int32} (hv : ms.2.1 26 = v) (hx : x = nI s) (hs : s < 2) : fm_takesYards x n ms = some (setV ms (pTake v s n)) := by
  subst hx
  unfold fm_takesYards fm_greater
  rw [n6, chk_t (inb_n (by omega) (by omega)), nI_clamp (by omega), hv]
  have e : ∀ y : Int32, chk (inb (nI (6 + s)) 286) (some (msa ms 26 (6 + s) y)) = some (setV ms (upd v (6 + s) y)) := fun y => by rw [chk_t (inb_n (by omega) (by omega)), msa_26, hv]
  unfold pTake
  by_cases h0 : 0 ≤ v (6 + s) - n
  · rw [if_pos h0, bs_, e]
    by_cases h1 : 0 < v (6 + s) - n
    · rw [if_pos h1]
    · rw [if_neg h1]
      have : v (6 + s) - n = 0 := Int32.le_antisymm (Int32.not_lt.mp h1) h0
      rw [this]
  · rw [if_neg h0, bs_, e, if_neg (fun q => h0 (Int32.le_of_lt q))]
theorem m_builds {s y : Nat} {x t r : Int32} (hv : ms.2.1 26 = v) (hx : x = nI s) (hs : s < 2) (hy : v (6 + s) = nI y) (hy40 : y < 40) : fm_builds x t r ms = some (setV ms (pBuild v s t r)) := by
  subst hx
  unfold fm_builds
  have e1 : (126 : Int32) + 40 * nI s + nI y = nI (126 + 40 * s + y) := by show nI 126 + nI 40 * nI s + nI y = _; rw [pk_mul, nI_add, nI_add]
  have e2 : (206 : Int32) + 40 * nI s + nI y = nI (206 + 40 * s + y) := by show nI 206 + nI 40 * nI s + nI y = _; rw [pk_mul, nI_add, nI_add]
  rw [n6, chk_t (inb_n (by omega) (by omega)), nI_clamp (n := 6 + s) (by omega), m_tipOf (w := 0) (z := 0) hv rfl hs hy (by omega) rfl (by omega), bs_]
  dsimp only
  rw [m_tipOf (w := 1) (z := 1) hv rfl hs hy (by omega) rfl (by omega), bs_, hv, hy, e1, e2, chk_t (inb_n (by omega) (by omega)), chk_t (inb_n (by omega) (by omega)), chk_t (inb_n (by omega) (by omega)), chk_t (inb_n (by omega) (by omega)), nI_clamp (by omega), nI_clamp (by omega)]
  dsimp only
  rw [msa_26, msa_26, msa_26, setV_said, setV_said, setV_2, setV_2, hv]
  unfold pBuild
  rw [yN_e hy (by omega), pk_un (by omega), pk_un (by omega)]
end MSPAN
