/-! the reference: acts, floods, passes, errors as told, springs, keeps, putsBack -/
theorem pl_n {t r : Int32} (ht : sm20 t) (hr : sm20 r) : ∃ n, n ≤ 1680 ∧ (t + 20) * 41 + r + 20 = nI n := by
  obtain ⟨a, ha, e1⟩ := sm20_e ht
  obtain ⟨b, hb, e2⟩ := sm20_e hr
  refine ⟨41 * a + b, by omega, ?_⟩
  rw [e1, e2, Int32.sub_add_cancel, Int32.add_assoc, Int32.sub_add_cancel]
  show nI a * nI 41 + nI b = _
  rw [pk_mul, nI_add, Nat.mul_comm]
theorem m_acts {ms : MSt} {v : Nat → Int32} {D s : Nat} {x p : Int32} (hv : ms.2.1 26 = v) (V : VOk D v) (hx : x = nI s) (hs : s < 2) (P : PlM ms s p) : fm_acts x ms = some (setV ms (pAct v s p)) := by
  subst hx
  have hid : setV ms v = ms := by rw [← hv]; exact setV_id ms
  unfold fm_acts pAct
  rw [chk_t (inb_n hs (by omega)), chk_t (inb_n hs (by omega)), nI_clamp (by omega)]
  rcases P with ⟨rfl, h⟩ | ⟨rfl, h⟩ | ⟨t, r, ht, hr, e, h28, h29, h30⟩
  · rw [h, if_pos rfl, if_pos rfl, m_takes hv rfl hs, bs_]
  · rw [h, if_neg (by decide), if_neg (by decide), if_neg (by decide), if_pos (by decide), hid]
  · obtain ⟨-, q1, q2⟩ := pl_of ht hr
    obtain ⟨n, hn, en⟩ := pl_n ht hr
    rw [← e] at q1 q2 en
    rw [h28, if_neg (by decide), if_pos rfl, m_gap hv, bs_]
    dsimp only
    have p0 : ¬ p < 0 := by rw [en]; exact nI_pos (by omega)
    have pm : ¬ p = -1 := fun z => p0 (by rw [z]; decide)
    rw [if_neg pm, if_neg p0]
    by_cases hg : pGap v ≤ 0
    · rw [if_pos hg, if_pos hg, hid]
    · obtain ⟨w0, y, d, sp, fl, h0, h6, h1, h2, h4, hw0, hy, -⟩ := V
      have hyw : y 0 + y 1 < w0 := by
        rcases Nat.lt_or_ge (y 0 + y 1) w0 with q | q
        · exact q
        · exfalso; apply hg; rw [pGap_n h0 (h6 0 (by omega)) (h6 1 (by omega)) hy, show w0 - y 0 - y 1 = 0 by omega]; decide
      have hys : y s < 40 := by rcases (by omega : s = 0 ∨ s = 1) with rfl | rfl <;> omega
      rw [if_neg hg, if_neg hg, chk_t (inb_n hs (by omega)), chk_t (inb_n hs (by omega)), h29, h30, m_builds hv rfl hs (h6 s hs) hys, bs_, q1, q2]
theorem mF2 : ∃ n, mFuel = n + 3 := ⟨999997, by rw [mFuel_eq]⟩
theorem m_floods {ms : MSt} {v : Nat → Int32} {D fl : Nat} (hv : ms.2.1 26 = v) (V : VOk D v) (h4 : v 4 = nI fl) (hfl : fl ≤ 8) : fm_floods ms = some (setV ms (pFld v fl)) := by
  obtain ⟨q, e, h1⟩ : ∃ q : Int32 × MSt, iter (fun x : (Int32 × MSt) => fm_floods_s2 x.1 x.2) mFuel ((0 : Int32), ms) = some (.inr q) ∧ q.2 = setV ms (pFld v fl) := by
    refine iter_n (fun f (x : Int32 × MSt) => x.1 = nI f ∧ x.2 = setV ms (pFld v f)) fl _ ?_ ?_ ⟨rfl, ?_⟩ (by omega)
    · rintro f ⟨i, s⟩ hf ⟨hi, hs⟩
      simp only at hi hs
      subst hi; subst hs
      obtain ⟨K1, K2⟩ := Kp_fld (v := v) f
      have q4 : pFld v f 4 = nI fl := by rw [K1 4 (by omega) (by omega) (by omega) (by omega)]; exact h4
      have q15 : pFld v f (14 + 2 * f + 1) = v (14 + 2 * f + 1) := K1 _ (by omega) (by omega) (by omega) (by omega)
      have e14 : (14 : Int32) + 2 * nI f = nI (14 + 2 * f) := by show nI 14 + nI 2 * nI f = _; rw [pk_mul, nI_add]
      have hpf : pFld v (f + 1) = if pFld v f (14 + 2 * f) = pFld v f 1 then pTake (pTake (pFld v f) 0 (v (14 + 2 * f + 1))) 1 (v (14 + 2 * f + 1)) else pFld v f := rfl
      refine ⟨(nI (f + 1), setV ms (pFld v (f + 1))), ?_, rfl, rfl⟩
      show fm_floods_s2 (nI f) (setV ms (pFld v f)) = _
      unfold fm_floods_s2
      rw [chk_t (by decide), setV_said, cln4, q4, if_neg (nI_ge hf (by omega)), e14, chk_t (inb_n (by omega) (by omega)), chk_t (by decide), nI_clamp (by omega), cln1, hpf]
      by_cases hd : pFld v f (14 + 2 * f) = pFld v f 1
      · rw [if_pos hd, if_pos hd]
        have st : ∀ (s : Nat) (u : Nat → Int32), s < 2 → u (14 + 2 * f + 1) = v (14 + 2 * f + 1) → fm_floods_s37 (nI f) (nI s) (setV ms u) = some (.inr (.inl (nI (s + 1), setV ms (pTake u s (v (14 + 2 * f + 1)))))) := fun s u hs hu => by
          unfold fm_floods_s37
          rw [if_neg (show ¬ (2 : Int32) ≤ nI s from nI_ge (b := 2) hs (by omega)), e14, na _ 1 (x := 1) rfl, chk_t (inb_n (by omega) (by omega)), setV_said, nI_clamp (by omega), hu, m_takes (ms := setV ms u) (setV_said ms u) rfl hs, bs_, setV_2, nI_1]
        have s0 := st 0 (pFld v f) (by omega) q15
        have s1 := st 1 (pTake (pFld v f) 0 (v (14 + 2 * f + 1))) (by omega) (by rw [Kp_take (by omega) _ (by omega) (by omega) (by omega) (by omega)]; exact q15)
        have s2 : fm_floods_s37 (nI f) (nI 2) (setV ms (pTake (pTake (pFld v f) 0 (v (14 + 2 * f + 1))) 1 (v (14 + 2 * f + 1)))) = some (.inr (.inr (nI 2, setV ms (pTake (pTake (pFld v f) 0 (v (14 + 2 * f + 1))) 1 (v (14 + 2 * f + 1)))))) := by
          unfold fm_floods_s37; rw [if_pos (by decide)]
        obtain ⟨n, hn⟩ := mF2
        rw [hn]
        show (iter (fun x : (Int32 × MSt) => fm_floods_s37 (nI f) x.1 x.2) (n + 3) (nI 0, setV ms (pFld v f))).bind _ = _
        rw [iter_c s0, iter_c s1, iter_x s2]
        show fm_floods_j66 (nI f) _ = _
        unfold fm_floods_j66
        rw [nI_1]
      · rw [if_neg hd, if_neg hd, nI_1]
    · rintro ⟨i, s⟩ ⟨hi, hs⟩
      simp only at hi hs
      subst hi; subst hs
      refine ⟨(nI fl, setV ms (pFld v fl)), ?_, rfl⟩
      have q4 : pFld v fl 4 = nI fl := by rw [(Kp_fld fl).1 4 (by omega) (by omega) (by omega) (by omega)]; exact h4
      show fm_floods_s2 (nI fl) (setV ms (pFld v fl)) = _
      unfold fm_floods_s2
      rw [chk_t (by decide), setV_said, cln4, q4, if_pos (nI_le (Nat.le_refl _) (by omega))]
    · show ms = setV ms v
      rw [← hv, setV_id]
  unfold fm_floods
  rw [e]
  show fm_floods_j72 q.2 = _
  rw [h1]; rfl
/-- sets of fields: said alone; a day without errNow; errNow alone -/
def mXd' (k : Nat) : Bool := k == 26
def mXe (k : Nat) : Bool := k == 23 || k == 24 || k == 25 || k == 26 || k == 28 || k == 29 || k == 30
def mX27 (k : Nat) : Bool := k == 27
theorem mXl_e : ∀ k, mXl k = true → mXe k = true := fun k h => by
  unfold mXl at h; unfold mXe; simp only [Bool.or_eq_true, beq_iff_eq] at h ⊢; omega
theorem mXe_d : ∀ k, mXe k = true → mXd k = true := fun k h => by
  unfold mXe at h; unfold mXd; simp only [Bool.or_eq_true, beq_iff_eq] at h ⊢; omega
theorem mX27_d : ∀ k, mX27 k = true → mXd k = true := fun k h => by
  unfold mX27 at h; unfold mXd; simp only [Bool.or_eq_true, beq_iff_eq] at h ⊢; omega
/-- acts of both, by plans made -/
theorem m_both {ms : MSt} {v : Nat → Int32} {D : Nat} {p0 p1 : Int32} (hv : ms.2.1 26 = v) (V : VOk D v) (P0 : PlM ms 0 p0) (P1 : PlM ms 1 p1) (hp : PlOk p0) : fm_acts 0 ms = some (setV ms (pAct v 0 p0)) ∧ fm_acts 1 (setV ms (pAct v 0 p0)) = some (setV ms (pAct (pAct v 0 p0) 1 p1)) := by
  refine ⟨m_acts (s := 0) hv V rfl (by omega) P0, ?_⟩
  have F : MF mXd' ms (setV ms (pAct v 0 p0)) := MF.setV rfl
  rw [m_acts (s := 1) (x := 1) (ms := setV ms (pAct v 0 p0)) (setV_said _ _) (V.act (by omega) hp) rfl (by omega) (P1.fr F rfl rfl rfl), setV_2]
theorem m_looks2 {ms : MSt} {v : Nat → Int32} {D : Nat} {x z e0 e1 : Int32} {l r : Option Ru} (hv : ms.2.1 26 = v) (V : VOk D v) (he0 : ms.2.1 27 0 = e0) (he1 : ms.2.1 27 1 = e1) (h0 : sm9 e0) (h1 : sm9 e1) (Rl : MqR ms x l) (Rr : MqR ms z r) : ∃ s1 s2, fm_looks 0 x ms = some s1 ∧ fm_looks 1 z s1 = some s2 ∧ MF mXl ms s2 ∧ PlM s2 0 (pPlan v l 0 e0) ∧ PlM s2 1 (pPlan v r 1 e1) := by
  obtain ⟨s1, q1, F1, P1, O1⟩ := m_looks (s := 0) (x := 0) hv V rfl (by omega) he0 h0 Rl
  obtain ⟨s2, q2, F2, P2, O2⟩ := m_looks (s := 1) (x := 1) ((F1.A 26 rfl).trans hv) V rfl (by omega) (by rw [F1.A 27 rfl]; exact he1) h1 (Rr.fr F1 rfl rfl rfl)
  obtain ⟨o1, o2, o3⟩ := O2 0 (by omega)
  refine ⟨s1, s2, q1, q2, F1.tr F2, ?_, P2⟩
  unfold PlM at *
  rw [o1, o2, o3]; exact P1
theorem m_passes {ms : MSt} {v : Nat → Int32} {D : Nat} {x z e0 e1 : Int32} {l r : Option Ru} (hv : ms.2.1 26 = v) (V : VOk D v) (he0 : ms.2.1 27 0 = e0) (he1 : ms.2.1 27 1 = e1) (h0 : sm9 e0) (h1 : sm9 e1) (Rl : MqR ms x l) (Rr : MqR ms z r) : ∃ ms2, fm_passes x z ms = some ms2 ∧ ms2.2.1 26 = pDay v l r e0 e1 ∧ MF mXe ms ms2 := by
  obtain ⟨s1, s2, q1, q2, F, P0, P1⟩ := m_looks2 hv V he0 he1 h0 h1 Rl Rr
  have hv2 : s2.2.1 26 = v := (F.A 26 rfl).trans hv
  obtain ⟨a0, a1⟩ := m_both hv2 V P0 P1 (plan_ok V)
  have V2 : VOk D (pBoth v l r e0 e1) := V.both
  obtain ⟨w0, y, d, sp, fl, -, -, -, -, h4, -, -, -, -, hfl, -⟩ := id V2
  refine ⟨setV s2 (pDay v l r e0 e1), ?_, setV_said _ _, (F.mo mXl_e).tr (MF.setV rfl)⟩
  unfold fm_passes
  rw [q1, bs_, q2, bs_, a0, bs_, a1, bs_, show pAct (pAct v 0 (pPlan v l 0 e0)) 1 (pPlan v r 1 e1) = pBoth v l r e0 e1 from rfl, m_floods (ms := setV s2 (pBoth v l r e0 e1)) (setV_said _ _) V2 h4 hfl, bs_, chk_t (by decide), chk_t (by decide), setV_2, cln1, msa_26, setV_2, setV_said, (Kp_fld fl).2]
  unfold pDay pEnd
  rw [h4, nI_clamp (by omega)]
theorem m_errs {ms : MSt} {v : Nat → Int32} {d : Nat} (hv : ms.2.1 26 = v) (h1 : v 1 = nI d) (hd : d < 2 ^ 31) : ∃ ms2, fm_errsAsTold ms = some ms2 ∧ ms2.2.1 27 0 = pErr v 0 ∧ ms2.2.1 27 1 = pErr v 1 ∧ MF mX27 ms ms2 := by
  have st : ∀ (s : Nat) (m : MSt), s < 2 → m.2.1 26 = v → fm_errsAsTold_s2 (nI s) m = some (.inr (.inl (nI (s + 1), msa m 27 s (pErr v s)))) := fun s m hs hm => by
    unfold fm_errsAsTold_s2
    have e8 : v 1 - v 1 / 8 * 8 = nI (d % 8) := by rw [h1]; exact pk_rem (d := 8) hd (by omega) (by omega)
    have e30 : (30 : Int32) + 8 * nI s + nI (d % 8) = nI (30 + 8 * s + d % 8) := by show nI 30 + nI 8 * nI s + _ = _; rw [pk_mul, nI_add, nI_add]
    rw [if_neg (show ¬ (2 : Int32) ≤ nI s from nI_ge (b := 2) hs (by omega)), chk_t (by decide), hm, cln1, e8, e30, chk_t (inb_n (by omega) (by omega)), chk_t (inb_n hs (by omega)), nI_clamp (by omega), nI_clamp (by omega), nI_1, pErr_e h1 hd]
  have s0 := st 0 ms (by omega) hv
  have s1 := st 1 (msa ms 27 0 (pErr v 0)) (by omega) (by rw [msa_n (by omega)]; exact hv)
  have s2 : fm_errsAsTold_s2 (nI 2) (msa (msa ms 27 0 (pErr v 0)) 27 1 (pErr v 1)) = some (.inr (.inr (nI 2, msa (msa ms 27 0 (pErr v 0)) 27 1 (pErr v 1)))) := by
    unfold fm_errsAsTold_s2; rw [if_pos (by decide)]
  obtain ⟨n, hn⟩ := mF2
  refine ⟨msa (msa ms 27 0 (pErr v 0)) 27 1 (pErr v 1), ?_, ?_, ?_, (MF.msa rfl).tr (MF.msa rfl)⟩
  · unfold fm_errsAsTold
    rw [hn]
    show (iter (fun x : (Int32 × MSt) => fm_errsAsTold_s2 x.1 x.2) (n + 3) (nI 0, ms)).bind _ = _
    rw [iter_c s0, iter_c s1, iter_x s2]
    rfl
  · rw [msa_s, pk_un (by omega), msa_s, pk_us]
  · rw [msa_s, pk_us]
theorem VOk.err {D s : Nat} {v : Nat → Int32} (V : VOk D v) (hs : s < 2) : sm9 (pErr v s) := by
  obtain ⟨w0, y, d, sp, fl, h0, h6, h1, h2, h4, hw0, hy, hd, hsp, hfl, -, -, her, -⟩ := V
  unfold pErr
  exact her s _ hs (Nat.mod_lt _ (by omega))
theorem m_springs {ms : MSt} {v : Nat → Int32} {D n : Nat} {x z q : Int32} {l r : Option Ru} (hv : ms.2.1 26 = v) (V : VOk D v) (hD : D + n < 2 ^ 31) (hn : n ≤ 400) (hq : q = nI n) (Rl : MqR ms x l) (Rr : MqR ms z r) : ∃ ms2, fm_springs x z q ms = some ms2 ∧ ms2.2.1 26 = pGo l r n v ∧ MF mXd ms ms2 := by
  subst hq
  obtain ⟨y, e, h1, F⟩ : ∃ y : Int32 × MSt, iter (fun a : (Int32 × MSt) => fm_springs_s3 x z (nI n) a.1 a.2) mFuel ((0 : Int32), ms) = some (.inr y) ∧ y.2.2.1 26 = pGo l r n v ∧ MF mXd ms y.2 := by
    refine iter_w (fun k (a : Int32 × MSt) => a.1 = nI k ∧ MF mXd ms a.2 ∧ ∃ u, a.2.2.1 26 = u ∧ VOk (D + k) u ∧ pGo l r (n - k) u = pGo l r n v) n _ ?_ ⟨rfl, MF.rf, v, hv, V, rfl⟩ (by omega)
    rintro k ⟨i, s⟩ hk ⟨hi, F, u, hu, Vu, G⟩
    simp only at hi F hu
    subst hi
    rcases Nat.lt_or_ge k n with hlt | hge
    · by_cases hm : pGap u = 0
      · right
        refine ⟨(nI k, s), ?_, ?_, F⟩
        · show fm_springs_s3 x z (nI n) (nI k) s = _
          unfold fm_springs_s3
          rw [if_neg (nI_ge hlt (by omega)), m_met hu, bs_, if_pos hm, if_neg (show ¬ (1 : Int32) = 0 by decide)]
        · rw [← G, pGo_met hm]; exact hu
      · left
        obtain ⟨w0, y, d, sp, fl, -, -, h1, -, -, -, -, hd, -⟩ := id Vu
        obtain ⟨s1, q1, a0, a1, F1⟩ := m_errs hu h1 (by omega)
        obtain ⟨s2, q2, h2, F2⟩ := m_passes ((F1.A 26 rfl).trans hu) Vu a0 a1 (Vu.err (by omega)) (Vu.err (by omega)) (Rl.fr (F.tr (F1.mo mX27_d)) rfl rfl rfl) (Rr.fr (F.tr (F1.mo mX27_d)) rfl rfl rfl)
        refine ⟨(nI (k + 1), s2), ?_, ⟨rfl, (F.tr (F1.mo mX27_d)).tr (F2.mo mXe_d), _, h2, Vu.day, ?_⟩, hlt⟩
        · show fm_springs_s3 x z (nI n) (nI k) s = _
          unfold fm_springs_s3
          rw [if_neg (nI_ge hlt (by omega)), m_met hu, bs_, if_neg hm, if_pos rfl]
          dsimp only
          rw [q1, bs_, q2, bs_, nI_1]
        · rw [← G, show n - k = (n - (k + 1)) + 1 by omega]
          show _ = (if pGap u = 0 then u else pGo l r (n - (k + 1)) (pDay u l r (pErr u 0) (pErr u 1)))
          rw [if_neg hm]
    · have ek : k = n := by omega
      subst ek
      right
      refine ⟨(nI k, s), ?_, ?_, F⟩
      · show fm_springs_s3 x z (nI k) (nI k) s = _
        unfold fm_springs_s3
        rw [if_pos (nI_le (Nat.le_refl _) (by omega))]
      · rw [← G, Nat.sub_self]; exact hu
  refine ⟨y.2, ?_, h1, F⟩
  unfold fm_springs
  rw [e]; rfl
/-- a loop that copies 286 cells of field f to field g -/
theorem m_keeps {ms : MSt} : ∃ ms2, fm_keeps ms = some ms2 ∧ (∀ i, i < 286 → ms2.2.1 31 i = ms.2.1 26 i) ∧ MF (fun k => k == 31) ms ms2 := by
  obtain ⟨y, e, h1, F⟩ : ∃ y : Int32 × MSt, iter (fun a : (Int32 × MSt) => fm_keeps_s2 a.1 a.2) mFuel ((0 : Int32), ms) = some (.inr y) ∧ (∀ i, i < 286 → y.2.2.1 31 i = ms.2.1 26 i) ∧ MF (fun k => k == 31) ms y.2 := by
    refine iter_n (fun k (a : Int32 × MSt) => a.1 = nI k ∧ (∀ i, i < k → a.2.2.1 31 i = ms.2.1 26 i) ∧ MF (fun k => k == 31) ms a.2) 286 _ ?_ ?_ ⟨rfl, fun _ q => absurd q (Nat.not_lt_zero _), MF.rf⟩ (by omega)
    · rintro k ⟨i, s⟩ hk ⟨hi, h, F⟩
      simp only at hi h F
      subst hi
      refine ⟨(nI (k + 1), msa s 31 k (s.2.1 26 k)), ?_, rfl, fun i hi => ?_, F.tr (MF.msa rfl)⟩
      · show fm_keeps_s2 (nI k) s = _
        unfold fm_keeps_s2
        rw [if_neg (show ¬ (286 : Int32) ≤ nI k from nI_ge (b := 286) hk (by omega)), chk_t (inb_n hk (by omega)), chk_t (inb_n hk (by omega)), nI_clamp (by omega), nI_1]
      · show (msa s 31 k (s.2.1 26 k)).2.1 31 i = _
        rw [msa_s, F.A 26 rfl]
        by_cases q : i = k
        · rw [q, pk_us]
        · rw [pk_un q]; exact h i (by omega)
    · rintro ⟨i, s⟩ ⟨hi, h, F⟩
      simp only at hi h F
      subst hi
      refine ⟨(nI 286, s), ?_, h, F⟩
      show fm_keeps_s2 (nI 286) s = _
      unfold fm_keeps_s2
      rw [if_pos (by decide)]
  refine ⟨y.2, ?_, h1, F⟩
  unfold fm_keeps
  rw [e]; rfl
theorem m_back {ms : MSt} : ∃ ms2, fm_putsBack ms = some ms2 ∧ (∀ i, i < 286 → ms2.2.1 26 i = ms.2.1 31 i) ∧ MF (fun k => k == 26) ms ms2 := by
  obtain ⟨y, e, h1, F⟩ : ∃ y : Int32 × MSt, iter (fun a : (Int32 × MSt) => fm_putsBack_s2 a.1 a.2) mFuel ((0 : Int32), ms) = some (.inr y) ∧ (∀ i, i < 286 → y.2.2.1 26 i = ms.2.1 31 i) ∧ MF (fun k => k == 26) ms y.2 := by
    refine iter_n (fun k (a : Int32 × MSt) => a.1 = nI k ∧ (∀ i, i < k → a.2.2.1 26 i = ms.2.1 31 i) ∧ MF (fun k => k == 26) ms a.2) 286 _ ?_ ?_ ⟨rfl, fun _ q => absurd q (Nat.not_lt_zero _), MF.rf⟩ (by omega)
    · rintro k ⟨i, s⟩ hk ⟨hi, h, F⟩
      simp only at hi h F
      subst hi
      refine ⟨(nI (k + 1), msa s 26 k (s.2.1 31 k)), ?_, rfl, fun i hi => ?_, F.tr (MF.msa rfl)⟩
      · show fm_putsBack_s2 (nI k) s = _
        unfold fm_putsBack_s2
        rw [if_neg (show ¬ (286 : Int32) ≤ nI k from nI_ge (b := 286) hk (by omega)), chk_t (inb_n hk (by omega)), chk_t (inb_n hk (by omega)), nI_clamp (by omega), nI_1]
      · show (msa s 26 k (s.2.1 31 k)).2.1 26 i = _
        rw [msa_s, F.A 31 rfl]
        by_cases q : i = k
        · rw [q, pk_us]
        · rw [pk_un q]; exact h i (by omega)
    · rintro ⟨i, s⟩ ⟨hi, h, F⟩
      simp only at hi h F
      subst hi
      refine ⟨(nI 286, s), ?_, h, F⟩
      show fm_putsBack_s2 (nI 286) s = _
      unfold fm_putsBack_s2
      rw [if_pos (by decide)]
  refine ⟨y.2, ?_, h1, F⟩
  unfold fm_putsBack
  rw [e]; rfl
