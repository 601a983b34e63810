/-! straight, spite: the reference's steps -/
theorem n286 (d i : Nat) : (286 : Int32) * nI d + nI i = nI (286 * d + i) := by show nI 286 * nI d + _ = _; rw [pk_mul, nI_add]
theorem m_keepsAt {ms : MSt} {d : Nat} (hd : d < 7) : ∃ ms2, fm_keepsAt (nI d) ms = some ms2 ∧ (∀ i, i < 286 → ms2.2.1 34 (286 * d + i) = ms.2.1 26 i) ∧ (∀ j, (j < 286 * d ∨ 286 * d + 286 ≤ j) → ms2.2.1 34 j = ms.2.1 34 j) ∧ MF (fun k => k == 34) ms ms2 := by
  obtain ⟨y, e, h1, h2, F⟩ : ∃ y : Int32 × MSt, iter (fun a : (Int32 × MSt) => fm_keepsAt_s2 (nI d) a.1 a.2) mFuel ((0 : Int32), ms) = some (.inr y) ∧ (∀ i, i < 286 → y.2.2.1 34 (286 * d + i) = ms.2.1 26 i) ∧ (∀ j, (j < 286 * d ∨ 286 * d + 286 ≤ j) → y.2.2.1 34 j = ms.2.1 34 j) ∧ MF (fun k => k == 34) ms y.2 := by
    refine iter_n (fun k (a : Int32 × MSt) => a.1 = nI k ∧ (∀ i, i < k → a.2.2.1 34 (286 * d + i) = ms.2.1 26 i) ∧ (∀ j, (j < 286 * d ∨ 286 * d + 286 ≤ j) → a.2.2.1 34 j = ms.2.1 34 j) ∧ MF (fun k => k == 34) ms a.2) 286 _ ?_ ?_ ⟨rfl, fun _ q => absurd q (Nat.not_lt_zero _), fun _ _ => rfl, MF.rf⟩ (by omega)
    · rintro k ⟨i, s⟩ hk ⟨hi, h, h2, F⟩
      simp only at hi h h2 F
      subst hi
      refine ⟨(nI (k + 1), msa s 34 (286 * d + k) (s.2.1 26 k)), ?_, rfl, fun i hi => ?_, fun j hj => ?_, F.tr (MF.msa rfl)⟩
      · show fm_keepsAt_s2 (nI d) (nI k) s = _
        unfold fm_keepsAt_s2
        rw [if_neg (show ¬ (286 : Int32) ≤ nI k from nI_ge (b := 286) hk (by omega)), chk_t (inb_n hk (by omega)), n286, chk_t (inb_n (by omega) (by omega)), nI_clamp (by omega), nI_clamp (by omega), nI_1]
      · show (msa s 34 (286 * d + k) (s.2.1 26 k)).2.1 34 (286 * d + i) = _
        rw [msa_s, F.A 26 rfl]
        by_cases q : i = k
        · rw [q, pk_us]
        · rw [pk_un (by omega)]; exact h i (by omega)
      · show (msa s 34 (286 * d + k) (s.2.1 26 k)).2.1 34 j = _
        rw [msa_s, pk_un (by omega)]; exact h2 j hj
    · rintro ⟨i, s⟩ ⟨hi, h, h2, F⟩
      simp only at hi h h2 F
      subst hi
      refine ⟨(nI 286, s), ?_, h, h2, F⟩
      show fm_keepsAt_s2 (nI d) (nI 286) s = _
      unfold fm_keepsAt_s2
      rw [if_pos (by decide)]
  refine ⟨y.2, ?_, h1, h2, F⟩
  unfold fm_keepsAt
  rw [e]; rfl
theorem m_putsAt {ms : MSt} {d : Nat} (hd : d < 7) : ∃ ms2, fm_putsBackAt (nI d) ms = some ms2 ∧ (∀ i, i < 286 → ms2.2.1 26 i = ms.2.1 34 (286 * d + i)) ∧ (∀ i, 286 ≤ i → ms2.2.1 26 i = ms.2.1 26 i) ∧ MF (fun k => k == 26) ms ms2 := by
  obtain ⟨y, e, h1, h2, F⟩ : ∃ y : Int32 × MSt, iter (fun a : (Int32 × MSt) => fm_putsBackAt_s2 (nI d) a.1 a.2) mFuel ((0 : Int32), ms) = some (.inr y) ∧ (∀ i, i < 286 → y.2.2.1 26 i = ms.2.1 34 (286 * d + i)) ∧ (∀ i, 286 ≤ i → y.2.2.1 26 i = ms.2.1 26 i) ∧ MF (fun k => k == 26) ms y.2 := by
    refine iter_n (fun k (a : Int32 × MSt) => a.1 = nI k ∧ (∀ i, i < k → a.2.2.1 26 i = ms.2.1 34 (286 * d + i)) ∧ (∀ i, 286 ≤ i → a.2.2.1 26 i = ms.2.1 26 i) ∧ MF (fun k => k == 26) ms a.2) 286 _ ?_ ?_ ⟨rfl, fun _ q => absurd q (Nat.not_lt_zero _), fun _ _ => rfl, MF.rf⟩ (by omega)
    · rintro k ⟨i, s⟩ hk ⟨hi, h, h2, F⟩
      simp only at hi h h2 F
      subst hi
      refine ⟨(nI (k + 1), msa s 26 k (s.2.1 34 (286 * d + k))), ?_, rfl, fun i hi => ?_, fun j hj => ?_, F.tr (MF.msa rfl)⟩
      · show fm_putsBackAt_s2 (nI d) (nI k) s = _
        unfold fm_putsBackAt_s2
        rw [if_neg (show ¬ (286 : Int32) ≤ nI k from nI_ge (b := 286) hk (by omega)), n286, chk_t (inb_n (by omega) (by omega)), chk_t (inb_n hk (by omega)), nI_clamp (by omega), nI_clamp (by omega), nI_1]
      · show (msa s 26 k (s.2.1 34 (286 * d + k))).2.1 26 i = _
        rw [msa_s, F.A 34 rfl]
        by_cases q : i = k
        · rw [q, pk_us]
        · rw [pk_un (by omega)]; exact h i (by omega)
      · show (msa s 26 k (s.2.1 34 (286 * d + k))).2.1 26 j = _
        rw [msa_s, pk_un (by omega)]; exact h2 j hj
    · rintro ⟨i, s⟩ ⟨hi, h, h2, F⟩
      simp only at hi h h2 F
      subst hi
      refine ⟨(nI 286, s), ?_, h, h2, F⟩
      show fm_putsBackAt_s2 (nI d) (nI 286) s = _
      unfold fm_putsBackAt_s2
      rw [if_pos (by decide)]
  refine ⟨y.2, ?_, h1, h2, F⟩
  unfold fm_putsBackAt
  rw [e]; rfl
theorem m_most {ms : MSt} {sp : Nat} (h : ms.2.1 26 2 = nI sp) (hsp : sp ≤ 20) : fm_mostTurn ms = some (ms, nI (if sp < 2 then sp else 2)) := by
  unfold fm_mostTurn fm_lesser
  rw [chk_t (by decide), cln2, h]
  by_cases z : sp < 2
  · rw [if_neg (show ¬ (2 : Int32) ≤ nI sp from nI_ge (b := 2) z (by omega)), if_pos z, bs_]
  · rw [if_pos (show (2 : Int32) ≤ nI sp from nI_le (a := 2) (by omega) (by omega)), if_neg z, bs_]; rfl
theorem m_takesRow {ms : MSt} {g : Nat} (hg : g ≤ 6) : ∃ ms2, fm_takesRow (nI g) ms = some ms2 ∧ (∀ i, i < 6 → ms2.2.1 37 i = rowO (ms.2.1 35) g i) ∧ MF (fun k => k == 37) ms ms2 := by
  obtain ⟨y, e, h1, F⟩ : ∃ y : Int32 × MSt, iter (fun a : (Int32 × MSt) => fm_takesRow_s2 (nI g) a.1 a.2) mFuel ((0 : Int32), ms) = some (.inr y) ∧ (∀ i, i < 6 → y.2.2.1 37 i = rowO (ms.2.1 35) g i) ∧ MF (fun k => k == 37) ms y.2 := by
    refine iter_n (fun k (a : Int32 × MSt) => a.1 = nI k ∧ (∀ i, i < k → a.2.2.1 37 i = rowO (ms.2.1 35) g i) ∧ MF (fun k => k == 37) ms a.2) 6 _ ?_ ?_ ⟨rfl, fun _ q => absurd q (Nat.not_lt_zero _), MF.rf⟩ (by omega)
    · rintro k ⟨i, s⟩ hk ⟨hi, h, F⟩
      simp only at hi h F
      subst hi
      refine ⟨(nI (k + 1), msa s 37 k (rowO (ms.2.1 35) g k)), ?_, rfl, fun i hi => ?_, F.tr (MF.msa rfl)⟩
      · show fm_takesRow_s2 (nI g) (nI k) s = _
        unfold fm_takesRow_s2
        rw [if_neg (show ¬ (6 : Int32) ≤ nI k from nI_ge (b := 6) hk (by omega)), chk_t (inb_n hk (by omega)), chk_t (inb_n (by omega) (by omega)), chk_t (inb_n hk (by omega)), nI_clamp (by omega), nI_1, F.A 35 rfl]
        unfold rowO
        by_cases z : k < g
        · rw [if_neg (nI_ge z (by omega)), if_pos z]
        · rw [if_pos (nI_le (by omega) (by omega)), if_neg z]
      · show (msa s 37 k (rowO (ms.2.1 35) g k)).2.1 37 i = _
        rw [msa_s]
        by_cases q : i = k
        · rw [q, pk_us]
        · rw [pk_un q]; exact h i (by omega)
    · rintro ⟨i, s⟩ ⟨hi, h, F⟩
      simp only at hi h F
      subst hi
      refine ⟨(nI 6, s), ?_, h, F⟩
      show fm_takesRow_s2 (nI g) (nI 6) s = _
      unfold fm_takesRow_s2
      rw [if_pos (by decide)]
  refine ⟨y.2, ?_, h1, F⟩
  unfold fm_takesRow
  rw [e]; rfl
/-- NONE's plan leaves no RISE, and 'does' is to build -/
theorem plm_none {ms : MSt} {s : Nat} {v : Nat → Int32} {e : Int32} (P : PlM ms s (pPlan v none s e)) : ms.2.1 28 s = 0 ∧ ms.2.1 30 s = 0 := by
  have e0 : pPlan v none s e = 840 := rfl
  rw [e0] at P
  rcases P with ⟨h, -⟩ | ⟨h, -⟩ | ⟨t, r, ht, hr, h, a, b, c⟩
  · exact absurd h (by decide)
  · exact absurd h (by decide)
  · refine ⟨a, c.trans ?_⟩
    obtain ⟨-, -, q2⟩ := pl_of ht hr
    rw [← h] at q2
    rw [← q2]; decide
theorem m_passesAs {ms : MSt} {v : Nat → Int32} {D sd : Nat} {x t : Int32} {u : Option Ru} (hv : ms.2.1 26 = v) (V : VOk D v) (hD : D < 2 ^ 31) (hsd : sd < 2) (ht : sm20 t) (R : MqR ms x u) : ∃ ms2, fm_passesAs (nI sd) x t ms = some (ms2, if hasB v sd u = true then 1 else 0) ∧ ms2.2.1 26 = pFd v sd u t ∧ MF mXd ms ms2 := by
  obtain ⟨w0, y, d, sp, fl0, h0, h6, h1, h2, h4, hw0, hy, hd, hsp, hfl, -⟩ := id V
  obtain ⟨s1, q1, a0, a1, F1⟩ := m_errs hv h1 (by omega)
  have v1 : s1.2.1 26 = v := (F1.A 26 rfl).trans hv
  have Rn : ∀ m : MSt, MqR m (-1) none := fun _ => Or.inl ⟨rfl, rfl⟩
  have R1 : MqR s1 x u := R.fr F1 rfl rfl rfl
  have tailp : ∀ (s2 : MSt) (p0 p1 : Int32), MF mXl s1 s2 → s2.2.1 26 = v → PlM s2 0 p0 → PlM s2 1 p1 → PlOk p0 → PlOk p1 → ∃ s4 : MSt, fm_acts 0 s2 = some (setV s2 (pAct v 0 p0)) ∧ fm_acts 1 (setV s2 (pAct v 0 p0)) = some (setV s2 (pAct (pAct v 0 p0) 1 p1)) ∧ (fm_floods (setV s2 (pAct (pAct v 0 p0) 1 p1))).bind (fun x15 => chk (inb (1 : Int32) 286) (chk (inb (1 : Int32) 286) (some (msa x15 26 (1 : Int32).toNatClampNeg ((x15.2.1 26 (1 : Int32).toNatClampNeg) + (1 : Int32)))))) = some s4 ∧ s4 = setV s2 (pEnd (pAct (pAct v 0 p0) 1 p1)) := by
    intro s2 p0 p1 F2 v2 P0 P1 o0 o1
    obtain ⟨b0, b1⟩ := m_both v2 V P0 P1 o0
    have V2 : VOk D (pAct (pAct v 0 p0) 1 p1) := (V.act (by omega) o0).act (by omega) o1
    obtain ⟨w', y', d', sp', fl, -, -, -, -, h4', -, -, -, -, hfl', -⟩ := id V2
    refine ⟨_, b0, b1, ?_, rfl⟩
    rw [m_floods (ms := setV s2 (pAct (pAct v 0 p0) 1 p1)) (setV_said _ _) V2 h4' hfl', bs_, chk_t (by decide), chk_t (by decide), setV_2, cln1, msa_26, setV_2, setV_said, (Kp_fld fl).2]
    unfold pEnd
    rw [h4', nI_clamp (by omega)]
  unfold fm_passesAs
  rw [q1, bs_]
  rcases (by omega : sd = 0 ∨ sd = 1) with rfl | rfl
  · rw [if_pos (show nI 0 = 0 from rfl)]
    unfold fm_passesAs_j15
    obtain ⟨s2, s3, l1, l2, F2, P0, P1⟩ := m_looks2 (l := none) (r := u) v1 V a0 a1 (V.err (by omega)) (V.err (by omega)) (Rn s1) R1
    rw [l1, bs_, if_neg (show ¬ nI 0 = 1 by decide)]
    unfold fm_passesAs_j30
    rw [l2, bs_, chk_t (by decide), nI_clamp (by omega)]
    obtain ⟨d0, r0⟩ := plm_none P0
    have F3 : MF mXl s1 (msa s3 29 0 t) := F2.tr (MF.msa rfl)
    have v3 : (msa s3 29 0 t).2.1 26 = v := (F3.A 26 rfl).trans v1
    have P0' : PlM (msa s3 29 0 t) 0 (pl t) := Or.inr (Or.inr ⟨t, 0, ht, sm20_0, rfl, by rw [msa_n (by omega)]; exact d0, by rw [msa_s, pk_us], by rw [msa_n (by omega)]; exact r0⟩)
    have P1' : PlM (msa s3 29 0 t) 1 (pOth v 0 u) := by
      unfold PlM at P1 ⊢
      rw [msa_n (by omega), msa_s, pk_un (by omega), msa_n (by omega)]; exact P1
    obtain ⟨s4, e0, e1, e2, e3⟩ := tailp _ _ _ F3 v3 P0' P1' (pl_ok ht) (plan_ok V)
    rw [e0, bs_, if_pos (show nI 0 = 0 from rfl)]
    unfold fm_passesAs_j56 fm_passesAs_j61
    rw [e1, bs_]
    refine ⟨s4, ?_, ?_, (F1.mo mX27_d).tr ((F3.mo mXl_d).tr ?_)⟩
    · have e2' : ∃ x15, fm_floods (setV (msa s3 29 0 t) (pAct (pAct v 0 (pl t)) 1 (pOth v 0 u))) = some x15 ∧ msa x15 26 1 (x15.2.1 26 1 + 1) = s4 := by
        cases hf : fm_floods (setV (msa s3 29 0 t) (pAct (pAct v 0 (pl t)) 1 (pOth v 0 u))) with
        | none => rw [hf] at e2; cases e2
        | some x15 =>
          rw [hf, bs_, chk_t (by decide), chk_t (by decide), cln1] at e2
          exact ⟨x15, rfl, Option.some.inj e2⟩
      obtain ⟨x15, f1, f2⟩ := e2'
      rw [f1, bs_, chk_t (by decide), chk_t (by decide), chk_t (by decide), cln1, f2]
      rfl
    · rw [e3, setV_said]; rfl
    · rw [e3]; exact MF.setV rfl
  · rw [if_neg (show ¬ nI 1 = 0 by decide)]
    unfold fm_passesAs_j15
    obtain ⟨s2, s3, l1, l2, F2, P0, P1⟩ := m_looks2 (l := u) (r := none) v1 V a0 a1 (V.err (by omega)) (V.err (by omega)) R1 (Rn s1)
    rw [l1, bs_, if_pos (show nI 1 = 1 from rfl)]
    unfold fm_passesAs_j30
    rw [l2, bs_, chk_t (by decide), nI_clamp (by omega)]
    obtain ⟨d0, r0⟩ := plm_none P1
    have F3 : MF mXl s1 (msa s3 29 1 t) := F2.tr (MF.msa rfl)
    have v3 : (msa s3 29 1 t).2.1 26 = v := (F3.A 26 rfl).trans v1
    have P1' : PlM (msa s3 29 1 t) 1 (pl t) := Or.inr (Or.inr ⟨t, 0, ht, sm20_0, rfl, by rw [msa_n (by omega)]; exact d0, by rw [msa_s, pk_us], by rw [msa_n (by omega)]; exact r0⟩)
    have P0' : PlM (msa s3 29 1 t) 0 (pOth v 1 u) := by
      unfold PlM at P0 ⊢
      rw [msa_n (by omega), msa_s, pk_un (by omega), msa_n (by omega)]; exact P0
    obtain ⟨s4, e0, e1, e2, e3⟩ := tailp _ _ _ F3 v3 P0' P1' (plan_ok V) (pl_ok ht)
    have e2' : ∃ x15, fm_floods (setV (msa s3 29 1 t) (pAct (pAct v 0 (pOth v 1 u)) 1 (pl t))) = some x15 ∧ msa x15 26 1 (x15.2.1 26 1 + 1) = s4 := by
      cases hf : fm_floods (setV (msa s3 29 1 t) (pAct (pAct v 0 (pOth v 1 u)) 1 (pl t))) with
      | none => rw [hf] at e2; cases e2
      | some x15 =>
        rw [hf, bs_, chk_t (by decide), chk_t (by decide), cln1] at e2
        exact ⟨x15, rfl, Option.some.inj e2⟩
    obtain ⟨x15, f1, f2⟩ := e2'
    have j61 : ∀ b : Int32, isb b = true → fm_passesAs_j61 b (setV (msa s3 29 1 t) (pAct v 0 (pOth v 1 u))) = some (s4, b) := fun b hb => by
      unfold fm_passesAs_j61
      rw [e1, bs_, f1, bs_, chk_t (by decide), chk_t (by decide), chk_t hb, cln1, f2]
    rw [e0, bs_, if_neg (show ¬ nI 1 = 0 by decide), m_gap (setV_said _ _), bs_]
    dsimp only
    unfold fm_passesAs_j56
    rw [j61 0 (by decide), j61 1 (by decide)]
    refine ⟨s4, ?_, ?_, (F1.mo mX27_d).tr ((F3.mo mXl_d).tr ?_)⟩
    · unfold hasB
      rw [if_neg (show ¬ (1 : Nat) = 0 by omega)]
      by_cases hg : pGap (pAct v 0 (pOth v 1 u)) ≤ 0
      · rw [if_pos hg, decide_eq_false (fun z => z hg)]; rfl
      · rw [if_neg hg, decide_eq_true hg]; rfl
    · rw [e3, setV_said]; rfl
    · rw [e3]; exact MF.setV rfl
