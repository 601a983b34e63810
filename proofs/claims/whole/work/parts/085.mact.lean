/-! the reference: what a side sees; looks, acts, floods, passes, springs -/
theorem sm9_e {x : Int32} (h : sm9 x) : ∃ t, t ≤ 18 ∧ x = nI t - 9 := by
  obtain ⟨h1, h2⟩ := h
  refine ⟨(x.toInt + 9).toNat, by omega, i32_of ?_⟩
  have e : (nI (x.toInt + 9).toNat - 9).toInt = ((x.toInt + 9).toNat : Int) - 9 := pk_sub_toInt (b := 9) (by omega) (by omega)
  rw [e]; omega
theorem mulT {a : Int32} {b : Nat} {A B : Int} (hA : -A ≤ a.toInt) (hA2 : a.toInt ≤ A) (hb : (b : Int) ≤ B) (hB : A * B < 2147483648) (hA0 : 0 ≤ A) (hB31 : B < 2147483648) : (a * nI b).toInt = a.toInt * b ∧ -(A * B) ≤ a.toInt * b ∧ a.toInt * b ≤ A * B := by
  have h0 : (0 : Int) ≤ b := Int.natCast_nonneg b
  have u1 : a.toInt * b ≤ A * b := Int.mul_le_mul_of_nonneg_right hA2 h0
  have u2 : -A * b ≤ a.toInt * b := Int.mul_le_mul_of_nonneg_right hA h0
  have u3 : A * b ≤ A * B := Int.mul_le_mul_of_nonneg_left hb hA0
  have u4 : -A * (b : Int) = -(A * b) := Int.neg_mul A b
  refine ⟨?_, by omega, by omega⟩
  rw [Int32.toInt_mul, nI_toInt (by omega), Int.bmod_def]
  omega
theorem td_b {x : Int} (h1 : -3240 ≤ x) (h2 : x ≤ 3240) : -3240 ≤ x.tdiv 90 ∧ x.tdiv 90 ≤ 3240 := by
  rcases Int.lt_or_le x 0 with q | q
  · have e : x.tdiv 90 = -((-x).tdiv 90) := by rw [Int.neg_tdiv, Int.neg_neg]
    rw [e, Int.tdiv_eq_ediv_of_nonneg (by omega)]; omega
  · rw [Int.tdiv_eq_ediv_of_nonneg q]; omega
theorem see_neg {a : Int32} {b g : Nat} (ha : sm9 a) (hb : b ≤ 9) (hg : g ≤ 40) : -(a * nI b * nI g / 90) = -a * nI b * nI g / 90 := by
  obtain ⟨e1, l1, l2⟩ := mulT (a := a) (b := b) (A := 9) (B := 9) ha.1 ha.2 (by omega) (by omega) (by omega) (by omega)
  obtain ⟨e2, l3, l4⟩ := mulT (a := a * nI b) (b := g) (A := 81) (B := 40) (by omega) (by omega) (by omega) (by omega) (by omega) (by omega)
  rw [Int32.neg_mul, Int32.neg_mul]
  generalize hP : a * nI b * nI g = P
  rw [hP] at e2
  have hp1 : -3240 ≤ P.toInt := by omega
  have hp2 : P.toInt ≤ 3240 := by omega
  have en : (-P).toInt = -P.toInt := by rw [Int32.toInt_neg, Int.bmod_def]; omega
  have d1 : ∀ Q : Int32, -3240 ≤ Q.toInt → Q.toInt ≤ 3240 → (Q / 90).toInt = Q.toInt.tdiv 90 := fun Q h1 h2 => by
    rw [Int32.toInt_div, show (90 : Int32).toInt = 90 by decide]
    have b1 := td_b h1 h2
    rw [Int.bmod_def]; omega
  apply i32_of
  rw [d1 (-P) (by omega) (by omega), en, Int.neg_tdiv, Int32.toInt_neg, d1 P hp1 hp2]
  have b1 := td_b hp1 hp2
  rw [Int.bmod_def]; omega
theorem n12 (s : Nat) : (12 : Int32) + nI s = nI (12 + s) := by show nI 12 + nI s = _; rw [nI_add]
theorem m_seen {ms : MSt} {v : Nat → Int32} {D s w : Nat} {x z e : Int32} (hv : ms.2.1 26 = v) (V : VOk D v) (hx : x = nI s) (hs : s < 2) (he : ms.2.1 27 s = e) (h9 : sm9 e) (hz : z = nI w) (hw : w < 2) : fm_seen x z ms = some (ms, pSee v s e w) := by
  subst hx
  obtain ⟨w0, y, d, sp, fl, h0, h6, h1, h2, h4, hw0, hy, hd, hsp, hfl, hey, -⟩ := V
  have hy1 : y (1 - s) ≤ 40 := by
    rcases (by omega : s = 0 ∨ s = 1) with rfl | rfl
    · show y 1 ≤ 40; omega
    · show y 0 ≤ 40; omega
  obtain ⟨b, hb, hb9⟩ := hey s hs
  have hg := pGap_n h0 (h6 0 (by omega)) (h6 1 (by omega)) hy
  unfold fm_seen pSee
  rw [chk_t (inb_n hs (by omega)), n12, chk_t (inb_n (by omega) (by omega)), m_gap hv, bs_]
  dsimp only
  rw [n1s hs, m_tipOf (s := 1 - s) hv rfl (by omega) (h6 (1 - s) (by omega)) hy1 hz hw, bs_, nI_clamp (by omega), nI_clamp (by omega), he, hv, hb, hg]
  dsimp only
  rcases (by omega : w = 0 ∨ w = 1) with q | q
  · rw [hz, q, if_pos (show nI 0 = 0 from rfl), if_pos rfl]
  · rw [hz, q, if_neg (show ¬ nI 1 = 0 by decide), if_neg (by omega), see_neg h9 hb9 (by omega)]
def setL (ms : MSt) (J : Nat → Nat → Int64) : MSt := (ms.1, ms.2.1, J)
/-- what a side has settled is the plan p -/
def PlM (ms : MSt) (s : Nat) (p : Int32) : Prop := (p = -1 ∧ ms.2.1 28 s = 2) ∨ (p = -2 ∧ ms.2.1 28 s = 1) ∨ ∃ t r, sm20 t ∧ sm20 r ∧ p = (t + 20) * 41 + r + 20 ∧ ms.2.1 28 s = 0 ∧ ms.2.1 29 s = t ∧ ms.2.1 30 s = r
/-- the rule that an int tells, of the reference -/
def MqR (ms : MSt) (x : Int32) (u : Option Ru) : Prop := (x = -1 ∧ u = none) ∨ ∃ k c N, x = nI k ∧ u = some c ∧ MrR ms k c N ∧ RuOk c
theorem MqR.fr {X : Nat → Bool} {a b : MSt} {x : Int32} {u : Option Ru} (h : MqR a x u) (F : MF X a b) (h3 : X 3 = false) (h5 : X 5 = false) (h6 : X 6 = false) : MqR b x u := by
  rcases h with h | ⟨k, c, N, h1, h2, h4, O⟩
  · exact Or.inl h
  · exact Or.inr ⟨k, c, N, h1, h2, h4.fr F h3 h5 h6, O⟩
theorem PlM.fr {X : Nat → Bool} {a b : MSt} {s : Nat} {p : Int32} (h : PlM a s p) (F : MF X a b) (h3 : X 28 = false) (h5 : X 29 = false) (h6 : X 30 = false) : PlM b s p := by
  unfold PlM at *; rw [F.A 28 h3, F.A 29 h5, F.A 30 h6]; exact h
/-- what side s has of does, turnBy, riseBy is not touched by the other's -/
def Ot (s : Nat) (a b : MSt) : Prop := ∀ q, q ≠ s → b.2.1 28 q = a.2.1 28 q ∧ b.2.1 29 q = a.2.1 29 q ∧ b.2.1 30 q = a.2.1 30 q
def lk8 (g : Nat → Int64) (v : Nat → Int32) (s : Nat) (e : Int32) : Nat → Int64 := vp_updL (vp_updL (vp_updL (vp_updL (vp_updL (vp_updL (vp_updL (vp_updL g 0 (nI s).toInt64) 1 (pTip v s 0).toInt64) 2 (pTip v s 1).toInt64) 3 (pSee v s e 0).toInt64) 4 (pSee v s e 1).toInt64) 5 (pGap v).toInt64) 6 (v 1).toInt64) 7 (v (6 + s)).toInt64
def lk9 (g : Nat → Int64) (v : Nat → Int32) (s : Nat) (e : Int32) : Nat → Int64 := vp_updL (lk8 g v s e) 8 (pLast v s).toInt64
theorem lk9_j {g : Nat → Int64} {v : Nat → Int32} {s : Nat} {e : Int32} {j : Nat} (hj : j < 9) : lk9 g v s e j = pWords v s e j := by
  rcases (by omega : j = 0 ∨ j = 1 ∨ j = 2 ∨ j = 3 ∨ j = 4 ∨ j = 5 ∨ j = 6 ∨ j = 7 ∨ j = 8) with rfl | rfl | rfl | rfl | rfl | rfl | rfl | rfl | rfl
  all_goals simp [lk9, lk8, vp_updL, pWords]
theorem pl840 {v : Nat → Int32} {s : Nat} {e : Int32} : pPlan v none s e = (0 + 20) * 41 + 0 + 20 := by
  show (840 : Int32) = (0 + 20) * 41 + 0 + 20
  decide
theorem m_looks {ms : MSt} {v : Nat → Int32} {D s : Nat} {x z e : Int32} {u : Option Ru} (hv : ms.2.1 26 = v) (V : VOk D v) (hx : x = nI s) (hs : s < 2) (he : ms.2.1 27 s = e) (h9 : sm9 e) (R : MqR ms z u) : ∃ ms2, fm_looks x z ms = some ms2 ∧ MF mXl ms ms2 ∧ PlM ms2 s (pPlan v u s e) ∧ Ot s ms ms2 := by
  subst hx
  have F1 : MF mXl ms (msa (msa (msa ms 28 s 0) 29 s 0) 30 s 0) := ((MF.msa rfl).tr (MF.msa rfl)).tr (MF.msa rfl)
  have d28 : (msa (msa (msa ms 28 s 0) 29 s 0) 30 s 0).2.1 28 = upd (ms.2.1 28) s 0 := by rw [msa_n (by omega), msa_n (by omega), msa_s]
  have d29 : (msa (msa (msa ms 28 s 0) 29 s 0) 30 s 0).2.1 29 = upd (ms.2.1 29) s 0 := by rw [msa_n (by omega), msa_s, msa_n (by omega)]
  have d30 : (msa (msa (msa ms 28 s 0) 29 s 0) 30 s 0).2.1 30 = upd (ms.2.1 30) s 0 := by rw [msa_s, msa_n (by omega), msa_n (by omega)]
  have O1 : Ot s ms (msa (msa (msa ms 28 s 0) 29 s 0) 30 s 0) := fun q hq => ⟨by rw [d28, pk_un hq], by rw [d29, pk_un hq], by rw [d30, pk_un hq]⟩
  unfold fm_looks
  rw [chk_t (inb_n hs (by omega)), chk_t (inb_n hs (by omega)), chk_t (inb_n hs (by omega)), nI_clamp (by omega)]
  generalize hms1 : msa (msa (msa ms 28 s 0) 29 s 0) 30 s 0 = ms1 at *
  rcases R with ⟨rfl, rfl⟩ | ⟨k, c, N, rfl, rfl, R, O⟩
  · rw [if_neg (by decide)]
    refine ⟨ms1, rfl, F1, Or.inr (Or.inr ⟨0, 0, ⟨by decide, by decide⟩, ⟨by decide, by decide⟩, pl840, ?_, ?_, ?_⟩), O1⟩
    · rw [d28, pk_us]
    · rw [d29, pk_us]
    · rw [d30, pk_us]
  · have hk := R.1
    rw [if_pos (nI_pos' (by omega))]
    have V0 := V
    obtain ⟨w0, y, d, sp, fl, h0, h6, h1, h2, h4, hw0, hy, hd, hsp, hfl, hey, -⟩ := V0
    have hys : y s ≤ 40 := by rcases (by omega : s = 0 ∨ s = 1) with rfl | rfl <;> omega
    have hv1 : ms1.2.1 26 = v := (F1.A 26 rfl).trans hv
    have he1 : ms1.2.1 27 s = e := by rw [F1.A 27 rfl]; exact he
    have T0 : ∀ J, fm_tipOf (nI s) 0 (setL ms1 J) = some (setL ms1 J, pTip v s 0) := fun J => m_tipOf (ms := setL ms1 J) (w := 0) hv1 rfl hs (h6 s hs) hys rfl (by omega)
    have T1 : ∀ J, fm_tipOf (nI s) 1 (setL ms1 J) = some (setL ms1 J, pTip v s 1) := fun J => m_tipOf (ms := setL ms1 J) (w := 1) hv1 rfl hs (h6 s hs) hys rfl (by omega)
    have T2 : ∀ J, fm_seen (nI s) 0 (setL ms1 J) = some (setL ms1 J, pSee v s e 0) := fun J => m_seen (ms := setL ms1 J) (w := 0) hv1 V rfl hs he1 h9 rfl (by omega)
    have T3 : ∀ J, fm_seen (nI s) 1 (setL ms1 J) = some (setL ms1 J, pSee v s e 1) := fun J => m_seen (ms := setL ms1 J) (w := 1) hv1 V rfl hs he1 h9 rfl (by omega)
    have T4 : ∀ J, fm_gap (setL ms1 J) = some (setL ms1 J, pGap v) := fun J => m_gap (ms := setL ms1 J) hv1
    have wr : ∀ (J : Nat → Nat → Int64) (i : Nat) (x : Int64), msl (setL ms1 J) 25 i x = setL ms1 (va_up J 25 (vp_updL (J 25) i x)) := fun _ _ _ => rfl
    have st0 : ms1 = setL ms1 ms1.2.2 := rfl
    have B : inb (0 : Int32) 9 = true ∧ inb (1 : Int32) 9 = true ∧ inb (2 : Int32) 9 = true ∧ inb (3 : Int32) 9 = true ∧ inb (4 : Int32) 9 = true ∧ inb (5 : Int32) 9 = true ∧ inb (6 : Int32) 9 = true ∧ inb (7 : Int32) 9 = true ∧ inb (8 : Int32) 9 = true := by decide
    obtain ⟨B0, B1, B2, B3, B4, B5, B6, B7, B8⟩ := B
    have B286 : inb (1 : Int32) 286 = true := by decide
    have s26 : ∀ J, (setL ms1 J).2.1 26 = v := fun _ => hv1
    have e7 : v (6 + s) = nI (y s) := h6 s hs
    have B6s : inb (6 + nI s) 286 = true := by rw [n6]; exact inb_n (by omega) (by omega)
    have c6s : (6 + nI s).toNatClampNeg = 6 + s := by rw [n6]; exact nI_clamp (by omega)
    let Jf : Nat → Nat → Int64 := va_up ms1.2.2 25 (lk9 (ms1.2.2 25) v s e)
    have hJf : ∀ j, j < 9 → (setL ms1 Jf).2.2 25 j = pWords v s e j := fun j hj => by
      show va_up ms1.2.2 25 (lk9 (ms1.2.2 25) v s e) 25 j = _
      rw [va_up_self]; exact lk9_j hj
    have FJ : MF mXl ms1 (setL ms1 Jf) := fun j hj => ⟨rfl, rfl, va_up_ne _ _ (fun e => by rw [e] at hj; cases hj)⟩
    have tail_ : ∃ ms2, fm_looks_j154 (nI s) (nI k) (pLast v s).toInt64 8 (setL ms1 (va_up ms1.2.2 25 (lk8 (ms1.2.2 25) v s e))) = some ms2 ∧ MF mXl ms ms2 ∧ PlM ms2 s (pPlanR v c s e) ∧ Ot s ms ms2 := by
      unfold fm_looks_j154
      rw [chk_t B8, wr, cln8, va_up_self, vup_vup]
      show ∃ ms2, ((fm_isAny (nI k) 3 (setL ms1 Jf)).bind _) = _ ∧ _
      have R1 : MrR (setL ms1 Jf) k c N := R.fr (F1.tr FJ) rfl rfl rfl
      obtain ⟨s1, e1, G1⟩ := m_any (t := 3) (x := nI k) (z := 3) R1 O hJf (by omega) rfl rfl (by omega)
      have R2 : MrR s1 k c N := R1.fr G1 rfl rfl rfl
      have hJ2 : ∀ j, j < 9 → s1.2.2 25 j = pWords v s e j := fun j hj => by rw [G1.J 25 rfl]; exact hJf j hj
      have keep : ∀ {X : MSt} {i : Nat} {z : Int32} {f : Nat}, (f = 28 ∨ f = 29 ∨ f = 30) → Ot s X (msa X f s z) := fun {X i z f} hf q hq => by
        rcases hf with rfl | rfl | rfl
        · refine ⟨?_, ?_, ?_⟩
          · rw [msa_s, pk_un hq]
          · rw [msa_n (by omega)]
          · rw [msa_n (by omega)]
        · refine ⟨?_, ?_, ?_⟩
          · rw [msa_n (by omega)]
          · rw [msa_s, pk_un hq]
          · rw [msa_n (by omega)]
        · refine ⟨?_, ?_, ?_⟩
          · rw [msa_n (by omega)]
          · rw [msa_n (by omega)]
          · rw [msa_s, pk_un hq]
      have otr : ∀ {a b c : MSt}, Ot s a b → Ot s b c → Ot s a c := fun h h' q hq => ⟨(h' q hq).1.trans (h q hq).1, (h' q hq).2.1.trans (h q hq).2.1, (h' q hq).2.2.trans (h q hq).2.2⟩
      have ofr : ∀ {X : Nat → Bool} {a b : MSt}, MF X a b → X 28 = false → X 29 = false → X 30 = false → Ot s a b := fun F a1 a2 a3 q _ => ⟨by rw [F.A 28 a1], by rw [F.A 29 a2], by rw [F.A 30 a3]⟩
      have OJ : Ot s ms1 (setL ms1 Jf) := fun q _ => ⟨rfl, rfl, rfl⟩
      have F2 : MF mXl ms s1 := (F1.tr FJ).tr (G1.mo mXs_l)
      have OT2 : Ot s ms s1 := otr (otr O1 OJ) (ofr G1 rfl rfl rfl)
      rw [e1, bs_]
      unfold pPlanR
      by_cases p3 : pAny c (pWords v s e) 3 = true
      · rw [if_pos p3, if_pos p3]
        dsimp only
        rw [if_neg (by decide), chk_t (inb_n hs (by omega)), nI_clamp (by omega)]
        refine ⟨_, rfl, F2.tr (MF.msa rfl), Or.inl ⟨rfl, by rw [msa_s, pk_us]⟩, otr OT2 (keep (i := 0) (Or.inl rfl))⟩
      · rw [if_neg p3, if_neg p3]
        dsimp only
        rw [if_pos rfl]
        obtain ⟨s2, e2, G2⟩ := m_any (t := 2) (x := nI k) (z := 2) R2 O hJ2 (by omega) rfl rfl (by omega)
        have R3 : MrR s2 k c N := R2.fr G2 rfl rfl rfl
        have hJ3 : ∀ j, j < 9 → s2.2.2 25 j = pWords v s e j := fun j hj => by rw [G2.J 25 rfl]; exact hJ2 j hj
        have F3 : MF mXl ms s2 := F2.tr (G2.mo mXs_l)
        have OT3 : Ot s ms s2 := otr OT2 (ofr G2 rfl rfl rfl)
        rw [e2, bs_]
        by_cases p2 : pAny c (pWords v s e) 2 = true
        · rw [if_pos p2, if_pos p2]
          dsimp only
          rw [if_neg (by decide), chk_t (inb_n hs (by omega)), nI_clamp (by omega)]
          refine ⟨_, rfl, F3.tr (MF.msa rfl), Or.inr (Or.inl ⟨rfl, by rw [msa_s, pk_us]⟩), otr OT3 (keep (i := 0) (Or.inl rfl))⟩
        · rw [if_neg p2, if_neg p2]
          dsimp only
          rw [if_pos rfl]
          have hv3 : s2.2.1 26 = v := (F3.A 26 rfl).trans hv
          obtain ⟨s3, e3, G3⟩ := m_first (t := 0) (x := nI k) (z := 0) hv3 h2 hsp R3 O hJ3 (by omega) rfl rfl
          have G3' : MF mXl s2 (msa s3 29 s (pFst c (pWords v s e) 0 (v 2))) := (G3.mo mXs_l).tr (MF.msa rfl)
          rw [e3, bs_]
          dsimp only
          rw [chk_t (inb_n hs (by omega)), nI_clamp (by omega)]
          have R4 : MrR (msa s3 29 s (pFst c (pWords v s e) 0 (v 2))) k c N := R3.fr G3' rfl rfl rfl
          have hJ4 : ∀ j, j < 9 → (msa s3 29 s (pFst c (pWords v s e) 0 (v 2))).2.2 25 j = pWords v s e j := fun j hj => by rw [msa_J, G3.J 25 rfl]; exact hJ3 j hj
          obtain ⟨s4, e4, G4⟩ := m_first (t := 1) (x := nI k) (z := 1) ((G3'.A 26 rfl).trans hv3) h2 hsp R4 O hJ4 (by omega) rfl rfl
          rw [e4, bs_]
          dsimp only
          rw [chk_t (inb_n hs (by omega))]
          have x28 : s4.2.1 28 s = 0 := by rw [G4.A 28 rfl, msa_n (by omega), G3.A 28 rfl, G2.A 28 rfl, G1.A 28 rfl]; show ms1.2.1 28 s = 0; rw [d28, pk_us]
          refine ⟨_, rfl, ((F3.tr G3').tr (G4.mo mXs_l)).tr (MF.msa rfl), Or.inr (Or.inr ⟨pFst c (pWords v s e) 0 (v 2), pFst c (pWords v s e) 1 (v 2), by rw [h2]; exact pFst_s hsp, by rw [h2]; exact pFst_s hsp, rfl, ?_, ?_, ?_⟩), ?_⟩
          · rw [msa_n (by omega)]; exact x28
          · rw [msa_n (by omega), G4.A 29 rfl, msa_s, pk_us]
          · rw [msa_s, pk_us]
          · exact otr (otr (otr (otr OT3 (ofr G3 rfl rfl rfl)) (keep (i := 0) (Or.inr (Or.inl rfl)))) (ofr G4 rfl rfl rfl)) (keep (i := 0) (Or.inr (Or.inr rfl)))
    have m26 : ∀ i, ms1.2.1 26 i = v i := fun i => by rw [hv1]
    rw [chk_t B6s, chk_t B0, c6s, m26, st0, wr, cln0, T0, bs_]
    dsimp only
    rw [chk_t B1, wr, cln1, va_up_self, vup_vup, T1, bs_]
    dsimp only
    rw [chk_t B2, wr, cln2, va_up_self, vup_vup, T2, bs_]
    dsimp only
    rw [chk_t B3, wr, cln3, va_up_self, vup_vup, T3, bs_]
    dsimp only
    rw [chk_t B4, wr, cln4, va_up_self, vup_vup, T4, bs_]
    dsimp only
    rw [chk_t B5, chk_t B286, chk_t B6, chk_t B7, wr, s26, wr, wr, cln5, cln6, cln7, va_up_self, vup_vup, va_up_self, vup_vup, va_up_self, vup_vup]
    by_cases hy0 : y s = 0
    · rw [if_pos (show v (6 + s) = 0 by rw [e7, hy0]; rfl)]
      have : pLast v s = 0 := by unfold pLast; rw [yN_e e7 hys, if_pos hy0]
      rw [this, show Int32.toInt64 0 = 0 by decide] at tail_
      exact tail_
    · rw [if_neg (by rw [e7]; exact nI_ne0 (by omega) (by omega))]
      have : pLast v s = pAt v s (y s - 1 + 1) 0 - pAt v s (y s - 1) 0 := by unfold pLast; rw [yN_e e7 hys, if_neg hy0, show y s - 1 + 1 = y s by omega]
      have hm : ∀ J, fm_moreOf (nI s) (v (6 + s) - 1) 0 (setL ms1 J) = some (setL ms1 J, pLast v s) := fun J => by
        rw [this]
        exact m_moreOf (ms := setL ms1 J) (k := y s - 1) (w := 0) hv1 rfl hs (by rw [e7, show y s = (y s - 1) + 1 by omega, nI_pred]; rfl) (by omega) rfl (by omega)
      rw [hm, bs_]
      exact tail_
