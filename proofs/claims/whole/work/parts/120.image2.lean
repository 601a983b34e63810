/-! image: a new Site where there is none yet -/
def Ext (st st2 : HSt) : Prop := ∀ b, b < gN st → Old st st2 b
theorem Hi.lt {st : HSt} {b : Nat} (h : Hi st) (k : gK st b ≠ 0) : b < gN st := by
  rcases Nat.lt_or_ge b (gN st) with q | q
  · exact q
  · exact absurd (h b q) k
theorem SpR.ext {st st2 : HSt} {a r : Nat} {v : Nat → Int32} (S : SpR st a r v) (w : Wf st) (hi : Hi st) (E : Ext st st2) : SpR st2 a r v := by
  obtain ⟨hr, ⟨k5, i0, i2, i3, i4, hb, hf⟩, ⟨k10, i1, hyy, hl⟩⟩ := S
  obtain ⟨-, K, -⟩ := w.1 a k10
  obtain ⟨KR, -⟩ := w.2.1 r k5
  have ea := E a (hi.lt (by rw [k10]; omega))
  have er := E r (hi.lt (by rw [k5]; omega))
  have ej : ∀ j, 0 < j → j < 6 → gA st2 (r + j) = gA st (r + j) := fun j h0 hj => (E (r + j) (hi.lt (by rw [KR j h0 hj]; omega))).2.2.1
  have es : ∀ j, 1 < j → j < 10 → gA st2 (a + j) = gA st (a + j) := fun j h0 hj => (E (a + j) (hi.lt (by rw [K j h0 hj]; omega))).2.2.1
  refine ⟨(ea.2.2.2.2.2.2 900).trans hr, ⟨er.1.trans k5, (er.2.2.2.2.2.1 400).trans i0, (er.2.2.2.2.2.1 401).trans i2, (er.2.2.2.2.2.1 402).trans i3, (er.2.2.2.2.2.1 403).trans i4, fun s hs => ?_, fun f hf2 => ?_⟩, ⟨ea.1.trans k10, (ea.2.2.2.2.2.1 901).trans i1, fun s hs => ?_, fun s k hs hk => ?_⟩⟩
  · rw [ej 1 (by omega) (by omega), ej 2 (by omega) (by omega), ej 3 (by omega) (by omega)]; exact hb s hs
  · rw [ej 4 (by omega) (by omega), ej 5 (by omega) (by omega)]; exact hf f hf2
  · rw [es 7 (by omega) (by omega)]; exact hyy s hs
  · rw [es 8 (by omega) (by omega), es 9 (by omega) (by omega)]; exact hl s k hs hk
theorem ImR.ext {st st2 : HSt} {S r : Nat} {v : Nat → Int32} (I : ImR st S r v) (w : Wf st) (hi : Hi st) (E : Ext st st2) : ImR st2 S r v := by
  obtain ⟨i1, i2, i3, i4, i5⟩ := I
  obtain ⟨k1, k8, k9, k10, k11, k12⟩ := site_k w i2.1
  have eS := E S (hi.lt (by rw [i2.1]; omega))
  have e11 := E (S + 11) (hi.lt (by rw [k11]; omega))
  have e12 := E (S + 12) (hi.lt (by rw [k12]; omega))
  refine ⟨i1.ext w hi E, ⟨eS.1.trans i2.1, fun s k hs hk => by rw [e11.2.2.1]; exact i2.2 s k hs hk⟩, (eS.2.2.2.2.2.1 801).trans i3, i4, ?_⟩
  unfold RnR at *
  rw [eS.2.2.2.2.2.1 802, e12.2.2.1]; exact i5
theorem RuR.ext {st st2 : HSt} {q : Nat} {u : Ru} (R : RuR st q u) (w : Wf st) (hi : Hi st) (E : Ext st st2) : RuR st2 q u := by
  obtain ⟨h1, h2, h3, h4, h5, h6, h7, h8⟩ := R
  obtain ⟨K, -⟩ := w.2.2.1 q h1
  have e0 := E q (hi.lt (by rw [h1]; omega))
  have ej : ∀ j, 0 < j → j < 5 → gA st2 (q + j) = gA st (q + j) ∧ gL st2 (q + j) = gL st (q + j) := fun j h0 hj => by
    have := E (q + j) (hi.lt (by rw [K j h0 hj]; omega))
    exact ⟨this.2.2.1, this.2.1⟩
  refine ⟨e0.1.trans h1, (e0.2.2.2.2.2.1 600).trans h2, (ej 1 (by omega) (by omega)).2.trans h3, (ej 2 (by omega) (by omega)).2.trans h4, (ej 3 (by omega) (by omega)).2.trans h5, by rw [(ej 4 (by omega) (by omega)).2]; exact h6, fun c hc => ?_, fun i hi2 => ?_⟩
  · rw [(ej 1 (by omega) (by omega)).1, (ej 2 (by omega) (by omega)).1, (ej 3 (by omega) (by omega)).1, (ej 4 (by omega) (by omega)).2]; exact h7 c hc
  · rw [(ej 4 (by omega) (by omega)).2] at hi2
    rw [(ej 4 (by omega) (by omega)).1]; exact h8 i hi2
theorem kd_n0 : ∀ j, j < 110 → kd j ≠ 0 := by decide
theorem Sh.lt {hx : Nat} {st : HSt} (h : Sh hx st) (hi : Hi st) {j : Nat} (hj : j < 110) : hx + j < gN st := hi.lt (by rw [h.1 j hj]; exact kd_n0 j hj)
theorem Sh.ext {hx : Nat} {st st2 : HSt} (h : Sh hx st) (hi : Hi st) (E : Ext st st2) : Sh hx st2 := by
  have R : ∀ f j, j < 110 → gR st2 f (hx + j) = gR st f (hx + j) := fun f j hj => (E _ (h.lt hi hj)).2.2.2.2.2.2 f
  have R0 : ∀ f, gR st2 f hx = gR st f hx := fun f => R f 0 (by omega)
  have L : ∀ j, j < 110 → gL st2 (hx + j) = gL st (hx + j) := fun j hj => (E _ (h.lt hi hj)).2.1
  have K : ∀ j, j < 110 → gK st2 (hx + j) = kd j := fun j hj => (E _ (h.lt hi hj)).1.trans (h.1 j hj)
  have Q : ∀ j, j < 110 → gQ st2 (hx + j) = gQ st (hx + j) := fun j hj => (E _ (h.lt hi hj)).2.2.2.2.1
  refine ⟨K, ?_⟩
  have := h.2
  rw [R0, R0, R0, R0, R0, R0, R0, R0, R 1000 17 (by omega), R 1001 17 (by omega), R 1002 17 (by omega), R 500 21 (by omega), R 700 22 (by omega), R 701 22 (by omega), R 702 22 (by omega), R 703 22 (by omega), R 704 22 (by omega), R 0 27 (by omega), R 300 28 (by omega), R 301 28 (by omega), R 6 27 (by omega), R 7 27 (by omega), R 1 27 (by omega), R 2 27 (by omega), R 102 103 (by omega), R 103 103 (by omega), R 104 103 (by omega), R 105 103 (by omega), R 201 106 (by omega), R 202 106 (by omega), R 203 106 (by omega), R 204 106 (by omega), R 205 106 (by omega), L 1 (by omega), L 2 (by omega), L 16 (by omega), L 18 (by omega), L 19 (by omega), L 20 (by omega), L 23 (by omega), L 24 (by omega), L 25 (by omega), L 26 (by omega), L 29 (by omega), L 30 (by omega), L 31 (by omega), L 32 (by omega), L 104 (by omega), L 105 (by omega), L 107 (by omega), L 108 (by omega), L 109 (by omega), Q 31 (by omega)]
  exact this
/-- all of the relation but the images -/
def Re0 (hx : Nat) (st : HSt) (ms : MSt) : Prop := ∃ t nr r, Wf st ∧ Hi st ∧ Sh hx st ∧ PkR hx st ∧ TpR hx st ms t ∧ RuS hx st ms nr ∧ ImR st (hx + 3) r (ms.2.1 26) ∧ VOk 9999 (ms.2.1 26)
theorem Re0.ext {hx : Nat} {st st2 : HSt} {ms : MSt} (R : Re0 hx st ms) (w2 : Wf st2) (hi2 : Hi st2) (E : Ext st st2) : Re0 hx st2 ms := by
  obtain ⟨t, nr, r, w, hi, h, p, T, U, I, V⟩ := R
  have e0 := E hx (h.lt hi (j := 0) (by omega))
  have e1 := E (hx + 1) (h.lt hi (by omega))
  have e2 := E (hx + 2) (h.lt hi (by omega))
  have e27 := E (hx + 27) (h.lt hi (by omega))
  refine ⟨t, nr, r, w2, hi2, h.ext hi E, ?_, ?_, ?_, I.ext w hi E, V⟩
  · unfold PkR at *
    rw [e27.2.2.2.2.2.2 10]
    rcases p with p | ⟨P, p1, p2, p3⟩
    · exact Or.inl p
    · have eP := E P (hi.lt (by rw [p2]; omega))
      exact Or.inr ⟨P, p1, eP.1.trans p2, eP.2.1.trans p3⟩
  · obtain ⟨t1, t2, t3, t4, t5, t6, t7, t8⟩ := T
    exact ⟨e0.1.trans t1, (e0.2.2.2.2.2.2 1100).trans t2, e1.1.trans t3, e1.2.1.trans t4, (e0.2.2.2.2.2.1 1101).trans t5, t6, t7, fun i hi => by rw [e1.2.2.1]; exact t8 i hi⟩
  · obtain ⟨r1, r2, r3, r4⟩ := U
    refine ⟨(e0.2.2.2.2.2.1 1103).trans r1, r2, r3, fun k hk => ?_⟩
    obtain ⟨q, u, Nn, e, R, O, M⟩ := r4 k hk
    exact ⟨q, u, Nn, by rw [e2.2.2.2.2.1]; exact e, R.ext w hi E, O, M⟩
/-- images other than the k-th; that one is a Site of its own -/
def ImX (hx : Nat) (st : HSt) (ms : MSt) (k S : Nat) : Prop := (∀ j, j < 4 → j ≠ k → (gQ st (hx + 16) j = none ∧ ms.2.1 41 j = 0) ∨ ∃ S r, gQ st (hx + 16) j = some S ∧ ms.2.1 41 j = 1 ∧ ImR st S r (imV ms j) ∧ VOk 9999 (imV ms j) ∧ S ≠ hx + 3) ∧ (∀ j k S, j < 4 → k < 4 → gQ st (hx + 16) j = some S → gQ st (hx + 16) k = some S → j = k) ∧ gQ st (hx + 16) k = some S ∧ gK st S = 9 ∧ S ≠ hx + 3
theorem sb_rule {st : HSt} {S q j : Nat} (w : Wf st) (k : gK st S = 9) (kq : gK st q = 7) (hj : j < 5) : ¬ Sb S (q + j) := fun z => by
  have zi := sb_in z
  rcases Nat.lt_or_ge q S with h | h
  · have := (w.2.2.1 q kq).1 (S - q) (by omega) (by omega)
    rw [show q + (S - q) = S by omega, k] at this; cases this
  · rcases Nat.eq_zero_or_pos (q - S) with e | e
    · rw [show q = S by omega, k] at kq; cases kq
    · obtain ⟨k1, k11, k12, -⟩ := w.2.2.2 S k
      obtain ⟨k2, K, -⟩ := w.1 (S + 1) k1
      rcases (by omega : q = S + 1 ∨ q = S + 1 + 1 ∨ q = S + 11 ∨ q = S + 12 ∨ (S + 3 ≤ q ∧ q ≤ S + 10)) with e | e | e | e | e
      · rw [e, k1] at kq; cases kq
      · rw [e, k2] at kq; cases kq
      · rw [e, k11] at kq; cases kq
      · rw [e, k12] at kq; cases kq
      · have := K (q - (S + 1)) (by omega) (by omega)
        rw [show S + 1 + (q - (S + 1)) = q by omega, kq] at this; cases this
theorem m_imageL {ms : MSt} {k : Nat} (hk : k < 4) : ∃ ms2, (iter (fun x : (Int32 × MSt) => fm_image_s23 (nI k) x.1 x.2) mFuel ((0 : Int32), ms)).bind (Sum.elim (fun o : MSt × Int32 => (some o : Option (MSt × Int32))) (fun x : (Int32 × MSt) => fm_image_j54 x.2)) = some (ms2, ms2.2.1 26 1) ∧ (∀ i, i < 286 → imV ms2 k i = ms.2.1 26 i) ∧ (∀ j i, j ≠ k → i < 286 → imV ms2 j i = imV ms j i) ∧ MF (fun k => k == 40) ms ms2 := by
  obtain ⟨y, e, h1, h2, F⟩ : ∃ y : Int32 × MSt, iter (fun a : (Int32 × MSt) => fm_image_s23 (nI k) a.1 a.2) mFuel ((0 : Int32), ms) = some (.inr y) ∧ (∀ i, i < 286 → imV y.2 k i = ms.2.1 26 i) ∧ (∀ j i, j ≠ k → i < 286 → imV y.2 j i = imV ms j i) ∧ MF (fun k => k == 40) ms y.2 := by
    refine iter_n (fun j (a : Int32 × MSt) => a.1 = nI j ∧ (∀ i, i < j → imV a.2 k i = ms.2.1 26 i) ∧ (∀ j i, j ≠ k → i < 286 → imV a.2 j i = imV ms j i) ∧ MF (fun k => k == 40) ms a.2) 286 _ ?_ ?_ ⟨rfl, fun _ q => absurd q (Nat.not_lt_zero _), fun _ _ _ _ => rfl, MF.rf⟩ (by omega)
    · rintro j ⟨i, s⟩ hj ⟨hi, h, h2, F⟩
      simp only at hi h h2 F
      subst hi
      refine ⟨(nI (j + 1), msa s 40 (286 * k + j) (s.2.1 26 j)), ?_, rfl, fun i hi => ?_, fun l i hl hi => ?_, F.tr (MF.msa rfl)⟩
      · show fm_image_s23 (nI k) (nI j) s = _
        unfold fm_image_s23
        rw [if_neg (show ¬ (286 : Int32) ≤ nI j from nI_ge (b := 286) hj (by omega)), n286, chk_t (inb_n hj (by omega)), chk_t (inb_n (by omega) (by omega)), nI_clamp (by omega), nI_clamp (by omega), nI_1]
      · show (msa s 40 (286 * k + j) (s.2.1 26 j)).2.1 40 (286 * k + i) = _
        rw [msa_s, F.A 26 rfl]
        by_cases q : i = j
        · rw [q, pk_us]
        · rw [pk_un (by omega)]; exact h i (by omega)
      · show (msa s 40 (286 * k + j) (s.2.1 26 j)).2.1 40 (286 * l + i) = _
        rw [msa_s, pk_un (by omega)]; exact h2 l i hl hi
    · rintro ⟨i, s⟩ ⟨hi, h, h2, F⟩
      simp only at hi h h2 F
      subst hi
      refine ⟨(nI 286, s), ?_, h, h2, F⟩
      show fm_image_s23 (nI k) (nI 286) s = _
      unfold fm_image_s23
      rw [if_pos (by decide)]
  refine ⟨y.2, ?_, h1, h2, F⟩
  rw [e]
  show fm_image_j54 y.2 = _
  unfold fm_image_j54
  rw [chk_t (by decide), cln1]
/-- the site goes into the k-th image -/
theorem image_j {hx k S : Nat} {st : HSt} {ms : MSt} (hk : k < 4) (R : Re0 hx st ms) (X : ImX hx st ms k S) : ∃ x1 x2, fh_X11_image_j33 hx (nI k) st = some x1 ∧ (iter (fun x : (Int32 × MSt) => fm_image_s23 (nI k) x.1 x.2) mFuel ((0 : Int32), msa ms 41 k (vp_nar .boolean 1))).bind (Sum.elim (fun o : MSt × Int32 => (some o : Option (MSt × Int32))) (fun x : (Int32 × MSt) => fm_image_j54 x.2)) = some x2 ∧ x1.2 = x2.2 ∧ Rel hx x1.1 x2.1 := by
  obtain ⟨t, nr, r, w, hi, h, p, T, U, I, V⟩ := R
  obtain ⟨x1, x2, x3, x4, x5⟩ := X
  obtain ⟨s2, e2, I2, F2⟩ := h_sbecome w x4 I V x5
  obtain ⟨m2, g2, G2, G3, M2⟩ := m_imageL (ms := msa ms 41 k (vp_nar .boolean 1)) (k := k) hk
  have h2 := h.fr F2
  have w2 := F2.Wf w
  have v26 : m2.2.1 26 = ms.2.1 26 := by rw [M2.A 26 rfl, msa_n (by omega)]
  have nS : ∀ j, j < 110 → ¬ Sb S (hx + j) := fun j hj z => by
    have := sb_in z
    rcases blk9 w h x4 with q | q | q
    · exact x5 q
    · omega
    · omega
  have n0 : ¬ Sb S hx := nS 0 (by omega)
  have F41 : MF (fun k => k == 40 || k == 41) ms m2 := (MF.msa (X := fun k => k == 40 || k == 41) (k := 41) rfl).tr (M2.mo (fun k hk => by rw [hk]; rfl))
  have k16 : gK st (hx + 16) = 26 := h.k (by omega) rfl
  refine ⟨(s2, gI s2 901 (hx + 3 + 1)), (m2, m2.2.1 26 1), ?_, g2, ?_, ?_⟩
  · unfold fh_X11_image_j33
    rw [chk_t (st_k h), h.2.1.2.2.2.2.2.1, dr_of k16, bs_, h.2.1.2.2.2.2.2.2.1, chk_t (inb_n (by omega) (by omega)), nI_clamp (by omega), x3, dr_of x4, bs_, r1104 h, e2, bs_, chk_t (st_k h2), st_site h2, bs_, st_span w2 (k3 h2), bs_]
  · dsimp only
    rw [v26, F2.I 901 (nS 4 (by omega))]; exact I.1.2.2.2.1
  · have I2' : ImR s2 (hx + 3) r (m2.2.1 26) := by
      rw [v26]
      exact I.fr V F2 (nS 3 (by omega)) (nS 4 (by omega)) (nS 11 (by omega)) (nS 12 (by omega)) (nS 13 (by omega)) (nS 14 (by omega)) (nS 15 (by omega)) (fun j hj => sb_riv w x4 I.1.2.1.1 hj)
    refine ⟨t, nr, r, w2, hi.fr F2, h2, p.fr F2 (nS 27 (by omega)), ?_, U.fr F2 F41 n0 (fun q j hq hj => sb_rule w x4 hq hj) rfl rfl rfl rfl, I2', by rw [v26]; exact V, fun j hj => ?_, fun j l S' hj hl a b => x2 j l S' hj hl (by rw [F2.Q] at a; exact a) (by rw [F2.Q] at b; exact b)⟩
    · obtain ⟨t1, t2, t3, t4, t5, t6, t7, t8⟩ := T
      exact ⟨(F2.K _).trans t1, (F2.R (f := 1100) _ rfl).trans t2, (F2.K _).trans t3, (F2.L _).trans t4, (F2.I 1101 n0).trans t5, (F41.I 1 rfl).trans t6, t7, fun i hi => by rw [F2.A (nS 1 (by omega)), F41.A 0 rfl]; exact t8 i hi⟩
    · rw [F2.Q]
      by_cases jk : j = k
      · subst jk
        right
        have A : Ag (ms.2.1 26) (imV m2 j) := fun i hi => by rw [G2 i hi, msa_n (by omega)]
        refine ⟨S, r, x3, ?_, I2.ag A V, V.ag A, x5⟩
        rw [M2.A 41 rfl, msa_s, pk_us]; decide
      · have e41 : m2.2.1 41 j = ms.2.1 41 j := by rw [M2.A 41 rfl, msa_s, pk_un jk]
        rw [e41]
        rcases x1 j hj jk with q | ⟨S', r', a, b, c, d, e⟩
        · exact Or.inl q
        · right
          have A : Ag (imV ms j) (imV m2 j) := fun i hi => by
            rw [G3 j i jk hi]; unfold imV; rw [msa_n (by omega)]
          have hne : S' ≠ S := fun z => jk (x2 j k S hj hk (by rw [a, z]) x3)
          have kS' := c.2.1.1
          have far := si_ne w x4 kS' (fun z => hne z.symm)
          have nS' : ∀ i, i ≤ 12 → ¬ Sb S (S' + i) := fun i hi z => by have := sb_in z; omega
          exact ⟨S', r', a, b, (c.fr d F2 (nS' 0 (by omega)) (nS' 1 (by omega)) (nS' 8 (by omega)) (nS' 9 (by omega)) (nS' 10 (by omega)) (nS' 11 (by omega)) (nS' 12 (by omega)) (fun i hi => sb_riv w x4 c.1.2.1.1 hi)).ag A d, d.ag A, e⟩
/-- a new Site -/
def newO : List Op := [(0, 9, 0, 0)] ++ sitO 0 1
def kn (j : Nat) : Nat := if j = 0 then 9 else if j = 1 then 10 else if j = 2 then 5 else 22
theorem new_n : cO newO = 13 := by decide +kernel
theorem new_k : ∀ j, j < 13 → kOf newO 0 j = some (kn j) := by decide +kernel
theorem new_0 : ∀ j, j < 13 → kn j = 10 → j = 1 := by decide +kernel
theorem new_1 : ∀ j, j < 13 → kn j = 5 → j = 2 := by decide +kernel
theorem new_2 : ∀ j, j < 13 → kn j = 9 → j = 0 := by decide +kernel
theorem new_3 : ∀ j, j < 13 → kn j ≠ 7 := by decide +kernel
theorem Wf_new {st : HSt} (w : Wf st) (hi : Hi st) : Wf (run (gN st) st newO) ∧ Hi (run (gN st) st newO) ∧ Ext st (run (gN st) st newO) ∧ gK (run (gN st) st newO) (gN st) = 9 := by
  have E : Ext st (run (gN st) st newO) := fun b hb => run_old hb (Nat.le_refl _)
  have K : ∀ j, j < 13 → gK (run (gN st) st newO) (gN st + j) = kn j := fun j hj => by
    have := (run_K (N := gN st) (i := j) (os := newO) (st := st) (c := 0) rfl).1
    rw [new_k j hj] at this; exact this
  have K0 : ∀ a, gN st + 13 ≤ a → gK (run (gN st) st newO) a = 0 := fun a ha => by
    have := (run_K (N := gN st) (i := a - gN st) (os := newO) (st := st) (c := 0) rfl).1
    rw [kOf_hi (by rw [new_n]; omega), show gN st + (a - gN st) = a by omega] at this
    exact this.trans (hi a (by omega))
  have R : ∀ f j v, rOf f newO 0 j none = some (some v) → gR (run (gN st) st newO) f (gN st + j) = some (gN st + v) := fun f j v h => s_gR rfl h
  have L : ∀ j k, lOf newO 0 j = some k → gL (run (gN st) st newO) (gN st + j) = k := fun j k h => s_gL rfl h
  have at_ : ∀ a k, gK (run (gN st) st newO) a = k → k ≠ 0 → (a < gN st ∧ gK st a = k) ∨ ∃ j, j < 13 ∧ a = gN st + j ∧ kn j = k := fun a k h hk => by
    rcases (by omega : a < gN st ∨ gN st + 13 ≤ a ∨ (gN st ≤ a ∧ a < gN st + 13)) with z | z | z
    · exact Or.inl ⟨z, (E a z).1.symm.trans h⟩
    · rw [K0 a z] at h; exact absurd h.symm hk
    · have := K (a - gN st) (by omega)
      rw [show gN st + (a - gN st) = a by omega, h] at this
      exact Or.inr ⟨a - gN st, by omega, by omega, this.symm⟩
  have o : ∀ b, gK st b ≠ 0 → Old st (run (gN st) st newO) b := fun b hb => E b (hi.lt hb)
  refine ⟨⟨fun a ha => ?_, fun a ha => ?_, fun a ha => ?_, fun a ha => ?_⟩, fun a ha => K0 a (by rw [run_N, new_n] at ha; exact ha), E, K 0 (by omega)⟩
  · rcases at_ a 10 ha (by omega) with ⟨z, k⟩ | ⟨j, hj, rfl, kj⟩
    · obtain ⟨c1, c2, c3, c4, c5, c6, c7, c8⟩ := w.1 a k
      have oa := o a (by rw [k]; omega)
      have oj : ∀ j, 1 < j → j < 10 → Old st (run (gN st) st newO) (a + j) := fun j h1 h2 => o _ (by rw [c2 j h1 h2]; omega)
      exact ⟨(o (a + 1) (by rw [c1]; omega)).1.trans c1, fun j h1 h2 => (oj j h1 h2).1.trans (c2 j h1 h2), (oa.2.2.2.2.2.2 902).trans c3, (oj 7 (by omega) (by omega)).2.1.trans c4, (oa.2.2.2.2.2.2 903).trans c5, (oj 8 (by omega) (by omega)).2.1.trans c6, (oa.2.2.2.2.2.2 904).trans c7, (oj 9 (by omega) (by omega)).2.1.trans c8⟩
    · have := new_0 j hj kj; subst this
      refine ⟨K 2 (by omega), fun i h1 h2 => ?_, R 902 1 8 (by decide +kernel), L 8 2 (by decide +kernel), R 903 1 9 (by decide +kernel), L 9 80 (by decide +kernel), R 904 1 10 (by decide +kernel), L 10 80 (by decide +kernel)⟩
      rw [Nat.add_assoc, K (1 + i) (by omega)]; unfold kn; rw [if_neg (by omega), if_neg (by omega), if_neg (by omega)]
  · rcases at_ a 5 ha (by omega) with ⟨z, k⟩ | ⟨j, hj, rfl, kj⟩
    · obtain ⟨c1, c2, c3, c4, c5, c6, c7, c8, c9, c10, c11⟩ := w.2.1 a k
      have oa := o a (by rw [k]; omega)
      have oj : ∀ j, 0 < j → j < 6 → Old st (run (gN st) st newO) (a + j) := fun j h1 h2 => o _ (by rw [c1 j h1 h2]; omega)
      exact ⟨fun j h1 h2 => (oj j h1 h2).1.trans (c1 j h1 h2), (oa.2.2.2.2.2.2 404).trans c2, (oj 1 (by omega) (by omega)).2.1.trans c3, (oa.2.2.2.2.2.2 405).trans c4, (oj 2 (by omega) (by omega)).2.1.trans c5, (oa.2.2.2.2.2.2 406).trans c6, (oj 3 (by omega) (by omega)).2.1.trans c7, (oa.2.2.2.2.2.2 407).trans c8, (oj 4 (by omega) (by omega)).2.1.trans c9, (oa.2.2.2.2.2.2 408).trans c10, (oj 5 (by omega) (by omega)).2.1.trans c11⟩
    · have := new_1 j hj kj; subst this
      refine ⟨fun i h1 h2 => ?_, R 404 2 3 (by decide +kernel), L 3 2 (by decide +kernel), R 405 2 4 (by decide +kernel), L 4 2 (by decide +kernel), R 406 2 5 (by decide +kernel), L 5 2 (by decide +kernel), R 407 2 6 (by decide +kernel), L 6 8 (by decide +kernel), R 408 2 7 (by decide +kernel), L 7 8 (by decide +kernel)⟩
      rw [Nat.add_assoc, K (2 + i) (by omega)]; unfold kn; rw [if_neg (by omega), if_neg (by omega), if_neg (by omega)]
  · rcases at_ a 7 ha (by omega) with ⟨z, k⟩ | ⟨j, hj, rfl, kj⟩
    · obtain ⟨c1, c2, c3, c4, c5⟩ := w.2.2.1 a k
      have oa := o a (by rw [k]; omega)
      exact ⟨fun j h1 h2 => (o (a + j) (by rw [c1 j h1 h2]; omega)).1.trans (c1 j h1 h2), (oa.2.2.2.2.2.2 601).trans c2, (oa.2.2.2.2.2.2 602).trans c3, (oa.2.2.2.2.2.2 603).trans c4, (oa.2.2.2.2.2.2 604).trans c5⟩
    · exact absurd kj (new_3 j hj)
  · rcases at_ a 9 ha (by omega) with ⟨z, k⟩ | ⟨j, hj, rfl, kj⟩
    · obtain ⟨c1, c2, c3, c4, c5, c6, c7, c8⟩ := w.2.2.2 a k
      have oa := o a (by rw [k]; omega)
      have o11 := o (a + 11) (by rw [c2]; omega)
      have o12 := o (a + 12) (by rw [c3]; omega)
      exact ⟨(o (a + 1) (by rw [c1]; omega)).1.trans c1, o11.1.trans c2, o12.1.trans c3, (oa.2.2.2.2.2.2 800).trans c4, (oa.2.2.2.2.2.2 803).trans c5, o11.2.1.trans c6, (oa.2.2.2.2.2.2 804).trans c7, o12.2.1.trans c8⟩
    · have := new_2 j hj kj; subst this
      exact ⟨K 1 (by omega), K 11 (by omega), K 12 (by omega), R 800 0 1 (by decide +kernel), R 803 0 11 (by decide +kernel), L 11 16 (by decide +kernel), R 804 0 12 (by decide +kernel), L 12 80 (by decide +kernel)⟩
