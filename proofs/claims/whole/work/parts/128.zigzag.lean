/-! zigzag -/
def mXz (k : Nat) : Bool := mXe k || mXk k
theorem mXe_z : ∀ k, mXe k = true → mXz k = true := fun k h => by unfold mXz; rw [h, Bool.true_or]
theorem mXk_z : ∀ k, mXk k = true → mXz k = true := fun k h => by unfold mXz; rw [h, Bool.or_true]
theorem mXz_q : ∀ k, mXz k = true → mXq k = true := fun k h => by
  unfold mXz at h
  rw [Bool.or_eq_true] at h
  rcases h with h | h
  · exact mXe_q k h
  · exact mXk_q k h
theorem zA_0 {a3 : Int32} {i j : Nat} (hi : i ≤ 300) (hj : j < i) : 0 ≤ zA a3 i j := by
  unfold zA
  split
  · exact nI_le (a := 0) (by omega) (by omega)
  · exact nI_le (a := 0) (by omega) (by omega)
theorem HasD.fr {X : Nat → Bool} {m m2 : MSt} {a : Nat → Int32} {d : Nat} (H : HasD m a d) (F : MF X m m2) (h2 : X 32 = false) (h3 : X 33 = false) : HasD m2 a d := fun s hs => by
  rw [F.A 32 h2, F.A 33 h3]; exact H s hs
theorem m_zdays {m0 : MSt} {v : Nat → Int32} {D : Nat} {x z a3 e0 e1 : Int32} {l u : Option Ru} (hv : m0.2.1 26 = v) (V : VOk D v) (he0 : m0.2.1 27 0 = e0) (he1 : m0.2.1 27 1 = e1) (h0 : sm9 e0) (h1 : sm9 e1) (Rl : MqR m0 x l) (Rr : MqR m0 z u) (H : HasD m0 v 0) : ∃ y : Int32 × Int32 × MSt, iter (fun y : (Int32 × Int32 × MSt) => fm_zigzag_s41 x z a3 y.1 y.2.1 y.2.2) mFuel ((-2 : Int32), (1 : Int32), m0) = some (.inr y) ∧ MF mXz m0 y.2.2 ∧ (∃ n, y.2.2.2.1 26 = zS l u e0 e1 v n) ∧ ((y.1 = -2 ∧ ZNo (zS l u e0 e1 v) 301) ∨ ∃ i j, ZHit (zS l u e0 e1 v) i j ∧ y.1 = zA a3 i j) := by
  refine iter_w (fun k (y : Int32 × Int32 × MSt) => y.2.1 = nI (k + 1) ∧ MF mXz m0 y.2.2 ∧ (∃ n, y.2.2.2.1 26 = zS l u e0 e1 v n) ∧ ((y.1 = -2 ∧ ZNo (zS l u e0 e1 v) (k + 1) ∧ y.2.2.2.1 26 = zS l u e0 e1 v k ∧ ∀ e, e ≤ k → HasD y.2.2 (zS l u e0 e1 v e) e) ∨ ∃ i j, ZHit (zS l u e0 e1 v) i j ∧ y.1 = zA a3 i j)) 300 _ ?_ ⟨rfl, MF.rf, ⟨0, hv⟩, Or.inl ⟨rfl, fun i j hi hj => by omega, hv, fun e he => ?_⟩⟩ (by omega)
  · rintro k ⟨c, i, m⟩ hk ⟨q1, F, hn, q3⟩
    simp only at q1 F hn q3
    subst q1
    rcases Nat.lt_or_ge k 300 with hlt | hge
    · rcases q3 with ⟨c1, no, c26, Hs⟩ | ⟨i, j, hit, c1⟩
      · left
        subst c1
        have Vk := (zS_ok (l := l) (u := u) (e0 := e0) (e1 := e1) V k).1
        have Vk1 := (zS_ok (l := l) (u := u) (e0 := e0) (e1 := e1) V (k + 1)).1
        obtain ⟨m2, f2, g2, F2⟩ := m_zigs c26 Vk (by rw [F.A 27 rfl]; exact he0) (by rw [F.A 27 rfl]; exact he1) h0 h1 (Rl.fr F rfl rfl rfl) (Rr.fr F rfl rfl rfl)
        have g2' : m2.2.1 26 = zS l u e0 e1 v (k + 1) := g2
        obtain ⟨m3, f3, H3, O3, F3⟩ := m_keepsDay (d := k + 1) g2' Vk1 (by omega)
        have H4 : ∀ e, e ≤ k + 1 → HasD m3 (zS l u e0 e1 v e) e := fun e he => by
          rcases Nat.lt_or_ge e (k + 1) with c | c
          · exact O3 _ e c (fun s hs => ((zS_ok V e).1.y6 hs).2) ((Hs e (by omega)).fr F2 rfl rfl)
          · rw [show e = k + 1 by omega]; exact H3
        obtain ⟨y, f4, y2, r⟩ := m_zin (x := x) (z := z) (a3 := a3) (d := k + 1) (by omega) (by omega) (fun k => (zS_ok (l := l) (u := u) (e0 := e0) (e1 := e1) V k).1) H4
        have F03 : MF mXz m0 m3 := (F.tr (F2.mo mXe_z)).tr (F3.mo mXk_z)
        have g3 : m3.2.1 26 = zS l u e0 e1 v (k + 1) := (F3.A 26 rfl).trans g2'
        refine ⟨(y.1, nI (k + 1 + 1), m3), ?_, ⟨rfl, F03, ⟨k + 1, g3⟩, ?_⟩, hlt⟩
        · show fm_zigzag_s41 x z a3 (-2) (nI (k + 1)) m = _
          unfold fm_zigzag_s41
          rw [if_neg (show ¬ (300 : Int32) < nI (k + 1) from nI_nlt (a := 300) (by omega) (by omega)), if_neg (by decide), f2, bs_, f3, bs_, f4]
          show fm_zigzag_j114 x z a3 y.1 (nI (k + 1)) y.2.2 = _
          unfold fm_zigzag_j114
          rw [y2, nI_1]
        · rcases r with ⟨r1, r2⟩ | ⟨j, hj, r1, r2, r3⟩
          · refine Or.inl ⟨r1, fun i j hi hj => ?_, g3, H4⟩
            rcases Nat.lt_or_ge i (k + 1) with c | c
            · exact no i j c hj
            · have : i = k + 1 := by omega
              rw [this] at hj ⊢; exact r2 j hj
          · exact Or.inr ⟨k + 1, j, ⟨by omega, no, hj, r2, r3⟩, r1⟩
      · right
        refine ⟨(c, nI (k + 1), m), ?_, F, hn, Or.inr ⟨i, j, hit, c1⟩⟩
        show fm_zigzag_s41 x z a3 c (nI (k + 1)) m = _
        unfold fm_zigzag_s41
        rw [if_neg (show ¬ (300 : Int32) < nI (k + 1) from nI_nlt (a := 300) (by omega) (by omega)), if_pos (by rw [c1]; exact zA_0 hit.1 hit.2.2.1)]
    · have : k = 300 := by omega
      subst this
      right
      refine ⟨(c, nI 301, m), ?_, F, hn, ?_⟩
      · show fm_zigzag_s41 x z a3 c (nI 301) m = _
        unfold fm_zigzag_s41
        rw [if_pos (by decide)]
      · rcases q3 with ⟨c1, no, -, -⟩ | q
        · exact Or.inl ⟨c1, no⟩
        · exact Or.inr q
  · rw [show e = 0 by omega]; exact H
/-- a cell of longs made on the way -/
theorem Wf_longs {st : HSt} (w : Wf st) (hi : Hi st) : Wf (nO st 23 2709) ∧ Hi (nO st 23 2709) ∧ Ext st (nO st 23 2709) ∧ gK (nO st 23 2709) (gN st) = 23 ∧ gL (nO st 23 2709) (gN st) = 2709 := by
  have E : Ext st (nO st 23 2709) := fun b hb => by
    have hne : b ≠ gN st := by omega
    exact ⟨if_neg hne, if_neg hne, if_neg hne, if_neg hne, if_neg hne, fun _ => if_neg hne, fun _ => if_neg hne⟩
  have K : gK (nO st 23 2709) (gN st) = 23 := if_pos rfl
  have K0 : ∀ a, gN st + 1 ≤ a → gK (nO st 23 2709) a = 0 := fun a ha => by
    have hne : a ≠ gN st := by omega
    exact (show gK (nO st 23 2709) a = gK st a from if_neg hne).trans (hi a (by omega))
  have at_ : ∀ a k, gK (nO st 23 2709) a = k → k ≠ 0 → k ≠ 23 → gK st a = k := fun a k h hk h23 => by
    rcases (by omega : a < gN st ∨ gN st + 1 ≤ a ∨ a = gN st) with z | z | z
    · exact (E a z).1.symm.trans h
    · rw [K0 a z] at h; exact absurd h.symm hk
    · rw [z, K] at h; exact absurd h.symm h23
  have o : ∀ b, gK st b ≠ 0 → Old st (nO st 23 2709) b := fun b hb => E b (hi.lt hb)
  refine ⟨⟨fun a ha => ?_, fun a ha => ?_, fun a ha => ?_, fun a ha => ?_⟩, fun a ha => K0 a ha, E, K, if_pos rfl⟩
  · have k := at_ a 10 ha (by omega) (by omega)
    obtain ⟨c1, c2, c3, c4, c5, c6, c7, c8⟩ := w.1 a k
    have oa := o a (by rw [k]; omega)
    have oj : ∀ j, 1 < j → j < 10 → Old st (nO st 23 2709) (a + j) := fun j h1 h2 => o _ (by rw [c2 j h1 h2]; omega)
    exact ⟨(o (a + 1) (by rw [c1]; omega)).1.trans c1, fun j h1 h2 => (oj j h1 h2).1.trans (c2 j h1 h2), (oa.2.2.2.2.2.2 902).trans c3, (oj 7 (by omega) (by omega)).2.1.trans c4, (oa.2.2.2.2.2.2 903).trans c5, (oj 8 (by omega) (by omega)).2.1.trans c6, (oa.2.2.2.2.2.2 904).trans c7, (oj 9 (by omega) (by omega)).2.1.trans c8⟩
  · have k := at_ a 5 ha (by omega) (by omega)
    obtain ⟨c1, c2, c3, c4, c5, c6, c7, c8, c9, c10, c11⟩ := w.2.1 a k
    have oa := o a (by rw [k]; omega)
    have oj : ∀ j, 0 < j → j < 6 → Old st (nO st 23 2709) (a + j) := fun j h1 h2 => o _ (by rw [c1 j h1 h2]; omega)
    exact ⟨fun j h1 h2 => (oj j h1 h2).1.trans (c1 j h1 h2), (oa.2.2.2.2.2.2 404).trans c2, (oj 1 (by omega) (by omega)).2.1.trans c3, (oa.2.2.2.2.2.2 405).trans c4, (oj 2 (by omega) (by omega)).2.1.trans c5, (oa.2.2.2.2.2.2 406).trans c6, (oj 3 (by omega) (by omega)).2.1.trans c7, (oa.2.2.2.2.2.2 407).trans c8, (oj 4 (by omega) (by omega)).2.1.trans c9, (oa.2.2.2.2.2.2 408).trans c10, (oj 5 (by omega) (by omega)).2.1.trans c11⟩
  · have k := at_ a 7 ha (by omega) (by omega)
    obtain ⟨c1, c2, c3, c4, c5⟩ := w.2.2.1 a k
    have oa := o a (by rw [k]; omega)
    exact ⟨fun j h1 h2 => (o (a + j) (by rw [c1 j h1 h2]; omega)).1.trans (c1 j h1 h2), (oa.2.2.2.2.2.2 601).trans c2, (oa.2.2.2.2.2.2 602).trans c3, (oa.2.2.2.2.2.2 603).trans c4, (oa.2.2.2.2.2.2 604).trans c5⟩
  · have k := at_ a 9 ha (by omega) (by omega)
    obtain ⟨c1, c2, c3, c4, c5, c6, c7, c8⟩ := w.2.2.2 a k
    have oa := o a (by rw [k]; omega)
    have o11 := o (a + 11) (by rw [c2]; omega)
    have o12 := o (a + 12) (by rw [c3]; omega)
    exact ⟨(o (a + 1) (by rw [c1]; omega)).1.trans c1, o11.1.trans c2, o12.1.trans c3, (oa.2.2.2.2.2.2 800).trans c4, (oa.2.2.2.2.2.2 803).trans c5, o11.2.1.trans c6, (oa.2.2.2.2.2.2 804).trans c7, o12.2.1.trans c8⟩
theorem Rel.ext {hx : Nat} {st st2 : HSt} {ms : MSt} (R : Rel hx st ms) (w2 : Wf st2) (hi2 : Hi st2) (E : Ext st st2) : Rel hx st2 ms := by
  obtain ⟨t, nr, r, w, hi, h, p, T, U, I, V, J⟩ := R
  have Re : Re0 hx st2 ms := Re0.ext ⟨t, nr, r, w, hi, h, p, T, U, I, V⟩ w2 hi2 E
  obtain ⟨t', nr', r', a1, a2, a3, a4, a5, a6, a7, a8⟩ := Re
  have e16 := E (hx + 16) (h.lt hi (by omega))
  refine ⟨t', nr', r', a1, a2, a3, a4, a5, a6, a7, a8, fun k hk => ?_, fun j k S hj hk a b => J.2 j k S hj hk (by rw [e16.2.2.2.2.1] at a; exact a) (by rw [e16.2.2.2.2.1] at b; exact b)⟩
  rw [e16.2.2.2.2.1]
  rcases J.1 k hk with q | ⟨S, r, a, b, c, V, d⟩
  · exact Or.inl q
  · exact Or.inr ⟨S, r, a, b, c.ext w hi E, V, d⟩
theorem h_comes0 {hx : Nat} {st : HSt} {ms : MSt} {ql qr : Option Nat} (R : Rel hx st ms) : ∃ s1 P, fh_X0_comesAgain (hx + 27) (some (hx + 3)) ql qr st = fh_X0_comesAgain_j16 (hx + 27) (some (hx + 3)) ql qr s1 ∧ Rel hx s1 ms ∧ gR s1 10 (hx + 27) = some P ∧ gK s1 P = 23 ∧ gL s1 P = 2709 ∧ ∀ q u, RqR st q u → RqR s1 q u := by
  have R0 := R
  obtain ⟨t, nr, r, w, hi, h, p, T, U, I, V, J⟩ := R
  unfold fh_X0_comesAgain
  rw [chk_t (isk_t (k27 h))]
  rcases p with p | ⟨P, p1, p2, p3⟩
  · obtain ⟨w2, hi2, E2, kN, lN⟩ := Wf_longs w hi
    have R2 : Rel hx (nO st 23 2709) ms := R0.ext w2 hi2 E2
    have h2 : Sh hx (nO st 23 2709) := h.ext hi E2
    have P2 : PkR hx (nO st 23 2709) := by obtain ⟨_, _, _, -, -, -, q, -⟩ := R2; exact q
    let s1 := sR (nO st 23 2709) 10 (hx + 27) (some (gN st))
    have F : Fr (fun b => b = hx + 27) (nO st 23 2709) s1 := Fr.sR rfl rfl
    have g10 : gR s1 10 (hx + 27) = some (gN st) := sR_R
    have R3 : Rel hx s1 ms := R2.sc (F.mo (fun b e => Or.inl (by omega))) (Or.inr ⟨gN st, g10, kN, lN⟩) MF.rf (fun _ _ => rfl)
    refine ⟨s1, gN st, ?_, R3, g10, kN, lN, fun q u Q => ?_⟩
    · rw [p, if_pos rfl, bs_, chk_t (isk_t (k27 h2))]
    · have Q2 : RqR (nO st 23 2709) q u := by
        rcases Q with Q | ⟨b, c, q1, q2, q3, q4⟩
        · exact Or.inl Q
        · exact Or.inr ⟨b, c, q1, q2, q3.ext w hi E2, q4⟩
      exact Rq_fr Q2 (F.mo (fun b e => (Or.inl (by omega) : Sc hx (nO st 23 2709) b))) (fun b j hb hj => sc_rule h2 P2 hb hj (ru_k w2 hb hj))
  · refine ⟨st, P, ?_, R0, p1, p2, p3, fun _ _ Q => Q⟩
    rw [p1, if_neg (fun e => by cases e)]; rfl
theorem sim_zigzag : Sim3 Rel fh_X11_zigzag fm_zigzag := sim3_of (fun hx st ms a b c R => by
  have R0 := R
  obtain ⟨t, nr, r, w, hi, h, p, T, U, I, V, J⟩ := R
  unfold fh_X11_zigzag fm_zigzag
  rw [chk_t (st_k h), h_ask w h I.1 U.1, bs_, m_ask rfl U.2.1, bs_]
  dsimp only
  rcases ca_c (v := ms.2.1 26) (a := a) (b := b) U.2.2.1 with e | ⟨e, hr, ha, hb⟩
  · rw [e]
    exact ⟨(st, -1), (ms, -1), rfl, rfl, rfl, R0⟩
  rw [e, if_neg (show ¬ (1 : Int32) = 0 by decide), if_neg (show ¬ (1 : Int32) = 0 by decide), h_in (L := 0) (U := 1) (by decide) (by decide), bs_, m_in (L := 0) (U := 1) (by decide) (by decide), bs_]
  dsimp only
  rcases wI_c c 0 1 with ⟨e1, l1⟩ | ⟨e1, l1, l2⟩
  · rw [e1]
    exact ⟨(st, -1), (ms, -1), rfl, rfl, rfl, R0⟩
  rw [e1, if_neg (show ¬ (1 : Int32) = 0 by decide), if_neg (show ¬ (1 : Int32) = 0 by decide)]
  obtain ⟨ql, l, Ql, Ml, el⟩ := ask_rule w h p U ha
  obtain ⟨qr, u, Qr, Mr, er⟩ := ask_rule w h p U hb
  obtain ⟨s1, P, f1, R1, rP, kP, lP, Qx⟩ := h_comes0 (ql := ql) (qr := qr) R0
  have R1' := R1
  obtain ⟨t1, nr1, r1, w1, hi1, h1, p1, T1, U1, I1, V1, J1⟩ := R1
  obtain ⟨w0, y, d, sp, fl, -, -, hd1, -, -, -, -, hd, -⟩ := id V
  obtain ⟨o, f2, ow, cm⟩ := h_comes w1 h1 p1 rP kP lP I1 V hd1 (by omega) (Qx _ _ Ql) (Qx _ _ Qr)
  obtain ⟨m1, g1, O1⟩ := on_m (ms := ms)
  obtain ⟨m2, g2, a0, a1, F2⟩ := m_errs (ms := m1) (v := ms.2.1 26) O1.2.1 hd1 (by omega)
  have v2 : m2.2.1 26 = ms.2.1 26 := (F2.A 26 rfl).trans O1.2.1
  obtain ⟨m3, g3, H3, -, F3⟩ := m_keepsDay (d := 0) v2 V (by omega)
  have F03 : MF mXq ms m3 := (O1.1.tr (F2.mo (fun k hk => mXd_q k (mX27_d k hk)))).tr (F3.mo mXk_q)
  obtain ⟨z, g4, F4, ⟨n, hn⟩, res⟩ := m_zdays (x := a) (z := b) (a3 := c) (e0 := pErr (ms.2.1 26) 0) (e1 := pErr (ms.2.1 26) 1) (m0 := m3) ((F3.A 26 rfl).trans v2) V (by rw [F3.A 27 rfl]; exact a0) (by rw [F3.A 27 rfl]; exact a1) (V.err (by omega)) (V.err (by omega)) (Ml.fr F03 rfl rfl rfl) (Mr.fr F03 rfl rfl rfl) H3
  obtain ⟨m5, g5, h5, F5⟩ := m_putv (ms := z.2.2) (v := ms.2.1 26) (fun i hi => by rw [F4.A 31 rfl, F3.A 31 rfl, F2.A 31 rfl]; exact O1.2.2 i hi) (fun i hi => by rw [hn]; exact (zS_ok V n).2.2.2 i hi)
  have R5 : Rel hx o.1 m5 := R1'.on2 ow ((F03.tr (F4.mo mXz_q)).tr (F5.mo mX26_q)) h5
  have ho : Sh hx o.1 := h1.fr ow.1
  have eM : (fm_keeps ms).bind (fun x7 => (fm_errsAsTold x7).bind fun x9 => (fm_keepsDay (0 : Int32) x9).bind fun x11 => (iter (fun x : (Int32 × Int32 × MSt) => fm_zigzag_s41 a b c x.1 x.2.1 x.2.2) mFuel ((-2 : Int32), (1 : Int32), x11)).bind (Sum.elim (fun o : MSt × Int32 => (some o : Option (MSt × Int32))) (fun x : (Int32 × Int32 × MSt) => fm_zigzag_j120 x.1 x.2.2))) = some (m5, z.1) := by
    rw [g1, bs_, g2, bs_, show fm_keepsDay 0 m2 = some m3 from g3, bs_, g4]
    show fm_zigzag_j120 z.1 z.2.2 = _
    unfold fm_zigzag_j120
    rw [g5, bs_]
  rw [eM, chk_t (st_k h), el st Fr.rf, bs_]
  dsimp only
  rw [chk_t (st_k h), er st Fr.rf, bs_]
  dsimp only
  rw [r1109 h, dr_of (k27 h), bs_, r1104 h, f1, f2, bs_]
  rcases cm with ⟨c1, i, j, hit, i4, i5⟩ | ⟨c0, no⟩
  · rw [if_neg (by rw [c1]; decide), chk_t (st_k ho), chk_t (st_k ho), r1109 ho, dr_of (k27 ho), bs_, bs_, i4, i5]
    have ez : z.1 = zA c i j := by
      rcases res with ⟨-, q⟩ | ⟨i2, j2, q, e⟩
      · exact (hit.no q).elim
      · obtain ⟨rfl, rfl⟩ := hit.uq q; exact e
    refine ⟨(o.1, zA c i j), (m5, z.1), ?_, rfl, ez.symm, R5⟩
    unfold zA
    split <;> rfl
  · rw [if_pos c0]
    have ez : z.1 = -2 := by
      rcases res with ⟨q, -⟩ | ⟨i2, j2, q, e⟩
      · exact q
      · exact (q.no no).elim
    exact ⟨(o.1, -2), (m5, z.1), rfl, rfl, ez.symm, R5⟩)
