/-! tip, count, mend, ruin -/
theorem Rel.ms {hx : Nat} {st : HSt} {ms ms2 : MSt} (R : Rel hx st ms) (G : MF mXq ms ms2) (A : Ag (ms.2.1 26) (ms2.2.1 26)) : Rel hx st ms2 := by
  have p : PkR hx st := by obtain ⟨t, nr, r, w, hi, h, p, -⟩ := R; exact p
  exact R.sc Fr.rf p G A
theorem mX27_q : ∀ k, mX27 k = true → mXq k = true := fun k h => by
  unfold mX27 at h; rw [beq_iff_eq] at h; subst h; rfl
theorem sim_tip : Sim2 Rel fh_X11_tip fm_tip := sim2_of (fun hx st ms a b R => by
  have R0 := R
  obtain ⟨t, nr, r, w, hi, h, p, T, U, I, V, J⟩ := R
  obtain ⟨w0, y, d, sp, fl, h0, h6, h1, h2, h4, hw0, hy, hd, hsp, -⟩ := id V
  have k9 : gK st (hx + 3) = 9 := h.k (by omega) rfl
  have k10 := I.1.2.2.1
  unfold fh_X11_tip fm_tip
  rw [chk_t (st_k h), h_hasR w h I.1, bs_, m_river rfl, bs_]
  dsimp only
  by_cases hr : ms.2.1 26 0 ≤ 0
  · rw [if_pos hr]
    exact ⟨(st, -100000), (ms, -100000), rfl, rfl, rfl, R0⟩
  · rw [if_neg hr, if_neg (show ¬ (1 : Int32) = 0 by decide), if_neg (show ¬ (1 : Int32) = 0 by decide), h_side, bs_, m_side, bs_]
    dsimp only
    rcases sd_c a with e | ⟨e, s, hs, rfl⟩
    · rw [e]
      exact ⟨(st, -100000), (ms, -100000), rfl, rfl, rfl, R0⟩
    · have hys : y s ≤ 40 := by rcases (by omega : s = 0 ∨ s = 1) with rfl | rfl <;> omega
      have hyo : y (1 - s) ≤ 40 := by
        rcases (by omega : s = 0 ∨ s = 1) with rfl | rfl
        · show y 1 ≤ 40; omega
        · show y 0 ≤ 40; omega
      have i1 : gI st 901 (hx + 3 + 1) = nI d := I.1.2.2.2.1.trans h1
      have er := h_errorOn (s := s) (x := nI s) (d := d) (z := nI d) w I.2.1 rfl hs rfl (by omega)
      rw [e, if_neg (show ¬ (1 : Int32) = 0 by decide), if_neg (show ¬ (1 : Int32) = 0 by decide), chk_t (st_k h), st_site h, bs_, st_span w k9, bs_, i1, er, bs_, m_in (L := 0) (U := 6) (by decide) (by decide), bs_]
      dsimp only
      rw [← pErr_e (v := ms.2.1 26) h1 (by omega)]
      obtain ⟨m1, f1, f2, f3, G⟩ := m_errs (ms := ms) rfl h1 (by omega)
      have hv1 : m1.2.1 26 = ms.2.1 26 := G.A 26 rfl
      have R1 : Rel hx st m1 := R0.ms (G.mo mX27_q) (fun i _ => by rw [hv1])
      have fe : m1.2.1 27 s = pErr (ms.2.1 26) s := by rcases (by omega : s = 0 ∨ s = 1) with rfl | rfl; · exact f2
                                                       · exact f3
      rcases wI_c b 0 6 with ⟨e1, l1⟩ | ⟨e1, l1, l2⟩
      · rw [e1, if_pos rfl, if_neg (n_ne (k := 0) (z := 0) l1 (by omega) (by omega) rfl), if_neg (n_ne (k := 1) (z := 1) l1 (by omega) (by omega) rfl), if_neg (n_ne (k := 2) (z := 2) l1 (by omega) (by omega) rfl), if_neg (n_ne (k := 3) (z := 3) l1 (by omega) (by omega) rfl), if_neg (n_ne (k := 4) (z := 4) l1 (by omega) (by omega) rfl), if_neg (n_ne (k := 5) (z := 5) l1 (by omega) (by omega) rfl), if_neg (n_ne (k := 6) (z := 6) l1 (by omega) (by omega) rfl)]
        exact ⟨(st, -100000), (ms, -100000), rfl, rfl, rfl, R0⟩
      · rw [e1, if_neg (show ¬ (1 : Int32) = 0 by decide)]
        obtain ⟨n, hn, rfl⟩ := n_of (U := 6) l1 l2
        rcases (by omega : n = 0 ∨ n = 1 ∨ n = 2 ∨ n = 3 ∨ n = 4 ∨ n = 5 ∨ n = 6) with rfl | rfl | rfl | rfl | rfl | rfl | rfl
        · refine ⟨(st, ms.2.1 26 (6 + s)), (ms, ms.2.1 26 (6 + s)), ?_, ?_, rfl, R0⟩
          · rw [if_pos (show nI 0 = 0 from rfl), chk_t (isk_t k10), h_yardsOf w I.1 rfl hs, bs_]
          · rw [if_pos (show nI 0 = 0 from rfl), n6, chk_t (inb_n (by omega) (by omega)), nI_clamp (by omega)]
        · refine ⟨(st, pTip (ms.2.1 26) s 0), (ms, pTip (ms.2.1 26) s 0), ?_, ?_, rfl, R0⟩
          · rw [if_neg (show ¬ nI 1 = 0 by decide), if_pos (show nI 1 = 1 from rfl), chk_t (isk_t k10), h_tipL w I.1 rfl hs (h6 s hs) hys, bs_]
          · rw [if_neg (show ¬ nI 1 = 0 by decide), if_neg (show ¬ 3 ≤ nI 1 by decide), m_tipOf (w := 0) rfl rfl hs (h6 s hs) hys (show nI 1 - 1 = nI 0 by decide) (by omega), bs_]
        · refine ⟨(st, pTip (ms.2.1 26) s 1), (ms, pTip (ms.2.1 26) s 1), ?_, ?_, rfl, R0⟩
          · rw [if_neg (show ¬ nI 2 = 0 by decide), if_neg (show ¬ nI 2 = 1 by decide), if_pos (show nI 2 = 2 from rfl), chk_t (isk_t k10), h_tipH w I.1 rfl hs (h6 s hs) hys, bs_]
          · rw [if_neg (show ¬ nI 2 = 0 by decide), if_neg (show ¬ 3 ≤ nI 2 by decide), m_tipOf (w := 1) rfl rfl hs (h6 s hs) hys (show nI 2 - 1 = nI 1 by decide) (by omega), bs_]
        · refine ⟨(st, pCrk (ms.2.1 26) s (y s)), (ms, pCrk (ms.2.1 26) s (y s)), ?_, ?_, rfl, R0⟩
          · rw [if_neg (show ¬ nI 3 = 0 by decide), if_neg (show ¬ nI 3 = 1 by decide), if_neg (show ¬ nI 3 = 2 by decide), if_pos (show nI 3 = 3 from rfl), chk_t (isk_t k10), h_crook w I.1 rfl hs (h6 s hs) hys, bs_]
          · rw [if_neg (show ¬ nI 3 = 0 by decide), if_pos (show 3 ≤ nI 3 by decide), if_pos (show nI 3 = 3 from rfl), m_crooked rfl rfl hs (h6 s hs) hys, bs_]
        · refine ⟨(st, pSee (ms.2.1 26) s (pErr (ms.2.1 26) s) 0), (m1, pSee (ms.2.1 26) s (pErr (ms.2.1 26) s) 0), ?_, ?_, rfl, R1⟩
          · rw [if_neg (show ¬ nI 4 = 0 by decide), if_neg (show ¬ nI 4 = 1 by decide), if_neg (show ¬ nI 4 = 2 by decide), if_neg (show ¬ nI 4 = 3 by decide), if_pos (show nI 4 = 4 from rfl), chk_t (isk_t k10), h_seenL w I.1 rfl hs (h6 (1 - s) (by omega)) hyo, bs_]
          · rw [if_neg (show ¬ nI 4 = 0 by decide), if_pos (show 3 ≤ nI 4 by decide), if_neg (show ¬ nI 4 = 3 by decide), f1, bs_, if_neg (show ¬ nI 4 = 6 by decide), m_seen (w := 0) hv1 V rfl hs fe (V.err hs) (show nI 4 - 4 = nI 0 by decide) (by omega), bs_]
        · refine ⟨(st, pSee (ms.2.1 26) s (pErr (ms.2.1 26) s) 1), (m1, pSee (ms.2.1 26) s (pErr (ms.2.1 26) s) 1), ?_, ?_, rfl, R1⟩
          · rw [if_neg (show ¬ nI 5 = 0 by decide), if_neg (show ¬ nI 5 = 1 by decide), if_neg (show ¬ nI 5 = 2 by decide), if_neg (show ¬ nI 5 = 3 by decide), if_neg (show ¬ nI 5 = 4 by decide), if_pos (show nI 5 = 5 from rfl), chk_t (isk_t k10), h_seenH w I.1 rfl hs (h6 (1 - s) (by omega)) hyo, bs_]
          · rw [if_neg (show ¬ nI 5 = 0 by decide), if_pos (show 3 ≤ nI 5 by decide), if_neg (show ¬ nI 5 = 3 by decide), f1, bs_, if_neg (show ¬ nI 5 = 6 by decide), m_seen (w := 1) hv1 V rfl hs fe (V.err hs) (show nI 5 - 4 = nI 1 by decide) (by omega), bs_]
        · refine ⟨(st, ms.2.1 26 (12 + s)), (m1, ms.2.1 26 (12 + s)), ?_, ?_, rfl, R1⟩
          · obtain ⟨KR, -, -, -, -, R406, L3, -⟩ := w.2.1 r I.1.2.1.1
            rw [if_neg (show ¬ nI 6 = 0 by decide), if_neg (show ¬ nI 6 = 1 by decide), if_neg (show ¬ nI 6 = 2 by decide), if_neg (show ¬ nI 6 = 3 by decide), if_neg (show ¬ nI 6 = 4 by decide), if_neg (show ¬ nI 6 = 5 by decide), if_pos (show nI 6 = 6 from rfl), chk_t (isk_t k10), st_riv I.1, bs_, R406, dr_of (KR 3 (by omega) (by omega)), bs_, L3, chk_t (inb_n hs (by omega)), nI_clamp (by omega), (I.1.2.1.2.2.2.2.2.1 s hs).2.2]
          · rw [if_neg (show ¬ nI 6 = 0 by decide), if_pos (show 3 ≤ nI 6 by decide), if_neg (show ¬ nI 6 = 3 by decide), f1, bs_, if_pos (show nI 6 = 6 from rfl), n12, chk_t (inb_n (by omega) (by omega)), nI_clamp (by omega), hv1])
theorem m_cnt {ms : MSt} {v : Nat → Int32} (hv : ms.2.1 26 = v) : ∃ z : Int32 × Int32 × MSt, iter (fun x : (Int32 × Int32 × MSt) => fm_count_s103 x.1 x.2.1 x.2.2) mFuel ((0 : Int32), (0 : Int32), ms) = some (.inr z) ∧ z.2.2 = ms ∧ z.1 = if v 0 ≤ 0 then 0 else nI (cntM v 80) := by
  by_cases hr : v 0 ≤ 0
  · obtain ⟨n, hn⟩ := mF2
    refine ⟨(0, 0, ms), ?_, rfl, by rw [if_pos hr]⟩
    rw [hn]
    refine iter_x ?_
    show fm_count_s103 0 0 ms = _
    unfold fm_count_s103
    rw [if_neg (by decide), m_river hv, bs_, if_pos hr, if_pos rfl]
  · refine iter_n (fun k (x : Int32 × Int32 × MSt) => x.1 = nI (cntM v k) ∧ x.2.1 = nI k ∧ x.2.2 = ms) 80 _ ?_ ?_ ⟨rfl, rfl, rfl⟩ (by omega)
    · rintro k ⟨q, i, m⟩ hk ⟨hq, hi, hm⟩
      simp only at hq hi hm
      subst hq; subst hi; subst hm
      refine ⟨(nI (cntM v (k + 1)), nI (k + 1), m), ?_, rfl, rfl, rfl⟩
      show fm_count_s103 (nI (cntM v k)) (nI k) m = _
      have e46 : (46 : Int32) + nI k = nI (46 + k) := by show nI 46 + _ = _; rw [nI_add]
      unfold fm_count_s103
      rw [if_neg (show ¬ (80 : Int32) ≤ nI k from nI_ge (b := 80) hk (by omega)), m_river hv, bs_, if_neg hr]
      dsimp only
      rw [if_neg (show ¬ (1 : Int32) = 0 by decide), e46, chk_t (inb_n (by omega) (by omega)), nI_clamp (by omega), hv]
      have ec : cntM v (k + 1) = cntM v k + if v (46 + k) = 99999 then 0 else 1 := rfl
      rw [ec]
      by_cases h9 : v (46 + k) = 99999
      · rw [if_pos h9, if_pos h9, nI_1, Int32.add_zero]; rfl
      · rw [if_neg h9, if_neg h9, nI_1, nI_1]
    · rintro ⟨q, i, m⟩ ⟨hq, hi, hm⟩
      simp only at hq hi hm
      subst hq; subst hi; subst hm
      refine ⟨(nI (cntM v 80), nI 80, m), ?_, rfl, by rw [if_neg hr]⟩
      show fm_count_s103 (nI (cntM v 80)) (nI 80) m = _
      unfold fm_count_s103
      rw [if_pos (by decide)]
theorem sim_count : Sim1 Rel fh_X11_count fm_count := sim1_of (fun hx st ms a R => by
  have R0 := R
  obtain ⟨t, nr, r, w, hi, h, p, T, U, I, V, J⟩ := R
  obtain ⟨w0, y, d, sp, fl, h0, h6, h1, h2, h4, hw0, hy, hd, hsp, -⟩ := id V
  have k9 : gK st (hx + 3) = 9 := h.k (by omega) rfl
  obtain ⟨i1, i2, i3, i4, i5⟩ := id I
  obtain ⟨k5, j0, j2, j3, j4, -⟩ := i1.2.1
  unfold fh_X11_count fm_count
  rw [chk_t (st_k h), st_site h, bs_, st_span w k9]
  simp only [bs_]
  rw [st_riv I.1]
  simp only [bs_]
  rw [h_gap w i1, m_gap rfl, chk_t (show inb 0 286 = true by decide), chk_t (show inb 1 286 = true by decide), chk_t (show inb 4 286 = true by decide), chk_t (show inb 2 286 = true by decide), chk_t (show inb 3 286 = true by decide), chk_t (show inb 5 286 = true by decide), cln0, cln1, cln2, cln3, cln4, cln5, j0, j2, j3, j4, i3, U.1, U.2.1, T.2.2.2.2.1, T.2.2.2.2.2.1]
  obtain ⟨z, e, z1, z2⟩ := m_cnt (ms := ms) rfl
  rw [e]
  by_cases q0 : a = 0
  · rw [if_pos q0, if_pos q0]; exact ⟨_, _, rfl, rfl, rfl, R0⟩
  rw [if_neg q0, if_neg q0]
  by_cases q1 : a = 1
  · rw [if_pos q1, if_pos q1]; exact ⟨_, _, rfl, rfl, rfl, R0⟩
  rw [if_neg q1, if_neg q1]
  by_cases q2 : a = 2
  · rw [if_pos q2, if_pos q2]; exact ⟨_, _, rfl, rfl, i1.2.2.2.1, R0⟩
  rw [if_neg q2, if_neg q2]
  by_cases q3 : a = 3
  · rw [if_pos q3, if_pos q3]; exact ⟨_, _, rfl, rfl, rfl, R0⟩
  rw [if_neg q3, if_neg q3]
  by_cases q4 : a = 4
  · rw [if_pos q4, if_pos q4]; exact ⟨_, _, rfl, rfl, rfl, R0⟩
  rw [if_neg q4, if_neg q4]
  by_cases q5 : a = 5
  · rw [if_pos q5, if_pos q5]; exact ⟨_, _, rfl, rfl, rfl, R0⟩
  rw [if_neg q5, if_neg q5]
  by_cases q6 : a = 6
  · rw [if_pos q6, if_pos q6]; exact ⟨_, _, rfl, rfl, rfl, R0⟩
  rw [if_neg q6, if_neg q6]
  by_cases q7 : a = 7
  · rw [if_pos q7, if_pos q7]
    refine ⟨(st, gI st 802 (hx + 3)), (z.2.2, z.1), rfl, rfl, ?_, by rw [z1]; exact R0⟩
    dsimp only
    rw [z2]
    by_cases hr : ms.2.1 26 0 = 0
    · rw [i5.1 hr, if_pos (by rw [hr]; decide)]
    · rw [(i5.2 hr).1, if_neg (fun q => hr ?_)]
      rw [h0] at q ⊢
      have := (nI_leI (a := w0) (b := 0) (by omega) (by omega)).mp q
      rw [show w0 = 0 by omega]; rfl
  rw [if_neg q7, if_neg q7]
  by_cases q8 : a = 8
  · rw [if_pos q8, if_pos q8]; exact ⟨_, _, rfl, rfl, rfl, R0⟩
  rw [if_neg q8, if_neg q8]
  by_cases q9 : a = 9
  · rw [if_pos q9, if_pos q9]; exact ⟨_, _, rfl, rfl, rfl, R0⟩
  rw [if_neg q9, if_neg q9]
  exact ⟨_, _, rfl, rfl, rfl, R0⟩)
