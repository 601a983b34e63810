/-! ahead -/
section SPARE
variable {hx : Nat} {st : HSt}
theorem sp_k (h : Sh hx st) {i : Nat} (hi : i < 7) : gK st (hx + 33 + 10 * i) = 10 := by
  have := h.1 (33 + 10 * i) (by omega)
  rw [kd_sp i hi, show hx + (33 + 10 * i) = hx + 33 + 10 * i by omega] at this
  exact this
theorem sp_q0 (h : Sh hx st) : gQ st (hx + 31) 0 = some (hx + 33) := h.2.2.2.2.1.2.2.2.2.2.2.2.2.2.2.2 0 (by omega)
theorem sp_k0 (h : Sh hx st) : gK st (hx + 33) = 10 := sp_k h (i := 0) (by omega)
theorem st_spares (h : Sh hx st) : dr st (gR st 6 (hx + 27)) 27 = some (hx + 31) := by
  rw [h.2.2.2.2.1.2.2.2.2.2.1]; exact dr_of (h.k (by omega) rfl)
theorem sp_L (h : Sh hx st) : gL st (hx + 31) = 7 := h.2.2.2.2.1.2.2.2.2.2.2.1
theorem k27 (h : Sh hx st) : gK st (hx + 27) = 1 := h.k (by omega) rfl
theorem k3 (h : Sh hx st) : gK st (hx + 3) = 9 := h.k (by omega) rfl
theorem r800 (w : Wf st) (h : Sh hx st) : gR st 800 (hx + 3) = some (hx + 3 + 1) := (w.2.2.2 _ (k3 h)).2.2.2.1
theorem r1104 (h : Sh hx st) : gR st 1104 hx = some (hx + 3) := h.2.1.2.2.2.2.1
theorem r1109 (h : Sh hx st) : gR st 1109 hx = some (hx + 27) := h.2.1.2.2.2.2.2.2.2.2.2.2
theorem sc_27 {i : Nat} (hi : i < 7) : ¬ Dx (hx + 33 + 10 * i) (hx + 28) (hx + 27) := by unfold Dx Sx Lx; omega
theorem dx_si {i j : Nat} (hj : j < 17) : ¬ Dx (hx + 33 + 10 * i) (hx + 28) (hx + j) := by unfold Dx Sx Lx; omega
end SPARE
/-- the first spare takes the site's Span and goes on -/
theorem h_after {hx r D n : Nat} {st : HSt} {v : Nat → Int32} {ql qr : Option Nat} {l u : Option Ru} (w : Wf st) (h : Sh hx st) (S : SpR st (hx + 3 + 1) r v) (E : ErR st (hx + 3) v) (V : VOk D v) (Ql : RqR st ql l) (Qr : RqR st qr u) (hn : n ≤ 400) (hD : D ≤ 10000) : ∃ st2, fh_X0_spanAfter (hx + 27) (some (hx + 3)) ql qr (nI n) st = some (st2, some (hx + 33)) ∧ SpR st2 (hx + 33) r (pGo l u n v) ∧ Fr (Dx (hx + 33) (hx + 28)) st st2 := by
  obtain ⟨s1, e1, S1, F1⟩ := h_become (a := hx + 33) (b := hx + 3 + 1) w (sp_k0 h) S V (by omega)
  have F1' : Fr (Dx (hx + 33) (hx + 28)) st s1 := F1.mo (fun _ e => Or.inl e)
  have h1 := h.fr F1
  have w1 := F1.Wf w
  have E1 : ErR s1 (hx + 3) v := E.fr F1 (by unfold Sx; omega) KpR.rf
  have dxr : ∀ b j, gK st b = 7 → j < 5 → ¬ Dx (hx + 33) (hx + 28) (b + j) := dx_ru w h.lk (sp_k0 h)
  obtain ⟨s2, e2, S2, F2⟩ := h_go (h := hx + 27) (a := hx + 33) (S := hx + 3) (n := n) (x := nI n) w1 (k27 h1) h1.2.2.2.2.1.1 h1.lk S1 V E1 (Rq_fr Ql F1' dxr) (Rq_fr Qr F1' dxr) rfl hn hD
  refine ⟨s2, ?_, S2, F1'.tr F2⟩
  unfold fh_X0_spanAfter
  rw [chk_t (isk_t (k27 h)), st_spares h, bs_, sp_L h, chk_t (by decide), dr_of (k3 h), bs_, cln0, sp_q0 h, dr_of (sp_k0 h), bs_, r800 w h, e1, bs_, chk_t (isk_t (k27 h1)), e2, bs_]
theorem sim_ahead : Sim4 Rel fh_X11_ahead fm_ahead := sim4_of (fun hx st ms a b c k R => by
  have R0 := R
  obtain ⟨t, nr, r, w, hi, h, p, T, U, I, V, J⟩ := R
  unfold fh_X11_ahead fm_ahead
  rw [chk_t (st_k h), h_ask w h I.1 U.1, bs_, m_ask rfl U.2.1, bs_]
  dsimp only
  rcases ca_c (v := ms.2.1 26) (a := a) (b := b) U.2.2.1 with e | ⟨e, hr, ha, hb⟩
  · rw [e]
    exact ⟨(st, -1), (ms, -1), rfl, rfl, rfl, R0⟩
  · rw [e, if_neg (show ¬ (1 : Int32) = 0 by decide), if_neg (show ¬ (1 : Int32) = 0 by decide), h_in (L := 0) (U := 400) (by decide) (by decide), bs_, m_in (L := 0) (U := 400) (by decide) (by decide), bs_]
    dsimp only
    rcases wI_c c 0 400 with ⟨e1, l1⟩ | ⟨e1, l1, l2⟩
    · rw [e1]
      exact ⟨(st, -1), (ms, -1), rfl, rfl, rfl, R0⟩
    · rw [e1, if_neg (show ¬ (1 : Int32) = 0 by decide), if_neg (show ¬ (1 : Int32) = 0 by decide), h_in (L := 0) (U := 5) (by decide) (by decide), bs_, m_in (L := 0) (U := 5) (by decide) (by decide), bs_]
      dsimp only
      rcases wI_c k 0 5 with ⟨e2, l3⟩ | ⟨e2, l3, l4⟩
      · rw [e2]
        exact ⟨(st, -1), (ms, -1), rfl, rfl, rfl, R0⟩
      · obtain ⟨n, hn, rfl⟩ := n_of (a := c) (U := 400) l1 l2
        obtain ⟨ql, l, Ql, Ml, el⟩ := ask_rule w h p U ha
        obtain ⟨qr, u, Qr, Mr, er⟩ := ask_rule w h p U hb
        rw [e2, if_neg (show ¬ (1 : Int32) = 0 by decide), if_neg (show ¬ (1 : Int32) = 0 by decide), chk_t (st_k h), el st Fr.rf, bs_]
        dsimp only
        rw [chk_t (st_k h), er st Fr.rf, bs_]
        dsimp only
        rw [r1109 h, dr_of (k27 h), bs_, r1104 h]
        obtain ⟨s2, f2, S2, F2⟩ := h_after (n := n) w h I.1 I.2.1 V Ql Qr (by omega) (by omega)
        obtain ⟨m1, g1, K1, G1⟩ := m_keeps (ms := ms)
        have v1 : m1.2.1 26 = ms.2.1 26 := G1.A 26 rfl
        obtain ⟨m2, g2, M2, G2⟩ := m_springs (n := n) (q := nI n) v1 V (by omega) (by omega) rfl (Ml.fr G1 rfl rfl rfl) (Mr.fr G1 rfl rfl rfl)
        have V2 := V.go (l := l) (r := u) n
        obtain ⟨m3, g3, M3, G3⟩ := m_putv (ms := m2) (v := ms.2.1 26) (fun i hi => by rw [G2.A 31 rfl]; exact K1 i hi) (fun i hi => by rw [M2]; exact go_hi hi n V)
        rw [f2, bs_, g1, bs_, g2, bs_]
        dsimp only
        have w2 := F2.Wf w
        have k10 := S2.2.2.1
        have R3 : Rel hx s2 m3 := R0.sc (F2.mo (sc_dx (i := 0) (by omega))) (p.fr F2 (sc_27 (i := 0) (by omega))) (((G1.mo mX31_q).tr (G2.mo mXd_q)).tr (G3.mo mX26_q)) (fun i _ => by rw [M3])
        obtain ⟨w0, y, d, sp, fl, h0, h6, h1, h2, h4, hw0, hy, hd, hsp, -⟩ := id V2
        have hy0 := h6 0 (by omega)
        have hy1 := h6 1 (by omega)
        obtain ⟨j, hj, rfl⟩ := n_of (a := k) (U := 5) l3 l4
        rcases (by omega : j = 0 ∨ j = 1 ∨ j = 2 ∨ j = 3 ∨ j = 4 ∨ j = 5) with rfl | rfl | rfl | rfl | rfl | rfl
        · refine ⟨(s2, if pGap (pGo l u n (ms.2.1 26)) = 0 then pGo l u n (ms.2.1 26) 1 else -2), (m3, if pGap (pGo l u n (ms.2.1 26)) = 0 then pGo l u n (ms.2.1 26) 1 else -2), ?_, ?_, rfl, R3⟩
          · rw [if_pos (show nI 0 = 0 from rfl), dr_of k10, bs_, h_met w2 S2, bs_]
            dsimp only
            by_cases q : pGap (pGo l u n (ms.2.1 26)) = 0
            · rw [if_pos q, if_neg (show ¬ (1 : Int32) = 0 by decide), if_pos q, chk_t (isk_t k10), S2.2.2.2.1]
            · rw [if_neg q, if_pos rfl, if_neg q]
          · rw [if_pos (show nI 0 = 0 from rfl), m_met M2, bs_]
            dsimp only
            by_cases q : pGap (pGo l u n (ms.2.1 26)) = 0
            · rw [if_pos q, if_neg (show ¬ (1 : Int32) = 0 by decide), if_pos q, chk_t (by decide), g3, bs_, M2, cln1]
            · rw [if_neg q, if_pos rfl, if_neg q, g3, bs_]
        · refine ⟨(s2, pMiss (pGo l u n (ms.2.1 26)) 0), (m3, pMiss (pGo l u n (ms.2.1 26)) 0), ?_, ?_, rfl, R3⟩
          · rw [if_neg (show ¬ nI 1 = 0 by decide), if_pos (show nI 1 = 1 from rfl), dr_of k10, bs_, h_missL w2 S2 V2, bs_]
          · rw [if_neg (show ¬ nI 1 = 0 by decide), if_neg (show ¬ 3 ≤ nI 1 by decide), m_miss (w := 0) M2 hy0 hy1 (by omega) (by omega) (show nI 1 - 1 = nI 0 by decide) (by omega), bs_]
            dsimp only
            rw [g3, bs_]
        · refine ⟨(s2, pMiss (pGo l u n (ms.2.1 26)) 1), (m3, pMiss (pGo l u n (ms.2.1 26)) 1), ?_, ?_, rfl, R3⟩
          · rw [if_neg (show ¬ nI 2 = 0 by decide), if_neg (show ¬ nI 2 = 1 by decide), if_pos (show nI 2 = 2 from rfl), dr_of k10, bs_, h_missH w2 S2 V2, bs_]
          · rw [if_neg (show ¬ nI 2 = 0 by decide), if_neg (show ¬ 3 ≤ nI 2 by decide), m_miss (w := 1) M2 hy0 hy1 (by omega) (by omega) (show nI 2 - 1 = nI 1 by decide) (by omega), bs_]
            dsimp only
            rw [g3, bs_]
        · refine ⟨(s2, pCrk (pGo l u n (ms.2.1 26)) 0 (y 0)), (m3, pCrk (pGo l u n (ms.2.1 26)) 0 (y 0)), ?_, ?_, rfl, R3⟩
          · rw [if_neg (show ¬ nI 3 = 0 by decide), if_neg (show ¬ nI 3 = 1 by decide), if_neg (show ¬ nI 3 = 2 by decide), if_pos (show nI 3 = 3 from rfl), dr_of k10, bs_, h_crook (s := 0) (x := 0) w2 S2 rfl (by omega) hy0 (by omega), bs_]
          · rw [if_neg (show ¬ nI 3 = 0 by decide), if_pos (show 3 ≤ nI 3 by decide), if_neg (show ¬ 5 ≤ nI 3 by decide), m_crooked (s := 0) M2 (show nI 3 - 3 = nI 0 by decide) (by omega) hy0 (by omega), bs_]
            dsimp only
            rw [g3, bs_]
        · refine ⟨(s2, pCrk (pGo l u n (ms.2.1 26)) 1 (y 1)), (m3, pCrk (pGo l u n (ms.2.1 26)) 1 (y 1)), ?_, ?_, rfl, R3⟩
          · rw [if_neg (show ¬ nI 4 = 0 by decide), if_neg (show ¬ nI 4 = 1 by decide), if_neg (show ¬ nI 4 = 2 by decide), if_neg (show ¬ nI 4 = 3 by decide), if_pos (show nI 4 = 4 from rfl), dr_of k10, bs_, h_crook (s := 1) (x := 1) w2 S2 rfl (by omega) hy1 (by omega), bs_]
          · rw [if_neg (show ¬ nI 4 = 0 by decide), if_pos (show 3 ≤ nI 4 by decide), if_neg (show ¬ 5 ≤ nI 4 by decide), m_crooked (s := 1) M2 (show nI 4 - 3 = nI 1 by decide) (by omega) hy1 (by omega), bs_]
            dsimp only
            rw [g3, bs_]
        · refine ⟨(s2, if pTm (pGo l u n (ms.2.1 26)) = 0 then 0 else 1), (m3, if pTm (pGo l u n (ms.2.1 26)) = 0 then 0 else 1), ?_, ?_, rfl, R3⟩
          · rw [if_neg (show ¬ nI 5 = 0 by decide), if_neg (show ¬ nI 5 = 1 by decide), if_neg (show ¬ nI 5 = 2 by decide), if_neg (show ¬ nI 5 = 3 by decide), if_neg (show ¬ nI 5 = 4 by decide), dr_of k10, bs_, h_time w2 S2 V2, bs_]
            dsimp only
            split <;> rfl
          · rw [if_neg (show ¬ nI 5 = 0 by decide), if_pos (show 3 ≤ nI 5 by decide), if_pos (show 5 ≤ nI 5 by decide), m_time' M2 V2, bs_]
            dsimp only
            rw [g3]
            split <;> rfl)
