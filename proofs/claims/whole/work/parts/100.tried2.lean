/-! tried: the reference, and both in step -/
theorem m_tried1 {ms : MSt} {v : Nat → Int32} {D n X od : Nat} {x z a3 a6 cn nm : Int32} {l u : Option Ru} (hv : ms.2.1 26 = v) (V : VOk D v) (hX : X < 2147483648) (ho : od ≤ 100) (hD : D + n < 2 ^ 31) (hn : n ≤ 400) (Rl : MqR ms x l) (Rr : MqR ms z u) : ∃ y : Int64 × Int32 × MSt, iter (fun a : (Int64 × Int32 × MSt) => fm_tried_s88 x z a3 (nI n) (nI od) a6 cn nm a.1 a.2.1 a.2.2) mFuel (lN X, (0 : Int32), ms) = some (.inr y) ∧ y.2.2.2.1 26 = (pGoT l u od n X v).2 ∧ y.1 = lN (pGoT l u od n X v).1 ∧ MF mXd ms y.2.2 := by
  refine iter_w (fun j (a : Int64 × Int32 × MSt) => a.2.1 = nI j ∧ MF mXd ms a.2.2 ∧ ∃ q Y, a.2.2.2.1 26 = q ∧ VOk (D + j) q ∧ a.1 = lN Y ∧ Y < 2147483648 ∧ pGoT l u od (n - j) Y q = pGoT l u od n X v) n _ ?_ ⟨rfl, MF.rf, v, X, hv, V, rfl, hX, rfl⟩ (by omega)
  rintro j ⟨b, i, s⟩ hj ⟨hi, F, q, Y, hq, Vq, hb, hY, G⟩
  simp only at hb hi F hq
  subst hb; subst hi
  rcases Nat.lt_or_ge j n with hlt | hge
  · by_cases hm : pGap q = 0
    · right
      refine ⟨(lN Y, nI j, s), ?_, ?_, ?_, F⟩
      · show fm_tried_s88 x z a3 (nI n) (nI od) a6 cn nm (lN Y) (nI j) s = _
        unfold fm_tried_s88
        rw [if_neg (nI_ge hlt (by omega)), m_met hq, bs_, if_pos hm, if_neg (show ¬ (1 : Int32) = 0 by decide)]
      · rw [← G, pGoT_met hm]; exact hq
      · rw [← G, pGoT_met hm]
    · left
      obtain ⟨w0, y, d, sp, fl, -, -, h1, -, -, -, -, hd, -⟩ := id Vq
      obtain ⟨s1, q1, a0, a1, F1⟩ := m_errs hq h1 (by omega)
      have hF1 : MF mXd ms s1 := F.tr (F1.mo mX27_d)
      obtain ⟨s2, q2, h2, F2⟩ := m_passes ((F1.A 26 rfl).trans hq) Vq a0 a1 (Vq.err (by omega)) (Vq.err (by omega)) (Rl.fr hF1 rfl rfl rfl) (Rr.fr hF1 rfl rfl rfl)
      have hF2 : MF mXd ms s2 := hF1.tr (F2.mo mXe_d)
      have hG : pGoT l u od (n - (j + 1)) (nx Y) (pFl od (nx Y) (pDay q l u (pErr q 0) (pErr q 1))) = pGoT l u od n X v := by
        rw [← G, show n - j = (n - (j + 1)) + 1 by omega]
        show _ = (if pGap q = 0 then (Y, q) else pGoT l u od (n - (j + 1)) (nx Y) (pFl od (nx Y) (pDay q l u (pErr q 0) (pErr q 1))))
        rw [if_neg hm]
      have head : fm_tried_s88 x z a3 (nI n) (nI od) a6 cn nm (lN Y) (nI j) s = (if (nx Y) / 65536 % 100 < od then (iter (fun x1 : (Int32 × MSt) => fm_tried_s151 x z a3 (nI n) (nI od) a6 (lN (nx Y)) cn nm (nI j) x1.1 x1.2) mFuel ((0 : Int32), s2)).bind (Sum.elim (fun o : MSt × Int32 => (some (.inl o) : Option ((MSt × Int32) ⊕ ((Int64 × Int32 × MSt) ⊕ (Int64 × Int32 × MSt))))) (fun x1 : (Int32 × MSt) => fm_tried_j170 x z a3 (nI n) (nI od) a6 (lN (nx Y)) cn nm (nI j) x1.2)) else some (.inr (.inl (lN (nx Y), nI (j + 1), s2)))) := by
        unfold fm_tried_s88
        rw [if_neg (nI_ge hlt (by omega)), m_met hq, bs_, if_neg hm, if_pos rfl]
        dsimp only
        rw [q1, bs_, q2, bs_, nx_m hY, dr_m (nx_lt Y) ho, nI_1]
      show (∃ y, fm_tried_s88 x z a3 (nI n) (nI od) a6 cn nm (lN Y) (nI j) s = _ ∧ _)
      rw [head]
      by_cases hf : (nx Y) / 65536 % 100 < od
      · have st : ∀ (k : Nat) (m : MSt) (v : Nat → Int32), k < 2 → m.2.1 26 = v → fm_tried_s151 x z a3 (nI n) (nI od) a6 (lN (nx Y)) cn nm (nI j) (nI k) m = some (.inr (.inl (nI (k + 1), setV m (pTake v k 1)))) := fun k m v hk hm => by
          unfold fm_tried_s151
          rw [if_neg (show ¬ (2 : Int32) ≤ nI k from nI_ge (b := 2) hk (by omega)), m_takes hm rfl hk, bs_, nI_1]
        have t0 := st 0 s2 _ (by omega) h2
        have t1 := st 1 (setV s2 (pTake (pDay q l u (pErr q 0) (pErr q 1)) 0 1)) _ (by omega) (setV_said _ _)
        have t2 : ∀ m, fm_tried_s151 x z a3 (nI n) (nI od) a6 (lN (nx Y)) cn nm (nI j) (nI 2) m = some (.inr (.inr (nI 2, m))) := fun m => by
          unfold fm_tried_s151; rw [if_pos (by decide)]
        obtain ⟨fu, hfu⟩ := mF2
        refine ⟨(lN (nx Y), nI (j + 1), setV s2 (pTake (pTake (pDay q l u (pErr q 0) (pErr q 1)) 0 1) 1 1)), ?_, ⟨rfl, hF2.tr (MF.setV rfl), pFl od (nx Y) (pDay q l u (pErr q 0) (pErr q 1)), nx Y, ?_, Vq.day.fl, rfl, nx_lt Y, hG⟩, hlt⟩
        · rw [if_pos hf, hfu]
          show (iter (fun x1 : (Int32 × MSt) => fm_tried_s151 x z a3 (nI n) (nI od) a6 (lN (nx Y)) cn nm (nI j) x1.1 x1.2) (fu + 3) (nI 0, s2)).bind _ = _
          rw [iter_c t0, iter_c t1, iter_x (t2 _)]
          show fm_tried_j170 x z a3 (nI n) (nI od) a6 (lN (nx Y)) cn nm (nI j) _ = _
          unfold fm_tried_j170
          rw [nI_1, setV_2]
        · show (setV s2 _).2.1 26 = _
          rw [setV_said]; unfold pFl; rw [if_pos hf]
      · refine ⟨(lN (nx Y), nI (j + 1), s2), by rw [if_neg hf], ⟨rfl, hF2, pFl od (nx Y) (pDay q l u (pErr q 0) (pErr q 1)), nx Y, ?_, Vq.day.fl, rfl, nx_lt Y, hG⟩, hlt⟩
        unfold pFl; rw [if_neg hf]; exact h2
  · have ek : j = n := by omega
    subst ek
    right
    refine ⟨(lN Y, nI j, s), ?_, ?_, ?_, F⟩
    · show fm_tried_s88 x z a3 (nI j) (nI od) a6 cn nm (lN Y) (nI j) s = _
      unfold fm_tried_s88
      rw [if_pos (nI_le (Nat.le_refl _) (by omega))]
    · rw [← G, Nat.sub_self]; exact hq
    · rw [← G, Nat.sub_self]; rfl
theorem sim_tried : Sim6 Rel fh_X11_tried fm_tried := sim6_of (fun hx st ms a b m n od wh R => by
  have R0 := R
  obtain ⟨t, nr, r, w, hi, h, p, T, U, I, V, J⟩ := R
  unfold fh_X11_tried fm_tried
  rw [chk_t (st_k h), h_ask w h I.1 U.1, bs_, m_ask rfl U.2.1, bs_]
  dsimp only
  rcases ca_c (v := ms.2.1 26) (a := a) (b := b) U.2.2.1 with e | ⟨e, hr, ha, hb⟩
  · rw [e]
    exact ⟨(st, -1), (ms, -1), rfl, rfl, rfl, R0⟩
  rw [e, if_neg (show ¬ (1 : Int32) = 0 by decide), if_neg (show ¬ (1 : Int32) = 0 by decide), h_in (L := 1) (U := 20) (by decide) (by decide), bs_, m_in (L := 1) (U := 20) (by decide) (by decide), bs_]
  dsimp only
  rcases wI_c m 1 20 with ⟨e1, l1⟩ | ⟨e1, l1, l2⟩
  · rw [e1]
    exact ⟨(st, -1), (ms, -1), rfl, rfl, rfl, R0⟩
  rw [e1, if_neg (show ¬ (1 : Int32) = 0 by decide), if_neg (show ¬ (1 : Int32) = 0 by decide), h_in (L := 1) (U := 200) (by decide) (by decide), bs_, m_in (L := 1) (U := 200) (by decide) (by decide), bs_]
  dsimp only
  rcases wI_c n 1 200 with ⟨e2, l3⟩ | ⟨e2, l3, l4⟩
  · rw [e2]
    exact ⟨(st, -1), (ms, -1), rfl, rfl, rfl, R0⟩
  rw [e2, if_neg (show ¬ (1 : Int32) = 0 by decide), if_neg (show ¬ (1 : Int32) = 0 by decide), h_in (L := 0) (U := 100) (by decide) (by decide), bs_, m_in (L := 0) (U := 100) (by decide) (by decide), bs_]
  dsimp only
  rcases wI_c od 0 100 with ⟨e3, l5⟩ | ⟨e3, l5, l6⟩
  · rw [e3]
    exact ⟨(st, -1), (ms, -1), rfl, rfl, rfl, R0⟩
  rw [e3, if_neg (show ¬ (1 : Int32) = 0 by decide), if_neg (show ¬ (1 : Int32) = 0 by decide), h_in (L := 0) (U := 1) (by decide) (by decide), bs_, m_in (L := 0) (U := 1) (by decide) (by decide), bs_]
  dsimp only
  rcases wI_c wh 0 1 with ⟨e4, l7⟩ | ⟨e4, l7, l8⟩
  · rw [e4]
    exact ⟨(st, -1), (ms, -1), rfl, rfl, rfl, R0⟩
  obtain ⟨m, hm, rfl⟩ := n_of (a := m) (U := 20) (by omega) l2
  obtain ⟨n, hn, rfl⟩ := n_of (a := n) (U := 200) (by omega) l4
  obtain ⟨od, hod, rfl⟩ := n_of (a := od) (U := 100) l5 l6
  obtain ⟨wh, hwh, rfl⟩ := n_of (a := wh) (U := 1) l7 l8
  obtain ⟨ql, l, Ql, Ml, el⟩ := ask_rule w h p U ha
  obtain ⟨qr, u, Qr, Mr, er⟩ := ask_rule w h p U hb
  obtain ⟨m1, g1, O1⟩ := on_m (ms := ms)
  obtain ⟨X, hX, eX⟩ := nI_of (x := ms.2.1 26 5) (fun q => by have := I.2.2.2.1; exact Int32.lt_irrefl (Int32.lt_of_lt_of_le q this))
  rw [e4, if_neg (show ¬ (1 : Int32) = 0 by decide), if_neg (show ¬ (1 : Int32) = 0 by decide), chk_t (st_k h), st_site h, bs_, r1109 h, dr_of (k27 h), bs_, I.2.2.1, chk_t (show inb 5 286 = true by decide), g1, bs_, cln5, eX, nI_l (by omega)]
  have o0 : OnW hx st (sI st 3 (hx + 27) (nI X)) := ⟨Fr.sI (Or.inl (by omega)), rfl⟩
  have key := iter_rel (s1 := fun x : (Int32 × Int32 × Int32 × HSt) => fh_X11_tried_s77 hx a b (nI m) (nI n) (nI od) (nI wh) x.1 x.2.1 x.2.2.1 x.2.2.2) (s2 := fun x : (Int64 × Int32 × Int32 × MSt) => fm_tried_s79 a b (nI m) (nI n) (nI od) (nI wh) x.1 x.2.1 x.2.2.1 x.2.2.2) (fun (x : Int32 × Int32 × Int32 × HSt) (y : Int64 × Int32 × Int32 × MSt) => ∃ j Y, j ≤ m ∧ y.2.1 = (if wh = 0 then x.1 else x.2.1) ∧ x.2.2.1 = nI j ∧ y.2.2.1 = nI j ∧ Y < 2147483648 ∧ y.1 = lN Y ∧ gI x.2.2.2 3 (hx + 27) = nI Y ∧ OnW hx st x.2.2.2 ∧ OnM ms y.2.2.2) (fun x => m - x.2.2.1.toNatClampNeg) (fun (_ : HSt × Int32) (_ : MSt × Int32) => False) (fun (x : Int32 × Int32 × Int32 × HSt) (y : Int64 × Int32 × Int32 × MSt) => y.2.1 = (if wh = 0 then x.1 else x.2.1) ∧ OnW hx st x.2.2.2 ∧ OnM ms y.2.2.2) ?_ 1000000 ((0 : Int32), (0 : Int32), (0 : Int32), sI st 3 (hx + 27) (nI X)) (lN X, (0 : Int32), (0 : Int32), m1) ⟨0, X, by omega, by split <;> rfl, rfl, rfl, by omega, rfl, gI_sI _ _ _ _, o0, O1⟩ (by show m - (nI 0).toNatClampNeg < _; rw [nI_clamp (by omega)]; omega)
  · rw [mFuel_eq]
    rcases key with ⟨o, q, -, -, f⟩ | ⟨x2, y2, q1, q2, v1, o1, o2⟩
    · exact f.elim
    · rw [q1, q2]
      refine ⟨(x2.2.2.2, if wh = 0 then x2.1 else x2.2.1), (y2.2.2.2, y2.2.1), ?_, rfl, v1.symm, R0.on o1 o2⟩
      show fh_X11_tried_j152 hx (nI wh) x2.1 x2.2.1 x2.2.2.2 = _
      unfold fh_X11_tried_j152
      rcases (by omega : wh = 0 ∨ wh = 1) with rfl | rfl
      · rfl
      · rfl
  · rintro ⟨x1, x2, x3, x4⟩ ⟨y1, y2, y3, y4⟩ ⟨j, Y, hj, q1, q2, q3, hY, q4, q5, ow, om⟩
    simp only at q1 q2 q3 q4 q5 ow om
    subst q1; subst q2; subst q3; subst q4
    dsimp only
    rcases Nat.lt_or_ge j m with hlt | hge
    · right; left
      have h3 : Sh hx x4 := h.fr ow.1
      have w3 : Wf x4 := ow.1.Wf w
      have I4 := I.sc V w h p ow.1
      obtain ⟨s5, f5, S5, X5, F5, gr5⟩ := h_tried1 (n := n) (X := Y) (od := od) w3 h3 I4.1 I4.2.1 V (rq_sc w h p Ql ow) (rq_sc w h p Qr ow) q5 hY hod (by omega) (by omega)
      have ow5 : OnW hx st s5 := ow.tr F5 (fun b e => by rcases e with e | e; · exact Or.inl (by omega)
                                                         · exact sc_dx (i := 0) (by omega) b e) gr5
      have w5 : Wf s5 := ow5.1.Wf w
      have VE := V.goT (l := l) (r := u) (od := od) n Y
      obtain ⟨w0, y, d, sp, fl, h0, h6, h1, h2', h4, hw, hy, hd, hsp, hfl, -⟩ := id VE
      obtain ⟨y, f6, S6, X6, F6⟩ := m_tried1 (a3 := nI m) (a6 := nI wh) (cn := if wh = 0 then x1 else x2) (nm := nI j) (n := n) (X := Y) (od := od) om.2.1 V hY hod (by omega) (by omega) (om.mq Ml) (om.mq Mr)
      obtain ⟨m7, f7, om7⟩ := om.back (D := 0) F6 (fun i hi => by rw [S6]; exact goT_hi hi n Y V)
      let V' := (pGoT l u od n Y (ms.2.1 26)).2
      let T1 := x1 + (if pTm V' = 0 then 0 else 1)
      let T2 := x2 + (V' 6 + V' 7)
      refine ⟨(T1, T2, nI (j + 1), s5), (lN (pGoT l u od n Y (ms.2.1 26)).1, if wh = 0 then T1 else T2, nI (j + 1), m7), ?_, ?_, ⟨j + 1, (pGoT l u od n Y (ms.2.1 26)).1, by omega, rfl, rfl, rfl, goT_lt n Y hY, rfl, X5, ow5, om7⟩, ?_⟩
      · have jj : ∀ t0 : Int32, fh_X11_tried_j125 hx a b (nI m) (nI n) (nI od) (nI wh) x2 (nI j) (some (hx + 33)) t0 x1 s5 = some (.inr (.inl (x1 + t0, T2, nI (j + 1), s5))) := fun t0 => by
          unfold fh_X11_tried_j125
          rw [dr_of S5.2.2.1, bs_, h_yardsOf (s := 0) (x := 0) w5 S5 rfl (by omega), bs_]
          dsimp only
          rw [chk_t (isk_t S5.2.2.1), h_yardsOf (s := 1) (x := 1) w5 S5 rfl (by omega), bs_, nI_1]
        unfold fh_X11_tried_s77
        rw [if_neg (nI_ge hlt (by omega)), chk_t (st_k h3), el x4 ow.1, bs_]
        dsimp only
        rw [chk_t (st_k h3), er x4 ow.1, bs_]
        dsimp only
        rw [r1109 h3, dr_of (k27 h3), bs_, r1104 h3, f5, bs_]
        dsimp only
        rw [dr_of S5.2.2.1, bs_, h_time w5 S5 VE, bs_]
        dsimp only
        rw [jj, jj]
        show (if pTm V' = 0 then _ else _) = some (Sum.inr (Sum.inl (x1 + (if pTm V' = 0 then 0 else 1), T2, nI (j + 1), s5)))
        split <;> rfl
      · unfold fm_tried_s79
        rw [if_neg (nI_ge hlt (by omega)), f6]
        show fm_tried_j176 a b (nI m) (nI n) (nI od) (nI wh) y.1 (if wh = 0 then x1 else x2) (nI j) y.2.2 = _
        unfold fm_tried_j176
        rw [X6]
        rcases (by omega : wh = 0 ∨ wh = 1) with rfl | rfl
        · rw [if_neg (show ¬ nI 0 = 1 by decide), m_time' S6 VE, bs_]
          dsimp only
          rw [f7, bs_, bs_, nI_1]
          show (if pTm V' = 0 then _ else _) = some (Sum.inr (Sum.inl (_, x1 + (if pTm V' = 0 then 0 else 1), nI (j + 1), m7)))
          split <;> rfl
        · rw [if_pos (show nI 1 = 1 from rfl), chk_t (by decide), chk_t (by decide), f7, bs_, nI_1, S6, cln6, cln7]
          rfl
      · dsimp only; rw [nI_clamp (by omega), nI_clamp (by omega)]; omega
    · right; right
      refine ⟨(x1, x2, nI j, x4), (lN Y, if wh = 0 then x1 else x2, nI j, y4), ?_, ?_, rfl, ow, om⟩
      · unfold fh_X11_tried_s77; rw [if_pos (nI_le (by omega) (by omega))]
      · unfold fm_tried_s79; rw [if_pos (nI_le (by omega) (by omega))])
