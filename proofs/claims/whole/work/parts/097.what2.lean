/-! whatever: the reference, and both in step -/
theorem m_byRow {ms : MSt} {v : Nat → Int32} {D n sd row k tm : Nat} {x z c : Int32} {cn nm rw : Int32} {l u : Option Ru} (hv : ms.2.1 26 = v) (V : VOk D v) (hD : D + n < 2 ^ 31) (hn : n ≤ 400) (hsd : sd < 2) (hk : k ≤ 3) (hrow : row < 1000) (htm : tm ≤ 9) (Rl : MqR ms x l) (Rr : MqR ms z u) : ∃ y : Int32 × Int32 × MSt, iter (fun a : (Int32 × Int32 × MSt) => fm_whatever_s115 x z (nI n) (nI sd) (nI k) (nI tm) rw cn nm a.1 a.2.1 a.2.2) mFuel (nI row, (0 : Int32), ms) = some (.inr y) ∧ y.2.2.2.1 26 = pGoE l u (pRow sd row k tm) n 0 v ∧ MF mXd ms y.2.2 := by
  refine iter_w (fun j (a : Int32 × Int32 × MSt) => a.1 = nI (row / 3 ^ j) ∧ a.2.1 = nI j ∧ MF mXd ms a.2.2 ∧ ∃ q, a.2.2.2.1 26 = q ∧ VOk (D + j) q ∧ pGoE l u (pRow sd row k tm) (n - j) j q = pGoE l u (pRow sd row k tm) n 0 v) n _ ?_ ⟨by rw [Nat.pow_zero, Nat.div_one], rfl, MF.rf, v, hv, V, rfl⟩ (by omega)
  rintro j ⟨b, i, s⟩ hj ⟨hb, hi, F, q, hq, Vq, G⟩
  simp only at hb hi F hq
  subst hb; subst hi
  rcases Nat.lt_or_ge j n with hlt | hge
  · by_cases hm : pGap q = 0
    · right
      refine ⟨(nI (row / 3 ^ j), nI j, s), ?_, ?_, F⟩
      · show fm_whatever_s115 x z (nI n) (nI sd) (nI k) (nI tm) rw cn nm (nI (row / 3 ^ j)) (nI j) s = _
        unfold fm_whatever_s115
        rw [if_neg (nI_ge hlt (by omega)), m_met hq, bs_, if_pos hm, if_neg (show ¬ (1 : Int32) = 0 by decide)]
      · rw [← G, pGoE_met hm]; exact hq
    · left
      obtain ⟨w0, y, d, sp, fl, -, -, h1, -, -, -, -, hd, -⟩ := id Vq
      obtain ⟨s1, q1, a0, a1, F1⟩ := m_errs hq h1 (by omega)
      have hb : row / 3 ^ j < 1000 := Nat.lt_of_le_of_lt (Nat.div_le_self _ _) hrow
      have ed : nI (row / 3 ^ j) / 3 = nI (row / 3 ^ (j + 1)) := by
        rw [show nI (row / 3 ^ j) / 3 = nI (row / 3 ^ j / 3) from pk_div (d := 3) (by omega) (by omega) (by omega), Nat.div_div_eq_div_mul, Nat.pow_succ]
      have em : nI (row / 3 ^ j) - nI (row / 3 ^ j) / 3 * 3 = nI (row / 3 ^ j % 3) := pk_rem (d := 3) (by omega) (by omega) (by omega)
      have go : ∀ s2 : MSt, MF mX27 s1 s2 → s2.2.1 27 0 = pRow sd row k tm j q 0 → s2.2.1 27 1 = pRow sd row k tm j q 1 → fm_whatever_s115 x z (nI n) (nI sd) (nI k) (nI tm) rw cn nm (nI (row / 3 ^ j)) (nI j) s = fm_whatever_j155 x z (nI n) (nI sd) (nI k) (nI tm) rw cn nm (nI (row / 3 ^ j)) (nI j) s2 → (∃ y, fm_whatever_s115 x z (nI n) (nI sd) (nI k) (nI tm) rw cn nm (nI (row / 3 ^ j)) (nI j) s = some (.inr (.inl y)) ∧ (y.1 = nI (row / 3 ^ (j + 1)) ∧ y.2.1 = nI (j + 1) ∧ MF mXd ms y.2.2 ∧ ∃ q, y.2.2.2.1 26 = q ∧ VOk (D + (j + 1)) q ∧ pGoE l u (pRow sd row k tm) (n - (j + 1)) (j + 1) q = pGoE l u (pRow sd row k tm) n 0 v) ∧ j < n) := by
        intro s2 F2 b0 b1 eq
        have hF : MF mXd ms s2 := (F.tr (F1.mo mX27_d)).tr (F2.mo mX27_d)
        obtain ⟨s3, q3, h3, F3⟩ := m_passes (((F2.A 26 rfl).trans (F1.A 26 rfl)).trans hq) Vq b0 b1 (pRow_s htm Vq (by omega)) (pRow_s htm Vq (by omega)) (Rl.fr hF rfl rfl rfl) (Rr.fr hF rfl rfl rfl)
        refine ⟨(nI (row / 3 ^ (j + 1)), nI (j + 1), s3), ?_, ⟨rfl, rfl, hF.tr (F3.mo mXe_d), _, h3, Vq.day, ?_⟩, hlt⟩
        · rw [eq]
          unfold fm_whatever_j155
          rw [q3, bs_, ed, nI_1]
        · rw [← G, show n - j = (n - (j + 1)) + 1 by omega]
          show _ = (if pGap q = 0 then q else pGoE l u (pRow sd row k tm) (n - (j + 1)) (j + 1) (pDay q l u (pRow sd row k tm j q 0) (pRow sd row k tm j q 1)))
          rw [if_neg hm]
      have head : fm_whatever_s115 x z (nI n) (nI sd) (nI k) (nI tm) rw cn nm (nI (row / 3 ^ j)) (nI j) s = (if nI k ≤ nI j then fm_whatever_j155 x z (nI n) (nI sd) (nI k) (nI tm) rw cn nm (nI (row / 3 ^ j)) (nI j) s1 else fm_whatever_j155 x z (nI n) (nI sd) (nI k) (nI tm) rw cn nm (nI (row / 3 ^ j)) (nI j) (msa s1 27 sd (dg row j tm))) := by
        unfold fm_whatever_s115
        rw [if_neg (nI_ge hlt (by omega)), m_met hq, bs_, if_neg hm, if_pos rfl]
        dsimp only
        rw [q1, bs_, chk_t (inb_n hsd (by omega)), em, nI_clamp (by omega)]
        rfl
      by_cases hjk : j < k
      · refine go (msa s1 27 sd (dg row j tm)) (MF.msa rfl) ?_ ?_ (by rw [head, if_neg (nI_ge hjk (by omega))])
        · unfold pRow
          rw [msa_s]
          by_cases e : 0 = sd
          · rw [if_pos ⟨e, hjk⟩, ← e, pk_us]
          · rw [if_neg (fun q => e q.1), pk_un e]; exact a0
        · unfold pRow
          rw [msa_s]
          by_cases e : 1 = sd
          · rw [if_pos ⟨e, hjk⟩, ← e, pk_us]
          · rw [if_neg (fun q => e q.1), pk_un e]; exact a1
      · refine go s1 MF.rf ?_ ?_ (by rw [head, if_pos (nI_le (by omega) (by omega))])
        · unfold pRow; rw [if_neg (fun q => hjk q.2)]; exact a0
        · unfold pRow; rw [if_neg (fun q => hjk q.2)]; exact a1
  · have ek : j = n := by omega
    subst ek
    right
    refine ⟨(nI (row / 3 ^ j), nI j, s), ?_, ?_, F⟩
    · show fm_whatever_s115 x z (nI j) (nI sd) (nI k) (nI tm) rw cn nm (nI (row / 3 ^ j)) (nI j) s = _
      unfold fm_whatever_s115
      rw [if_pos (nI_le (Nat.le_refl _) (by omega))]
    · rw [← G, Nat.sub_self]; exact hq
/-- a state on the way of a question: only cells of its own are changed -/
def OnW (hx : Nat) (st st2 : HSt) : Prop := Fr (Sc hx st) st st2 ∧ gR st2 10 (hx + 27) = gR st 10 (hx + 27)
theorem OnW.pk {hx : Nat} {st st2 : HSt} (o : OnW hx st st2) (p : PkR hx st) : PkR hx st2 := by
  obtain ⟨F, e⟩ := o
  unfold PkR at *
  rw [e]
  rcases p with p | ⟨P, p1, p2, p3⟩
  · exact Or.inl p
  · exact Or.inr ⟨P, p1, (F.K _).trans p2, (F.L _).trans p3⟩
theorem OnW.tr {X : Nat → Prop} {hx : Nat} {st s2 s3 : HSt} (o : OnW hx st s2) (F : Fr X s2 s3) (hX : ∀ b, X b → Sc hx st b) (e : gR s3 10 (hx + 27) = gR s2 10 (hx + 27)) : OnW hx st s3 := ⟨o.1.tr (F.mo hX), e.trans o.2⟩
theorem OnW.tr2 {X : Nat → Prop} {hx : Nat} {st s2 s3 : HSt} (o : OnW hx st s2) (F : Fr X s2 s3) (hX : ∀ b, X b → Sc hx st b) (e : ¬ X (hx + 27)) : OnW hx st s3 := o.tr F hX (F.R' 10 e)
theorem rq_sc {hx : Nat} {st st2 : HSt} {q : Option Nat} {u : Option Ru} (w : Wf st) (h : Sh hx st) (p : PkR hx st) (Q : RqR st q u) (o : OnW hx st st2) : RqR st2 q u := Rq_fr Q o.1 (fun b j hb hj => sc_rule h p hb hj (ru_k w hb hj))
/-- the reference on the way of a question: said as it was, and kept -/
def OnM (ms m2 : MSt) : Prop := MF mXq ms m2 ∧ m2.2.1 26 = ms.2.1 26 ∧ ∀ i, i < 286 → m2.2.1 31 i = ms.2.1 26 i
theorem on_m {ms : MSt} : ∃ m1, fm_keeps ms = some m1 ∧ OnM ms m1 := by
  obtain ⟨m1, g1, K1, G1⟩ := m_keeps (ms := ms)
  exact ⟨m1, g1, G1.mo mX31_q, G1.A 26 rfl, K1⟩
theorem OnM.back {D : Nat} {ms m2 m3 : MSt} (o : OnM ms m2) (F : MF mXd m2 m3) (hhi : ∀ i, 286 ≤ i → m3.2.1 26 i = ms.2.1 26 i) : ∃ m4, fm_putsBack m3 = some m4 ∧ OnM ms m4 := by
  obtain ⟨m4, e, h1, G⟩ := m_putv (ms := m3) (v := ms.2.1 26) (fun i hi => by rw [F.A 31 rfl]; exact o.2.2 i hi) hhi
  exact ⟨m4, e, (o.1.tr (F.mo mXd_q)).tr (G.mo mX26_q), h1, fun i hi => by rw [G.A 31 rfl, F.A 31 rfl]; exact o.2.2 i hi⟩
theorem OnM.mq {ms m2 : MSt} {x : Int32} {u : Option Ru} (o : OnM ms m2) (M : MqR ms x u) : MqR m2 x u := M.fr o.1 rfl rfl rfl
theorem Rel.on {hx : Nat} {st st2 : HSt} {ms m2 : MSt} (R : Rel hx st ms) (o : OnW hx st st2) (m : OnM ms m2) : Rel hx st2 m2 := by
  have p : PkR hx st := by obtain ⟨t, nr, r, w, hi, h, p, -⟩ := R; exact p
  exact R.sc o.1 (o.pk p) m.1 (fun i _ => by rw [m.2.1])
theorem sim_whatever : Sim6 Rel fh_X11_whatever fm_whatever := sim6_of (fun hx st ms a b c sd k tm R => by
  have R0 := R
  obtain ⟨t, nr, r, w, hi, h, p, T, U, I, V, J⟩ := R
  unfold fh_X11_whatever fm_whatever
  rw [chk_t (st_k h), h_ask w h I.1 U.1, bs_, m_ask rfl U.2.1, bs_]
  dsimp only
  rcases ca_c (v := ms.2.1 26) (a := a) (b := b) U.2.2.1 with e | ⟨e, hr, ha, hb⟩
  · rw [e]
    exact ⟨(st, -1), (ms, -1), rfl, rfl, rfl, R0⟩
  rw [e, if_neg (show ¬ (1 : Int32) = 0 by decide), if_neg (show ¬ (1 : Int32) = 0 by decide), h_in (L := 0) (U := 60) (by decide) (by decide), bs_, m_in (L := 0) (U := 60) (by decide) (by decide), bs_]
  dsimp only
  rcases wI_c c 0 60 with ⟨e1, l1⟩ | ⟨e1, l1, l2⟩
  · rw [e1]
    exact ⟨(st, -1), (ms, -1), rfl, rfl, rfl, R0⟩
  rw [e1, if_neg (show ¬ (1 : Int32) = 0 by decide), if_neg (show ¬ (1 : Int32) = 0 by decide), h_side, bs_, m_side, bs_]
  dsimp only
  rcases sd_c sd with e2 | ⟨e2, s, hs, rfl⟩
  · rw [e2]
    exact ⟨(st, -1), (ms, -1), rfl, rfl, rfl, R0⟩
  rw [e2, if_neg (show ¬ (1 : Int32) = 0 by decide), if_neg (show ¬ (1 : Int32) = 0 by decide), h_in (L := 0) (U := 3) (by decide) (by decide), bs_, m_in (L := 0) (U := 3) (by decide) (by decide), bs_]
  dsimp only
  rcases wI_c k 0 3 with ⟨e3, l3⟩ | ⟨e3, l3, l4⟩
  · rw [e3]
    exact ⟨(st, -1), (ms, -1), rfl, rfl, rfl, R0⟩
  rw [e3, if_neg (show ¬ (1 : Int32) = 0 by decide), if_neg (show ¬ (1 : Int32) = 0 by decide), h_in (L := 1) (U := 9) (by decide) (by decide), bs_, m_in (L := 1) (U := 9) (by decide) (by decide), bs_]
  dsimp only
  rcases wI_c tm 1 9 with ⟨e4, l5⟩ | ⟨e4, l5, l6⟩
  · rw [e4]
    exact ⟨(st, -1), (ms, -1), rfl, rfl, rfl, R0⟩
  rw [e4, if_neg (show ¬ (1 : Int32) = 0 by decide), if_neg (show ¬ (1 : Int32) = 0 by decide)]
  obtain ⟨n, hn, rfl⟩ := n_of (a := c) (U := 60) l1 l2
  obtain ⟨k, hk, rfl⟩ := n_of (a := k) (U := 3) l3 l4
  obtain ⟨tm, htm, rfl⟩ := n_of (a := tm) (U := 9) (by omega) l6
  obtain ⟨ql, l, Ql, Ml, el⟩ := ask_rule w h p U ha
  obtain ⟨qr, u, Qr, Mr, er⟩ := ask_rule w h p U hb
  obtain ⟨m1, g1, O1⟩ := on_m (ms := ms)
  have rows : ∃ z : Int32 × Int32 × HSt, iter (fun x : (Int32 × Int32 × HSt) => fh_X11_whatever_s56 hx a b (nI n) (nI s) (nI k) (nI tm) x.1 x.2.1 x.2.2) mFuel ((1 : Int32), (0 : Int32), st) = some (.inr z) ∧ z.1 = nI (3 ^ k) ∧ z.2.2 = st := by
    refine iter_n (fun j (x : Int32 × Int32 × HSt) => x.1 = nI (3 ^ j) ∧ x.2.1 = nI j ∧ x.2.2 = st) k _ ?_ ?_ ⟨rfl, rfl, rfl⟩ (by omega)
    · rintro j ⟨q, i, s'⟩ hj ⟨hq, hi, hs'⟩
      simp only at hq hi hs'
      subst hq; subst hi; subst hs'
      refine ⟨(nI (3 ^ (j + 1)), nI (j + 1), s'), ?_, rfl, rfl, rfl⟩
      show fh_X11_whatever_s56 hx a b (nI n) (nI s) (nI k) (nI tm) (nI (3 ^ j)) (nI j) s' = _
      unfold fh_X11_whatever_s56
      rw [if_neg (nI_ge hj (by omega)), nI_1, show nI (3 ^ j) * 3 = nI (3 ^ j * 3) from pk_mul _ 3, Nat.pow_succ]
    · rintro ⟨q, i, s'⟩ ⟨hq, hi, hs'⟩
      simp only at hq hi hs'
      subst hq; subst hi; subst hs'
      refine ⟨(nI (3 ^ k), nI k, s'), ?_, rfl, rfl⟩
      show fh_X11_whatever_s56 hx a b (nI n) (nI s) (nI k) (nI tm) (nI (3 ^ k)) (nI k) s' = _
      unfold fh_X11_whatever_s56
      rw [if_pos (nI_le (Nat.le_refl _) (by omega))]
  obtain ⟨z, ez, z1, z2⟩ := rows
  have h27 : 3 ^ k ≤ 27 := by rcases (by omega : k = 0 ∨ k = 1 ∨ k = 2 ∨ k = 3) with rfl | rfl | rfl | rfl <;> decide
  have mrows : (if nI k = 0 then fm_whatever_j89 a b (nI n) (nI s) (nI k) (nI tm) (1 : Int32) ms else (if nI k = (1 : Int32) then fm_whatever_j89 a b (nI n) (nI s) (nI k) (nI tm) (3 : Int32) ms else (if nI k = (2 : Int32) then fm_whatever_j89 a b (nI n) (nI s) (nI k) (nI tm) (9 : Int32) ms else fm_whatever_j89 a b (nI n) (nI s) (nI k) (nI tm) (27 : Int32) ms))) = fm_whatever_j89 a b (nI n) (nI s) (nI k) (nI tm) (nI (3 ^ k)) ms := by
    rcases (by omega : k = 0 ∨ k = 1 ∨ k = 2 ∨ k = 3) with rfl | rfl | rfl | rfl <;> rfl
  rw [mrows, ez]
  show ∃ x1 x2, fh_X11_whatever_j75 hx a b (nI n) (nI s) (nI k) (nI tm) z.1 z.2.2 = some x1 ∧ _
  rw [z1, z2]
  unfold fh_X11_whatever_j75 fm_whatever_j89
  rw [g1, bs_]
  have key := iter_rel (s1 := fun x : (Int32 × Int32 × HSt) => fh_X11_whatever_s81 hx a b (nI n) (nI s) (nI k) (nI tm) (nI (3 ^ k)) x.1 x.2.1 x.2.2) (s2 := fun x : (Int32 × Int32 × MSt) => fm_whatever_s101 a b (nI n) (nI s) (nI k) (nI tm) (nI (3 ^ k)) x.1 x.2.1 x.2.2) (fun (x : Int32 × Int32 × HSt) (y : Int32 × Int32 × MSt) => ∃ j, j ≤ 3 ^ k ∧ x.1 = y.1 ∧ x.2.1 = nI j ∧ y.2.1 = nI j ∧ OnW hx st x.2.2 ∧ OnM ms y.2.2) (fun x => 3 ^ k - x.2.1.toNatClampNeg) (fun (_ : HSt × Int32) (_ : MSt × Int32) => False) (fun (x : Int32 × Int32 × HSt) (y : Int32 × Int32 × MSt) => x.1 = y.1 ∧ OnW hx st x.2.2 ∧ OnM ms y.2.2) ?_ 1000000 ((0 : Int32), (0 : Int32), st) ((0 : Int32), (0 : Int32), m1) ⟨0, Nat.zero_le _, rfl, rfl, rfl, ⟨Fr.rf, rfl⟩, O1⟩ (by show 3 ^ k - (nI 0).toNatClampNeg < _; rw [nI_clamp (by omega)]; omega)
  · rw [mFuel_eq]
    rcases key with ⟨o, q, -, -, f⟩ | ⟨x2, y2, q1, q2, v1, o1, o2⟩
    · exact f.elim
    · rw [q1, q2]
      exact ⟨(x2.2.2, x2.1), (y2.2.2, y2.1), rfl, rfl, v1, R0.on o1 o2⟩
  · rintro ⟨x1, x2, x3⟩ ⟨y1, y2, y3⟩ ⟨j, hj, q1, q2, q3, ow, om⟩
    simp only at q1 q2 q3 ow om
    subst q1; subst q2; subst q3
    dsimp only
    rcases Nat.lt_or_ge j (3 ^ k) with hlt | hge
    · right; left
      have h3 : Sh hx x3 := h.fr ow.1
      have w3 : Wf x3 := ow.1.Wf w
      obtain ⟨s4, f4, Rw4, F4, gr4⟩ := h_tellRow (sd := s) (row := j) (k := k) (tm := tm) h3 hk (by omega)
      have ow4 : OnW hx st s4 := ow.tr F4 (fun b e => by rcases e with e | e; · exact Or.inl (by omega)
                                                         · exact Or.inr (Or.inr (Or.inr (Or.inl e)))) gr4
      have h4 : Sh hx s4 := h.fr ow4.1
      have w4 : Wf s4 := ow4.1.Wf w
      have I4 := I.sc V w h p ow4.1
      obtain ⟨s5, f5, S5, F5⟩ := h_byRow (n := n) w4 h4 I4.1 I4.2.1 V (rq_sc w h p Ql ow4) (rq_sc w h p Qr ow4) Rw4 hs hk (by omega) (by omega)
      have ow5 : OnW hx st s5 := ow4.tr2 F5 (sc_dx (i := 0) (by omega)) (sc_27 (i := 0) (by omega))
      have w5 : Wf s5 := ow5.1.Wf w
      have VE := V.goE (l := l) (r := u) (e := pRow s j k tm) n 0
      obtain ⟨y, f6, S6, F6⟩ := m_byRow (c := 0) (cn := x1) (nm := nI j) (rw := nI (3 ^ k)) (n := n) (sd := s) (row := j) (k := k) (tm := tm) om.2.1 V (by omega) (by omega) hs hk (by omega) htm (om.mq Ml) (om.mq Mr)
      obtain ⟨m7, f7, om7⟩ := om.back (D := 0) F6 (fun i hi => by rw [S6]; exact goE_hi hi n 0 V)
      let T := if pTm (pGoE l u (pRow s j k tm) n 0 (ms.2.1 26)) = 0 then x1 else x1 + 1
      refine ⟨(T, nI (j + 1), s5), (T, nI (j + 1), m7), ?_, ?_, ⟨j + 1, by omega, rfl, rfl, rfl, ow5, om7⟩, ?_⟩
      · unfold fh_X11_whatever_s81
        rw [if_neg (nI_ge hlt (by omega)), chk_t (st_k h3), r1109 h3, dr_of (k27 h3), bs_, f4, bs_, chk_t (st_k h4), el s4 ow4.1, bs_]
        dsimp only
        rw [chk_t (st_k h4), er s4 ow4.1, bs_]
        dsimp only
        rw [r1109 h4, dr_of (k27 h4), bs_, r1104 h4, f5, bs_]
        dsimp only
        rw [dr_of S5.2.2.1, bs_, h_time w5 S5 VE, bs_]
        dsimp only
        rw [nI_1]
        show _ = some (Sum.inr (Sum.inl (if pTm (pGoE l u (pRow s j k tm) n 0 (ms.2.1 26)) = 0 then x1 else x1 + 1, nI (j + 1), s5)))
        split <;> rfl
      · unfold fm_whatever_s101
        rw [if_neg (nI_ge hlt (by omega)), f6]
        show fm_whatever_j173 a b (nI n) (nI s) (nI k) (nI tm) (nI (3 ^ k)) x1 (nI j) y.2.2 = _
        unfold fm_whatever_j173
        rw [m_time' S6 VE, bs_]
        dsimp only
        rw [f7, bs_, bs_, nI_1, Int32.add_zero]
        show _ = some (Sum.inr (Sum.inl (if pTm (pGoE l u (pRow s j k tm) n 0 (ms.2.1 26)) = 0 then x1 else x1 + 1, nI (j + 1), m7)))
        split <;> rfl
      · dsimp only; rw [nI_clamp (by omega), nI_clamp (by omega)]; omega
    · right; right
      have ej : j = 3 ^ k := by omega
      refine ⟨(x1, nI j, x3), (x1, nI j, y3), ?_, ?_, rfl, ow, om⟩
      · unfold fh_X11_whatever_s81; rw [if_pos (nI_le (by omega) (by omega))]
      · unfold fm_whatever_s101; rw [if_pos (nI_le (by omega) (by omega))])
