/-! reading a RULE: a comparison, both sides -/
/-- the class's comparison, up to the NOTs -/
noncomputable def cmpH (rec : Nat → Int32 → HSt → Option HSt) (H : Nat) (d e : Int32) (st : HSt) : Option HSt := chk (isk st (H + 5) 8) ((fh_X7_readSum (H + 5) st).bind fun x11 => chk (isk x11 (H + 5) 8) ((dr x11 (gR x11 700 (H + 5)) 11).bind fun b14 => (fh_X10_kind b14 x11).bind fun x18 => chk (isk x18.1 (H + 5) 8) ((fh_X7_takeFactSign (H + 5) x18.2 x18.1).bind fun x21 => chk (isk x21 (H + 5) 8) ((fh_X7_readSum (H + 5) x21).bind fun x24 => chk (isk x24 (H + 5) 8) ((fh_X7_put (H + 5) (-x18.2) x24).bind fun x27 => fh_X7_readFact_j144 rec (H + 5) d e x27)))))
theorem h_fsign {st : HSt} {kd H : Nat} (hk : kd < 279) : fh_X7_takeFactSign (H + 5) (nI kd) st = fh_X7_takeFactSign_j33 (H + 5) (if cmpK kd = 0 then 0 else 1) st := by
  have q : ∀ a, a < 279 → (nI kd = nI a ↔ kd = a) := fun a ha => nI_eq (by omega) (by omega)
  have q60 : nI kd = (60 : Int32) ↔ kd = 60 := q 60 (by omega)
  have q61 : nI kd = (61 : Int32) ↔ kd = 61 := q 61 (by omega)
  have q62 : nI kd = (62 : Int32) ↔ kd = 62 := q 62 (by omega)
  have q3 : nI kd = (3 : Int32) ↔ kd = 3 := q 3 (by omega)
  have q4 : nI kd = (4 : Int32) ↔ kd = 4 := q 4 (by omega)
  unfold fh_X7_takeFactSign fh_X7_takeFactSign_j28
  by_cases a : kd = 60
  · rw [if_pos (q60.mpr a)]; subst a; rfl
  rw [if_neg (fun y => a (q60.mp y))]
  by_cases b : kd = 61
  · rw [if_pos (q61.mpr b)]; subst b; rfl
  rw [if_neg (fun y => b (q61.mp y))]
  by_cases c : kd = 62
  · rw [if_pos (q62.mpr c)]; subst c; rfl
  rw [if_neg (fun y => c (q62.mp y))]
  by_cases d : kd = 3
  · rw [if_pos (q3.mpr d)]; subst d; rfl
  rw [if_neg (fun y => d (q3.mp y))]
  by_cases e : kd = 4
  · rw [if_pos (q4.mpr e)]; subst e; rfl
  rw [if_neg (fun y => e (q4.mp y))]
  unfold cmpK
  rw [if_neg a, if_neg d, if_neg b, if_neg e, if_neg c, if_pos rfl]
/-- both read a comparison -/
theorem j_cmp {st : HSt} {ms : MSt} {H n M i p k sz it : Nat} {cd : Nat → Nat × Nat} (J : RJ st ms H n M i p k cd sz it) (hz : sz ≤ i) : ∃ ms2 rr, fm_compare ms = some (ms2, rr) ∧ MG k ms ms2 ∧
    ((rr = 1 ∧ ∃ st2 i2 q2 cd2 sz2 it2, RJ st2 ms2 H n M i2 q2 k cd2 sz2 it2 ∧ Fr (RdX H) st st2 ∧ (∀ rec d e, cmpH rec H d e st = fh_X7_readFact_j144 rec (H + 5) d e st2) ∧ i < i2 ∧ sz2 + i = sz + i2 ∧ it < it2 ∧ (∀ j, j < sz → cd2 j = cd j) ∧ Sg cd2 sz sz2 true (it2 - it)) ∨
     (rr = 0 ∧ ∃ f, ms2.1 15 = f ∧ ∀ rec d e, d ≤ e → e ≤ 20 → ∃ st2, cmpH rec H (nI d) (nI e) st = some st2 ∧ Fr (RdX H) st st2 ∧ Dd st2 H (ms.2.1 0) n M f)) := by
  obtain ⟨s1, m1, r1, e1, em1, F1, G1, c1⟩ := j_sum J hz
  unfold fm_compare
  rw [em1, bs_]
  dsimp only
  rcases c1 with ⟨x1, i1, q1, cd1, sz1, it1, J1, y1, y2, y3, y4, y5⟩ | ⟨x1, f, D1, y1⟩
  · subst x1
    rw [if_neg (show ¬ (1 : Int32) = 0 by decide)]
    obtain ⟨hM, hM4⟩ := J1.t0
    have t1 : m1.2.1 0 = ms.2.1 0 := G1.1.A 0 rfl
    have Js := J1.seen
    have J1s := Js
    have T1 := J1.1.1
    obtain ⟨kd, hk9, hK⟩ := T1.kn
    generalize hm2 : msi m1 14 (nI (ps (m1.2.1 0) n i1)) = m2 at Js
    have t2 : m2.2.1 0 = m1.2.1 0 := by rw [← hm2]; rfl
    rw [← t2] at Js
    have G2 : MG k ms m2 := G1.tr (by rw [← hm2]; exact MG.i rfl)
    obtain ⟨cs0, cs1⟩ := m_csign Js.1 Js.2.2.2.2.2.2 hK hk9
    have m14 : m2.1 14 = nI (ps (m2.2.1 0) n i1) := Js.1.2.1.2.2.1
    rw [j_see2 J1.1, bs_]
    dsimp only
    rw [hm2, ← t2]
    have clsH : ∀ rec d e, cmpH rec H d e st = ((fh_X7_takeFactSign_j33 (H + 5) (if cmpK kd = 0 then 0 else 1) s1).bind fun x21 => chk (isk x21 (H + 5) 8) ((fh_X7_readSum (H + 5) x21).bind fun x24 => chk (isk x24 (H + 5) 8) ((fh_X7_put (H + 5) (-nI kd) x24).bind fun x27 => fh_X7_readFact_j144 rec (H + 5) d e x27))) := by
      intro rec d e
      unfold cmpH
      rw [chk_t (isk_t J.k8), e1, bs_, chk_t (isk_t J1.k8), J1.r7, dr_of J1.k11, bs_, J1.kind, bs_]
      dsimp only
      rw [hK, chk_t (isk_t J1.k8), h_fsign hk9]
    -- from a dead state behind the sign to the end
    have deadR : ∀ {f : Int32} {s : HSt}, Fr (RdX H) s1 s → Dd s H (ms.2.1 0) n M f → ∀ rec d e, d ≤ e → e ≤ 20 → ∃ st2, (chk (isk s (H + 5) 8) ((fh_X7_readSum (H + 5) s).bind fun x24 => chk (isk x24 (H + 5) 8) ((fh_X7_put (H + 5) (-nI kd) x24).bind fun x27 => fh_X7_readFact_j144 rec (H + 5) (nI d) (nI e) x27))) = some st2 ∧ Fr (RdX H) st st2 ∧ Dd st2 H (ms.2.1 0) n M f := by
      intro f s Fs Ds rec d e hd he
      obtain ⟨s3, e3, F3, D3⟩ := d_sum Ds
      obtain ⟨s4, e4, F4, D4⟩ := d_put (x := -nI kd) D3
      obtain ⟨s5, e5, F5, D5⟩ := d_nots (rec := rec) D4 hd he
      refine ⟨s5, ?_, (((F1.tr Fs).tr F3).tr F4).tr F5, D5⟩
      rw [chk_t (isk_t Ds.k8), e3, bs_, chk_t (isk_t D3.k8), e4, bs_, e5]
    by_cases hc : cmpK kd = 0
    · obtain ⟨z60, z61, z62⟩ := cs0 hc
      rw [if_neg z60, if_neg z61, if_neg z62, m14, show fm_fails (0 : Int32) (nI (ps (m2.2.1 0) n i1)) m2 = some (msi m2 15 (nI (1 + 8 * ps (m2.2.1 0) n i1 + 0)), 0) from m_fails (a := 0) Js.1.2.2.1, bs_]
      dsimp only
      rw [chk_t (show isb (0 : Int32) = true by decide)]
      refine ⟨_, 0, rfl, G2.tr (MG.i rfl), Or.inr ⟨rfl, _, msi_s _ _ _, fun rec d e hd he => ?_⟩⟩
      -- the class: one more item, the fault, the next sign
      let u1 := sI s1 706 (H + 5) (nI (it1 + 1))
      have Fu : Fr (fun b => b = H + 5) s1 u1 := Fr.sI rfl
      have Tu : Tk u1 H (m1.2.1 0) n M i1 0 := T1.rd Fu (fun b hb => by omega)
      obtain ⟨u2, eu2, Fu2, -, Tu2, -⟩ := h_fail (a := 0) Tu
      rw [if_pos rfl] at Tu2
      have eu2' : fh_X10_fail H (0 : Int32) (sI s1 706 (H + 5) (nI (it1 + 1))) = some u2 := eu2
      have hps : ps (m1.2.1 0) n i1 ≤ 400 := Nat.le_trans (ps_le i1) J1.1.2.1.2.1
      have Eu : RdE u1 H := J1.2.1.fr Fu
      have Du2 : Dd u2 H (ms.2.1 0) n M (nI (1 + 8 * ps (m2.2.1 0) n i1 + 0)) := by
        refine ⟨Eu.fr Fu2, fun z => ?_, ⟨i1, by rw [← t1, t2]; exact Tu2⟩, sz1, by omega, ?_⟩
        · have := (nI_eq (b := 0) (by rw [t2]; omega) (by omega)).mp z
          omega
        · rw [Fu2.I 705 (by omega)]
          exact (gI_sI_ne (Or.inl (by omega))).trans J1.2.2.1.1
      obtain ⟨u3, eu3, Fu3, Du3⟩ := d_next Du2
      obtain ⟨st2, eD, FD, DD⟩ := deadR (((Fu.mo (fun b hb => Or.inr (by omega))).tr (Frd Fu2)).tr Fu3) Du3 rec d e hd he
      refine ⟨st2, ?_, FD, DD⟩
      rw [clsH, if_pos hc]
      have sg : fh_X7_takeFactSign_j33 (H + 5) 0 s1 = some u3 := by
        unfold fh_X7_takeFactSign_j33 fh_X7_takeFactSign_j55 fh_X7_takeSign
        rw [if_pos rfl, chk_t (isk_t J1.k8), if_pos rfl, J1.2.2.2.2.1.1, nI_1, chk_t (isk_t Eu.1), show gR (sI s1 706 (H + 5) (nI (it1 + 1))) 700 (H + 5) = some H from Eu.2.1, show dr (sI s1 706 (H + 5) (nI (it1 + 1))) (some H) 11 = some H from dr_of Tu.1.1, bs_, eu2', bs_, chk_t (isk_t Du2.k8), Du2.r7, dr_of Du2.k11, bs_, eu3, bs_, bs_]
      rw [sg, bs_]; exact eD
    · obtain ⟨hi, hsv, hj⟩ := cs1 hc
      obtain ⟨o6, o10, oH, -⟩ := cmpK_o hc
      have go : ∀ A B : Option (MSt × Int32), (if sv (m2.2.1 0) n (ps (m2.2.1 0) n i1) = 60 then A else if sv (m2.2.1 0) n (ps (m2.2.1 0) n i1) = 61 then A else if sv (m2.2.1 0) n (ps (m2.2.1 0) n i1) = 62 then A else B) = A := by
        intro A B
        rcases hsv with z | z | z
        · rw [if_pos z]
        · rw [z, if_neg (by decide), if_pos rfl]
        · rw [z, if_neg (by decide), if_neg (by decide), if_pos rfl]
      rw [go, m14, hj]
      obtain ⟨s2, en, Fn, J2⟩ := Js.passT hi
      generalize hm3 : msi m2 14 (nI (tE (m2.2.1 0) n (ps (m2.2.1 0) n i1))) = m3 at J2 ⊢
      have G3 : MG k ms m3 := G2.tr (by rw [← hm3]; exact MG.i rfl)
      have t3 : m3.2.1 0 = ms.2.1 0 := G3.1.A 0 rfl
      have i3 := J2.2.2.2.2.1
      rw [m_makes i3.2.1 i3.2.2 J2.1.2.2.1, bs_]
      by_cases z60 : it1 = 60
      · rw [if_pos z60]
        dsimp only
        rw [if_pos rfl]
        refine ⟨_, 0, rfl, G3.tr (MG.i rfl), Or.inr ⟨rfl, _, msi_s _ _ _, fun rec d e hd he => ?_⟩⟩
        obtain ⟨u2, eu2, Fu2, Du2⟩ := J1.dead (a := 3) (by omega) (by omega)
        have eu2' : fh_X10_fail H (3 : Int32) s1 = some u2 := eu2
        obtain ⟨u3, eu3, Fu3, Du3⟩ := d_j55 (a := 1) Du2
        rw [t1] at Du3
        obtain ⟨st2, eD, FD, DD⟩ := deadR (Fu2.tr Fu3) Du3 rec d e hd he
        refine ⟨st2, ?_, FD, by rw [t2, t1]; exact DD⟩
        rw [clsH, if_neg hc]
        have sg : fh_X7_takeFactSign_j33 (H + 5) 1 s1 = some u3 := by
          unfold fh_X7_takeFactSign_j33
          rw [if_neg (show ¬ (1 : Int32) = 0 by decide), chk_t (isk_t J1.k8), J1.2.2.2.2.1.1, if_neg (show ¬ nI it1 < (60 : Int32) by rw [z60]; decide), J1.r7, dr_of J1.k11, bs_, eu2', bs_, eu3]
        rw [sg, bs_]; exact eD
      · rw [if_neg z60]
        dsimp only
        rw [if_neg (show ¬ (1 : Int32) = 0 by decide)]
        -- the class: one more item, then the next sign; the same states in the other order
        have J2i := (Js.item (by omega : it1 < 60))
        have J2i' : RJ (sI s1 706 (H + 5) (nI (it1 + 1))) (msi m2 18 (nI (it1 + 1))) H n M i1 (ps ((msi m2 18 (nI (it1 + 1))).2.1 0) n i1) k cd1 sz1 (it1 + 1) := J2i
        obtain ⟨u2, eu2, Fu2, J3⟩ := J2i'.passT hi
        have hm : msi (msi m2 18 (nI (it1 + 1))) 14 (nI (tE ((msi m2 18 (nI (it1 + 1))).2.1 0) n (ps ((msi m2 18 (nI (it1 + 1))).2.1 0) n i1))) = msi m3 18 (nI (it1 + 1)) := by
          rw [← hm3]
          show msi (msi m2 18 (nI (it1 + 1))) 14 (nI (tE (m2.2.1 0) n (ps (m2.2.1 0) n i1))) = msi (msi m2 14 (nI (tE (m2.2.1 0) n (ps (m2.2.1 0) n i1)))) 18 (nI (it1 + 1))
          show (upd (upd m2.1 18 _) 14 _, m2.2) = (upd (upd m2.1 14 _) 18 _, m2.2)
          have : upd (upd m2.1 18 (nI (it1 + 1))) 14 (nI (tE (m2.2.1 0) n (ps (m2.2.1 0) n i1))) = upd (upd m2.1 14 (nI (tE (m2.2.1 0) n (ps (m2.2.1 0) n i1)))) 18 (nI (it1 + 1)) := by
            funext j
            by_cases a : j = 14
            · rw [a, pk_us, pk_un (by omega), pk_us]
            · by_cases b : j = 18
              · rw [b, pk_un (by omega), pk_us, pk_us]
              · rw [pk_un a, pk_un b, pk_un b, pk_un a]
          rw [this]
        rw [hm] at J3
        have Fu : Fr (fun b => b = H + 5) s1 (sI s1 706 (H + 5) (nI (it1 + 1))) := Fr.sI rfl
        have sg : fh_X7_takeFactSign_j33 (H + 5) 1 s1 = some u2 := by
          unfold fh_X7_takeFactSign_j33 fh_X7_takeFactSign_j55 fh_X7_takeSign
          rw [if_neg (show ¬ (1 : Int32) = 0 by decide), chk_t (isk_t J1.k8), J1.2.2.2.2.1.1, if_pos (show nI it1 < (60 : Int32) from nI_lt (b := 60) (by omega) (by omega)), chk_t (isk_t J1.k8), if_neg (show ¬ (1 : Int32) = 0 by decide), nI_1, chk_t (isk_t J2i'.k8), J2i'.r7, dr_of J2i'.k11, bs_, eu2, bs_, bs_]
        have Fs : Fr (RdX H) s1 u2 := (Fu.mo (fun b hb => Or.inr (by omega))).tr (Frd Fu2)
        have G4 : MG k ms (msi m3 18 (nI (it1 + 1))) := G3.tr (MG.i rfl)
        obtain ⟨s5, m5, r5, e5, em5, F5, G5, c5⟩ := j_sum J3 (by omega)
        have t4 : (msi m3 18 (nI (it1 + 1))).2.1 0 = ms.2.1 0 := t3
        unfold fm_compare_j152
        rw [em5, bs_]
        dsimp only
        rcases c5 with ⟨x5, i5, q5, cd5, sz5, it5, J5, w1, w2, w3, w4, w5⟩ | ⟨x5, f, D5, w1⟩
        · subst x5
          obtain ⟨hM5, -⟩ := J5.t0
          rw [if_neg (show ¬ (1 : Int32) = 0 by decide)]
          obtain ⟨o1, o2, J6⟩ := J5.op (s := cmpK kd) (by omega) (by omega)
          rw [oH] at o1 J6
          have o2' : fm_puts ((6 : Int32) + nI (cmpK kd - 6)) 0 m5 = some (putM m5 k sz5 (nI (cmpK kd))) := by
            rw [show (6 : Int32) + nI (cmpK kd - 6) = nI (cmpK kd) by rw [show (6 : Int32) + nI (cmpK kd - 6) = nI (6 + (cmpK kd - 6)) from idx_n (b := 6), show 6 + (cmpK kd - 6) = cmpK kd by omega]]
            exact o2
          rw [o2', bs_]
          have S6 : Sg (cdu cd5 sz5 (cmpK kd, 0)) sz (sz5 + 1) true (it5 - it) := by
            have a1 : Sg (cdu cd5 sz5 (cmpK kd, 0)) sz sz1 false (it1 - it) := y5.cg (fun j hj => by rw [cdu_n (by omega)]; exact w4 j hj)
            have a2 : Sg (cdu cd5 sz5 (cmpK kd, 0)) sz1 sz5 false (it5 - (it1 + 1)) := w5.cg (fun j hj => cdu_n hj)
            exact (a1.bin a2 (b := true) (by rw [cdu_s]; exact ty_c o6 o10)).mo (by omega)
          refine ⟨_, 1, rfl, (G4.tr G5).tr putM_G, Or.inl ⟨rfl, _, i5, q5, _, sz5 + 1, it5, J6, ((F1.tr Fs).tr F5).tr (Frp put_F), fun rec d e => ?_, by omega, by omega, by omega, fun j hj => by rw [cdu_n (by omega), w4 j (by omega)]; exact y4 j hj, S6⟩⟩
          rw [clsH, if_neg hc, sg, bs_, chk_t (isk_t J3.k8), e5, bs_, chk_t (isk_t J5.k8), o1, bs_]
        · subst x5
          rw [if_pos rfl]
          refine ⟨m5, 0, rfl, G4.tr G5, Or.inr ⟨rfl, f, w1, fun rec d e hd he => ?_⟩⟩
          rw [t4] at D5
          obtain ⟨s6, e6, F6, D6⟩ := d_put (x := -nI kd) D5
          obtain ⟨s7, e7, F7, D7⟩ := d_nots (rec := rec) D6 hd he
          refine ⟨s7, ?_, ((((F1.tr Fs).tr F5).tr F6).tr F7), D7⟩
          rw [clsH, if_neg hc, sg, bs_, chk_t (isk_t J3.k8), e5, bs_, chk_t (isk_t D5.k8), e6, bs_, e7]
  · subst x1
    rw [if_pos rfl]
    refine ⟨m1, 0, rfl, G1, Or.inr ⟨rfl, f, y1, fun rec d e hd he => ?_⟩⟩
    obtain ⟨s2, e2, F2, D2⟩ := d_after (rec := rec) D1 hd he
    refine ⟨s2, ?_, F1.tr F2, D2⟩
    unfold cmpH
    rw [chk_t (isk_t J.k8), e1, bs_, chk_t (isk_t D1.k8), D1.r7, dr_of D1.k11, bs_]
    exact e2
