/-! reading a RULE: a value, both sides -/
/-- what a reader of a RULE comes to: i2, sz2, it2 behind what it has read -/
def RO (t : Nat → Int32) (H n M k : Nat) (st st2 : HSt) (ms ms2 : MSt) (rr : Int32) (P : Nat → Nat → (Nat → Nat × Nat) → Nat → Nat → Prop) : Prop := Fr (RdX H) st st2 ∧ MG k ms ms2 ∧ ((rr = 1 ∧ ∃ i q cd sz it, RJ st2 ms2 H n M i q k cd sz it ∧ P i q cd sz it) ∨ (rr = 0 ∧ ∃ f, Dd st2 H t n M f ∧ ms2.1 15 = f))
theorem RJ.seen {st : HSt} {ms : MSt} {H n M i p k sz it : Nat} {cd : Nat → Nat × Nat} (J : RJ st ms H n M i p k cd sz it) : RJ st (msi ms 14 (nI (ps (ms.2.1 0) n i))) H n M i (ps (ms.2.1 0) n i) k cd sz it := by
  obtain ⟨J1, E, C1, C2, ⟨i1, i2, i3⟩, ⟨k1, k2⟩, B⟩ := J
  exact ⟨J1.seen, E, C1, C2, ⟨i1, by rw [msi_n (by omega)]; exact i2, i3⟩, ⟨by rw [msi_n (by omega)]; exact k1, k2⟩, B⟩
theorem RJ.t0 {st : HSt} {ms : MSt} {H n M i p k sz it : Nat} {cd : Nat → Nat × Nat} (J : RJ st ms H n M i p k cd sz it) : i ≤ M ∧ M ≤ 400 := ⟨J.1.1.2.2.1, J.1.1.2.1⟩
theorem putS_6 {st : HSt} {H sz : Nat} {x : Int32} : gI (putS st H sz x) 706 (H + 5) = gI st 706 (H + 5) := gI_sI_ne (Or.inl (by omega))
/-- both put one sign, and pass their own -/
theorem j_value {st : HSt} {ms : MSt} {H n M i p k sz it : Nat} {cd : Nat → Nat × Nat} (J : RJ st ms H n M i p k cd sz it) (hz : sz ≤ i) : ∃ st2 ms2 rr, fh_X7_readValue (H + 5) st = some st2 ∧ fm_value ms = some (ms2, rr) ∧ RO (ms.2.1 0) H n M k st st2 ms ms2 rr (fun i2 _ cd2 sz2 it2 => i2 = i + 1 ∧ sz2 = sz + 1 ∧ it2 = it + 1 ∧ (∀ j, j < sz → cd2 j = cd j) ∧ Sg cd2 sz (sz + 1) false 1) := by
  obtain ⟨hiM, hM⟩ := J.t0
  have Js := J.seen
  generalize hm1 : msi ms 14 (nI (ps (ms.2.1 0) n i)) = m1 at Js
  have t1 : m1.2.1 0 = ms.2.1 0 := by rw [← hm1]; rfl
  have G1 : MG k ms m1 := by rw [← hm1]; exact MG.i rfl
  obtain ⟨J1, E, C1, C2, ⟨i1, i2, i3⟩, ⟨k1, k2⟩, B⟩ := Js
  have J0 := J.1
  have T := J0.1
  have q14 : m1.1 14 = nI (ps (ms.2.1 0) n i) := J1.2.1.2.2.1
  obtain ⟨kd, hk9, hK⟩ := T.kn
  have hps : ps (ms.2.1 0) n i ≤ n := ps_le i
  have hn : n ≤ 400 := J0.2.1.2.1
  obtain ⟨k8, r7, -⟩ := id E
  have k11 := T.1.1
  have Jm : Jt2 st m1 H n M i (ps (m1.2.1 0) n i) := by rw [t1]; exact J1
  have W : ∀ k, k < 23 → fm_isWord (wV k) m1 = some (m1, if kd = 256 + k then 1 else 0) := fun k hk => j_w Jm hK hk9 hk
  -- dead ends
  have dd : ∀ a m rr, a < 8 → MG k ms m → m.1 15 = 0 → rr = 0 → ∀ s2, fh_X7_readValue (H + 5) st = some s2 → Fr (RdX H) st s2 → Dd s2 H (ms.2.1 0) n M (nI (1 + 8 * ps (ms.2.1 0) n i + a)) → fm_value ms = some (msi m 15 (nI (1 + 8 * ps (ms.2.1 0) n i + a)), rr) → ∃ st2 ms2 rr, fh_X7_readValue (H + 5) st = some st2 ∧ fm_value ms = some (ms2, rr) ∧ RO (ms.2.1 0) H n M k st st2 ms ms2 rr (fun i2 _ cd2 sz2 it2 => i2 = i + 1 ∧ sz2 = sz + 1 ∧ it2 = it + 1 ∧ (∀ j, j < sz → cd2 j = cd j) ∧ Sg cd2 sz (sz + 1) false 1) := by
    intro a m rr ha G h15 hr s2 e1 F D e2
    exact ⟨s2, _, rr, e1, e2, F, G.tr (MG.i rfl), Or.inr ⟨hr, _, D, msi_s _ _ _⟩⟩
  have hd : fm_value ms = ((if ps (ms.2.1 0) n i < n ∧ fD (ms.2.1 0) (ps (ms.2.1 0) n i) = true then (1 : Int32) else 0) |> fun d => if d = 0 then (if 270 ≤ kd ∧ kd ≤ 278 then ((fm_makes (nI (ps (ms.2.1 0) n i)) m1).bind fun x9 => (if x9.2 = 0 then some (x9.1, (0 : Int32)) else (fm_passWord x9.1).bind fun x12 => (fm_puts (1 : Int32) (nI (kd - 270)) x12).bind fun x14 => some (x14, (1 : Int32)))) else some (msi m1 15 (nI (1 + 8 * ps (ms.2.1 0) n i + 0)), 0)) else ((fm_numberHere (0 : Int32) (99999 : Int32) m1).bind fun x19 => (if x19.2 = 0 then some (x19.1, (0 : Int32)) else (fm_makes (nI (ps (ms.2.1 0) n i)) x19.1).bind fun x22 => (if x22.2 = 0 then some (x22.1, (0 : Int32)) else (fm_puts (0 : Int32) (x22.1.1 16) x22.1).bind fun x25 => some (x25, (1 : Int32)))))) := by
    unfold fm_value
    rw [j_see2 J0, bs_]
    dsimp only
    rw [hm1, q14, m_isDigit J1.2.1.1 hn (by omega), bs_]
    dsimp only
    rw [t1, m_wordHere W, bs_]
    dsimp only
    by_cases z : 270 ≤ kd ∧ kd ≤ 278
    · rw [if_pos z, if_pos z, if_pos (show (0 : Int32) ≤ nI (kd - 270) from nI_le (a := 0) (by omega) (by omega))]
    · rw [if_neg z, if_neg z, if_neg (show ¬ (0 : Int32) ≤ -1 by decide), show fm_fails (0 : Int32) (nI (ps (ms.2.1 0) n i)) m1 = some (msi m1 15 (nI (1 + 8 * ps (ms.2.1 0) n i + 0)), 0) from m_fails (a := 0) J1.2.2.1, bs_]
      dsimp only
      rw [chk_t (show isb (0 : Int32) = true by decide)]
  have ch : fh_X7_readValue (H + 5) st = fh_X7_readValue_j18 (H + 5) (nI kd) (if kd = 2 then 1 else 0) st := by
    unfold fh_X7_readValue
    rw [chk_t (isk_t k8), r7, dr_of k11, bs_, h_kind T, if_pos rfl, bs_]
    dsimp only
    rw [hK]
    by_cases z : kd = 2
    · rw [if_pos (show nI kd = (2 : Int32) by rw [z]; rfl), if_pos z]
    · rw [if_neg (show ¬ nI kd = (2 : Int32) from fun y => z ((nI_eq (b := 2) (by omega) (by omega)).mp y)), if_neg z]
  have dig : kd = 2 ↔ ps (ms.2.1 0) n i < n ∧ fD (ms.2.1 0) (ps (ms.2.1 0) n i) = true := by
    rcases Nat.lt_or_ge i M with z | z
    · obtain ⟨p1, p2, -⟩ := T.2.2.2.2.2.2.2 i z
      have := p2.dig
      rw [hK] at this
      refine ⟨fun y => ⟨p1, this.mp (by rw [y]; rfl)⟩, fun y => (nI_eq (b := 2) (by omega) (by omega)).mp (this.mpr y.2)⟩
    · have e : i = M := by omega
      have g := T.2.2.2.2.2.1
      rw [← e, hK] at g
      have := (nI_eq (b := 0) (by omega) (by omega)).mp g
      refine ⟨fun y => by omega, fun y => ?_⟩
      have := T.ps_lt.mpr y.1
      omega
  rw [hd]
  dsimp only
  by_cases z2 : kd = 2
  · rw [if_pos (dig.mp z2), if_neg (show ¬ (1 : Int32) = 0 by decide)]
    rw [if_pos z2] at ch
    have hi : i < M := T.ps_lt.mpr (dig.mp z2).1
    obtain ⟨m2, r, en, Gn, cn⟩ := m_number (L := 0) (U := 99999) J1.2.1 J1.2.2.1 (by omega) (by omega)
    have en' : fm_numberHere (0 : Int32) (99999 : Int32) m1 = some (m2, r) := en
    have sk1 : sk (m1.2.1 0) n (ps (ms.2.1 0) n i) = ps (ms.2.1 0) n i := J1.2.2.2.trans (by rw [t1])
    rw [sk1, t1] at cn
    rw [en', bs_]
    dsimp only
    have te := tE_d (n := n) (dig.mp z2).2
    have tv : gA st (H + 3) i = if 5 < rE (fD (ms.2.1 0)) n (ps (ms.2.1 0) n i) - ps (ms.2.1 0) n i then -1 else nI (numN (ms.2.1 0) (ps (ms.2.1 0) n i) (rE (fD (ms.2.1 0)) n (ps (ms.2.1 0) n i) - ps (ms.2.1 0) n i)) := by
      rw [(T.2.2.2.2.2.2.2 i hi).2.2.2]
      unfold tV
      rw [te, if_pos (dig.mp z2).2]
    obtain ⟨-, -, r3, -⟩ := rE_s (f := fD (ms.2.1 0)) hps
    have nlt : rE (fD (ms.2.1 0)) n (ps (ms.2.1 0) n i) - ps (ms.2.1 0) n i ≤ 5 → numN (ms.2.1 0) (ps (ms.2.1 0) n i) (rE (fD (ms.2.1 0)) n (ps (ms.2.1 0) n i) - ps (ms.2.1 0) n i) ≤ 99999 := fun h5 => by
      have lt := numN_lt (t := ms.2.1 0) (q := ps (ms.2.1 0) n i) (rE (fD (ms.2.1 0)) n (ps (ms.2.1 0) n i) - ps (ms.2.1 0) n i) (fun j h1 h2 => r3 j h1 (by omega))
      have := Nat.lt_of_lt_of_le lt (Nat.le_trans (Nat.pow_le_pow_right (n := 10) (by omega) h5) (show 10 ^ 5 ≤ 100000 by decide))
      omega
    have j46 : fh_X7_readValue (H + 5) st = if 0 ≤ gA st (H + 3) i then fh_X7_readValue_j68 (H + 5) (nI kd) 1 st else (fh_X10_fail H (1 : Int32) st).bind fun x59 => fh_X7_readValue_j68 (H + 5) (nI kd) 1 x59 := by
      rw [ch]
      unfold fh_X7_readValue_j18 fh_X7_readValue_j46
      rw [if_neg (show ¬ (1 : Int32) = 0 by decide), if_neg (show ¬ (1 : Int32) = 0 by decide), chk_t (isk_t k8), r7, dr_of k11, bs_, h_value T, bs_]
      dsimp only
      rw [chk_t (isk_t k8), r7, dr_of k11, bs_]
    generalize hN : numN (ms.2.1 0) (ps (ms.2.1 0) n i) (rE (fD (ms.2.1 0)) n (ps (ms.2.1 0) n i) - ps (ms.2.1 0) n i) = N at *
    rcases cn with ⟨x1, -, y1, A2, f15, s16⟩ | ⟨x1, -, y1, f15⟩ | ⟨-, y1, -⟩
    · subst x1
      have h5 := y1.1
      have hN9 := nlt h5
      rw [if_neg (by omega)] at tv
      rw [tv, if_pos (show (0 : Int32) ≤ nI N from nI_le (a := 0) (by omega) (by omega))] at j46
      rw [if_neg (show ¬ (1 : Int32) = 0 by decide)]
      have e18 : m2.1 18 = nI it := by rw [Gn.I 18 rfl]; exact i2
      rw [m_makes e18 i3 f15, bs_]
      have Gm2 : MG k ms m2 := G1.tr (MG.of Gn yN3_u rfl)
      unfold fh_X7_readValue_j68 at j46
      rw [chk_t (isk_t k8), i1] at j46
      by_cases z60 : it = 60
      · rw [if_pos z60]
        dsimp only
        rw [if_pos rfl]
        obtain ⟨s1, e1, F1, D1⟩ := J.dead (a := 3) (by omega) (by omega)
        have e1' : fh_X10_fail H (3 : Int32) st = some s1 := e1
        obtain ⟨s2, e2, F2, D2⟩ := d_j85 (v1 := nI kd) (v2 := 1) D1
        rw [if_neg (show ¬ nI it < (60 : Int32) by rw [z60]; decide), r7, dr_of k11, bs_, e1', bs_, e2] at j46
        exact ⟨s2, _, 0, j46, rfl, F1.tr F2, Gm2.tr (MG.i rfl), Or.inr ⟨rfl, _, D2, msi_s _ _ _⟩⟩
      · rw [if_neg z60]
        dsimp only
        rw [if_neg (show ¬ (1 : Int32) = 0 by decide)]
        rw [if_pos (show nI it < (60 : Int32) from nI_lt (b := 60) (by omega) (by omega))] at j46
        -- class: the item, the number, the next sign
        let u1 := sI st 706 (H + 5) (nI (it + 1))
        have Fu1 : Fr (fun b => b = H + 5) st u1 := Fr.sI rfl
        have T1 : Tk u1 H (ms.2.1 0) n M i 0 := T.rd Fu1 (fun b hb => by omega)
        have E1 : RdE u1 H := E.fr Fu1
        have sz1 : gI u1 705 (H + 5) = nI sz := (gI_sI_ne (Or.inl (by omega))).trans C1.1
        let u2 := putS u1 H sz (nI N)
        have eu2 : fh_X7_put (H + 5) (nI N) u1 = some u2 := h_rput E1 sz1 (by omega)
        have Fu2 : Fr (fun b => b = H + 5 ∨ b = H + 9) u1 u2 := put_F
        have T2 : Tk u2 H (ms.2.1 0) n M i 0 := T1.rd Fu2 (fun b hb => by omega)
        obtain ⟨u3, eu3, Fu3, -, T3, -⟩ := h_next T2
        rw [if_pos hi] at T3
        have E2 : RdE u2 H := E1.fr Fu2
        have cls : fh_X7_readValue (H + 5) st = some u3 := by
          rw [j46]
          unfold fh_X7_readValue_j85
          rw [chk_t (isk_t k8), if_neg (show ¬ (1 : Int32) = 0 by decide), i1, nI_1, show gR (sI st 706 (H + 5) (nI (it + 1))) 700 (H + 5) = some H from r7, dr_of k11, bs_, show fh_X10_value H (sI st 706 (H + 5) (nI (it + 1))) = some (u1, gA u1 (H + 3) i) from h_value T1, bs_]
          dsimp only
          rw [show gA u1 (H + 3) i = nI N from tv, chk_t (isk_t E1.1), eu2, bs_, chk_t (isk_t E2.1), E2.2.1, dr_of T2.1.1, bs_, eu3, bs_]
        -- reference
        have h16 : (msi m2 18 (nI (it + 1))).1 16 = nI N := by rw [msi_n (by omega)]; exact s16
        have k17 : (msi m2 18 (nI (it + 1))).1 17 = nI k := by rw [msi_n (by omega), Gn.I 17 rfl]; exact k1
        have C2' : CdM (msi m2 18 (nI (it + 1))) k cd sz := C2.fr (Y := fun q => yN3 q || q == 18) ((Gn.mo (fun q h => by show (yN3 q || q == 18) = true; rw [show yN3 q = true from h]; rfl)).tr (MF.msi rfl)) rfl rfl
        rw [h16, m_puts k17 k2 C2'.1 (by omega), bs_]
        have Ft : Fr (RdX H) st u3 := ((Fu1.mo (fun b hb => Or.inr (by omega))).tr (Frp Fu2)).tr (Frd Fu3)
        have cv : cdu cd sz (0, N) sz = (0, N) := cdu_s
        refine ⟨u3, _, 1, cls, rfl, Ft, (Gm2.tr (MG.i rfl)).tr putM_G, Or.inl ⟨rfl, i + 1, rE (fD (ms.2.1 0)) n (ps (ms.2.1 0) n i), cdu cd sz (0, N), sz + 1, it + 1, ⟨?_, E2.fr Fu3, ?_, ?_, ⟨?_, ?_, by omega⟩, ⟨?_, k2⟩, ?_⟩, rfl, rfl, rfl, fun j hj => cdu_n hj, Sg.one (by rw [cv]; exact Or.inl ⟨rfl, hN9⟩)⟩⟩
        · have tt : (putM (msi m2 18 (nI (it + 1))) k sz (0 + 16 * nI N)).2.1 0 = ms.2.1 0 := by rw [putM_G.1.A 0 rfl]; show m2.2.1 0 = _; rw [Gn.A 0 rfl, t1]
          refine ⟨by rw [tt]; exact T3, ?_, ?_, ?_⟩
          · refine ⟨?_, hn, ?_, A2.2.2.2⟩
            · show m2.1 1 = _; exact A2.1
            · show m2.1 14 = _; exact A2.2.2.1
          · show m2.1 15 = _; exact f15
          · rw [tt]
            show _ = if ps (ms.2.1 0) n i < n then sk (ms.2.1 0) n (tE (ms.2.1 0) n (ps (ms.2.1 0) n i)) else n
            rw [if_pos (dig.mp z2).1, te]
        · refine CdH.fr (st := u2) (X := fun b => b = H) ?_ Fu3 (by omega) (by omega)
          exact putS_c (c := (0, N)) ((show CdH u1 H cd sz from ⟨sz1, fun j hj => (C1.2 j hj)⟩).u (fun j hj => cdu_n hj)) cv rfl
        · refine putM_c (c := (0, N)) (C2'.u (fun j hj => cdu_n hj)) cv ?_
          show (0 : Int32) + 16 * nI N = if 0 ≤ 1 then nI (0 + 16 * N) else nI 0
          rw [if_pos (by omega)]
          show nI 0 + nI 16 * nI N = _
          rw [pk_mul, nI_add]
        · rw [Fu3.I 706 (by omega)]
          exact putS_6.trans (gI_sI _ _ _ _)
        · show (msi m2 18 (nI (it + 1))).1 18 = _; rw [msi_s]
        · show (msi m2 18 (nI (it + 1))).1 17 = _; exact k17
        · have tt : (putM (msi m2 18 (nI (it + 1))) k sz (0 + 16 * nI N)).2.1 0 = ms.2.1 0 := by rw [putM_G.1.A 0 rfl]; show m2.2.1 0 = _; rw [Gn.A 0 rfl, t1]
          rw [tt, ← t1]; exact B
    · subst x1
      have h5 : 5 < rE (fD (ms.2.1 0)) n (ps (ms.2.1 0) n i) - ps (ms.2.1 0) n i := by
        rcases Nat.lt_or_ge 5 (rE (fD (ms.2.1 0)) n (ps (ms.2.1 0) n i) - ps (ms.2.1 0) n i) with c | c
        · exact c
        · exact absurd (show nOk _ _ _ _ _ from ⟨c, by omega, by rw [hN]; exact nlt c⟩) y1
      rw [if_pos h5] at tv
      rw [if_pos rfl]
      obtain ⟨s1, e1, F1, D1⟩ := J.dead (a := 1) (by omega) (by omega)
      have e1' : fh_X10_fail H (1 : Int32) st = some s1 := e1
      obtain ⟨s2, e2, F2, D2⟩ := d_j68 (v1 := nI kd) (v2 := 1) D1
      rw [tv, if_neg (show ¬ (0 : Int32) ≤ -1 by decide), e1', bs_, e2] at j46
      exact ⟨s2, _, 0, j46, rfl, F1.tr F2, G1.tr (MG.of Gn yN3_u rfl), Or.inr ⟨rfl, _, D2, f15⟩⟩
    · exact absurd (dig.mp z2) y1
  · rw [if_neg (fun y => z2 (dig.mpr y)), if_pos rfl]
    rw [if_neg z2] at ch
    by_cases zw : 270 ≤ kd ∧ kd ≤ 278
    · rw [if_pos zw, m_makes i2 i3 J1.2.2.1, bs_]
      have hi : i < M := T.lt hK (by omega) hk9
      have j68 : fh_X7_readValue (H + 5) st = fh_X7_readValue_j68 (H + 5) (nI kd) 0 st := by
        rw [ch]
        unfold fh_X7_readValue_j18 fh_X7_readValue_j46
        rw [if_pos rfl, if_neg (show ¬ nI kd < (270 : Int32) from nI_nlt (b := 270) zw.1 (by omega)), if_pos (show nI kd ≤ (278 : Int32) from nI_le (b := 278) zw.2 (by omega)), if_pos rfl]
      unfold fh_X7_readValue_j68 at j68
      rw [chk_t (isk_t k8), i1] at j68
      by_cases z60 : it = 60
      · rw [if_pos z60]
        dsimp only
        rw [if_pos rfl]
        obtain ⟨s1, e1, F1, D1⟩ := J.dead (a := 3) (by omega) (by omega)
        have e1' : fh_X10_fail H (3 : Int32) st = some s1 := e1
        obtain ⟨s2, e2, F2, D2⟩ := d_j85 (v1 := nI kd) (v2 := 0) D1
        rw [if_neg (show ¬ nI it < (60 : Int32) by rw [z60]; decide), r7, dr_of k11, bs_, e1', bs_, e2] at j68
        exact ⟨s2, _, 0, j68, rfl, F1.tr F2, G1.tr (MG.i rfl), Or.inr ⟨rfl, _, D2, msi_s _ _ _⟩⟩
      · rw [if_neg z60]
        dsimp only
        rw [if_neg (show ¬ (1 : Int32) = 0 by decide)]
        rw [if_pos (show nI it < (60 : Int32) from nI_lt (b := 60) (by omega) (by omega))] at j68
        let u1 := sI st 706 (H + 5) (nI (it + 1))
        have Fu1 : Fr (fun b => b = H + 5) st u1 := Fr.sI rfl
        have T1 : Tk u1 H (ms.2.1 0) n M i 0 := T.rd Fu1 (fun b hb => by omega)
        have E1 : RdE u1 H := E.fr Fu1
        have sz1 : gI u1 705 (H + 5) = nI sz := (gI_sI_ne (Or.inl (by omega))).trans C1.1
        let u2 := putS u1 H sz (-nI kd)
        have eu2 : fh_X7_put (H + 5) (-nI kd) u1 = some u2 := h_rput E1 sz1 (by omega)
        have Fu2 : Fr (fun b => b = H + 5 ∨ b = H + 9) u1 u2 := put_F
        let m3 := msi m1 18 (nI (it + 1))
        have J3 : Jt2 u2 m3 H n M i (ps (m3.2.1 0) n i) := by
          have a : Jt2 u2 m1 H n M i (ps (m1.2.1 0) n i) := (Jm.frh Fu1 (by omega) (by omega) (by omega) (by omega)).frh Fu2 (by omega) (by omega) (by omega) (by omega)
          exact a.frm (Y := fun q => q == 18) (MF.msi rfl) rfl rfl rfl rfl
        have g2 : gA u2 (H + 1) i = nI (256 + (kd - 256)) := by
          rw [Fu2.A (by omega), show 256 + (kd - 256) = kd by omega]; exact hK
        obtain ⟨u3, m4, eu3, em4, Fu3, -, Gm4, J4⟩ := j_pass J3 (show kd - 256 < 23 by omega) hi g2
        have E2 : RdE u2 H := E1.fr Fu2
        have cls : fh_X7_readValue (H + 5) st = some u3 := by
          rw [j68]
          unfold fh_X7_readValue_j85
          rw [chk_t (isk_t k8), if_pos rfl, i1, nI_1, show fh_X7_put (H + 5) (-nI kd) (sI st 706 (H + 5) (nI (it + 1))) = some u2 from eu2, bs_, chk_t (isk_t E2.1), E2.2.1, dr_of J3.1.1.1, bs_, eu3, bs_]
        have k17 : m4.1 17 = nI k := by rw [Gm4.I 17 rfl]; show (msi m1 18 (nI (it + 1))).1 17 = _; rw [msi_n (by omega)]; exact k1
        have Y2 : MF (fun q => q == 14 || q == 18) m1 m4 := (MF.msi (a := m1) (v := nI (it + 1)) (k := 18) (X := fun q => q == 14 || q == 18) rfl).tr (Gm4.mo (fun q h => by rw [of_decide_eq_true h]; rfl))
        have C2' : CdM m4 k cd sz := C2.fr Y2 rfl rfl
        have G4 : MG k ms m4 := G1.tr (MG.of Y2 (fun q h => by rcases (by simpa using h : q = 14 ∨ q = 18) with y | y <;> rw [y] <;> rfl) rfl)
        rw [show fm_passWord (msi m1 18 (nI (it + 1))) = some m4 from em4, bs_, m_puts k17 k2 C2'.1 (by omega), bs_]
        have cv : cdu cd sz (1, kd - 270) sz = (1, kd - 270) := cdu_s
        have t4 : m4.2.1 0 = ms.2.1 0 := by rw [Y2.A 0 rfl]; exact t1
        have Gp : MF (fun q => q == 3 || q == 4) m4 (putM m4 k sz (1 + 16 * nI (kd - 270))) := (MF.msa rfl).tr (MF.msa rfl)
        refine ⟨u3, _, 1, cls, rfl, ((Fu1.mo (fun b hb => Or.inr (by omega))).tr (Frp Fu2)).tr (Frd Fu3), G4.tr putM_G, Or.inl ⟨rfl, i + 1, _, cdu cd sz (1, kd - 270), sz + 1, it + 1, ⟨J4.frm Gp rfl rfl rfl rfl, E2.fr Fu3, ?_, ?_, ⟨?_, ?_, by omega⟩, ⟨k17, k2⟩, ?_⟩, rfl, rfl, rfl, fun j hj => cdu_n hj, Sg.one (by rw [cv]; exact Or.inr ⟨rfl, by show kd - 270 < 9; omega⟩)⟩⟩
        · refine CdH.fr (st := u2) (X := fun b => b = H) ?_ Fu3 (by omega) (by omega)
          refine putS_c (c := (1, kd - 270)) ((show CdH u1 H cd sz from ⟨sz1, fun j hj => (C1.2 j hj)⟩).u (fun j hj => cdu_n hj)) cv ?_
          show -nI kd = -nI (270 + (kd - 270))
          rw [show 270 + (kd - 270) = kd by omega]
        · refine putM_c (c := (1, kd - 270)) (C2'.u (fun j hj => cdu_n hj)) cv ?_
          show (1 : Int32) + 16 * nI (kd - 270) = if 1 ≤ 1 then nI (1 + 16 * (kd - 270)) else nI 1
          rw [if_pos (by omega)]
          show nI 1 + nI 16 * nI (kd - 270) = _
          rw [pk_mul, nI_add]
        · rw [Fu3.I 706 (by omega)]
          exact putS_6.trans (gI_sI _ _ _ _)
        · show m4.1 18 = _
          rw [Gm4.I 18 rfl]; exact msi_s _ _ _
        · rw [Gp.A 0 rfl, t4, ← t1]; exact B
    · rw [if_neg zw]
      obtain ⟨s1, e1, F1, D1⟩ := J.dead (a := 0) (by omega) (by omega)
      have e1' : fh_X10_fail H (0 : Int32) st = some s1 := e1
      have cls : fh_X7_readValue (H + 5) st = some s1 := by
        rw [ch]
        unfold fh_X7_readValue_j18
        rw [if_pos rfl, chk_t (isk_t k8), r7, dr_of k11, bs_, e1', bs_]
        rcases Nat.lt_or_ge kd 270 with y | y
        · rw [if_pos (show nI kd < (270 : Int32) from nI_lt (b := 270) y (by omega))]
        · rw [if_neg (show ¬ nI kd < (270 : Int32) from nI_nlt (b := 270) y (by omega)), if_neg (show ¬ nI kd ≤ (278 : Int32) from nI_ge (b := kd) (a := 278) (by omega) (by omega))]
      exact ⟨s1, _, 0, cls, rfl, F1, G1.tr (MG.i rfl), Or.inr ⟨rfl, _, D1, msi_s _ _ _⟩⟩
