/-! whatever: rows of errors on the first days -/
def pGoE (l r : Option Ru) (e : Nat → (Nat → Int32) → Nat → Int32) : Nat → Nat → (Nat → Int32) → Nat → Int32
  | 0, _, v => v
  | n + 1, i, v => if pGap v = 0 then v else pGoE l r e n (i + 1) (pDay v l r (e i v 0) (e i v 1))
theorem pGoE_met {l r : Option Ru} {e : Nat → (Nat → Int32) → Nat → Int32} {v : Nat → Int32} (h : pGap v = 0) : ∀ n i, pGoE l r e n i v = v
  | 0, _ => rfl
  | n + 1, i => by unfold pGoE; rw [if_pos h]
theorem VOk.goE {l r : Option Ru} {e : Nat → (Nat → Int32) → Nat → Int32} : ∀ (n i : Nat) {D : Nat} {v : Nat → Int32}, VOk D v → VOk (D + n) (pGoE l r e n i v)
  | 0, _, _, _, V => V
  | n + 1, i, D, v, V => by
    unfold pGoE
    split
    · exact V.mo (by omega)
    · rw [show D + (n + 1) = D + 1 + n by omega]; exact VOk.goE n (i + 1) V.day
theorem Kp_goE {l r : Option Ru} {e : Nat → (Nat → Int32) → Nat → Int32} : ∀ (n i : Nat) {v : Nat → Int32}, KpR v (pGoE l r e n i v)
  | 0, _, _ => KpR.rf
  | n + 1, i, v => by
    unfold pGoE
    split
    · exact KpR.rf
    · exact Kp_day.tr (Kp_goE n (i + 1))
theorem goE_hi {l r : Option Ru} {e : Nat → (Nat → Int32) → Nat → Int32} {i : Nat} (hi : 286 ≤ i) : ∀ (n j : Nat) {D : Nat} {v : Nat → Int32}, VOk D v → pGoE l r e n j v i = v i
  | 0, _, _, _, _ => rfl
  | n + 1, j, D, v, V => by
    unfold pGoE
    split
    · rfl
    · rw [goE_hi hi n (j + 1) V.day, day_hi V hi]
def dg (row i tm : Nat) : Int32 := (nI (row / 3 ^ i % 3) - 1) * nI tm
theorem dg_s {row i tm : Nat} (h : tm ≤ 9) : sm9 (dg row i tm) := by
  have h3 : row / 3 ^ i % 3 < 3 := Nat.mod_lt _ (by omega)
  have e : (nI (row / 3 ^ i % 3) - 1).toInt = ((row / 3 ^ i % 3 : Nat) : Int) - 1 := pk_sub_toInt (b := 1) (by omega) (by omega)
  obtain ⟨e1, l1, l2⟩ := mulT (a := nI (row / 3 ^ i % 3) - 1) (b := tm) (A := 1) (B := 9) (by omega) (by omega) (by omega) (by omega) (by omega) (by omega)
  unfold dg sm9
  rw [e1]; omega
/-- the error that side s has on the i-th day: those of the row for side sd on k days -/
def pRow (sd row k tm i : Nat) (v : Nat → Int32) (s : Nat) : Int32 := if s = sd ∧ i < k then dg row i tm else pErr v s
theorem pRow_s {sd row k tm i s D : Nat} {v : Nat → Int32} (h : tm ≤ 9) (V : VOk D v) (hs : s < 2) : sm9 (pRow sd row k tm i v s) := by
  unfold pRow
  split
  · exact dg_s h
  · exact V.err hs
def RwR (hx : Nat) (st : HSt) (sd row k tm : Nat) : Prop := gI st 8 (hx + 27) = nI sd ∧ gI st 9 (hx + 27) = nI k ∧ ∀ i, i < k → gA st (hx + 32) i = dg row i tm
theorem RwR.fr {X : Nat → Prop} {hx : Nat} {a b : HSt} {sd row k tm : Nat} (h : RwR hx a sd row k tm) (F : Fr X a b) (h1 : ¬ X (hx + 27)) (h2 : ¬ X (hx + 32)) : RwR hx b sd row k tm := by
  obtain ⟨a1, a2, a3⟩ := h
  exact ⟨(F.I 8 h1).trans a1, (F.I 9 h1).trans a2, fun i hi => by rw [F.A h2]; exact a3 i hi⟩
theorem h_tellRow {hx : Nat} {st : HSt} {sd row k tm : Nat} (h : Sh hx st) (hk : k ≤ 3) (hrow : row < 1000) : ∃ st2, fh_X0_tellRow (hx + 27) (nI sd) (nI row) (nI k) (nI tm) st = some st2 ∧ RwR hx st2 sd row k tm ∧ Fr (fun b => b = hx + 27 ∨ b = hx + 32) st st2 ∧ gR st2 10 (hx + 27) = gR st 10 (hx + 27) := by
  have r7 : gR st 7 (hx + 27) = some (hx + 32) := h.2.2.2.2.1.2.2.2.2.2.2.2.1
  have l32 : gL st (hx + 32) = 3 := h.2.2.2.2.1.2.2.2.2.2.2.2.2.1
  have k32 : gK st (hx + 32) = 22 := h.k (by omega) rfl
  let s1 := sI (sI st 8 (hx + 27) (nI sd)) 9 (hx + 27) (nI k)
  have F1 : Fr (fun b => b = hx + 27 ∨ b = hx + 32) st s1 := (Fr.sI (Or.inl rfl)).tr (Fr.sI (Or.inl rfl))
  obtain ⟨z, e, F, g8, g9, gr, gr2⟩ : ∃ z : Int32 × Int32 × HSt, iter (fun x : (Int32 × Int32 × HSt) => fh_X0_tellRow_s24 (hx + 27) (nI tm) x.1 x.2.1 x.2.2) mFuel (nI row, (0 : Int32), s1) = some (.inr z) ∧ Fr (fun b => b = hx + 27 ∨ b = hx + 32) st z.2.2 ∧ gI z.2.2 8 (hx + 27) = nI sd ∧ gI z.2.2 9 (hx + 27) = nI k ∧ (∀ i, i < k → gA z.2.2 (hx + 32) i = dg row i tm) ∧ gR z.2.2 10 (hx + 27) = gR st 10 (hx + 27) := by
    refine iter_n (fun j (x : Int32 × Int32 × HSt) => x.1 = nI (row / 3 ^ j) ∧ x.2.1 = nI j ∧ Fr (fun b => b = hx + 27 ∨ b = hx + 32) st x.2.2 ∧ gI x.2.2 8 (hx + 27) = nI sd ∧ gI x.2.2 9 (hx + 27) = nI k ∧ (∀ i, i < j → gA x.2.2 (hx + 32) i = dg row i tm) ∧ gR x.2.2 10 (hx + 27) = gR st 10 (hx + 27)) k _ ?_ ?_ ⟨by rw [Nat.pow_zero, Nat.div_one], rfl, F1, ?_, gI_sI _ _ _ _, fun _ q => absurd q (Nat.not_lt_zero _), rfl⟩ (by omega)
    · rintro j ⟨q, i, s⟩ hj ⟨hq, hi, F, g8, g9, g, gr⟩
      simp only at hq hi F g8 g9 g gr
      subst hq; subst hi
      have h2 := h.fr F
      have hb : row / 3 ^ j < 1000 := Nat.lt_of_le_of_lt (Nat.div_le_self _ _) hrow
      have ed : nI (row / 3 ^ j) / 3 = nI (row / 3 ^ (j + 1)) := by
        rw [show nI (row / 3 ^ j) / 3 = nI (row / 3 ^ j / 3) from pk_div (d := 3) (by omega) (by omega) (by omega), Nat.div_div_eq_div_mul, Nat.pow_succ]
      have em : nI (row / 3 ^ j) - nI (row / 3 ^ j) / 3 * 3 = nI (row / 3 ^ j % 3) := pk_rem (d := 3) (by omega) (by omega) (by omega)
      refine ⟨(nI (row / 3 ^ (j + 1)), nI (j + 1), sA s (hx + 32) j (dg row j tm)), ?_, rfl, rfl, F.tr (Fr.sA (Or.inr rfl)), g8, g9, fun i hi => ?_, gr⟩
      · show fh_X0_tellRow_s24 (hx + 27) (nI tm) (nI (row / 3 ^ j)) (nI j) s = _
        unfold fh_X0_tellRow_s24
        rw [chk_t (isk_t (k27 h2)), g9, if_neg (nI_ge hj (by omega)), (F.R (f := 7) _ rfl).trans r7, dr_of ((F.K _).trans k32), bs_, (F.L _).trans l32, chk_t (inb_n (by omega) (by omega)), bs_, em, ed, nI_clamp (by omega), nI_1]
        rfl
      · show gA (sA s (hx + 32) j (dg row j tm)) (hx + 32) i = _
        rw [gA_sA]
        by_cases q : i = j
        · rw [q, pk_us]
        · rw [pk_un q]; exact g i (by omega)
    · rintro ⟨q, i, s⟩ ⟨hq, hi, F, g8, g9, g, gr⟩
      simp only at hq hi F g8 g9 g gr
      subst hq; subst hi
      refine ⟨(nI (row / 3 ^ k), nI k, s), ?_, F, g8, g9, g, gr⟩
      show fh_X0_tellRow_s24 (hx + 27) (nI tm) (nI (row / 3 ^ k)) (nI k) s = _
      unfold fh_X0_tellRow_s24
      rw [chk_t (isk_t (k27 (h.fr F))), g9, if_pos (nI_le (Nat.le_refl _) (by omega))]
    · show gI (sI (sI st 8 (hx + 27) (nI sd)) 9 (hx + 27) (nI k)) 8 (hx + 27) = _
      rw [gI_sI_ne (Or.inl (by omega)), gI_sI]
  refine ⟨z.2.2, ?_, ⟨g8, g9, gr⟩, F, gr2⟩
  have emin : (if nI 3 < nI k then nI 3 else nI k) = nI k := by rw [if_neg (nI_nlt hk (by omega))]
  unfold fh_X0_tellRow
  rw [chk_t (isk_t (k27 h)), gR_sI, r7, dr_of k32, bs_, gL_sI, l32, emin, bs_]
  show Option.bind (iter (fun x : (Int32 × Int32 × HSt) => fh_X0_tellRow_s24 (hx + 27) (nI tm) x.1 x.2.1 x.2.2) mFuel (nI row, (0 : Int32), s1)) _ = _
  rw [e]; rfl
theorem h_rowE {hx : Nat} {st : HSt} {sd row k tm s i d : Nat} {v : Nat → Int32} {x : Int32} (w : Wf st) (h : Sh hx st) (Rw : RwR hx st sd row k tm) (E : ErR st (hx + 3) v) (hx2 : x = nI s) (hs : s < 2) (hsd : sd < 2) (h1 : v 1 = nI d) (hd : d < 2 ^ 31) (hk : k ≤ 3) (hi : i < 1000) : fh_X0_rowError (hx + 27) (some (hx + 3)) (nI d) x (nI i) st = some (st, pRow sd row k tm i v s) := by
  subst hx2
  obtain ⟨g8, g9, ga⟩ := Rw
  have r7 : gR st 7 (hx + 27) = some (hx + 32) := h.2.2.2.2.1.2.2.2.2.2.2.2.1
  have l32 : gL st (hx + 32) = 3 := h.2.2.2.2.1.2.2.2.2.2.2.2.2.1
  have k32 : gK st (hx + 32) = 22 := h.k (by omega) rfl
  have er := h_errorOn (s := s) (x := nI s) (d := d) (z := nI d) w E rfl hs rfl hd
  rw [← pErr_e h1 hd] at er
  unfold fh_X0_rowError pRow
  rw [chk_t (isk_t (k27 h)), g8, g9]
  by_cases q : s = sd
  · rw [if_pos (by rw [q])]
    by_cases z : i < k
    · rw [if_neg (nI_ge z (by omega)), if_pos ⟨q, z⟩, r7, dr_of k32, bs_, l32, chk_t (inb_n (by omega) (by omega)), nI_clamp (by omega), ga i z]
    · rw [if_pos (nI_le (by omega) (by omega)), if_neg (fun e => z e.2), dr_of (k3 h), bs_, er, bs_]
  · rw [if_neg (fun e => q ((nI_eq (by omega) (by omega)).mp e)), if_neg (fun e => q e.1), dr_of (k3 h), bs_, er, bs_]
theorem h_byRow {hx r D n sd row k tm : Nat} {st : HSt} {v : Nat → Int32} {ql qr : Option Nat} {l u : Option Ru} (w : Wf st) (h : Sh hx st) (S : SpR st (hx + 3 + 1) r v) (E : ErR st (hx + 3) v) (V : VOk D v) (Ql : RqR st ql l) (Qr : RqR st qr u) (Rw : RwR hx st sd row k tm) (hsd : sd < 2) (hk : k ≤ 3) (hn : n ≤ 400) (hD : D ≤ 10000) : ∃ st2, fh_X0_spanByRow (hx + 27) (some (hx + 3)) ql qr (nI n) st = some (st2, some (hx + 33)) ∧ SpR st2 (hx + 33) r (pGoE l u (pRow sd row k tm) n 0 v) ∧ Fr (Dx (hx + 33) (hx + 28)) st st2 := by
  obtain ⟨s1, e1, S1, F1⟩ := h_become (a := hx + 33) (b := hx + 3 + 1) w (sp_k0 h) S V (by omega)
  have F1' : Fr (Dx (hx + 33) (hx + 28)) st s1 := F1.mo (fun _ e => Or.inl e)
  have dxr : ∀ b j, gK st b = 7 → j < 5 → ¬ Dx (hx + 33) (hx + 28) (b + j) := dx_ru w h.lk (sp_k0 h)
  obtain ⟨y, e, S2, F2⟩ : ∃ y : Int32 × HSt, iter (fun x : (Int32 × HSt) => fh_X0_spanByRow_s20 (hx + 27) (some (hx + 3)) ql qr (nI n) (some (hx + 33)) x.1 x.2) mFuel ((0 : Int32), s1) = some (.inr y) ∧ SpR y.2 (hx + 33) r (pGoE l u (pRow sd row k tm) n 0 v) ∧ Fr (Dx (hx + 33) (hx + 28)) st y.2 := by
    refine iter_w (fun j (x : Int32 × HSt) => x.1 = nI j ∧ Fr (Dx (hx + 33) (hx + 28)) st x.2 ∧ ∃ z, SpR x.2 (hx + 33) r z ∧ VOk (D + j) z ∧ KpR v z ∧ pGoE l u (pRow sd row k tm) (n - j) j z = pGoE l u (pRow sd row k tm) n 0 v) n (fun y : Int32 × HSt => SpR y.2 (hx + 33) r (pGoE l u (pRow sd row k tm) n 0 v) ∧ Fr (Dx (hx + 33) (hx + 28)) st y.2) ?_ ⟨rfl, F1', v, S1, V, KpR.rf, rfl⟩ (by omega)
    rintro j ⟨i, s⟩ hjn ⟨hi, F, z, Sz, Vz, Kz, Gz⟩
    simp only at hi F Sz
    subst hi
    have W := F.Wf w
    have h2 := h.fr F
    rcases Nat.lt_or_ge j n with hlt | hge
    · have met := h_met W Sz
      have k10 := Sz.2.2.1
      have E1 : ErR s (hx + 3) z := E.fr F (dx_si (i := 0) (j := 14) (by omega)) Kz
      have Rw1 := Rw.fr F (sc_27 (i := 0) (by omega)) (by unfold Dx Sx Lx; omega)
      obtain ⟨w0, y, d, sp, fl, h0, h6, h1, h2', h4, hw, hy, hd, hsp, hfl, -⟩ := id Vz
      have i1 : gI s 901 (hx + 33) = nI d := Sz.2.2.2.1.trans h1
      have er0 := h_rowE (s := 0) (x := 0) (i := j) W h2 Rw1 E1 rfl (by omega) hsd h1 (by omega) hk (by omega)
      have er1 := h_rowE (s := 1) (x := 1) (i := j) W h2 Rw1 E1 rfl (by omega) hsd h1 (by omega) hk (by omega)
      by_cases hm : pGap z = 0
      · right
        refine ⟨(nI j, s), ?_, ?_, F⟩
        · show fh_X0_spanByRow_s20 (hx + 27) (some (hx + 3)) ql qr (nI n) (some (hx + 33)) (nI j) s = _
          unfold fh_X0_spanByRow_s20
          rw [if_neg (nI_ge hlt (by omega)), dr_of k10, bs_, met, bs_, if_pos hm, if_neg (show ¬ (1 : Int32) = 0 by decide)]
        · rw [← Gz, pGoE_met hm]; exact Sz
      · left
        obtain ⟨s2, e2, S2, F2⟩ := h_both (h := hx + 27) (e0 := pRow sd row k tm j z 0) (e1 := pRow sd row k tm j z 1) W (k27 h2) h2.2.2.2.2.1.1 h2.lk Sz Vz (Rq_fr Ql F dxr) (Rq_fr Qr F dxr)
        obtain ⟨s3, e3, S3, F3⟩ := h_endDay (F2.Wf W) S2 Vz.both
        refine ⟨(nI (j + 1), s3), ?_, ⟨rfl, (F.tr F2).tr (F3.mo (fun _ e => Or.inl e)), pDay z l u (pRow sd row k tm j z 0) (pRow sd row k tm j z 1), S3, Vz.day, Kz.tr Kp_day, ?_⟩, hlt⟩
        · show fh_X0_spanByRow_s20 (hx + 27) (some (hx + 3)) ql qr (nI n) (some (hx + 33)) (nI j) s = _
          unfold fh_X0_spanByRow_s20
          rw [if_neg (nI_ge hlt (by omega)), dr_of k10, bs_, met, bs_, if_neg hm, if_pos rfl, chk_t (isk_t k10), chk_t (isk_t (k27 h2))]
          dsimp only
          rw [i1, er0, bs_, chk_t (isk_t k10), chk_t (isk_t (k27 h2))]
          dsimp only
          rw [i1, er1, bs_]
          dsimp only
          rw [chk_t (isk_t (k27 h2)), e2, bs_, chk_t (isk_t S2.2.2.1), e3, bs_, nI_1]
        · rw [← Gz, show n - j = (n - (j + 1)) + 1 by omega]
          show _ = (if pGap z = 0 then z else pGoE l u (pRow sd row k tm) (n - (j + 1)) (j + 1) (pDay z l u (pRow sd row k tm j z 0) (pRow sd row k tm j z 1)))
          rw [if_neg hm]
    · have ek : j = n := by omega
      subst ek
      right
      refine ⟨(nI j, s), ?_, ?_, F⟩
      · show fh_X0_spanByRow_s20 (hx + 27) (some (hx + 3)) ql qr (nI j) (some (hx + 33)) (nI j) s = _
        unfold fh_X0_spanByRow_s20
        rw [if_pos (nI_le (Nat.le_refl _) (by omega))]
      · rw [← Gz, Nat.sub_self]; exact Sz
  refine ⟨y.2, ?_, S2, F2⟩
  unfold fh_X0_spanByRow
  rw [chk_t (isk_t (k27 h)), st_spares h, bs_, sp_L h, chk_t (by decide), dr_of (k3 h), bs_, cln0, sp_q0 h, dr_of (sp_k0 h), bs_, r800 w h, e1, bs_, e]
  rfl
