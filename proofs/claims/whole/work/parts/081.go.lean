/-! both act; errors; days till it is MET (class) -/
theorem iter_w {σ ο : Type} {s1 : σ → Option (ο ⊕ (σ ⊕ σ))} (I : Nat → σ → Prop) (n : Nat) (RE : σ → Prop)
    (h : ∀ k x, k ≤ n → I k x → (∃ y, s1 x = some (.inr (.inl y)) ∧ I (k + 1) y ∧ k < n) ∨ (∃ y, s1 x = some (.inr (.inr y)) ∧ RE y)) {x : σ} (h0 : I 0 x) (hn : n < 1000000) : ∃ y, iter s1 mFuel x = some (.inr y) ∧ RE y := by
  rcases iter_m (s1 := s1) I n (fun _ => False) RE (fun k x hk hI => Or.inr (h k x hk hI)) h0 hn with ⟨o, _, q⟩ | q
  · exact q.elim
  · exact q
theorem i32_of {x y : Int32} (h : x.toInt = y.toInt) : x = y := Int32.toInt_inj.mp h
theorem sm20_e {x : Int32} (h : sm20 x) : ∃ t, t ≤ 40 ∧ x = nI t - 20 := by
  obtain ⟨h1, h2⟩ := h
  refine ⟨(x.toInt + 20).toNat, by omega, i32_of ?_⟩
  have e : (nI (x.toInt + 20).toNat - 20).toInt = ((x.toInt + 20).toNat : Int) - 20 := pk_sub_toInt (b := 20) (by omega) (by omega)
  rw [e]; omega
theorem nI_neg_toInt {n : Nat} (h : n < 2 ^ 31) : (-nI n).toInt = -(n : Int) := sb_negT h
theorem l64 (x : Int32) : x.toInt64.toInt = x.toInt := Int32.toInt_toInt64 x
theorem i32s {x : Int64} (h1 : -20 ≤ x.toInt) (h2 : x.toInt ≤ 20) : x.toInt32.toInt = x.toInt := by
  rw [Int64.toInt_toInt32]
  rw [Int.bmod_def]; omega
theorem pHold_e {sp : Nat} (h : sp ≤ 20) (x : Int64) : (pHold (nI sp) x).toInt = if x.toInt < -(sp : Int) then -(sp : Int) else if (sp : Int) < x.toInt then (sp : Int) else x.toInt := by
  have a1 : (nI sp).toInt64.toInt = (sp : Int) := by rw [l64, nI_toInt (by omega)]
  have a2 : (-nI sp).toInt64.toInt = -(sp : Int) := by rw [l64, nI_neg_toInt (by omega)]
  unfold pHold
  by_cases h1 : x < (nI sp).toInt64
  · rw [if_pos h1]
    have h1' := Int64.lt_iff_toInt_lt.mp h1
    by_cases h2 : x < (-nI sp).toInt64
    · rw [if_pos h2]
      have h2' := Int64.lt_iff_toInt_lt.mp h2
      rw [i32s (by omega) (by omega), a2, if_pos (by omega)]
    · rw [if_neg h2]
      have h2' : ¬ x.toInt < (-nI sp).toInt64.toInt := fun q => h2 (Int64.lt_iff_toInt_lt.mpr q)
      rw [i32s (by omega) (by omega), if_neg (by omega), if_neg (by omega)]
  · rw [if_neg h1]
    have h1' : ¬ x.toInt < (nI sp).toInt64.toInt := fun q => h1 (Int64.lt_iff_toInt_lt.mpr q)
    have h2 : ¬ (nI sp).toInt64 < (-nI sp).toInt64 := fun q => by have := Int64.lt_iff_toInt_lt.mp q; omega
    rw [if_neg h2, i32s (by omega) (by omega), a1]
    by_cases h3 : (sp : Int) < x.toInt
    · rw [if_neg (by omega), if_pos h3]
    · rw [if_neg (by omega), if_neg h3]; omega
theorem pHold_s {sp : Nat} (h : sp ≤ 20) (x : Int64) : sm20 (pHold (nI sp) x) := by
  unfold sm20; rw [pHold_e h]
  split
  · omega
  · split <;> omega
theorem pFst_s {u : Ru} {w : Nat → Int64} {k sp : Nat} (h : sp ≤ 20) : sm20 (pFst u w k (nI sp)) := by
  unfold pFst
  split
  · exact ⟨by decide, by decide⟩
  · exact pHold_s h _
theorem pl_of {t r : Int32} (ht : sm20 t) (hr : sm20 r) : PlOk ((t + 20) * 41 + r + 20) ∧ (((t + 20) * 41 + r + 20) / 41 - 20 = t ∧ ((t + 20) * 41 + r + 20) - ((t + 20) * 41 + r + 20) / 41 * 41 - 20 = r) := by
  obtain ⟨a, ha, e1⟩ := sm20_e ht
  obtain ⟨b, hb, e2⟩ := sm20_e hr
  have e : (t + 20) * 41 + r + 20 = nI (41 * a + b) := by
    rw [e1, e2, Int32.sub_add_cancel, Int32.add_assoc, Int32.sub_add_cancel]
    show nI a * nI 41 + nI b = _
    rw [pk_mul, nI_add, Nat.mul_comm]
  obtain ⟨q1, q2⟩ := pl_tr ha hb
  rw [e, q2, q1]
  exact ⟨Or.inr (Or.inr ⟨a, b, ha, hb, rfl⟩), e1.symm, e2.symm⟩
theorem plan_ok {D : Nat} {v : Nat → Int32} {u : Option Ru} {s : Nat} {e : Int32} (V : VOk D v) : PlOk (pPlan v u s e) := by
  obtain ⟨w0, y, d, sp, fl, h0, h6, h1, h2, h4, hw, hy, hd, hsp, -⟩ := V
  cases u with
  | none => exact Or.inr (Or.inr ⟨20, 20, by omega, by omega, rfl⟩)
  | some u =>
    show PlOk (pPlanR v u s e)
    unfold pPlanR
    split
    · exact Or.inl rfl
    · split
      · exact Or.inr (Or.inl rfl)
      · rw [h2]; exact (pl_of (pFst_s hsp) (pFst_s hsp)).1
/-- both act, by plans made ahead of it -/
def pBoth (v : Nat → Int32) (l r : Option Ru) (e0 e1 : Int32) : Nat → Int32 := pAct (pAct v 0 (pPlan v l 0 e0)) 1 (pPlan v r 1 e1)
def pDay (v : Nat → Int32) (l r : Option Ru) (e0 e1 : Int32) : Nat → Int32 := pEnd (pBoth v l r e0 e1)
theorem VOk.both {D : Nat} {v : Nat → Int32} {l r : Option Ru} {e0 e1 : Int32} (V : VOk D v) : VOk D (pBoth v l r e0 e1) := (V.act (by omega) (plan_ok V)).act (by omega) (plan_ok V)
theorem VOk.day {D : Nat} {v : Nat → Int32} {l r : Option Ru} {e0 e1 : Int32} (V : VOk D v) : VOk (D + 1) (pDay v l r e0 e1) := V.both.dend
theorem Kp_both {v : Nat → Int32} {l r : Option Ru} {e0 e1 : Int32} : KpR v (pBoth v l r e0 e1) := (Kp_act (by omega)).tr (Kp_act (by omega))
theorem Kp_day {v : Nat → Int32} {l r : Option Ru} {e0 e1 : Int32} : KpR v (pDay v l r e0 e1) := Kp_both.tr Kp_end
def Dx (a L b : Nat) : Prop := Sx a b ∨ Lx L b
theorem ru_out {st : HSt} {a q : Nat} (w : Wf st) (ka : gK st a = 10) (kq : gK st q = 7) {j : Nat} (hj : j < 5) : ¬ Sx a (q + j) := by
  obtain ⟨c1, c2, -⟩ := w.1 a ka
  obtain ⟨d, -⟩ := w.2.2.1 q kq
  have hd : ∀ i, 1 < i → i < 10 → q ≠ a + i := fun i h1 h2 e => by have := c2 i h1 h2; rw [← e, kq] at this; cases this
  rintro (e | e | e | e)
  · rcases (by omega : j = 0 ∨ 0 < j) with z | z
    · subst z; have e2 : q = a := e; rw [e2, ka] at kq; cases kq
    · have := d j z hj; rw [e, ka] at this; cases this
  · exact hd (7 - j) (by omega) (by omega) (by omega)
  · exact hd (8 - j) (by omega) (by omega) (by omega)
  · exact hd (9 - j) (by omega) (by omega) (by omega)
theorem Rq_fr {X : Nat → Prop} {st st2 : HSt} {q : Option Nat} {u : Option Ru} (R : RqR st q u) (F : Fr X st st2) (hX : ∀ b j, gK st b = 7 → j < 5 → ¬ X (b + j)) : RqR st2 q u := by
  rcases R with ⟨h1, h2⟩ | ⟨b, c, h1, h2, R, O⟩
  · exact Or.inl ⟨h1, h2⟩
  · exact Or.inr ⟨b, c, h1, h2, R.fr F (fun j hj => hX b j R.1 hj), O⟩
theorem dx_ru {st : HSt} {a L : Nat} (w : Wf st) (l : Lk st L) (ka : gK st a = 10) : ∀ b j, gK st b = 7 → j < 5 → ¬ Dx a L (b + j) := fun b j hb hj e => by
  rcases e with e | e | e
  · exact ru_out w ka hb hj e
  · exact (Ru_ne w l hb hj).1 e
  · exact (Ru_ne w l hb hj).2 e
theorem h_both {st : HSt} {h a r D : Nat} {v : Nat → Int32} {e0 e1 : Int32} {ql qr : Option Nat} {l u : Option Ru} (w : Wf st) (hk : gK st h = 1) (hr : gR st 0 h = some (h + 1)) (L : Lk st (h + 1)) (S : SpR st a r v) (V : VOk D v) (Rl : RqR st ql l) (Rr : RqR st qr u) : ∃ st2, fh_X0_actBoth h (some a) ql qr e0 e1 st = some st2 ∧ SpR st2 a r (pBoth v l u e0 e1) ∧ Fr (Dx a (h + 1)) st st2 := by
  have ka := S.2.2.1
  have k4 := L.1
  obtain ⟨s1, p1, F1⟩ := h_planOf (s := 0) (x := 0) (e := e0) w L S V rfl (by omega) Rl
  have W1 := F1.Wf w
  have L1 := L.fr F1
  have S1 := Sp_lx w L S V F1
  have Rr1 := Rq_fr Rr F1 (fun b j hb hj e => dx_ru w L ka b j hb hj (Or.inr e))
  obtain ⟨s2, p2, F2⟩ := h_planOf (s := 1) (x := 1) (e := e1) W1 L1 S1 V rfl (by omega) Rr1
  have W2 := F2.Wf W1
  have S2 := Sp_lx W1 L1 S1 V F2
  obtain ⟨s3, p3, S3, F3⟩ := h_act (s := 0) (x := 0) (p := pPlan v l 0 e0) W2 S2 V rfl (by omega)
  obtain ⟨s4, p4, S4, F4⟩ := h_act (s := 1) (x := 1) (p := pPlan v u 1 e1) (F3.Wf W2) S3 (V.act (by omega) (plan_ok V)) rfl (by omega)
  refine ⟨s4, ?_, S4, (((F1.mo (fun _ e => Or.inr e)).tr (F2.mo (fun _ e => Or.inr e))).tr (F3.mo (fun _ e => Or.inl e))).tr (F4.mo (fun _ e => Or.inl e))⟩
  unfold fh_X0_actBoth
  rw [chk_t (isk_t hk), hr, dr_of k4, bs_, p1, bs_, chk_t (isk_t ((F1.K h).trans hk)), (F1.R (f := 0) h rfl).trans hr, dr_of L1.1, bs_, p2, bs_, dr_of S2.2.2.1, bs_, p3, bs_, chk_t (isk_t S3.2.2.1), p4, bs_]
/-! errors -/
def ErR (st : HSt) (S : Nat) (v : Nat → Int32) : Prop := gK st S = 9 ∧ ∀ s k, s < 2 → k < 8 → gA st (S + 11) (8 * s + k) = v (30 + 8 * s + k)
theorem xor_pos {a b : Int32} (ha : 0 ≤ a) (hb : 0 ≤ b) : 0 ≤ a ^^^ b := by
  have f : ∀ x : Int32, 0 ≤ x ↔ x.toBitVec.msb = false := fun x => by
    rw [Int32.le_iff_toInt_le, BitVec.msb_eq_toInt, decide_eq_false_iff_not]
    show (0 : Int) ≤ x.toInt ↔ ¬ x.toInt < 0
    omega
  rw [f] at ha hb ⊢
  rw [Int32.toBitVec_xor, BitVec.msb_xor, ha, hb]; rfl
theorem h_errorOn {st : HSt} {S s d : Nat} {v : Nat → Int32} {x z : Int32} (w : Wf st) (E : ErR st S v) (hx : x = nI s) (hs : s < 2) (hz : z = nI d) (hd : d < 2 ^ 31) : fh_X8_errorOn S x z st = some (st, v (30 + 8 * s + d % 8)) := by
  subst hx; subst hz
  obtain ⟨-, K11, -, -, R803, L11, -⟩ := w.2.2.2 S E.1
  have fm : fh_J9_floorMod_7cf53 (nI d) 8 st = some (st, nI (d % 8)) := by
    unfold fh_J9_floorMod_7cf53
    rw [chk_t (by decide), if_pos (xor_pos (nI_pos' hd) (by decide))]
    have : nI d - nI d / 8 * 8 = nI (d % 8) := pk_rem (d := 8) hd (by omega) (by omega)
    rw [this]
  have e8 : nI s * 8 + nI (d % 8) = nI (8 * s + d % 8) := by
    show nI s * nI 8 + _ = _
    rw [pk_mul, nI_add, Nat.mul_comm]
  unfold fh_X8_errorOn
  rw [chk_t (isk_t E.1), fm, bs_, R803, dr_of K11, bs_, L11]
  dsimp only
  rw [e8, chk_t (inb_n (by omega) (by omega)), nI_clamp (by omega), E.2 s (d % 8) hs (by omega)]
theorem er_out {st : HSt} {a S : Nat} (w : Wf st) (ka : gK st a = 10) (kS : gK st S = 9) : ¬ Sx a (S + 11) ∧ ¬ Sx a (S + 12) ∧ ¬ Sx a S := by
  obtain ⟨k1, k11, k12, -⟩ := w.2.2.2 S kS
  obtain ⟨c1, c2, -⟩ := w.1 (S + 1) k1
  obtain ⟨-, d2, -⟩ := w.1 a ka
  have ne : ∀ i, i < 9 → 0 < i → a ≠ S + 1 + i := fun i hi h0 e => by
    rcases (by omega : i = 1 ∨ 1 < i) with z | z
    · rw [e, z, c1] at ka; cases ka
    · have := c2 i z (by omega); rw [← e, ka] at this; cases this
  refine ⟨?_, ?_, ?_⟩
  · rintro (e | e | e | e)
    · rw [e, ka] at k11; cases k11
    · exact ne 3 (by omega) (by omega) (by omega)
    · exact ne 2 (by omega) (by omega) (by omega)
    · exact ne 1 (by omega) (by omega) (by omega)
  · rintro (e | e | e | e)
    · rw [e, ka] at k12; cases k12
    · exact ne 4 (by omega) (by omega) (by omega)
    · exact ne 3 (by omega) (by omega) (by omega)
    · exact ne 2 (by omega) (by omega) (by omega)
  · rintro (e | e | e | e)
    · rw [e, ka] at kS; cases kS
    · have := d2 7 (by omega) (by omega); rw [← e, kS] at this; cases this
    · have := d2 8 (by omega) (by omega); rw [← e, kS] at this; cases this
    · have := d2 9 (by omega) (by omega); rw [← e, kS] at this; cases this
theorem lx_out {st : HSt} {h b : Nat} (l : Lk st h) (hb : gK st b ≠ 23) : ¬ Lx h b := fun e => by
  rcases e with e | e
  · exact hb (by rw [e]; exact l.2.2.1)
  · exact hb (by rw [e]; exact l.2.2.2.2.2.1)
theorem ErR.fr {X : Nat → Prop} {st st2 : HSt} {S : Nat} {v u : Nat → Int32} (E : ErR st S v) (F : Fr X st st2) (hX : ¬ X (S + 11)) (hk : KpR v u) : ErR st2 S u := ⟨(F.K S).trans E.1, fun s k hs hk2 => by
  rw [F.A hX, hk _ (by omega) (by omega) (by omega) (by omega)]; exact E.2 s k hs hk2⟩
theorem ErR.dx {st st2 : HSt} {S a L : Nat} {v u : Nat → Int32} (E : ErR st S v) (w : Wf st) (l : Lk st L) (ka : gK st a = 10) (F : Fr (Dx a L) st st2) (hk : KpR v u) : ErR st2 S u := E.fr F (fun e => by
  obtain ⟨k1, k11, k12, -⟩ := w.2.2.2 S E.1
  rcases e with e | e
  · exact (er_out w ka E.1).1 e
  · exact lx_out l (by rw [k11]; omega) e) hk
/-- DAYS till it is MET, by the told ERRORS -/
def pGo (l r : Option Ru) : Nat → (Nat → Int32) → Nat → Int32
  | 0, v => v
  | n + 1, v => if pGap v = 0 then v else pGo l r n (pDay v l r (pErr v 0) (pErr v 1))
theorem pGo_met {l r : Option Ru} {v : Nat → Int32} (h : pGap v = 0) : ∀ n, pGo l r n v = v
  | 0 => rfl
  | n + 1 => by unfold pGo; rw [if_pos h]
theorem VOk.go {l r : Option Ru} : ∀ (n : Nat) {D : Nat} {v : Nat → Int32}, VOk D v → VOk (D + n) (pGo l r n v)
  | 0, _, _, V => V
  | n + 1, D, v, V => by
    unfold pGo
    split
    · exact V.mo (by omega)
    · rw [show D + (n + 1) = D + 1 + n by omega]; exact VOk.go n V.day
theorem Kp_go {l r : Option Ru} : ∀ (n : Nat) {v : Nat → Int32}, KpR v (pGo l r n v)
  | 0, _ => KpR.rf
  | n + 1, v => by
    unfold pGo
    split
    · exact KpR.rf
    · exact Kp_day.tr (Kp_go n)
theorem pErr_e {v : Nat → Int32} {d s : Nat} (h1 : v 1 = nI d) (hd : d < 2 ^ 31) : pErr v s = v (30 + 8 * s + d % 8) := by
  unfold pErr; rw [h1, nI_clamp hd]
theorem h_go {st : HSt} {h a r S D n : Nat} {v : Nat → Int32} {x : Int32} {ql qr : Option Nat} {l u : Option Ru} (w : Wf st) (hk : gK st h = 1) (hr : gR st 0 h = some (h + 1)) (L : Lk st (h + 1)) (Sp : SpR st a r v) (V : VOk D v) (E : ErR st S v) (Rl : RqR st ql l) (Rr : RqR st qr u) (hx : x = nI n) (hn : n ≤ 400) (hD : D ≤ 10000) : ∃ st2, fh_X0_go h (some a) (some S) ql qr x st = some st2 ∧ SpR st2 a r (pGo l u n v) ∧ Fr (Dx a (h + 1)) st st2 := by
  subst hx
  have ka := Sp.2.2.1
  obtain ⟨y, e, S2, F2⟩ : ∃ y : Int32 × HSt, iter (fun x : (Int32 × HSt) => fh_X0_go_s3 h (some a) (some S) ql qr (nI n) x.1 x.2) mFuel ((0 : Int32), st) = some (.inr y) ∧ SpR y.2 a r (pGo l u n v) ∧ Fr (Dx a (h + 1)) st y.2 := by
    refine iter_w (fun k (x : Int32 × HSt) => x.1 = nI k ∧ Fr (Dx a (h + 1)) st x.2 ∧ ∃ z, SpR x.2 a r z ∧ VOk (D + k) z ∧ KpR v z ∧ pGo l u (n - k) z = pGo l u n v) n (fun y : Int32 × HSt => SpR y.2 a r (pGo l u n v) ∧ Fr (Dx a (h + 1)) st y.2) ?_ ⟨rfl, Fr.rf, v, Sp, V, KpR.rf, rfl⟩ (by omega)
    · rintro k ⟨i, s⟩ hkn ⟨hi, F, z, Sz, Vz, Kz, Gz⟩
      simp only at hi F Sz
      subst hi
      have W := F.Wf w
      have L1 := L.fr F
      rcases Nat.lt_or_ge k n with hlt | hge
      · have met := h_met W Sz
        have k10 := Sz.2.2.1
        have E1 : ErR s S z := E.dx w L ka F Kz
        obtain ⟨w0, y, d, sp, fl, h0, h6, h1, h2, h4, hw, hy, hd, hsp, hfl, -⟩ := id Vz
        have i1 : gI s 901 a = nI d := Sz.2.2.2.1.trans h1
        have er0 := h_errorOn (s := 0) (x := 0) (d := d) (z := nI d) W E1 rfl (by omega) rfl (by omega)
        have er1 := h_errorOn (s := 1) (x := 1) (d := d) (z := nI d) W E1 rfl (by omega) rfl (by omega)
        by_cases hm : pGap z = 0
        · right
          refine ⟨(nI k, s), ?_, ?_, F⟩
          · show fh_X0_go_s3 h (some a) (some S) ql qr (nI n) (nI k) s = _
            unfold fh_X0_go_s3
            rw [if_neg (nI_ge hlt (by omega)), dr_of k10, bs_, met, bs_, if_pos hm, if_neg (show ¬ (1 : Int32) = 0 by decide)]
          · rw [← Gz, pGo_met hm]; exact Sz
        · left
          obtain ⟨s2, e2, S2, F2⟩ := h_both (e0 := z (30 + 8 * 0 + d % 8)) (e1 := z (30 + 8 * 1 + d % 8)) W ((F.K h).trans hk) ((F.R (f := 0) h rfl).trans hr) L1 Sz Vz (Rq_fr Rl F (dx_ru w L ka)) (Rq_fr Rr F (dx_ru w L ka))
          obtain ⟨s3, e3, S3, F3⟩ := h_endDay (F2.Wf W) S2 Vz.both
          refine ⟨(nI (k + 1), s3), ?_, ⟨rfl, (F.tr F2).tr (F3.mo (fun _ e => Or.inl e)), pDay z l u (pErr z 0) (pErr z 1), ?_, ?_, Kz.tr Kp_day, ?_⟩, hlt⟩
          · show fh_X0_go_s3 h (some a) (some S) ql qr (nI n) (nI k) s = _
            unfold fh_X0_go_s3
            rw [if_neg (nI_ge hlt (by omega)), dr_of k10, bs_, met, bs_, if_neg hm, if_pos rfl, chk_t (isk_t k10), dr_of E1.1, bs_]
            dsimp only
            rw [i1, er0, bs_, chk_t (isk_t k10), chk_t (isk_t E1.1)]
            dsimp only
            rw [i1, er1, bs_]
            dsimp only
            rw [chk_t (isk_t ((F.K h).trans hk)), e2, bs_, chk_t (isk_t S2.2.2.1), e3, bs_, nI_1]
          · rw [pErr_e h1 (by omega), pErr_e h1 (by omega)]; exact S3
          · exact Vz.day
          · rw [← Gz, show n - k = (n - (k + 1)) + 1 by omega]
            show _ = (if pGap z = 0 then z else pGo l u (n - (k + 1)) (pDay z l u (pErr z 0) (pErr z 1)))
            rw [if_neg hm]
      · have ek : k = n := by omega
        subst ek
        right
        refine ⟨(nI k, s), ?_, ?_, F⟩
        · show fh_X0_go_s3 h (some a) (some S) ql qr (nI k) (nI k) s = _
          unfold fh_X0_go_s3
          rw [if_pos (nI_le (Nat.le_refl _) (by omega))]
        · rw [← Gz, Nat.sub_self]; exact Sz
  refine ⟨y.2, ?_, S2, F2⟩
  unfold fh_X0_go
  rw [e]
  rfl
