/-! act, endDay, become -/
/-- a plan: pull, stay, or a YARD's TURN and RISE -/
def PlOk (p : Int32) : Prop := p = -1 ∨ p = -2 ∨ (∃ t r : Nat, t ≤ 40 ∧ r ≤ 40 ∧ p = nI (41 * t + r))
theorem sm20_n {t : Nat} (h : t ≤ 40) : sm20 (nI t - 20) := by
  have e : (nI t - 20).toInt = (t : Int) - 20 := pk_sub_toInt (b := 20) (by omega) (by omega)
  unfold sm20; rw [e]; omega
theorem pl_tr {t r : Nat} (ht : t ≤ 40) (hr : r ≤ 40) : nI (41 * t + r) / 41 = nI t ∧ nI (41 * t + r) - nI (41 * t + r) / 41 * 41 = nI r := by
  have e1 : nI (41 * t + r) / 41 = nI ((41 * t + r) / 41) := pk_div (d := 41) (by omega) (by omega) (by omega)
  have e2 : nI (41 * t + r) - nI (41 * t + r) / 41 * 41 = nI ((41 * t + r) % 41) := pk_rem (d := 41) (by omega) (by omega) (by omega)
  rw [e2, e1]
  exact ⟨congrArg nI (by omega), congrArg nI (by omega)⟩
theorem VOk.act {D : Nat} {v : Nat → Int32} {s : Nat} {p : Int32} (V : VOk D v) (hs : s < 2) (hp : PlOk p) : VOk D (pAct v s p) := by
  unfold pAct
  by_cases h1 : p = -1
  · rw [if_pos h1]; exact V.take (c := 1) hs (by omega)
  · rw [if_neg h1]
    by_cases h2 : p < 0
    · rw [if_pos h2]; exact V
    · rw [if_neg h2]
      by_cases h3 : pGap v ≤ 0
      · rw [if_pos h3]; exact V
      · rw [if_neg h3]
        rcases hp with h | h | ⟨t, r, ht, hr, h⟩
        · exact absurd h h1
        · subst h; exact absurd (by decide) h2
        · subst h
          obtain ⟨e1, e2⟩ := pl_tr ht hr
          rw [e2, e1]
          exact V.build hs h3 (sm20_n ht) (sm20_n hr)
theorem Kp_act {v : Nat → Int32} {s : Nat} {p : Int32} (hs : s < 2) : KpR v (pAct v s p) := by
  unfold pAct
  split
  · exact Kp_take hs
  · split
    · exact KpR.rf
    · split
      · exact KpR.rf
      · exact Kp_build hs
theorem act_1 {v : Nat → Int32} {s : Nat} {p : Int32} (hs : s < 2) : pAct v s p 1 = v 1 := by
  unfold pAct
  split
  · exact take_1 hs
  · split
    · rfl
    · split
      · rfl
      · exact build_1 hs
theorem h_act {st : HSt} {a r s D : Nat} {v : Nat → Int32} {x p : Int32} (w : Wf st) (h : SpR st a r v) (V : VOk D v) (hx : x = nI s) (hs : s < 2) : ∃ st2, fh_X9_act a x p st = some st2 ∧ SpR st2 a r (pAct v s p) ∧ Fr (Sx a) st st2 := by
  have k10 := h.2.2.1
  unfold fh_X9_act pAct
  by_cases h1 : p = -1
  · rw [if_pos h1, if_pos h1, chk_t (isk_t k10)]
    obtain ⟨st2, e, S2, F⟩ := h_take (c := 1) (n := 1) w h V hx hs rfl (by omega)
    exact ⟨st2, by rw [e]; rfl, S2, F⟩
  · rw [if_neg h1, if_neg h1]
    by_cases h2 : p < 0
    · rw [if_pos h2, if_pos h2]; exact ⟨st, rfl, h, Fr.rf⟩
    · rw [if_neg h2, if_neg h2, chk_t (isk_t k10)]
      obtain ⟨A1, A2⟩ := h_add (t := p / 41 - 20) (z := p - p / 41 * 41 - 20) w h V hx hs
      by_cases h3 : pGap v ≤ 0
      · rw [if_pos h3, A1 h3]; exact ⟨st, rfl, h, Fr.rf⟩
      · rw [if_neg h3]
        obtain ⟨st2, e, S2, F⟩ := A2 h3
        exact ⟨st2, by rw [e]; rfl, S2, F⟩
theorem Kp_fld {v : Nat → Int32} : ∀ f, KpR v (pFld v f) ∧ pFld v f 1 = v 1
  | 0 => ⟨KpR.rf, rfl⟩
  | f + 1 => by
    obtain ⟨h, h1⟩ := Kp_fld (v := v) f
    unfold pFld
    split
    · exact ⟨(h.tr (Kp_take (by omega))).tr (Kp_take (by omega)), by rw [take_1 (by omega), take_1 (by omega)]; exact h1⟩
    · exact ⟨h, h1⟩
theorem VOk.fld {D fl : Nat} {v : Nat → Int32} (V : VOk D v) (h4 : v 4 = nI fl) (hfl : fl ≤ 8) : ∀ f, f ≤ fl → VOk D (pFld v f)
  | 0, _ => V
  | f + 1, hf => by
    have ih := VOk.fld V h4 hfl f (by omega)
    unfold pFld
    split
    · have h0 := V
      obtain ⟨w, y, d, sp, fl2, -, -, -, -, h42, -, -, -, -, hfl2, -, hc, -⟩ := h0
      have e : fl2 = fl := (nI_eq (by omega) (by omega)).mp (h42.symm.trans h4)
      obtain ⟨c, e1, hc2⟩ := hc f (by omega)
      rw [e1]
      exact (ih.take (by omega) (by omega)).take (by omega) (by omega)
    · exact ih
theorem VOk.upd1 {D d : Nat} {v : Nat → Int32} (V : VOk D v) (hd : d ≤ D + 1) : VOk (D + 1) (upd v 1 (nI d)) := by
  obtain ⟨w, y, d0, sp, fl, h0, h6, h1, h2, h4, hw, hy, hd0, hsp, hfl, he, hf, her, ht⟩ := V
  refine ⟨w, y, d, sp, fl, ?_, fun q hq => ?_, ?_, ?_, ?_, hw, hy, hd, hsp, hfl, fun q hq => ?_, fun f hf2 => ?_, fun q k hq hk => ?_, fun q k w2 hq hk hw2 => ?_⟩
  · rw [pk_un (by omega)]; exact h0
  · rw [pk_un (by omega)]; exact h6 q hq
  · rw [pk_us]
  · rw [pk_un (by omega)]; exact h2
  · rw [pk_un (by omega)]; exact h4
  · rw [pk_un (by omega)]; exact he q hq
  · rw [pk_un (by omega)]; exact hf f hf2
  · rw [pk_un (by omega)]; exact her q k hq hk
  · have e : ∀ k2, pAt (upd v 1 (nI d)) q k2 w2 = pAt v q k2 w2 := fun k2 => by unfold pAt; rw [pk_un (by omega), pk_un (by omega)]
    rw [e, e]; exact ht q k w2 hq hk hw2
theorem VOk.mo {D D2 : Nat} {v : Nat → Int32} (V : VOk D v) (h : D ≤ D2) : VOk D2 v := by
  obtain ⟨w, y, d, sp, fl, h0, h6, h1, h2, h4, hw, hy, hd, hq⟩ := V
  exact ⟨w, y, d, sp, fl, h0, h6, h1, h2, h4, hw, hy, by omega, hq⟩
theorem VOk.dend {D : Nat} {v : Nat → Int32} (V : VOk D v) : VOk (D + 1) (pEnd v) := by
  have V0 := V
  obtain ⟨w, y, d, sp, fl, h0, h6, h1, h2, h4, hw, hy, hd, hsp, hfl, -⟩ := V0
  unfold pEnd
  rw [h1, nI_1]
  exact (V.fld h4 hfl _ (by rw [h4, nI_clamp (by omega)]; exact Nat.le_refl _)).upd1 (by omega)
theorem Kp_end {v : Nat → Int32} : KpR v (pEnd v) := fun i a b c d => by
  unfold pEnd; rw [pk_un b]; exact (Kp_fld _).1 i a b c d
theorem h_endDay {st : HSt} {a r D : Nat} {v : Nat → Int32} (w : Wf st) (h : SpR st a r v) (V : VOk D v) : ∃ st2, fh_X9_endDay a st = some st2 ∧ SpR st2 a r (pEnd v) ∧ Fr (Sx a) st st2 := by
  have V0 := V
  obtain ⟨w0, y, d, sp, fl, h0, h6, h1, h2, h4, hw, hyw, hd, hsp, hfl, he, hf, her, ht⟩ := V0
  have hc4 : (v 4).toNatClampNeg = fl := by rw [h4]; exact nI_clamp (by omega)
  obtain ⟨y2, e, S2, F2⟩ : ∃ y : Int32 × HSt, iter (fun x : (Int32 × HSt) => fh_X9_endDay_s2 a x.1 x.2) mFuel ((0 : Int32), st) = some (.inr y) ∧ SpR y.2 a r (pFld v fl) ∧ Fr (Sx a) st y.2 := by
    refine iter_n (fun k (x : Int32 × HSt) => x.1 = nI k ∧ SpR x.2 a r (pFld v k) ∧ Fr (Sx a) st x.2) fl (fun (y : Int32 × HSt) => SpR y.2 a r (pFld v fl) ∧ Fr (Sx a) st y.2) ?_ ?_ ⟨rfl, h, Fr.rf⟩ (by omega)
    · rintro k ⟨i, s⟩ hk ⟨hi, S, F⟩
      simp only at hi S F
      subst hi
      have W := F.Wf w
      obtain ⟨K1, K2⟩ := Kp_fld (v := v) k
      have Vk := V.fld h4 hfl k (by omega)
      obtain ⟨hr, ⟨k5, i0, i2, i3, i4, hb, hff⟩, ⟨k10, i1, hy, hl⟩⟩ := id S
      obtain ⟨KR, -, -, -, -, -, -, R407, L4, R408, L5⟩ := W.2.1 r k5
      have q4 : pFld v k 4 = nI fl := by rw [K1 4 (by omega) (by omega) (by omega) (by omega)]; exact h4
      obtain ⟨f1, f2⟩ := hff k (by rw [q4, nI_clamp (by omega)]; exact hk)
      obtain ⟨c, hc, hc9⟩ := hf k hk
      have q15 : pFld v k (14 + 2 * k + 1) = v (14 + 2 * k + 1) := K1 _ (by omega) (by omega) (by omega) (by omega)
      have hstep : fh_X9_endDay_s2 a (nI k) s = (if pFld v k (14 + 2 * k) = pFld v k 1 then (fh_X9_take a (0 : Int32) (v (14 + 2 * k + 1)) s).bind fun x20 => chk (isk x20 a 10) ((dr x20 (gR x20 900 a) 5).bind fun b23 => (dr x20 (gR x20 408 b23) 22).bind fun b27 => chk (inb (nI k) (gL x20 b27)) ((fh_X9_take a (1 : Int32) (gA x20 b27 (nI k).toNatClampNeg) x20).bind fun x32 => some (.inr (.inl ((nI k + 1), x32))))) else some (.inr (.inl (nI k + 1, s)))) := by
        unfold fh_X9_endDay_s2
        rw [chk_t (isk_t k10), hr, dr_of k5, bs_, i4, q4, if_neg (nI_ge hk (by omega)), if_neg (show ¬ (8 : Int32) ≤ nI k from nI_ge (a := k) (b := 8) (by omega) (by omega)), R407, dr_of (KR 4 (by omega) (by omega)), bs_, L4, chk_t (inb_n (by omega) (by decide)), nI_clamp (by omega), f1, i1, R408, dr_of (KR 5 (by omega) (by omega)), bs_, L5, chk_t (inb_n (by omega) (by decide)), f2, q15]
      show ∃ y, fh_X9_endDay_s2 a (nI k) s = _ ∧ _
      rw [hstep]
      have hpf : pFld v (k + 1) = if pFld v k (14 + 2 * k) = pFld v k 1 then pTake (pTake (pFld v k) 0 (v (14 + 2 * k + 1))) 1 (v (14 + 2 * k + 1)) else pFld v k := rfl
      by_cases hday : pFld v k (14 + 2 * k) = pFld v k 1
      · rw [if_pos hday]
        obtain ⟨s2, e2, S2, F2⟩ := h_take (s := 0) (x := 0) (c := c) (n := v (14 + 2 * k + 1)) W S Vk rfl (by omega) hc (by omega)
        have W2 := F2.Wf W
        have V2 : VOk D (pTake (pFld v k) 0 (v (14 + 2 * k + 1))) := by rw [hc]; exact Vk.take (by omega) (by omega)
        obtain ⟨s3, e3, S3, F3⟩ := h_take (s := 1) (x := 1) (c := c) (n := v (14 + 2 * k + 1)) W2 S2 V2 rfl (by omega) hc (by omega)
        refine ⟨(nI (k + 1), s3), ?_, rfl, ?_, (F.tr F2).tr F3⟩
        · have hr2 := S2.1
          have k52 := S2.2.1.1
          obtain ⟨KR2, -, -, -, -, -, -, -, -, R4082, L52⟩ := W2.2.1 r k52
          have g2 : gA s2 (r + 5) k = v (14 + 2 * k + 1) := by rw [F2.A (rv_out W k10 k5 (by omega))]; exact f2.trans q15
          rw [e2, bs_, chk_t (isk_t S2.2.2.1), hr2, dr_of k52, bs_, R4082, dr_of (KR2 5 (by omega) (by omega)), bs_, L52, chk_t (inb_n (by omega) (by decide)), nI_clamp (by omega), g2, e3, bs_, nI_1]
        · rw [hpf, if_pos hday]; exact S3
      · rw [if_neg hday]
        refine ⟨(nI (k + 1), s), by rw [nI_1], rfl, ?_, F⟩
        rw [hpf, if_neg hday]; exact S
    · rintro ⟨i, s⟩ ⟨hi, S, F⟩
      simp only at hi S F
      subst hi
      refine ⟨(nI fl, s), ?_, S, F⟩
      obtain ⟨hr, ⟨k5, i0, i2, i3, i4, -⟩, ⟨k10, -⟩⟩ := id S
      have q4 : pFld v fl 4 = nI fl := by rw [(Kp_fld fl).1 4 (by omega) (by omega) (by omega) (by omega)]; exact h4
      show fh_X9_endDay_s2 a (nI fl) s = _
      unfold fh_X9_endDay_s2
      rw [chk_t (isk_t k10), hr, dr_of k5, bs_, i4, q4, if_pos (nI_le (Nat.le_refl _) (by omega))]
  obtain ⟨i, s⟩ := y2
  simp only at S2 F2
  refine ⟨sI s 901 a (gI s 901 a + 1), ?_, ?_, F2.tr (Fr.sI (Or.inl rfl))⟩
  · unfold fh_X9_endDay
    rw [e]
    show fh_X9_endDay_j69 a s = _
    unfold fh_X9_endDay_j69
    rw [chk_t (isk_t S2.2.2.1)]
  · have W2 := F2.Wf w
    have k10 := S2.2.2.1
    have hRv := S2.2.1
    have kp : KpR (pFld v fl) (pEnd v) := fun i a b c d => by unfold pEnd; rw [hc4, pk_un b]
    refine ⟨S2.1, hRv.fr (X := Sx a) (Fr.sI (Or.inl rfl)) (fun j hj => rv_out W2 k10 hRv.1 hj) kp (by rw [(Kp_fld fl).1 4 (by omega) (by omega) (by omega) (by omega), hc4]; exact hfl), k10, ?_, fun q hq => ?_, fun q k hq hk => ?_⟩
    · rw [gI_sI, S2.2.2.2.1]; unfold pEnd; rw [pk_us, (Kp_fld fl).2]
    · unfold pEnd; rw [hc4, pk_un (by omega)]; exact S2.2.2.2.2.1 q hq
    · unfold pEnd at hk ⊢; rw [hc4] at hk ⊢
      rw [pk_un (by omega), pk_un (by omega)]
      refine S2.2.2.2.2.2 q k hq ?_
      unfold yN at hk ⊢; rw [pk_un (by omega)] at hk; exact hk
/-! become: a takes all of b -/
theorem cpyok_n {s y : Nat} (hs : s < 2) (hy : y ≤ 40) : cpyok (nI s * 40) (nI s * 40) (nI y) 80 80 = true := by
  have e : nI s * 40 = nI (40 * s) := by show nI s * nI 40 = _; rw [pk_mul, Nat.mul_comm]
  unfold cpyok
  rw [e, nI_clamp (by omega), nI_clamp (by omega)]
  exact decide_eq_true ⟨nI_pos (by omega), nI_pos (by omega), nI_pos (by omega), by omega, by omega⟩
theorem h_become {st : HSt} {a b rb D : Nat} {v : Nat → Int32} (w : Wf st) (ka : gK st a = 10) (h : SpR st b rb v) (V : VOk D v) (hab : a ≠ b) : ∃ st2, fh_X9_become a (some b) st = some st2 ∧ SpR st2 a rb v ∧ Fr (Sx a) st st2 := by
  obtain ⟨w0, y, d, sp, fl, h0, h6, h1, h2, h4, hw, hyw, hd, hsp, hfl, he, hf, her, ht⟩ := V
  have kb := h.2.2.1
  have hne : ∀ i j, i < 10 → j < 10 → a + i ≠ b + j := fun i j hi hj => sp_ne w ka kb hab hi hj
  have hb0 : ¬ Sx a b := by
    rintro (e | e | e | e)
    · exact hab e.symm
    · exact hne 7 0 (by omega) (by omega) e.symm
    · exact hne 8 0 (by omega) (by omega) e.symm
    · exact hne 9 0 (by omega) (by omega) e.symm
  have hbj : ∀ j, j < 10 → ¬ Sx a (b + j) := fun j hj => by
    rintro (e | e | e | e)
    · exact hne 0 j (by omega) hj e.symm
    · exact hne 7 j (by omega) hj e.symm
    · exact hne 8 j (by omega) hj e.symm
    · exact hne 9 j (by omega) hj e.symm
  have hys : ∀ s, s < 2 → y s ≤ 40 := fun s hs => by rcases (by omega : s = 0 ∨ s = 1) with rfl | rfl <;> omega
  let st1 := sI (sR st 900 a (gR st 900 b)) 901 a (gI (sR st 900 a (gR st 900 b)) 901 b)
  have F1 : Fr (Sx a) st st1 := (Fr.sR (Or.inl rfl) rfl).tr (Fr.sI (Or.inl rfl))
  obtain ⟨y2, e, F2, r2, i2, yy, ll⟩ : ∃ z : Int32 × HSt, iter (fun x : (Int32 × HSt) => fh_X9_become_s18 a (some b) x.1 x.2) mFuel ((0 : Int32), st1) = some (.inr z) ∧ Fr (Sx a) st z.2 ∧ gR z.2 900 a = some rb ∧ gI z.2 901 a = v 1 ∧ (∀ s, s < 2 → gA z.2 (a + 7) s = v (6 + s)) ∧ (∀ s k, s < 2 → k < y s → gA z.2 (a + 8) (40 * s + k) = v (126 + 40 * s + k) ∧ gA z.2 (a + 9) (40 * s + k) = v (206 + 40 * s + k)) := by
    refine iter_n (fun q (x : Int32 × HSt) => x.1 = nI q ∧ Fr (Sx a) st x.2 ∧ gR x.2 900 a = some rb ∧ gI x.2 901 a = v 1 ∧ (∀ s, s < q → gA x.2 (a + 7) s = v (6 + s)) ∧ (∀ s k, s < q → k < y s → gA x.2 (a + 8) (40 * s + k) = v (126 + 40 * s + k) ∧ gA x.2 (a + 9) (40 * s + k) = v (206 + 40 * s + k))) 2 _ ?_ ?_ ⟨rfl, F1, ?_, ?_, fun _ q => absurd q (Nat.not_lt_zero _), fun _ _ q => absurd q (Nat.not_lt_zero _)⟩ (by omega)
    · rintro s ⟨i, x⟩ hs ⟨hi, F, hr, hI, hY, hL⟩
      simp only at hi F hr hI hY hL
      subst hi
      have W := F.Wf w
      have ka2 : gK x a = 10 := (F.K a).trans ka
      have kb2 : gK x b = 10 := (F.K b).trans kb
      obtain ⟨-, K, R2, L2, R3, L3, R4, L4⟩ := W.1 a ka2
      obtain ⟨-, K', R2', L2', R3', L3', R4', L4'⟩ := W.1 b kb2
      have b7 : gA x (b + 7) s = nI (y s) := by rw [F.A (hbj 7 (by omega)), h.2.2.2.2.1 s hs]; exact h6 s hs
      have g7 : gA (sA x (a + 7) s (nI (y s))) (a + 7) s = nI (y s) := by rw [gA_sA, pk_us]
      let x1 := sA x (a + 7) s (nI (y s))
      let x2 := sAf x1 (a + 8) (va_cpy (gA x1 (b + 8)) (gA x1 (a + 8)) (40 * s) (40 * s) (y s))
      let x3 := sAf x2 (a + 9) (va_cpy (gA x2 (b + 9)) (gA x2 (a + 9)) (40 * s) (40 * s) (y s))
      have e40 : (nI s * 40).toNatClampNeg = 40 * s := cl_e (by show nI s * nI 40 = _; rw [pk_mul, Nat.mul_comm]) (by omega)
      have F3 : Fr (Sx a) x x3 := ((Fr.sA (Or.inr (Or.inl rfl))).tr (Fr.sAf (Or.inr (Or.inr (Or.inl rfl))))).tr (Fr.sAf (Or.inr (Or.inr (Or.inr rfl))))
      have step : fh_X9_become_s18 a (some b) (nI s) x = some (.inr (.inl (nI s + 1, x3))) := by
        unfold fh_X9_become_s18
        rw [if_neg (show ¬ (2 : Int32) ≤ nI s from nI_ge (b := 2) hs (by omega)), chk_t (isk_t ka2), dr_of kb2, bs_, R2', dr_of (K' 7 (by omega) (by omega)), bs_, L2', chk_t (inb_n hs (by decide)), R2, dr_of (K 7 (by omega) (by omega)), bs_, L2, chk_t (inb_n hs (by decide)), nI_clamp (by omega), b7, gR_sA, R2, dr_of (K 7 (by omega) (by omega)), bs_, gL_sA, L2, chk_t (inb_n hs (by decide)), gR_sA, R3', dr_of (K' 8 (by omega) (by omega)), bs_, gR_sA, R3, dr_of (K 8 (by omega) (by omega)), bs_, gL_sA, L3', gL_sA, L3, g7, chk_t (cpyok_n hs (hys s hs)), bs_, e40, nI_clamp (by have := hys s hs; omega)]
        have g7' : gA x2 (a + 7) s = nI (y s) := by rw [show gA x2 (a + 7) = gA x1 (a + 7) from gA_ne (by omega)]; exact g7
        show ((dr x2 (gR x 902 a) 22).bind fun b47 => chk (inb (nI s) (gL x b47)) ((dr x2 (gR x 904 b) 22).bind fun b52 => (dr x2 (gR x 904 a) 22).bind fun b56 => chk (cpyok (nI s * 40) (nI s * 40) (gA x2 b47 s) (gL x b52) (gL x b56)) ((some (sAf x2 b56 (va_cpy (gA x2 b52) (gA x2 b56) (40 * s) (40 * s) (gA x2 b47 s).toNatClampNeg))).bind fun x61 => (some (Sum.inr (Sum.inl (nI s + 1, x61))) : Option ((HSt) ⊕ ((Int32 × HSt) ⊕ (Int32 × HSt))))))) = _
        rw [R2, show dr x2 (some (a + 7)) 22 = some (a + 7) from dr_of (st := x) (K 7 (by omega) (by omega)), bs_, L2, chk_t (inb_n hs (by decide)), R4', show dr x2 (some (b + 9)) 22 = some (b + 9) from dr_of (st := x) (K' 9 (by omega) (by omega)), bs_, R4, show dr x2 (some (a + 9)) 22 = some (a + 9) from dr_of (st := x) (K 9 (by omega) (by omega)), bs_, L4', L4, g7', chk_t (cpyok_n hs (hys s hs)), bs_, nI_clamp (by have := hys s hs; omega)]
      refine ⟨(nI (s + 1), x3), by rw [← nI_1]; exact step, rfl, F.tr F3, hr, hI, fun q hq => ?_, fun q k hq hk => ?_⟩
      · show gA x3 (a + 7) q = _
        rw [show gA x3 (a + 7) = gA x1 (a + 7) from (gA_ne (by omega)).trans (gA_ne (by omega)), gA_sA]
        by_cases hqs : q = s
        · subst hqs; rw [pk_us]; exact (h6 q hs).symm
        · rw [pk_un hqs]; exact hY q (by omega)
      · have hyq := hys q (by omega)
        have e8 : gA x3 (a + 8) = va_cpy (gA x1 (b + 8)) (gA x1 (a + 8)) (40 * s) (40 * s) (y s) := (gA_ne (by omega)).trans gA_self
        have e9 : gA x3 (a + 9) = va_cpy (gA x2 (b + 9)) (gA x2 (a + 9)) (40 * s) (40 * s) (y s) := gA_self
        have c8 : gA x1 (b + 8) = gA st (b + 8) := (gA_ne (fun e => hne 7 8 (by omega) (by omega) e.symm)).trans (F.A (hbj 8 (by omega)))
        have c9 : gA x2 (b + 9) = gA st (b + 9) := (gA_ne (fun e => hne 8 9 (by omega) (by omega) e.symm)).trans ((gA_ne (fun e => hne 7 9 (by omega) (by omega) e.symm)).trans (F.A (hbj 9 (by omega))))
        have a8 : gA x1 (a + 8) = gA x (a + 8) := gA_ne (by omega)
        have a9 : gA x2 (a + 9) = gA x (a + 9) := (gA_ne (by omega)).trans (gA_ne (by omega))
        show gA x3 (a + 8) (40 * q + k) = _ ∧ gA x3 (a + 9) (40 * q + k) = _
        rw [e8, e9, c8, c9, a8, a9]
        unfold va_cpy
        by_cases hqs : q = s
        · subst hqs
          rw [if_pos ⟨by omega, by omega⟩, if_pos ⟨by omega, by omega⟩, show 40 * q + (40 * q + k - 40 * q) = 40 * q + k by omega]
          exact h.2.2.2.2.2 q k hs (by rw [yN_e (h6 q hs) hyq]; exact hk)
        · rw [if_neg (by omega), if_neg (by omega)]; exact hL q k (by omega) hk
    · rintro ⟨i, x⟩ ⟨hi, F, hr, hI, hY, hL⟩
      simp only at hi F hr hI hY hL
      subst hi
      refine ⟨(nI 2, x), ?_, F, hr, hI, hY, hL⟩
      show fh_X9_become_s18 a (some b) (nI 2) x = _
      unfold fh_X9_become_s18
      rw [if_pos (show (2 : Int32) ≤ nI 2 by decide)]
    · show gR (sR st 900 a (gR st 900 b)) 900 a = _
      rw [sR_R]; exact h.1
    · show gI (sI (sR st 900 a (gR st 900 b)) 901 a (gI st 901 b)) 901 a = _
      rw [gI_sI]; exact h.2.2.2.1
  obtain ⟨i, s⟩ := y2
  simp only at F2 r2 i2 yy ll
  have W2 := F2.Wf w
  refine ⟨s, ?_, ⟨r2, h.2.1.fr F2 (fun j hj => rv_out w ka h.2.1.1 hj) KpR.rf (by rw [h4, nI_clamp (by omega)]; exact hfl), (F2.K a).trans ka, i2, yy, fun q k hq hk => ll q k hq (by rw [yN_e (h6 q hq) (hys q hq)] at hk; exact hk)⟩, F2⟩
  unfold fh_X9_become
  rw [dr_of kb, bs_, chk_t (isk_t ka), bs_]
  show Option.bind (iter (fun x : (Int32 × HSt) => fh_X9_become_s18 a (some b) x.1 x.2) mFuel ((0 : Int32), st1)) _ = _
  rw [e]
  rfl
