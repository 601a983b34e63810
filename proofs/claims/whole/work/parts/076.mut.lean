/-! what changes a Span: take, add, act, endDay, become -/
def Sx (a b : Nat) : Prop := b = a ∨ b = a + 7 ∨ b = a + 8 ∨ b = a + 9
def KpR (v u : Nat → Int32) : Prop := ∀ i, i < 126 → i ≠ 1 → i ≠ 6 → i ≠ 7 → u i = v i
theorem KpR.rf {v : Nat → Int32} : KpR v v := fun _ _ _ _ _ => rfl
theorem KpR.tr {v u z : Nat → Int32} (h : KpR v u) (h2 : KpR u z) : KpR v z := fun i a b c d => (h2 i a b c d).trans (h i a b c d)
theorem sp_ne {st : HSt} {a b : Nat} (w : Wf st) (ka : gK st a = 10) (kb : gK st b = 10) (hab : a ≠ b) {i j : Nat} (hi : i < 10) (hj : j < 10) : a + i ≠ b + j := by
  intro e
  rcases Nat.lt_trichotomy i j with q | q | q
  · obtain ⟨c1, c2, -⟩ := w.1 b kb
    have ea : a = b + (j - i) := by omega
    rcases (by omega : j - i = 1 ∨ 1 < j - i) with z | z
    · rw [ea, z] at ka; rw [ka] at c1; cases c1
    · have := c2 (j - i) z (by omega); rw [← ea, ka] at this; cases this
  · omega
  · obtain ⟨c1, c2, -⟩ := w.1 a ka
    have ea : b = a + (i - j) := by omega
    rcases (by omega : i - j = 1 ∨ 1 < i - j) with z | z
    · rw [ea, z] at kb; rw [kb] at c1; cases c1
    · have := c2 (i - j) z (by omega); rw [← ea, kb] at this; cases this
theorem rv_out {st : HSt} {a r : Nat} (w : Wf st) (ka : gK st a = 10) (kr : gK st r = 5) {j : Nat} (hj : j < 6) : ¬ Sx a (r + j) := by
  obtain ⟨c1, c2, -⟩ := w.1 a ka
  obtain ⟨d, -⟩ := w.2.1 r kr
  have hd : ∀ q, 1 < q → q < 10 → r ≠ a + q := fun q h1 h2 e => by have := c2 q h1 h2; rw [← e, kr] at this; cases this
  rintro (e | e | e | e)
  · rcases (by omega : j = 0 ∨ 0 < j) with z | z
    · subst z; have e2 : r = a := e; rw [e2, ka] at kr; cases kr
    · have := d j z hj; rw [e, ka] at this; cases this
  · exact hd (7 - j) (by omega) (by omega) (by omega)
  · exact hd (8 - j) (by omega) (by omega) (by omega)
  · exact hd (9 - j) (by omega) (by omega) (by omega)
theorem RvR.fr {X : Nat → Prop} {st st2 : HSt} {r : Nat} {v u : Nat → Int32} (h : RvR st r v) (F : Fr X st st2) (hX : ∀ j, j < 6 → ¬ X (r + j)) (hk : KpR v u) (hfl : (v 4).toNatClampNeg ≤ 8) : RvR st2 r u := by
  obtain ⟨k5, i0, i2, i3, i4, hb, hf⟩ := h
  have h0 := hX 0 (by omega)
  refine ⟨(F.K r).trans k5, ((F.I 400 h0).trans i0).trans (hk 0 (by omega) (by omega) (by omega) (by omega)).symm, ((F.I 401 h0).trans i2).trans (hk 2 (by omega) (by omega) (by omega) (by omega)).symm, ((F.I 402 h0).trans i3).trans (hk 3 (by omega) (by omega) (by omega) (by omega)).symm, ((F.I 403 h0).trans i4).trans (hk 4 (by omega) (by omega) (by omega) (by omega)).symm, fun s hs => ?_, fun f hf2 => ?_⟩
  · rw [F.A (hX 1 (by omega)), F.A (hX 2 (by omega)), F.A (hX 3 (by omega)), hk (8 + 2 * s) (by omega) (by omega) (by omega) (by omega), hk (8 + 2 * s + 1) (by omega) (by omega) (by omega) (by omega), hk (12 + s) (by omega) (by omega) (by omega) (by omega)]
    exact hb s hs
  · rw [hk 4 (by omega) (by omega) (by omega) (by omega)] at hf2
    rw [F.A (hX 4 (by omega)), F.A (hX 5 (by omega)), hk (14 + 2 * f) (by omega) (by omega) (by omega) (by omega), hk (14 + 2 * f + 1) (by omega) (by omega) (by omega) (by omega)]
    exact hf f hf2
theorem SnR.fr {X : Nat → Prop} {st st2 : HSt} {a : Nat} {v : Nat → Int32} (h : SnR st a v) (F : Fr X st st2) (h0 : ¬ X a) (h7 : ¬ X (a + 7)) (h8 : ¬ X (a + 8)) (h9 : ¬ X (a + 9)) : SnR st2 a v := by
  obtain ⟨k10, i1, hy, hl⟩ := h
  refine ⟨(F.K a).trans k10, (F.I 901 h0).trans i1, fun s hs => ?_, fun s k hs hk => ?_⟩
  · rw [F.A h7]; exact hy s hs
  · rw [F.A h8, F.A h9]; exact hl s k hs hk
theorem take_val {y c : Nat} (hy : y ≤ 40) (hc : c ≤ 40) : (if (0 : Int32) < nI y - nI c then nI y - nI c else 0) = nI (y - c) := by
  rcases Nat.lt_or_ge c y with q | q
  · rw [pk_sub (by omega), if_pos (show (0 : Int32) < nI (y - c) from nI_lt (a := 0) (by omega) (by omega))]
  · rw [show y - c = 0 by omega]
    rcases Nat.lt_or_ge y c with z | z
    · rw [if_neg (fun e => absurd (Int32.lt_trans e (pk_sneg (by omega) z)) (by decide))]; rfl
    · rw [show y = c by omega, Int32.sub_self]; rfl
theorem pTake_e {v : Nat → Int32} {s y c : Nat} (hv : v (6 + s) = nI y) (hy : y ≤ 40) (hc : c ≤ 40) : pTake v s (nI c) = upd v (6 + s) (nI (y - c)) := by
  unfold pTake; rw [hv, take_val hy hc]
theorem pAt_67 {v : Nat → Int32} {s s2 k w : Nat} {x : Int32} (hs : s < 2) : pAt (upd v (6 + s) x) s2 k w = pAt v s2 k w := by
  unfold pAt; rw [pk_un (by omega), pk_un (by omega)]
theorem VOk.take {D : Nat} {v : Nat → Int32} {s c : Nat} (h : VOk D v) (hs : s < 2) (hc : c ≤ 40) : VOk D (pTake v s (nI c)) := by
  obtain ⟨w, y, d, sp, fl, h0, h6, h1, h2, h4, hw, hy, hd, hsp, hfl, he, hf, her, ht⟩ := h
  have hys : y s ≤ 40 := by rcases (by omega : s = 0 ∨ s = 1) with rfl | rfl <;> omega
  rw [pTake_e (h6 s hs) hys hc]
  refine ⟨w, fun q => if q = s then y s - c else y q, d, sp, fl, ?_, fun q hq => ?_, ?_, ?_, ?_, hw, ?_, hd, hsp, hfl, fun q hq => ?_, fun f hf2 => ?_, fun q k hq hk => ?_, fun q k w2 hq hk hw2 => ?_⟩
  · rw [pk_un (by omega)]; exact h0
  · by_cases hqs : q = s
    · subst hqs; rw [pk_us]; simp
    · rw [pk_un (by omega)]; simp only [if_neg hqs]; exact h6 q hq
  · rw [pk_un (by omega)]; exact h1
  · rw [pk_un (by omega)]; exact h2
  · rw [pk_un (by omega)]; exact h4
  · rcases (by omega : s = 0 ∨ s = 1) with rfl | rfl
    · show (if 0 = 0 then y 0 - c else y 0) + (if 1 = 0 then y 0 - c else y 1) ≤ w; rw [if_pos rfl, if_neg (by omega)]; omega
    · show (if 0 = 1 then y 1 - c else y 0) + (if 1 = 1 then y 1 - c else y 1) ≤ w; rw [if_pos rfl, if_neg (by omega)]; omega
  · rw [pk_un (by omega)]; exact he q hq
  · rw [pk_un (by omega)]; exact hf f hf2
  · rw [pk_un (by omega)]; exact her q k hq hk
  · rw [pAt_67 hs, pAt_67 hs]
    refine ht q k w2 hq ?_ hw2
    simp only at hk
    by_cases hqs : q = s
    · rw [if_pos hqs] at hk; subst hqs; omega
    · rw [if_neg hqs] at hk; exact hk
theorem Kp_take {v : Nat → Int32} {s : Nat} {n : Int32} (hs : s < 2) : KpR v (pTake v s n) := fun i _ _ h6 h7 => by
  unfold pTake; exact pk_un (by omega)
theorem take_1 {v : Nat → Int32} {s : Nat} {n : Int32} (hs : s < 2) : pTake v s n 1 = v 1 := by unfold pTake; exact pk_un (by omega)
theorem h_take {st : HSt} {a r s c D : Nat} {v : Nat → Int32} {x n : Int32} (w : Wf st) (h : SpR st a r v) (V : VOk D v) (hx : x = nI s) (hs : s < 2) (hn : n = nI c) (hc : c ≤ 40) : ∃ st2, fh_X9_take a x n st = some st2 ∧ SpR st2 a r (pTake v s n) ∧ Fr (Sx a) st st2 := by
  subst hx; subst hn
  have h00 := h
  obtain ⟨hr, hRv, ⟨k10, i1, hy, hl⟩⟩ := h
  obtain ⟨-, K, R2, L2, R3, L3, R4, L4⟩ := w.1 a k10
  obtain ⟨w0, y, d, sp, fl, h0, h6, h1, h2, h4, hw, hyw, hd, hsp, hfl, he, hf, her, ht⟩ := V
  have hys : y s ≤ 40 := by rcases (by omega : s = 0 ∨ s = 1) with rfl | rfl <;> omega
  have F : Fr (Sx a) st (sA st (a + 7) s (nI (y s - c))) := Fr.sA (Or.inr (Or.inl rfl))
  refine ⟨sA st (a + 7) s (nI (y s - c)), ?_, ⟨hr, hRv.fr F (fun j hj => rv_out w k10 hRv.1 hj) (Kp_take hs) (by rw [h4, nI_clamp (by omega)]; exact hfl), k10, ?_, fun q hq => ?_, fun q k hq hk => ?_⟩, F⟩
  · unfold fh_X9_take
    rw [chk_t (isk_t k10), R2, dr_of (K 7 (by omega) (by omega)), bs_, L2, chk_t (inb_n hs (by decide)), chk_t (inb_n hs (by decide)), bs_, nI_clamp (by omega), hy s hs, h6 s hs, take_val hys hc]
  · rw [take_1 hs]; exact i1
  · rw [gA_sA, pTake_e (h6 s hs) hys hc]
    by_cases hqs : q = s
    · subst hqs; rw [pk_us, pk_us]
    · rw [pk_un hqs, pk_un (by omega)]; exact hy q hq
  · rw [pTake_e (h6 s hs) hys hc] at hk ⊢
    rw [gA_sA_ne (by omega), gA_sA_ne (by omega), pk_un (by omega), pk_un (by omega)]
    refine hl q k hq ?_
    by_cases hqs : q = s
    · subst hqs; unfold yN at hk; rw [pk_us, nI_clamp (by omega)] at hk; rw [yN_e (h6 q hq) hys]; omega
    · unfold yN at hk; rw [pk_un (by omega)] at hk; exact hk
/-! a new YARD -/
theorem pGap_n {w y0 y1 : Nat} {v : Nat → Int32} (h0 : v 0 = nI w) (h6 : v 6 = nI y0) (h7 : v 7 = nI y1) (h : y0 + y1 ≤ w) : pGap v = nI (w - y0 - y1) := by
  unfold pGap; rw [h0, h6, h7, pk_sub (by omega), pk_sub (by omega)]
theorem Kp_build {v : Nat → Int32} {s : Nat} {t r : Int32} (hs : s < 2) : KpR v (pBuild v s t r) := fun i hi _ h6 h7 => by
  unfold pBuild; rw [pk_un (by omega), pk_un (by omega), pk_un (by omega)]
theorem build_1 {v : Nat → Int32} {s : Nat} {t r : Int32} (hs : s < 2) : pBuild v s t r 1 = v 1 := by
  unfold pBuild; rw [pk_un (by omega), pk_un (by omega), pk_un (by omega)]
theorem build_y {v : Nat → Int32} {s y : Nat} {t r : Int32} (hv : v (6 + s) = nI y) : pBuild v s t r (6 + s) = nI (y + 1) := by
  unfold pBuild; rw [pk_us, hv, nI_1]
theorem build_yo {v : Nat → Int32} {s q : Nat} {t r : Int32} (hq : q < 2) (hs : s < 2) (hqs : q ≠ s) : pBuild v s t r (6 + q) = v (6 + q) := by
  unfold pBuild; rw [pk_un (by omega), pk_un (by omega), pk_un (by omega)]
theorem build_line {v : Nat → Int32} {s y q k : Nat} {t r : Int32} (hs : s < 2) (hv : v (6 + s) = nI y) (hy : y < 40) (hk : k < 40) (hq : q < 2) : pBuild v s t r (126 + 40 * q + k) = if q = s ∧ k = y then pTip v s 0 + t else v (126 + 40 * q + k) := by
  unfold pBuild
  rw [yN_e hv (by omega), pk_un (by omega), pk_un (by omega)]
  by_cases h : q = s ∧ k = y
  · rw [if_pos h, h.1, h.2, pk_us]
  · rw [if_neg h, pk_un (by omega)]
theorem build_height {v : Nat → Int32} {s y q k : Nat} {t r : Int32} (hs : s < 2) (hv : v (6 + s) = nI y) (hy : y < 40) (hk : k < 40) (hq : q < 2) : pBuild v s t r (206 + 40 * q + k) = if q = s ∧ k = y then pTip v s 1 + r else v (206 + 40 * q + k) := by
  unfold pBuild
  rw [yN_e hv (by omega), pk_un (by omega)]
  by_cases h : q = s ∧ k = y
  · rw [if_pos h, h.1, h.2, pk_us]
  · rw [if_neg h, pk_un (by omega), pk_un (by omega)]
theorem build_at {v : Nat → Int32} {s y q k w : Nat} {t r : Int32} (hs : s < 2) (hv : v (6 + s) = nI y) (hy : y < 40) (hk : k ≤ 40) (hq : q < 2) (hw : w < 2) : pAt (pBuild v s t r) q k w = if q = s ∧ k = y + 1 then pTip v s w + (if w = 0 then t else r) else pAt v q k w := by
  cases k with
  | zero =>
    rw [if_neg (by omega)]; unfold pAt; rw [if_pos rfl, if_pos rfl]
    unfold pBuild; rw [pk_un (by omega), pk_un (by omega), pk_un (by omega)]
  | succ k =>
    have e1 : pAt (pBuild v s t r) q (k + 1) w = pBuild v s t r (126 + 80 * w + 40 * q + k) := by unfold pAt; rw [if_neg (by omega)]; rfl
    have e2 : pAt v q (k + 1) w = v (126 + 80 * w + 40 * q + k) := by unfold pAt; rw [if_neg (by omega)]; rfl
    rw [e1, e2]
    rcases (by omega : w = 0 ∨ w = 1) with rfl | rfl
    · rw [show 126 + 80 * 0 + 40 * q + k = 126 + 40 * q + k by omega, build_line hs hv hy (by omega) hq, if_pos (show (0 : Nat) = 0 from rfl)]
      by_cases h : q = s ∧ k = y
      · rw [if_pos h, if_pos (by omega)]
      · rw [if_neg h, if_neg (by omega)]
    · rw [show 126 + 80 * 1 + 40 * q + k = 206 + 40 * q + k by omega, build_height hs hv hy (by omega) hq, if_neg (show ¬ 1 = 0 by omega)]
      by_cases h : q = s ∧ k = y
      · rw [if_pos h, if_pos (by omega)]
      · rw [if_neg h, if_neg (by omega)]
theorem VOk.build {D : Nat} {v : Nat → Int32} {s : Nat} {t r : Int32} (h : VOk D v) (hs : s < 2) (hg : ¬ pGap v ≤ 0) (ht : sm20 t) (hr : sm20 r) : VOk D (pBuild v s t r) := by
  obtain ⟨w, y, d, sp, fl, h0, h6, h1, h2, h4, hw, hy, hd, hsp, hfl, he, hf, her, htu⟩ := h
  have hyw : y 0 + y 1 < w := by
    rcases Nat.lt_or_ge (y 0 + y 1) w with q | q
    · exact q
    · exfalso; apply hg; rw [pGap_n h0 (h6 0 (by omega)) (h6 1 (by omega)) hy, show w - y 0 - y 1 = 0 by omega]; decide
  have hys : y s < 40 := by rcases (by omega : s = 0 ∨ s = 1) with rfl | rfl <;> omega
  have hK := Kp_build (v := v) (t := t) (r := r) hs
  refine ⟨w, fun q => if q = s then y s + 1 else y q, d, sp, fl, ?_, fun q hq => ?_, ?_, ?_, ?_, hw, ?_, hd, hsp, hfl, fun q hq => ?_, fun f hf2 => ?_, fun q k hq hk => ?_, fun q k w2 hq hk hw2 => ?_⟩
  · rw [hK 0 (by omega) (by omega) (by omega) (by omega)]; exact h0
  · by_cases hqs : q = s
    · subst hqs; rw [build_y (h6 q hq)]; simp
    · rw [build_yo hq hs hqs]; simp only [if_neg hqs]; exact h6 q hq
  · rw [build_1 hs]; exact h1
  · rw [hK 2 (by omega) (by omega) (by omega) (by omega)]; exact h2
  · rw [hK 4 (by omega) (by omega) (by omega) (by omega)]; exact h4
  · rcases (by omega : s = 0 ∨ s = 1) with rfl | rfl
    · show (if 0 = 0 then y 0 + 1 else y 0) + (if 1 = 0 then y 0 + 1 else y 1) ≤ w; rw [if_pos rfl, if_neg (by omega)]; omega
    · show (if 0 = 1 then y 1 + 1 else y 0) + (if 1 = 1 then y 1 + 1 else y 1) ≤ w; rw [if_pos rfl, if_neg (by omega)]; omega
  · rw [hK (12 + q) (by omega) (by omega) (by omega) (by omega)]; exact he q hq
  · rw [hK (14 + 2 * f + 1) (by omega) (by omega) (by omega) (by omega)]; exact hf f hf2
  · rw [hK (30 + 8 * q + k) (by omega) (by omega) (by omega) (by omega)]; exact her q k hq hk
  · have hyq : y q ≤ 40 := by rcases (by omega : q = 0 ∨ q = 1) with rfl | rfl <;> omega
    simp only at hk
    by_cases hqs : q = s
    · subst hqs
      rw [if_pos rfl] at hk
      rw [build_at hs (h6 q hs) hys (by omega) hq hw2, build_at hs (h6 q hs) hys (by omega) hq hw2]
      rcases (by omega : k = y q ∨ k < y q) with z | z
      · rw [if_pos (show q = q ∧ k + 1 = y q + 1 from ⟨rfl, by omega⟩), if_neg (show ¬ (q = q ∧ k = y q + 1) by omega), z]
        have : pTip v q w2 = pAt v q (y q) w2 := by unfold pTip; rw [yN_e (h6 q hq) hyq]
        rw [this, Int32.add_comm, Int32.add_sub_cancel]
        split
        · exact ht
        · exact hr
      · rw [if_neg (by omega), if_neg (by omega)]; exact htu q k w2 hq z hw2
    · rw [if_neg hqs] at hk
      rw [build_at hs (h6 s hs) hys (by omega) hq hw2, build_at hs (h6 s hs) hys (by omega) hq hw2, if_neg (by omega), if_neg (by omega)]; exact htu q k w2 hq hk hw2
theorem h_add {st : HSt} {a r s D : Nat} {v : Nat → Int32} {x t z : Int32} (w : Wf st) (h : SpR st a r v) (V : VOk D v) (hx : x = nI s) (hs : s < 2) : (pGap v ≤ 0 → fh_X9_add a x t z st = some (st, 0)) ∧ (¬ pGap v ≤ 0 → ∃ st2, fh_X9_add a x t z st = some (st2, 1) ∧ SpR st2 a r (pBuild v s t z) ∧ Fr (Sx a) st st2) := by
  subst hx
  have h00 := h
  have hgap := h_gap w h
  obtain ⟨hr, hRv, ⟨k10, i1, hy, hl⟩⟩ := h
  obtain ⟨-, K, R2, L2, R3, L3, R4, L4⟩ := w.1 a k10
  obtain ⟨w0, y, d, sp, fl, h0, h6, h1, h2, h4, hw, hyw, hd, hsp, hfl, he, hf, her, ht⟩ := V
  refine ⟨fun hg => ?_, fun hg => ?_⟩
  · unfold fh_X9_add
    rw [chk_t (isk_t k10), R2, dr_of (K 7 (by omega) (by omega)), bs_, L2, chk_t (inb_n hs (by decide)), hgap, bs_, if_pos hg]
  · have hyw2 : y 0 + y 1 < w0 := by
      rcases Nat.lt_or_ge (y 0 + y 1) w0 with q | q
      · exact q
      · exfalso; apply hg; rw [pGap_n h0 (h6 0 (by omega)) (h6 1 (by omega)) hyw, show w0 - y 0 - y 1 = 0 by omega]; decide
    have hys : y s < 40 := by rcases (by omega : s = 0 ∨ s = 1) with rfl | rfl <;> omega
    have tl := h_tipL w h00 (x := nI s) rfl hs (h6 s hs) (by omega)
    have S1 : SpR (sA st (a + 8) (40 * s + y s) (pTip v s 0 + t)) a r v := by
      refine ⟨hr, hRv.fr (X := Sx a) (Fr.sA (Or.inr (Or.inr (Or.inl rfl)))) (fun j hj => rv_out w k10 hRv.1 hj) KpR.rf (by rw [h4, nI_clamp (by omega)]; exact hfl), k10, i1, fun q hq => ?_, fun q k hq hk => ?_⟩
      · rw [gA_sA_ne (by omega)]; exact hy q hq
      · have hyq : y q ≤ 40 := by rcases (by omega : q = 0 ∨ q = 1) with rfl | rfl <;> omega
        have hk2 := hk
        rw [yN_e (h6 q hq) hyq] at hk2
        have hne : 40 * q + k ≠ 40 * s + y s := by
          rcases (by omega : q = 0 ∨ q = 1) with rfl | rfl <;> rcases (by omega : s = 0 ∨ s = 1) with rfl | rfl <;> omega
        rw [gA_sA, pk_un hne, gA_sA_ne (by omega)]; exact hl q k hq hk
    have W1 : Wf (sA st (a + 8) (40 * s + y s) (pTip v s 0 + t)) := w
    have th := h_tipH W1 S1 (x := nI s) rfl hs (h6 s hs) (by omega)
    have F : Fr (Sx a) st (sA (sA (sA st (a + 8) (40 * s + y s) (pTip v s 0 + t)) (a + 9) (40 * s + y s) (pTip v s 1 + z)) (a + 7) s (nI (y s) + 1)) := ((Fr.sA (Or.inr (Or.inr (Or.inl rfl)))).tr (Fr.sA (Or.inr (Or.inr (Or.inr rfl))))).tr (Fr.sA (Or.inr (Or.inl rfl)))
    refine ⟨sA (sA (sA st (a + 8) (40 * s + y s) (pTip v s 0 + t)) (a + 9) (40 * s + y s) (pTip v s 1 + z)) (a + 7) s (nI (y s) + 1), ?_, ⟨hr, hRv.fr F (fun j hj => rv_out w k10 hRv.1 hj) (Kp_build hs) (by rw [h4, nI_clamp (by omega)]; exact hfl), k10, ?_, fun q hq => ?_, fun q k hq hk => ?_⟩, F⟩
    · unfold fh_X9_add
      rw [chk_t (isk_t k10), R2, dr_of (K 7 (by omega) (by omega)), bs_, L2, chk_t (inb_n hs (by decide)), hgap, bs_, if_neg hg, nI_clamp (by omega), hy s hs, h6 s hs, if_pos (show nI (y s) < 40 from nI_lt (b := 40) hys (by omega)), chk_t (isk_t k10), tl, bs_, R3, dr_of (K 8 (by omega) (by omega)), bs_, L3, ix40, chk_t (inb_n (by omega) (by decide)), bs_, nI_clamp (by omega)]
      dsimp only
      rw [isk_sA, chk_t (isk_t k10), th, bs_]
      dsimp only
      rw [gR_sA, R4, dr_sA, dr_of (K 9 (by omega) (by omega)), bs_, gL_sA, L4, chk_t (inb_n (by omega) (by decide)), bs_, isk_sA, isk_sA, chk_t (isk_t k10), gR_sA, gR_sA, R2, dr_sA, dr_sA, dr_of (K 7 (by omega) (by omega)), bs_, gL_sA, gL_sA, L2, chk_t (inb_n hs (by decide)), bs_]
    · rw [build_1 hs]; exact i1
    · rw [gA_sA]
      by_cases hqs : q = s
      · subst hqs; rw [pk_us, build_y (h6 q hq), nI_1]
      · rw [pk_un hqs, gA_sA_ne (by omega), gA_sA_ne (by omega), build_yo hq hs hqs]; exact hy q hq
    · have hyq : y q ≤ 40 := by rcases (by omega : q = 0 ∨ q = 1) with rfl | rfl <;> omega
      rw [gA_sA_ne (by omega), gA_sA_ne (by omega), gA_sA, gA_sA_ne (by omega), gA_sA, gA_sA_ne (by omega)]
      have hk2 : k < 40 ∧ (¬ (q = s ∧ k = y s) → k < y q) := by
        by_cases hqs : q = s
        · subst hqs; rw [yN_e (build_y (h6 q hq)) (by omega)] at hk; exact ⟨by omega, fun _ => by omega⟩
        · unfold yN at hk; rw [build_yo hq hs hqs, h6 q hq, nI_clamp (by omega)] at hk; exact ⟨by omega, fun _ => hk⟩
      rw [build_line hs (h6 s hs) hys hk2.1 hq, build_height hs (h6 s hs) hys hk2.1 hq]
      by_cases hqs : q = s ∧ k = y s
      · rw [if_pos hqs, if_pos hqs, hqs.1, hqs.2, pk_us, pk_us]; exact ⟨rfl, rfl⟩
      · have hne : 40 * q + k ≠ 40 * s + y s := by
          rcases (by omega : q = 0 ∨ q = 1) with rfl | rfl <;> rcases (by omega : s = 0 ∨ s = 1) with rfl | rfl <;> omega
        rw [if_neg hqs, if_neg hqs, pk_un hne, pk_un hne]
        exact hl q k hq (by rw [yN_e (h6 q hq) hyq]; exact hk2.2 hqs)
