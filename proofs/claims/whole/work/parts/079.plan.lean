/-! worth, look, someHolds, firstSum, planOf of the class -/
def Lx (h b : Nat) : Prop := b = h + 1 ∨ b = h + 2
theorem h_worth {st : HSt} {h q i n : Nat} {cd : Nat → Nat × Nat} {w : Nat → Int64} {b : Bool} {N : Nat} {x y : Int32} (l : Lk st h) (hq : gK st q = 22) (hN : gL st q = N) (hNb : N ≤ 400) (hiN : i + n ≤ N) (hc : ∀ j, j < N → gA st q j = encH (cd j)) (hw : ∀ j, j < 9 → gJ st (h + 1) j = w j) (S : SegOk cd i n b) (hx : x = nI i) (hy : y = nI (i + n)) :
    ∃ st2, fh_X3_worth h (some q) x y st = some (st2, pRun w cd i n) ∧ Fr (fun b => b = h + 2) st st2 := by
  subst hx; subst hy
  have hlen : ∀ m, m ≤ n → (rs w cd i m).length ≤ 60 := fun m hm => by
    obtain ⟨L, e1, l1⟩ := S.2 m hm
    rw [← tOk_len (rs_ok (w := w) e1)]; exact l1
  obtain ⟨z, e, F, s1, s2⟩ : ∃ z : Int32 × Int32 × HSt, iter (fun x : (Int32 × Int32 × HSt) => fh_X3_worth_s10 h (some q) (nI (i + n)) x.1 x.2.1 x.2.2) mFuel ((0 : Int32), nI i, st) = some (.inr z) ∧ Fr (fun b => b = h + 2) st z.2.2 ∧ z.1 = nI (rs w cd i n).length ∧ stk (gJ z.2.2 (h + 2)) (rs w cd i n) := by
    refine iter_n (fun m (x : Int32 × Int32 × HSt) => x.1 = nI (rs w cd i m).length ∧ x.2.1 = nI (i + m) ∧ Fr (fun b => b = h + 2) st x.2.2 ∧ stk (gJ x.2.2 (h + 2)) (rs w cd i m)) n _ ?_ ?_ ⟨rfl, rfl, Fr.rf, trivial⟩ (by omega)
    · rintro m ⟨t, j, s⟩ hm ⟨ht, hj, F, hs⟩
      simp only at ht hj F hs
      subst ht; subst hj
      obtain ⟨z, e, hs2⟩ := h_worth_step (l.fr F) ((F.K q).trans hq) ((F.L q).trans hN) hNb hiN (fun j hj => by rw [F.A (fun e => by have := l.2.2.2.2.2.1; rw [← e, hq] at this; cases this)]; exact hc j hj) (fun j hj => by rw [F.J (by omega)]; exact hw j hj) S hm hs (hlen m (by omega))
      exact ⟨_, e, rfl, rfl, F.tr (Fr.sJ rfl), hs2⟩
    · rintro ⟨t, j, s⟩ ⟨ht, hj, F, hs⟩
      simp only at ht hj F hs
      subst ht; subst hj
      refine ⟨(nI (rs w cd i n).length, nI (i + n), s), ?_, F, rfl, hs⟩
      show fh_X3_worth_s10 h (some q) (nI (i + n)) (nI (rs w cd i n).length) (nI (i + n)) s = _
      unfold fh_X3_worth_s10
      rw [if_pos (nI_le (Nat.le_refl _) (by omega))]
  obtain ⟨t, j, s⟩ := z
  simp only at F s1 s2
  subst s1
  refine ⟨s, ?_, F⟩
  obtain ⟨l1, l2, l3, l4, l5, l6, l7⟩ := l.fr F
  have h1 : (rs w cd i n).length = 1 := by rw [← tOk_len (rs_ok (w := w) S.1)]; rfl
  unfold fh_X3_worth
  have e0 : (if (0 : Int32) < nI i then nI i else 0) = nI i := by
    rcases Nat.eq_zero_or_pos i with z | z
    · subst z; rfl
    · rw [if_pos (show (0 : Int32) < nI i from nI_lt (a := 0) z (by omega))]
  rw [e0, e]
  show fh_X3_worth_j166 h (nI (rs w cd i n).length) s = _
  unfold fh_X3_worth_j166 pRun
  match hr : rs w cd i n, h1, s2 with
  | [x], _, s2 =>
    rw [if_neg (show ¬ nI [x].length < 1 by show ¬ nI 1 < 1; decide), chk_t (isk_t l1), l5, dr_of l6, bs_, l7]
    show chk (inb (nI 1 - 1) 64) (some (s, gJ s (h + 2) (nI 1 - 1).toNatClampNeg)) = _
    rw [nI_pred 0, chk_t (inb_n (by omega) (by omega)), nI_clamp (by omega)]
    show some (s, gJ s (h + 2) 0) = some (s, x)
    rw [show gJ s (h + 2) 0 = x from s2.1]
/-! what a SIDE sees -/
def pWords (v : Nat → Int32) (s : Nat) (e : Int32) (j : Nat) : Int64 := if j = 0 then (nI s).toInt64 else if j = 1 then (pTip v s 0).toInt64 else if j = 2 then (pTip v s 1).toInt64 else if j = 3 then (pSee v s e 0).toInt64 else if j = 4 then (pSee v s e 1).toInt64 else if j = 5 then (pGap v).toInt64 else if j = 6 then (v 1).toInt64 else if j = 7 then (v (6 + s)).toInt64 else (pLast v s).toInt64
theorem cln0 : Int32.toNatClampNeg (0 : Int32) = 0 := nI_clamp (n := 0) (by omega)
theorem cln1 : Int32.toNatClampNeg (1 : Int32) = 1 := nI_clamp (n := 1) (by omega)
theorem cln2 : Int32.toNatClampNeg (2 : Int32) = 2 := nI_clamp (n := 2) (by omega)
theorem cln3 : Int32.toNatClampNeg (3 : Int32) = 3 := nI_clamp (n := 3) (by omega)
theorem cln4 : Int32.toNatClampNeg (4 : Int32) = 4 := nI_clamp (n := 4) (by omega)
theorem cln5 : Int32.toNatClampNeg (5 : Int32) = 5 := nI_clamp (n := 5) (by omega)
theorem cln6 : Int32.toNatClampNeg (6 : Int32) = 6 := nI_clamp (n := 6) (by omega)
theorem cln7 : Int32.toNatClampNeg (7 : Int32) = 7 := nI_clamp (n := 7) (by omega)
theorem cln8 : Int32.toNatClampNeg (8 : Int32) = 8 := nI_clamp (n := 8) (by omega)
def setJ (st : HSt) (J : Nat → Nat → Int64) : HSt := (st.1, st.2.1, st.2.2.1, J, st.2.2.2.2)
theorem sJ_set (st : HSt) (a i : Nat) (v : Int64) : sJ st a i v = setJ st (va_up st.2.2.2.1 a (vp_updL (st.2.2.2.1 a) i v)) := rfl
theorem setJ_set (st : HSt) (J J2 : Nat → Nat → Int64) : setJ (setJ st J) J2 = setJ st J2 := rfl
theorem h_look {st : HSt} {h a r s y0 y1 : Nat} {v : Nat → Int32} {x e : Int32} (w : Wf st) (l : Lk st h) (S : SpR st a r v) (hx : x = nI s) (hs : s < 2) (h6 : v 6 = nI y0) (h7 : v 7 = nI y1) (hy0 : y0 ≤ 40) (hy1 : y1 ≤ 40) : ∃ st2, fh_X3_look h (some a) x e st = some st2 ∧ Fr (Lx h) st st2 ∧ ∀ j, j < 9 → gJ st2 (h + 1) j = pWords v s e j := by
  obtain ⟨l1, l2, l3, l4, -⟩ := l
  obtain ⟨y, hvs, hy40⟩ : ∃ y, v (6 + s) = nI y ∧ y ≤ 40 := by
    rcases (by omega : s = 0 ∨ s = 1) with rfl | rfl
    · exact ⟨y0, h6, hy0⟩
    · exact ⟨y1, h7, hy1⟩
  obtain ⟨z, hvz, hz40⟩ : ∃ y, v (6 + (1 - s)) = nI y ∧ y ≤ 40 := by
    rcases (by omega : s = 0 ∨ s = 1) with rfl | rfl
    · exact ⟨y1, h7, hy1⟩
    · exact ⟨y0, h6, hy0⟩
  have k10 := S.2.2.1
  have i1 : gI st 901 a = v 1 := S.2.2.2.1
  have T0 : ∀ J, fh_X9_tipLine a x (setJ st J) = some (setJ st J, pTip v s 0) := fun J => h_tipL (st := setJ st J) w S hx hs hvs hy40
  have T1 : ∀ J, fh_X9_tipHeight a x (setJ st J) = some (setJ st J, pTip v s 1) := fun J => h_tipH (st := setJ st J) w S hx hs hvs hy40
  have T2 : ∀ J, fh_X9_seenLine a x e (setJ st J) = some (setJ st J, pSee v s e 0) := fun J => h_seenL (st := setJ st J) w S hx hs hvz hz40
  have T3 : ∀ J, fh_X9_seenHeight a x e (setJ st J) = some (setJ st J, pSee v s e 1) := fun J => h_seenH (st := setJ st J) w S hx hs hvz hz40
  have T4 : ∀ J, fh_X9_gap a (setJ st J) = some (setJ st J, pGap v) := fun J => h_gap (st := setJ st J) w S
  have T5 : ∀ J, fh_X9_yardsOf a x (setJ st J) = some (setJ st J, v (6 + s)) := fun J => h_yardsOf (st := setJ st J) w S hx hs
  have T6 : ∀ J, fh_X9_lastTurn a x (setJ st J) = some (setJ st J, pLast v s) := fun J => h_lastTurn (st := setJ st J) w S hx hs hvs hy40
  have D1 : ∀ J J2, dr (setJ st J) (gR (setJ st J2) 300 h) 23 = some (h + 1) := fun J _ => by show dr st (gR st 300 h) 23 = _; rw [l2]; exact dr_of l3
  have D2 : ∀ J, gL (setJ st J) (h + 1) = 9 := fun _ => l4
  have D3 : ∀ J, isk (setJ st J) h 4 = true := fun _ => isk_t l1
  have D4 : ∀ J, isk (setJ st J) a 10 = true := fun _ => isk_t k10
  have D5 : ∀ J, gI (setJ st J) 901 a = v 1 := fun _ => i1
  have D6 : ∀ J, dr (setJ st J) (some a) 10 = some a := fun _ => dr_of (st := st) k10
  have B : inb (0 : Int32) 9 = true ∧ inb (1 : Int32) 9 = true ∧ inb (2 : Int32) 9 = true ∧ inb (3 : Int32) 9 = true ∧ inb (4 : Int32) 9 = true ∧ inb (5 : Int32) 9 = true ∧ inb (6 : Int32) 9 = true ∧ inb (7 : Int32) 9 = true ∧ inb (8 : Int32) 9 = true := by decide
  obtain ⟨B0, B1, B2, B3, B4, B5, B6, B7, B8⟩ := B
  have st0 : st = setJ st st.2.2.2.1 := rfl
  have wr : ∀ (J : Nat → Nat → Int64) (i : Nat) (v : Int64), sJ (setJ st J) (h + 1) i v = setJ st (va_up J (h + 1) (vp_updL (J (h + 1)) i v)) := fun _ _ _ => rfl
  refine ⟨setJ st (va_up st.2.2.2.1 (h + 1) (vp_updL (vp_updL (vp_updL (vp_updL (vp_updL (vp_updL (vp_updL (vp_updL (vp_updL (st.2.2.2.1 (h + 1)) 0 x.toInt64) 1 (pTip v s 0).toInt64) 2 (pTip v s 1).toInt64) 3 (pSee v s e 0).toInt64) 4 (pSee v s e 1).toInt64) 5 (pGap v).toInt64) 6 (v 1).toInt64) 7 (v (6 + s)).toInt64) 8 (pLast v s).toInt64)), ?_, ?_, ?_⟩
  · unfold fh_X3_look
    rw [st0]
    generalize st.2.2.2.1 = J
    simp only [D1, D2, D3, D4, D5, bs_, chk_1, D6, B0, B1, B2, B3, B4, B5, B6, B7, B8, wr, T0, T1, T2, T3, T4, T5, T6, va_up_self, vup_vup, cln0, cln1, cln2, cln3, cln4, cln5, cln6, cln7, cln8]
    rfl
  · refine ⟨rfl, fun _ _ _ => rfl, fun b hb => ⟨fun _ => rfl, fun _ => rfl, rfl, ?_⟩⟩
    show va_up st.2.2.2.1 (h + 1) _ b = _
    exact va_up_ne _ _ (fun e => hb (Or.inl e))
  · intro j hj
    show va_up st.2.2.2.1 (h + 1) _ (h + 1) j = _
    rw [va_up_self]
    rcases (by omega : j = 0 ∨ j = 1 ∨ j = 2 ∨ j = 3 ∨ j = 4 ∨ j = 5 ∨ j = 6 ∨ j = 7 ∨ j = 8) with rfl | rfl | rfl | rfl | rfl | rfl | rfl | rfl | rfl
    · rw [hx]; simp [vp_updL, pWords]
    all_goals simp [vp_updL, pWords]
