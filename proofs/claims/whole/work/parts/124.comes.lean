/-! comesAgain -/
def zS (l u : Option Ru) (e0 e1 : Int32) (v : Nat → Int32) : Nat → Nat → Int32
  | 0 => v
  | k + 1 => if pGap (zS l u e0 e1 v k) = 0 then zS l u e0 e1 v k else pBoth (zS l u e0 e1 v k) l u e0 e1
theorem zact_1 {v : Nat → Int32} {s : Nat} {p : Int32} (hs : s < 2) : pAct v s p 1 = v 1 := by
  unfold pAct
  split
  · unfold pTake; exact pk_un (by omega)
  · split
    · rfl
    · split
      · rfl
      · unfold pBuild; rw [pk_un (by omega), pk_un (by omega), pk_un (by omega)]
theorem zS_ok {D : Nat} {l u : Option Ru} {e0 e1 : Int32} {v : Nat → Int32} (V : VOk D v) : ∀ k, VOk D (zS l u e0 e1 v k) ∧ KpR v (zS l u e0 e1 v k) ∧ zS l u e0 e1 v k 1 = v 1 ∧ ∀ i, 286 ≤ i → zS l u e0 e1 v k i = v i
  | 0 => ⟨V, KpR.rf, rfl, fun _ _ => rfl⟩
  | k + 1 => by
    obtain ⟨a, b, c, d⟩ := zS_ok (l := l) (u := u) (e0 := e0) (e1 := e1) V k
    unfold zS
    split
    · exact ⟨a, b, c, d⟩
    · refine ⟨a.both, b.tr Kp_both, ?_, fun i hi => by rw [both_hi a hi]; exact d i hi⟩
      unfold pBoth
      rw [zact_1 (by omega), zact_1 (by omega)]; exact c
def ZNo (z : Nat → Nat → Int32) (n : Nat) : Prop := ∀ i j, i < n → j < i → ¬ Eb (z j) (z i)
def ZHit (z : Nat → Nat → Int32) (i j : Nat) : Prop := i ≤ 300 ∧ ZNo z i ∧ j < i ∧ Eb (z j) (z i) ∧ ∀ q, q < j → ¬ Eb (z q) (z i)
theorem ZHit.no {z : Nat → Nat → Int32} {i j : Nat} (h : ZHit z i j) (n : ZNo z 301) : False := n i j (by have := h.1; omega) h.2.2.1 h.2.2.2.1
theorem ZHit.uq {z : Nat → Nat → Int32} {i j i2 j2 : Nat} (h : ZHit z i j) (g : ZHit z i2 j2) : i = i2 ∧ j = j2 := by
  obtain ⟨a1, a2, a3, a4, a5⟩ := h
  obtain ⟨b1, b2, b3, b4, b5⟩ := g
  have e : i = i2 := by
    rcases Nat.lt_trichotomy i i2 with q | q | q
    · exact absurd a4 (b2 i j q a3)
    · exact q
    · exact absurd b4 (a2 i2 j2 q b3)
  subst e
  refine ⟨rfl, ?_⟩
  rcases Nat.lt_trichotomy j j2 with q | q | q
  · exact absurd a4 (b5 j q)
  · exact q
  · exact absurd b4 (a5 j2 q)
theorem h_firstLike {st : HSt} {h P i : Nat} {z : Nat → Nat → Int32} (kh : gK st h = 1) (rP : gR st 10 h = some P) (kP : gK st P = 23) (lP : gL st P = 2709) (hi : i ≤ 300) (D : ∀ j, j ≤ i → ∀ m, m < 9 → gJ st P (j * 9 + m) = pkW (z j) m) : ∃ j, j ≤ i ∧ fh_X0_firstLike h (nI i) st = some (st, nI j) ∧ (∀ q, q < j → ¬ ∀ m, m < 9 → pkW (z q) m = pkW (z i) m) ∧ (j < i → ∀ m, m < 9 → pkW (z j) m = pkW (z i) m) := by
  have inner : ∀ j, j < i → ∃ y : Int32 × HSt, iter (fun x : (Int32 × HSt) => fh_X0_firstLike_s13 h (nI i) (9 : Int32) (nI j) x.1 x.2) mFuel ((0 : Int32), st) = some (.inr y) ∧ y.2 = st ∧ ((y.1 = 9 ∧ ∀ m, m < 9 → pkW (z j) m = pkW (z i) m) ∨ (¬ y.1 = 9 ∧ ¬ ∀ m, m < 9 → pkW (z j) m = pkW (z i) m)) := fun j hj => by
    refine iter_w (fun k (x : Int32 × HSt) => x.1 = nI k ∧ x.2 = st ∧ ∀ m, m < k → pkW (z j) m = pkW (z i) m) 9 _ ?_ ⟨rfl, rfl, fun _ q => absurd q (Nat.not_lt_zero _)⟩ (by omega)
    rintro k ⟨x1, x⟩ hk ⟨q1, q2, q3⟩
    simp only at q1 q2
    subst q1; subst q2
    rcases Nat.lt_or_ge k 9 with hlt | hge
    · have ix : ∀ j, nI j * 9 + nI k = nI (j * 9 + k) := fun j => by show nI j * nI 9 + _ = _; rw [pk_mul, nI_add]
      have head : fh_X0_firstLike_s13 h (nI i) (9 : Int32) (nI j) (nI k) x = (if lg_cmp (pkW (z j) k) (pkW (z i) k) = 0 then some (.inr (.inl (nI (k + 1), x))) else some (.inr (.inr (nI k, x)))) := by
        unfold fh_X0_firstLike_s13
        rw [if_neg (show ¬ (9 : Int32) ≤ nI k from nI_ge (b := 9) hlt (by omega)), chk_t (isk_t kh), rP, dr_of kP, bs_, lP, ix j, ix i, chk_t (inb_n (by omega) (by omega)), chk_t (inb_n (by omega) (by omega)), nI_clamp (by omega), nI_clamp (by omega), D j (by omega) k hlt, D i (by omega) k hlt, nI_1]
      by_cases e : pkW (z j) k = pkW (z i) k
      · left
        refine ⟨(nI (k + 1), x), ?_, ⟨rfl, rfl, fun m hm => ?_⟩, hlt⟩
        · show fh_X0_firstLike_s13 h (nI i) (9 : Int32) (nI j) (nI k) x = _
          rw [head, if_pos (lg_eq.mpr e)]
        · rcases Nat.lt_or_ge m k with z1 | z1
          · exact q3 m z1
          · rw [show m = k by omega]; exact e
      · right
        refine ⟨(nI k, x), ?_, rfl, Or.inr ⟨fun c => ?_, fun c => e (c k hlt)⟩⟩
        · show fh_X0_firstLike_s13 h (nI i) (9 : Int32) (nI j) (nI k) x = _
          rw [head, if_neg (fun c => e (lg_eq.mp c))]
        · have := (nI_eq (a := k) (b := 9) (by omega) (by omega)).mp c; omega
    · right
      have : k = 9 := by omega
      subst this
      refine ⟨(nI 9, x), ?_, rfl, Or.inl ⟨rfl, q3⟩⟩
      show fh_X0_firstLike_s13 h (nI i) (9 : Int32) (nI j) (nI 9) x = _
      unfold fh_X0_firstLike_s13
      rw [if_pos (by decide)]
  have outer := iter_m (s1 := fun x : (Int32 × HSt) => fh_X0_firstLike_s5 h (nI i) (9 : Int32) x.1 x.2) (fun k (x : Int32 × HSt) => x.1 = nI k ∧ x.2 = st ∧ ∀ q, q < k → ¬ ∀ m, m < 9 → pkW (z q) m = pkW (z i) m) i (fun o : HSt × Int32 => ∃ j, j < i ∧ o = (st, nI j) ∧ (∀ q, q < j → ¬ ∀ m, m < 9 → pkW (z q) m = pkW (z i) m) ∧ ∀ m, m < 9 → pkW (z j) m = pkW (z i) m) (fun y : Int32 × HSt => y.2 = st ∧ ∀ q, q < i → ¬ ∀ m, m < 9 → pkW (z q) m = pkW (z i) m) (x := ((0 : Int32), st)) ?_ ⟨rfl, rfl, fun _ q => absurd q (Nat.not_lt_zero _)⟩ (by omega)
  · unfold fh_X0_firstLike
    rcases outer with ⟨o, e, j, hj, rfl, c1, c2⟩ | ⟨y, e, y2, c1⟩
    · refine ⟨j, by omega, ?_, c1, fun _ => c2⟩
      rw [e]; rfl
    · refine ⟨i, Nat.le_refl _, ?_, c1, fun q => absurd q (Nat.lt_irrefl _)⟩
      rw [e]
      show fh_X0_firstLike_j65 h (nI i) y.2 = _
      unfold fh_X0_firstLike_j65
      rw [y2]
  · rintro k ⟨x1, x⟩ hk ⟨q1, q2, q3⟩
    simp only at q1 q2
    subst q1; subst q2
    rcases Nat.lt_or_ge k i with hlt | hge
    · obtain ⟨y, e, y2, c⟩ := inner k hlt
      have head : fh_X0_firstLike_s5 h (nI i) (9 : Int32) (nI k) x = fh_X0_firstLike_j51 h (nI i) 9 (nI k) y.1 x := by
        unfold fh_X0_firstLike_s5
        rw [if_neg (nI_ge hlt (by omega)), e]
        show fh_X0_firstLike_j51 h (nI i) 9 (nI k) y.1 y.2 = _
        rw [y2]
      rcases c with ⟨c1, c2⟩ | ⟨c1, c2⟩
      · left
        refine ⟨(x, nI k), ?_, k, hlt, rfl, q3, c2⟩
        show fh_X0_firstLike_s5 h (nI i) (9 : Int32) (nI k) x = _
        rw [head]; unfold fh_X0_firstLike_j51; rw [if_pos c1]
      · right; left
        refine ⟨(nI (k + 1), x), ?_, ⟨rfl, rfl, fun q hq => ?_⟩, hlt⟩
        · show fh_X0_firstLike_s5 h (nI i) (9 : Int32) (nI k) x = _
          rw [head]; unfold fh_X0_firstLike_j51; rw [if_neg c1, nI_1]
        · rcases Nat.lt_or_ge q k with z1 | z1
          · exact q3 q z1
          · rw [show q = k by omega]; exact c2
    · right; right
      have : k = i := by omega
      subst this
      refine ⟨(nI k, x), ?_, rfl, q3⟩
      show fh_X0_firstLike_s5 h (nI k) (9 : Int32) (nI k) x = _
      unfold fh_X0_firstLike_s5
      rw [if_pos (nI_le (Nat.le_refl _) (by omega))]
theorem Jt_w {J : Nat → Int64} {v : Nat → Int32} {f m : Nat} (hm : m < 9) : Jt J v f (yN v 0 + yN v 1) (f + m) = pkW v m := by
  unfold Jt pkW
  rw [if_neg (by omega)]
  rcases Nat.eq_zero_or_pos m with z | z
  · subst z; rw [if_pos (show f + 0 = f from rfl), if_pos rfl]
  · rw [if_neg (by omega), if_neg (by omega), show f + m - f - 1 = m - 1 by omega]
theorem sp_27 {st s : HSt} {hx r D : Nat} {v : Nat → Int32} (w : Wf st) (h : Sh hx st) (S : SpR st (hx + 33) r v) (V : VOk D v) (F : Fr (fun b => b = hx + 27) st s) : SpR s (hx + 33) r v := by
  have k5 := S.2.1.1
  obtain ⟨KR, -⟩ := w.2.1 r k5
  refine S.fr V F (fun z => by have z' : hx + 33 = hx + 27 := z; omega) (fun z => by have z' : hx + 33 + 7 = hx + 27 := z; omega) (fun z => by have z' : hx + 33 + 8 = hx + 27 := z; omega) (fun z => by have z' : hx + 33 + 9 = hx + 27 := z; omega) (fun j hj z => ?_)
  have z' : r + j = hx + 27 := z
  have kk := k27 h
  rcases Nat.eq_zero_or_pos j with q | q
  · subst q; rw [← z', Nat.add_zero, k5] at kk; omega
  · rw [← z', KR j q hj] at kk; omega
