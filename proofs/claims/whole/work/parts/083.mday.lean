/-! the reference: a frame, a RULE's code reckoned, clauses, looks -/
/-- only fields with X k = true change -/
def MF (X : Nat → Bool) (a b : MSt) : Prop := ∀ k, X k = false → b.1 k = a.1 k ∧ b.2.1 k = a.2.1 k ∧ b.2.2 k = a.2.2 k
theorem MF.rf {X : Nat → Bool} {a : MSt} : MF X a a := fun _ _ => ⟨rfl, rfl, rfl⟩
theorem MF.tr {X : Nat → Bool} {a b c : MSt} (h : MF X a b) (h2 : MF X b c) : MF X a c := fun k hk => ⟨(h2 k hk).1.trans (h k hk).1, (h2 k hk).2.1.trans (h k hk).2.1, (h2 k hk).2.2.trans (h k hk).2.2⟩
theorem MF.mo {X Y : Nat → Bool} {a b : MSt} (h : MF X a b) (hXY : ∀ k, X k = true → Y k = true) : MF Y a b := fun k hk => h k (by
  cases hx : X k with
  | false => rfl
  | true => rw [hXY k hx] at hk; cases hk)
theorem MF.I {X : Nat → Bool} {a b : MSt} (h : MF X a b) (k : Nat) (hk : X k = false) : b.1 k = a.1 k := (h k hk).1
theorem MF.A {X : Nat → Bool} {a b : MSt} (h : MF X a b) (k : Nat) (hk : X k = false) : b.2.1 k = a.2.1 k := (h k hk).2.1
theorem MF.J {X : Nat → Bool} {a b : MSt} (h : MF X a b) (k : Nat) (hk : X k = false) : b.2.2 k = a.2.2 k := (h k hk).2.2
theorem MF.msi {X : Nat → Bool} {a : MSt} {k : Nat} {v : Int32} (h : X k = true) : MF X a (msi a k v) := fun j hj => ⟨pk_un (fun e => by rw [e, h] at hj; cases hj), rfl, rfl⟩
theorem MF.msa {X : Nat → Bool} {a : MSt} {k i : Nat} {v : Int32} (h : X k = true) : MF X a (msa a k i v) := fun j hj => ⟨rfl, va_up_ne _ _ (fun e => by rw [e, h] at hj; cases hj), rfl⟩
theorem MF.msl {X : Nat → Bool} {a : MSt} {k i : Nat} {v : Int64} (h : X k = true) : MF X a (msl a k i v) := fun j hj => ⟨rfl, rfl, va_up_ne _ _ (fun e => by rw [e, h] at hj; cases hj)⟩
theorem MF.setV {X : Nat → Bool} {a : MSt} {u : Nat → Int32} (h : X 26 = true) : MF X a (setV a u) := fun j hj => ⟨rfl, va_up_ne _ _ (fun e => by rw [e, h] at hj; cases hj), rfl⟩
theorem msi_s (ms : MSt) (k : Nat) (v : Int32) : (msi ms k v).1 k = v := by show upd ms.1 k v k = v; exact pk_us
theorem msi_n {ms : MSt} {k j : Nat} {v : Int32} (h : j ≠ k) : (msi ms k v).1 j = ms.1 j := by show upd ms.1 k v j = _; exact pk_un h
theorem msi_A (ms : MSt) (k : Nat) (v : Int32) : (msi ms k v).2 = ms.2 := rfl
theorem msa_I (ms : MSt) (k i : Nat) (v : Int32) : (msa ms k i v).1 = ms.1 := rfl
theorem msa_J (ms : MSt) (k i : Nat) (v : Int32) : (msa ms k i v).2.2 = ms.2.2 := rfl
theorem msa_s (ms : MSt) (k i : Nat) (v : Int32) : (msa ms k i v).2.1 k = upd (ms.2.1 k) i v := by show va_up ms.2.1 k _ k = _; exact va_up_self _ _ _
theorem msa_n {ms : MSt} {k j i : Nat} {v : Int32} (h : j ≠ k) : (msa ms k i v).2.1 j = ms.2.1 j := by show va_up ms.2.1 k _ j = _; exact va_up_ne _ _ h
theorem msl_I (ms : MSt) (k i : Nat) (v : Int64) : (msl ms k i v).1 = ms.1 := rfl
theorem msl_A (ms : MSt) (k i : Nat) (v : Int64) : (msl ms k i v).2.1 = ms.2.1 := rfl
theorem msl_s (ms : MSt) (k i : Nat) (v : Int64) : (msl ms k i v).2.2 k = vp_updL (ms.2.2 k) i v := by show va_up ms.2.2 k _ k = _; exact va_up_self _ _ _
theorem msl_n {ms : MSt} {k j i : Nat} {v : Int64} (h : j ≠ k) : (msl ms k i v).2.2 j = ms.2.2 j := by show va_up ms.2.2 k _ j = _; exact va_up_ne _ _ h
/-- stack and its top -/
def mXs (k : Nat) : Bool := k == 23 || k == 24
/-- what a look changes: also words, does, turnBy, riseBy -/
def mXl (k : Nat) : Bool := k == 23 || k == 24 || k == 25 || k == 28 || k == 29 || k == 30
/-- what a day changes: also errNow, said -/
def mXd (k : Nat) : Bool := k == 23 || k == 24 || k == 25 || k == 26 || k == 27 || k == 28 || k == 29 || k == 30
theorem mXs_l : ∀ k, mXs k = true → mXl k = true := fun k h => by
  unfold mXs at h; unfold mXl; simp only [Bool.or_eq_true, beq_iff_eq] at h ⊢; omega
theorem mXl_d : ∀ k, mXl k = true → mXd k = true := fun k h => by
  unfold mXl at h; unfold mXd; simp only [Bool.or_eq_true, beq_iff_eq] at h ⊢; omega
def encM (c : Nat × Nat) : Int32 := if c.1 ≤ 1 then nI (c.1 + 16 * c.2) else nI c.1
/-- rule k of the reference is u -/
def MrR (ms : MSt) (k : Nat) (u : Ru) (N : Nat) : Prop := k < 6 ∧ N ≤ 400 ∧ ms.2.1 6 k = nI u.1 ∧ (∀ c, c < u.1 → ms.2.1 5 (60 * k + 5 * c) = nI (u.2.1 c).1 ∧ ((u.2.1 c).1 < 2 → ms.2.1 5 (60 * k + 5 * c + 1) = nI (u.2.1 c).2.1 ∧ ms.2.1 5 (60 * k + 5 * c + 2) = nI (u.2.1 c).2.2.1) ∧ ms.2.1 5 (60 * k + 5 * c + 3) = (if (u.2.1 c).2.2.1 < (u.2.1 c).2.2.2 then nI (u.2.1 c).2.2.1 else -1) ∧ ms.2.1 5 (60 * k + 5 * c + 4) = nI (u.2.1 c).2.2.2 ∧ (u.2.1 c).2.2.2 ≤ N) ∧ ∀ i, i < N → ms.2.1 3 (400 * k + i) = encM (u.2.2 i)
theorem MrR.fr {X : Nat → Bool} {a b : MSt} {k N : Nat} {u : Ru} (h : MrR a k u N) (F : MF X a b) (h3 : X 3 = false) (h5 : X 5 = false) (h6 : X 6 = false) : MrR b k u N := by
  unfold MrR at *
  rw [F.A 3 h3, F.A 5 h5, F.A 6 h6]; exact h
theorem m_push {ms : MSt} {t : Nat} {x : Int64} (h : ms.1 24 = nI t) (ht : t < 64) : fm_push x ms = some (msi (msl ms 23 t x) 24 (nI (t + 1))) := by
  unfold fm_push
  rw [h, chk_t (inb_n ht (by omega)), nI_clamp (by omega)]
  show some (msi (msl ms 23 t x) 24 (ms.1 24 + 1)) = _
  rw [h, nI_1]
theorem m_pop {ms : MSt} {t : Nat} (h : ms.1 24 = nI (t + 1)) (ht : t < 64) : fm_pop ms = some (msi ms 24 (nI t), ms.2.2 23 t) := by
  unfold fm_pop
  rw [h, nI_pred]
  have e : (msi ms 24 (nI t)).1 24 = nI t := msi_s _ _ _
  rw [e, chk_t (inb_n ht (by omega)), nI_clamp (by omega)]
  rfl
theorem m_one {s : Nat} {x y : Int64} (h2 : 2 ≤ s) (h13 : s ≤ 13) (h11 : s ≠ 11) : fm_one (nI s) x y = some (opv s x y) := by
  have hz : ∀ y : Int64, ¬ lg_cmp y 0 = 0 → nzl y = true := fun y h => decide_eq_true (fun q => h (lg_eq.mpr q))
  rcases (by omega : s = 2 ∨ s = 3 ∨ s = 4 ∨ s = 5 ∨ s = 6 ∨ s = 7 ∨ s = 8 ∨ s = 9 ∨ s = 10 ∨ s = 12 ∨ s = 13) with rfl | rfl | rfl | rfl | rfl | rfl | rfl | rfl | rfl | rfl | rfl
  · rfl
  · rfl
  · rfl
  · show (if lg_cmp y 0 = 0 then some (0 : Int64) else chk (nzl y) (some (x / y))) = some (if lg_cmp y 0 = 0 then 0 else x / y)
    by_cases h : lg_cmp y 0 = 0
    · rw [if_pos h, if_pos h]
    · rw [if_neg h, if_neg h, hz y h]; rfl
  · show (if 0 ≤ lg_cmp x y then some (0 : Int64) else some (1 : Int64)) = some (if 0 ≤ lg_cmp x y then 0 else 1)
    split <;> rfl
  · show (if 0 < lg_cmp x y then some (0 : Int64) else some (1 : Int64)) = some (if 0 < lg_cmp x y then 0 else 1)
    split <;> rfl
  · show (if lg_cmp x y = 0 then some (1 : Int64) else some (0 : Int64)) = some (if lg_cmp x y = 0 then 1 else 0)
    split <;> rfl
  · show (if lg_cmp x y < 0 then some (0 : Int64) else some (1 : Int64)) = some (if lg_cmp x y < 0 then 0 else 1)
    split <;> rfl
  · show (if lg_cmp x y ≤ 0 then some (0 : Int64) else some (1 : Int64)) = some (if lg_cmp x y ≤ 0 then 0 else 1)
    split <;> rfl
  · rfl
  · rfl
theorem enc_lo {c : Nat × Nat} (h : c.1 ≤ 13) (h2 : c.1 ≤ 1 → c.2 ≤ 99999) : encM c &&& 15 = nI c.1 := by
  unfold encM
  split
  · rename_i q; have := h2 q; rw [pk_andN (by omega) 4 (by decide)]; exact congrArg nI (by omega)
  · rw [pk_andN (by omega) 4 (by decide)]; exact congrArg nI (by omega)
theorem enc_hi {c : Nat × Nat} (h : c.1 ≤ 1) (h2 : c.2 ≤ 99999) : encM c >>> ((4 : Int32) &&& 31) = nI c.2 := by
  unfold encM
  rw [if_pos h, show (4 : Int32) &&& 31 = 4 by decide, pk_shrN (by omega) _ 4 (by decide)]
  exact congrArg nI (by omega)
theorem ty_s {c : Nat × Nat} {L L2 : List Bool} (e : ty c L = some L2) : c.1 ≤ 13 := by
  unfold ty at e
  rcases Nat.lt_or_ge 13 c.1 with z | z
  · rw [if_neg (by omega), if_neg (by omega), if_neg (by omega), if_neg (by omega), if_neg (by omega), if_neg (by omega)] at e; cases e
  · exact z
theorem ty_2 {c : Nat × Nat} {L L2 : List Bool} (e : ty c L = some L2) (h0 : c.1 ≠ 0) (h1 : c.1 ≠ 1) (h11 : c.1 ≠ 11) : 2 ≤ L.length := by
  unfold ty at e
  rw [if_neg h0, if_neg h1, if_neg h11] at e
  by_cases z5 : c.1 ≤ 5
  · rw [if_pos z5] at e
    split at e
    · assumption
    · cases e
  · rw [if_neg z5] at e
    by_cases z10 : c.1 ≤ 10
    · rw [if_pos z10] at e
      split at e
      · assumption
      · cases e
    · rw [if_neg z10] at e
      split at e
      · split at e
        · rename_i hh; exact hh.2.2
        · cases e
      · cases e
theorem ty_1 {c : Nat × Nat} {L L2 : List Bool} (e : ty c L = some L2) : (c.1 = 0 → c.2 ≤ 99999) ∧ (c.1 = 1 → c.2 < 9) ∧ (c.1 = 11 → 1 ≤ L.length) := by
  unfold ty at e
  refine ⟨fun h => ?_, fun h => ?_, fun h => ?_⟩
  · rw [if_pos h] at e
    split at e
    · assumption
    · cases e
  · rw [if_neg (by omega), if_pos h] at e
    split at e
    · assumption
    · cases e
  · rw [if_neg (by omega), if_neg (by omega), if_pos h] at e
    split at e
    · rename_i hh; exact hh.2
    · cases e
theorem m_reck_step {ms : MSt} {k i m n N : Nat} {cd : Nat → Nat × Nat} {w : Nat → Int64} {b : Bool} (hk : k < 6) (hN : N ≤ 400) (hiN : i + n ≤ N) (hc : ∀ j, j < N → ms.2.1 3 (400 * k + j) = encM (cd j)) (hw : ∀ j, j < 9 → ms.2.2 25 j = w j) (S : SegOk cd i n b) (hm : m < n) (ht : ms.1 24 = nI (rs w cd i m).length) (hs : stk (ms.2.2 23) (rs w cd i m)) (hl : (rs w cd i m).length ≤ 60) :
    ∃ ms2, fm_reckons_s8 (nI k) (nI (i + n)) (nI (i + m)) ms = some (.inr (.inl (nI (i + m + 1), ms2))) ∧ ms2.1 24 = nI (rs w cd i (m + 1)).length ∧ stk (ms2.2.2 23) (rs w cd i (m + 1)) ∧ MF mXs ms ms2 := by
  obtain ⟨L, L2, e1, e2, q1, q2⟩ := seg_step S hm
  have ok := rs_ok (w := w) e1
  have hlen := tOk_len ok
  have h13 := ty_s e2
  obtain ⟨t0, t1, t11⟩ := ty_1 e2
  have eix : (400 : Int32) * nI k + nI (i + m) = nI (400 * k + (i + m)) := by show nI 400 * nI k + _ = _; rw [pk_mul, nI_add]
  have elo : encM (cd (i + m)) &&& 15 = nI (cd (i + m)).1 := enc_lo h13 (fun q => (by omega : (cd (i + m)).1 = 0 ∨ (cd (i + m)).1 = 1).elim t0 (fun z => by have := t1 z; omega))
  have er : rs w cd i (m + 1) = stp w (cd (i + m)) (rs w cd i m) := rfl
  have m24 : ∀ (x : Int64) (j : Nat) (z : Int32), (msi (msl ms 23 j x) 24 z).1 24 = z := fun _ _ _ => msi_s _ _ _
  have m23 : ∀ (x : Int64) (j : Nat) (z : Int32), (msi (msl ms 23 j x) 24 z).2.2 23 = vp_updL (ms.2.2 23) j x := fun x j _ => msl_s ms 23 j x
  unfold fm_reckons_s8
  rw [if_neg (nI_ge (by omega) (by omega)), eix, chk_t (inb_n (by omega) (by omega)), chk_t (inb_n (by omega) (by omega)), nI_clamp (by omega), hc _ (by omega), elo, er]
  by_cases h0 : (cd (i + m)).1 = 0
  · have ehi := enc_hi (c := cd (i + m)) (by omega) (t0 h0)
    rw [ehi, h0, if_pos (show nI 0 = 0 from rfl), m_push ht (by omega), bs_, nI_1]
    have es : stp w (cd (i + m)) (rs w cd i m) = (nI (cd (i + m)).2).toInt64 :: rs w cd i m := by unfold stp; rw [if_pos h0]
    refine ⟨_, rfl, ?_, ?_, (MF.msl rfl).tr (MF.msi rfl)⟩
    · rw [m24, es]; rfl
    · rw [m23, es]; exact stk_push hs
  · rw [if_neg (show ¬ nI (cd (i + m)).1 = 0 from nI_ne0 (by omega) (by omega))]
    by_cases h1 : (cd (i + m)).1 = 1
    · have ehi := enc_hi (c := cd (i + m)) (by omega) (by have := t1 h1; omega)
      rw [ehi, h1, if_pos (show nI 1 = 1 from rfl), chk_t (inb_n (t1 h1) (by omega)), nI_clamp (by have := t1 h1; omega), hw _ (t1 h1), m_push ht (by omega), bs_, nI_1]
      have es : stp w (cd (i + m)) (rs w cd i m) = w (cd (i + m)).2 :: rs w cd i m := by unfold stp; rw [if_neg h0, if_pos h1]
      refine ⟨_, rfl, ?_, ?_, (MF.msl rfl).tr (MF.msi rfl)⟩
      · rw [m24, es]; rfl
      · rw [m23, es]; exact stk_push hs
    · rw [if_neg (show ¬ nI (cd (i + m)).1 = 1 from fun q => h1 ((nI_eq (b := 1) (by omega) (by omega)).mp q))]
      by_cases h11 : (cd (i + m)).1 = 11
      · rw [h11, if_pos (show nI 11 = 11 from rfl)]
        have hl1 : 1 ≤ (rs w cd i m).length := by have := t11 h11; omega
        match hrs : rs w cd i m with
        | [] => rw [hrs] at hl1; exact absurd hl1 (by simp)
        | x :: r =>
          rw [hrs] at hs hl ht
          have hr : r.length < 60 := hl
          have es : stp w (cd (i + m)) (x :: r) = (1 - x) :: r := by unfold stp; rw [if_neg h0, if_neg h1, if_pos h11]; rfl
          rw [es, m_pop (t := r.length) ht (by omega), bs_]
          dsimp only
          rw [m_push (t := r.length) (show (msi ms 24 (nI r.length)).1 24 = nI r.length from msi_s _ _ _) (by omega), bs_, nI_1]
          refine ⟨_, rfl, msi_s _ _ _, ?_, ((MF.msi rfl).tr (MF.msl rfl)).tr (MF.msi rfl)⟩
          show stk (va_up ms.2.2 23 (vp_updL (ms.2.2 23) r.length (1 - ms.2.2 23 r.length)) 23) _
          rw [va_up_self, hs.1]; exact stk_push hs.2
      · rw [if_neg (show ¬ nI (cd (i + m)).1 = 11 from fun q => h11 ((nI_eq (b := 11) (by omega) (by omega)).mp q))]
        have hl2 := ty_2 e2 h0 h1 h11
        rw [hlen] at hl2
        match hrs : rs w cd i m with
        | [] => rw [hrs] at hl2; exact absurd hl2 (by simp)
        | [_] => rw [hrs] at hl2; exact absurd hl2 (by simp)
        | y :: x :: r =>
          rw [hrs] at hs hl ht
          have hr : r.length + 1 < 60 := hl
          have es : stp w (cd (i + m)) (y :: x :: r) = opv (cd (i + m)).1 x y :: r := by unfold stp; rw [if_neg h0, if_neg h1, if_neg h11]; rfl
          rw [es, m_pop (t := r.length + 1) ht (by omega), bs_]
          dsimp only
          rw [m_pop (t := r.length) (show (msi ms 24 (nI (r.length + 1))).1 24 = nI (r.length + 1) from msi_s _ _ _) (by omega), bs_]
          dsimp only
          have g1 : ms.2.2 23 (r.length + 1) = y := hs.1
          have g2 : (msi ms 24 (nI (r.length + 1))).2.2 23 r.length = x := hs.2.1
          rw [g1, g2, m_one (by omega) h13 h11, bs_, m_push (t := r.length) (show (msi (msi ms 24 (nI (r.length + 1))) 24 (nI r.length)).1 24 = nI r.length from msi_s _ _ _) (by omega), bs_, nI_1]
          refine ⟨_, rfl, msi_s _ _ _, ?_, (((MF.msi rfl).tr (MF.msi rfl)).tr (MF.msl rfl)).tr (MF.msi rfl)⟩
          show stk (va_up ms.2.2 23 (vp_updL (ms.2.2 23) r.length (opv (cd (i + m)).1 x y)) 23) _
          rw [va_up_self]; exact stk_push hs.2.2
theorem m_reckons {ms : MSt} {k i n N : Nat} {cd : Nat → Nat × Nat} {w : Nat → Int64} {b : Bool} {x y z : Int32} (hk : k < 6) (hN : N ≤ 400) (hiN : i + n ≤ N) (hc : ∀ j, j < N → ms.2.1 3 (400 * k + j) = encM (cd j)) (hw : ∀ j, j < 9 → ms.2.2 25 j = w j) (S : SegOk cd i n b) (hx : x = nI k) (hy : y = nI i) (hz : z = nI (i + n)) : ∃ ms2, fm_reckons x y z ms = some (ms2, pRun w cd i n) ∧ MF mXs ms ms2 := by
  subst hx; subst hy; subst hz
  have hlen : ∀ m, m ≤ n → (rs w cd i m).length ≤ 60 := fun m hm => by
    obtain ⟨L, e1, l1⟩ := S.2 m hm
    rw [← tOk_len (rs_ok (w := w) e1)]; exact l1
  obtain ⟨q, e, F, s1, s2⟩ : ∃ q : Int32 × MSt, iter (fun x : (Int32 × MSt) => fm_reckons_s8 (nI k) (nI (i + n)) x.1 x.2) mFuel (nI i, msi ms 24 (0 : Int32)) = some (.inr q) ∧ MF mXs ms q.2 ∧ q.2.1 24 = nI (rs w cd i n).length ∧ stk (q.2.2.2 23) (rs w cd i n) := by
    refine iter_n (fun m (x : Int32 × MSt) => x.1 = nI (i + m) ∧ MF mXs ms x.2 ∧ x.2.1 24 = nI (rs w cd i m).length ∧ stk (x.2.2.2 23) (rs w cd i m)) n _ ?_ ?_ ⟨rfl, MF.msi rfl, msi_s _ _ _, trivial⟩ (by omega)
    · rintro m ⟨j, s⟩ hm ⟨hj, F, ht, hs⟩
      simp only at hj F ht hs
      subst hj
      obtain ⟨s2, e2, h24, h23, F2⟩ := m_reck_step (ms := s) hk hN hiN (fun j hj => by rw [F.A 3 rfl]; exact hc j hj) (fun j hj => by rw [F.J 25 rfl]; exact hw j hj) S hm ht hs (hlen m (by omega))
      exact ⟨_, e2, rfl, F.tr F2, h24, h23⟩
    · rintro ⟨j, s⟩ ⟨hj, F, ht, hs⟩
      simp only at hj F ht hs
      subst hj
      refine ⟨(nI (i + n), s), ?_, F, ht, hs⟩
      show fm_reckons_s8 (nI k) (nI (i + n)) (nI (i + n)) s = _
      unfold fm_reckons_s8
      rw [if_pos (nI_le (Nat.le_refl _) (by omega))]
  obtain ⟨j, s⟩ := q
  simp only at F s1 s2
  have h1 : (rs w cd i n).length = 1 := by rw [← tOk_len (rs_ok (w := w) S.1)]; rfl
  refine ⟨msi s 24 (nI 0), ?_, F.tr (MF.msi rfl)⟩
  unfold fm_reckons
  rw [e]
  show fm_reckons_j135 s = _
  unfold fm_reckons_j135 pRun
  match hr : rs w cd i n, h1, s1, s2 with
  | [x], _, s1, s2 =>
    rw [m_pop (t := 0) s1 (by omega), bs_]
    show some (msi s 24 (nI 0), s.2.2 23 0) = some (_, x)
    rw [show s.2.2 23 0 = x from s2.1]
