/-! plain facts on the class's functions: kinds 5 River, 9 Site, 10 Span, 12 HalfBridge; what never changes of an object that is made -/
theorem pu2_ne {α : Type} {I : Nat → Nat → α} {f f2 a b : Nat} {v : α} (h : b ≠ a) : va_up I f (va_up (I f) a v) f2 b = I f2 b := by
  unfold va_up
  by_cases hf : f2 = f
  · subst hf; simp [h]
  · simp [hf]
theorem pu2_self {α : Type} {I : Nat → Nat → α} {f a : Nat} {v : α} : va_up I f (va_up (I f) a v) f a = v := by simp [va_up]
theorem chk_t {α : Type} {b : Bool} {E : Option α} (h : b = true) : chk b E = E := by subst h; rfl
theorem isk_t {st : HSt} {a k : Nat} (h : gK st a = k) : isk st a k = true := decide_eq_true h
theorem dr_t {st : HSt} {e : Option Nat} {b k : Nat} (h1 : e = some b) (h2 : gK st b = k) : dr st e k = some b := by subst h1; exact dr_of h2
theorem bs_ {α β : Type} (x : α) (f : α → Option β) : (some x).bind f = f x := rfl
theorem inb_nI {n N : Nat} (h : n < N) (hN : N < 2 ^ 31) : inb (nI n) N = true := inb_of (vp_in_nI h hN)
def IvS (st : HSt) : Prop := ∀ a, gK st a = 10 → (gR st 902 a = some (a + 7) ∧ gK st (a + 7) = 22 ∧ gL st (a + 7) = 2) ∧ (gR st 903 a = some (a + 8) ∧ gK st (a + 8) = 22 ∧ gL st (a + 8) = 80) ∧ (gR st 904 a = some (a + 9) ∧ gK st (a + 9) = 22 ∧ gL st (a + 9) = 80)
def IvR (st : HSt) : Prop := ∀ r, gK st r = 5 → (gR st 404 r = some (r + 1) ∧ gK st (r + 1) = 22 ∧ gL st (r + 1) = 2) ∧ (gR st 405 r = some (r + 2) ∧ gK st (r + 2) = 22 ∧ gL st (r + 2) = 2) ∧ (gR st 406 r = some (r + 3) ∧ gK st (r + 3) = 22 ∧ gL st (r + 3) = 2) ∧ (gR st 407 r = some (r + 4) ∧ gK st (r + 4) = 22 ∧ gL st (r + 4) = 8) ∧ (gR st 408 r = some (r + 5) ∧ gK st (r + 5) = 22 ∧ gL st (r + 5) = 8)
theorem IvS_sA {st : HSt} {a i : Nat} {v : Int32} (h : IvS st) : IvS (sA st a i v) := h
theorem IvS_sI {st : HSt} {f a : Nat} {v : Int32} (h : IvS st) : IvS (sI st f a v) := h
theorem IvS_sR900 {st : HSt} {a : Nat} {v : Option Nat} (h : IvS st) : IvS (sR st 900 a v) := h
/-- a Span with its River, all in place -/
def SpOk (st : HSt) (a r : Nat) : Prop := IvS st ∧ IvR st ∧ gK st a = 10 ∧ gR st 900 a = some r ∧ gK st r = 5
theorem sp_gap {st : HSt} {a r : Nat} (h : SpOk st a r) : fh_X9_gap a st = some (st, gI st 400 r - gA st (a + 7) 0 - gA st (a + 7) 1) := by
  obtain ⟨hS, hR, hk, hr, hkr⟩ := h
  obtain ⟨⟨e1, e2, e3⟩, -, -⟩ := hS a hk
  unfold fh_X9_gap
  rw [chk_t (isk_t hk), dr_t hr hkr, bs_, dr_t e1 e2, bs_, e3]
  rfl
theorem sp_met {st : HSt} {a r : Nat} (h : SpOk st a r) : fh_X9_isMet a st = some (st, if gI st 400 r - gA st (a + 7) 0 - gA st (a + 7) 1 = 0 then 1 else 0) := by
  unfold fh_X9_isMet
  rw [chk_t (isk_t h.2.2.1), sp_gap h, bs_]
  show (if gI st 400 r - gA st (a + 7) 0 - gA st (a + 7) 1 = 0 then some (st, (1 : Int32)) else some (st, (0 : Int32))) = _
  split <;> rfl
theorem sp_take {st : HSt} {a r : Nat} {n : Int32} {k : Nat} (h : SpOk st a r) (hk : k < 2) : fh_X9_take a (nI k) n st = some (sA st (a + 7) k (if (0 : Int32) < gA st (a + 7) k - n then gA st (a + 7) k - n else 0)) := by
  obtain ⟨hS, hR, hka, hr, hkr⟩ := h
  obtain ⟨⟨e1, e2, e3⟩, -, -⟩ := hS a hka
  unfold fh_X9_take
  rw [chk_t (isk_t hka), dr_t e1 e2, bs_, e3, chk_t (inb_nI hk (by decide)), chk_t (inb_nI hk (by decide)), bs_, nI_clamp (by omega)]
theorem sp_tipLine {st : HSt} {a r k y : Nat} (h : SpOk st a r) (hk : k < 2) (hy : gA st (a + 7) k = nI y) (hy2 : y ≤ 40) : fh_X9_tipLine a (nI k) st = some (st, if y = 0 then gA st (r + 1) k else gA st (a + 8) (40 * k + y - 1)) := by
  obtain ⟨hS, hR, hka, hr, hkr⟩ := h
  obtain ⟨⟨e1, e2, e3⟩, ⟨f1, f2, f3⟩, -⟩ := hS a hka
  obtain ⟨⟨g1, g2, g3⟩, -⟩ := hR r hkr
  unfold fh_X9_tipLine
  rw [chk_t (isk_t hka), dr_t e1 e2, bs_, e3, chk_t (inb_nI hk (by decide)), nI_clamp (by omega), hy]
  by_cases h0 : y = 0
  · subst h0
    rw [if_pos (by rfl), if_pos rfl, dr_t hr hkr, bs_, dr_t g1 g2, bs_, g3, chk_t (inb_nI hk (by decide))]
  · rw [if_neg (fun e => h0 (by have := (nI_eq (a := y) (b := 0) (by omega) (by omega)).mp e; exact this)), if_neg h0, dr_t f1 f2, bs_, f3]
    have e4 : nI k * 40 + nI y - 1 = nI (40 * k + y - 1) := by
      obtain ⟨z, rfl⟩ : ∃ z, y = z + 1 := ⟨y - 1, by omega⟩
      have hk2 : k = 0 ∨ k = 1 := by omega
      rcases hk2 with rfl | rfl
      · show nI 0 * 40 + nI (z + 1) - 1 = nI (40 * 0 + (z + 1) - 1)
        rw [show (nI 0 * 40 : Int32) = 0 from rfl, Int32.zero_add, nI_pred]
        congr 1
        omega
      · rw [show (nI 1 * 40 : Int32) = nI 40 from rfl, nI_add, show 40 + (z + 1) = (40 + z) + 1 by omega, nI_pred]
        congr 1
    rw [e4, chk_t (inb_nI (by omega) (by decide)), nI_clamp (by omega)]
theorem lg_lt {a b : Int64} : lg_cmp a b < 0 ↔ a < b := by
  unfold lg_cmp
  split
  · rename_i h; constructor
    · intro q; exact absurd q (by decide)
    · intro q; exact absurd h (Int64.lt_asymm q)
  · split
    · rename_i h h2; subst h2; constructor
      · intro q; exact absurd q (by decide)
      · intro q; exact absurd q (Int64.lt_irrefl)
    · rename_i h h2
      constructor
      · intro _; rcases Int64.lt_or_lt_of_ne h2 with q | q
        · exact q
        · exact absurd q h
      · intro _; decide
