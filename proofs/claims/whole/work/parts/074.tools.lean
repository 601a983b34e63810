/-! tools: states' parts, loops, numbers -/
theorem chk_1 {α : Type} (E : Option α) : chk true E = E := rfl
theorem dr_some {st : HSt} {b k : Nat} (h : gK st b = k) : dr st (some b) k = some b := dr_of h
theorem isk_1 {st : HSt} {b k : Nat} (h : gK st b = k) : isk st b k = true := isk_t h
theorem isk_sA (st : HSt) (a i : Nat) (v : Int32) (b k : Nat) : isk (sA st a i v) b k = isk st b k := rfl
theorem isk_sAf (st : HSt) (a : Nat) (g : Nat → Int32) (b k : Nat) : isk (sAf st a g) b k = isk st b k := rfl
theorem isk_sI (st : HSt) (f a : Nat) (v : Int32) (b k : Nat) : isk (sI st f a v) b k = isk st b k := rfl
theorem isk_sJ (st : HSt) (a i : Nat) (v : Int64) (b k : Nat) : isk (sJ st a i v) b k = isk st b k := rfl
theorem isk_sR (st : HSt) (f a : Nat) (v : Option Nat) (b k : Nat) : isk (sR st f a v) b k = isk st b k := rfl
theorem dr_sA (st : HSt) (a i : Nat) (v : Int32) (e : Option Nat) (k : Nat) : dr (sA st a i v) e k = dr st e k := rfl
theorem dr_sAf (st : HSt) (a : Nat) (g : Nat → Int32) (e : Option Nat) (k : Nat) : dr (sAf st a g) e k = dr st e k := rfl
theorem dr_sI (st : HSt) (f a : Nat) (v : Int32) (e : Option Nat) (k : Nat) : dr (sI st f a v) e k = dr st e k := rfl
theorem dr_sJ (st : HSt) (a i : Nat) (v : Int64) (e : Option Nat) (k : Nat) : dr (sJ st a i v) e k = dr st e k := rfl
theorem dr_sR (st : HSt) (f a : Nat) (v : Option Nat) (e : Option Nat) (k : Nat) : dr (sR st f a v) e k = dr st e k := rfl
theorem gL_sA (st : HSt) (a i : Nat) (v : Int32) (b : Nat) : gL (sA st a i v) b = gL st b := rfl
theorem gL_sAf (st : HSt) (a : Nat) (g : Nat → Int32) (b : Nat) : gL (sAf st a g) b = gL st b := rfl
theorem gL_sI (st : HSt) (f a : Nat) (v : Int32) (b : Nat) : gL (sI st f a v) b = gL st b := rfl
theorem gL_sJ (st : HSt) (a i : Nat) (v : Int64) (b : Nat) : gL (sJ st a i v) b = gL st b := rfl
theorem gL_sR (st : HSt) (f a : Nat) (v : Option Nat) (b : Nat) : gL (sR st f a v) b = gL st b := rfl
theorem gR_sA (st : HSt) (a i : Nat) (v : Int32) (f b : Nat) : gR (sA st a i v) f b = gR st f b := rfl
theorem gR_sAf (st : HSt) (a : Nat) (g : Nat → Int32) (f b : Nat) : gR (sAf st a g) f b = gR st f b := rfl
theorem gR_sI (st : HSt) (f0 a : Nat) (v : Int32) (f b : Nat) : gR (sI st f0 a v) f b = gR st f b := rfl
theorem gR_sJ (st : HSt) (a i : Nat) (v : Int64) (f b : Nat) : gR (sJ st a i v) f b = gR st f b := rfl
theorem gI_sA (st : HSt) (a i : Nat) (v : Int32) (f b : Nat) : gI (sA st a i v) f b = gI st f b := rfl
theorem gI_sAf (st : HSt) (a : Nat) (g : Nat → Int32) (f b : Nat) : gI (sAf st a g) f b = gI st f b := rfl
theorem gI_sJ (st : HSt) (a i : Nat) (v : Int64) (f b : Nat) : gI (sJ st a i v) f b = gI st f b := rfl
theorem gI_sR (st : HSt) (f0 a : Nat) (v : Option Nat) (f b : Nat) : gI (sR st f0 a v) f b = gI st f b := rfl
theorem gA_sI (st : HSt) (f a : Nat) (v : Int32) (b : Nat) : gA (sI st f a v) b = gA st b := rfl
theorem gA_sJ (st : HSt) (a i : Nat) (v : Int64) (b : Nat) : gA (sJ st a i v) b = gA st b := rfl
theorem gA_sR (st : HSt) (f a : Nat) (v : Option Nat) (b : Nat) : gA (sR st f a v) b = gA st b := rfl
theorem gJ_sA (st : HSt) (a i : Nat) (v : Int32) (b : Nat) : gJ (sA st a i v) b = gJ st b := rfl
theorem gA_sA_ne {st : HSt} {a b i : Nat} {v : Int32} (h : b ≠ a) : gA (sA st a i v) b = gA st b := gA_ne h
theorem gA_sA (st : HSt) (a i : Nat) (v : Int32) : gA (sA st a i v) a = upd (gA st a) i v := gA_self
theorem gJ_sJ (st : HSt) (a i : Nat) (v : Int64) : gJ (sJ st a i v) a = vp_updL (gJ st a) i v := if_pos rfl
theorem gJ_sJ_ne {st : HSt} {a b i : Nat} {v : Int64} (h : b ≠ a) : gJ (sJ st a i v) b = gJ st b := if_neg h
theorem gI_sI (st : HSt) (f a : Nat) (v : Int32) : gI (sI st f a v) f a = v := gI_self
theorem gI_sI_ne {st : HSt} {f f2 a b : Nat} {v : Int32} (h : f2 ≠ f ∨ b ≠ a) : gI (sI st f a v) f2 b = gI st f2 b := by
  rcases h with h | h
  · exact gI_nef h
  · exact pu2_ne h
theorem inb_n {n N : Nat} (h : n < N) (hN : N < 2147483648) : inb (nI n) N = true := inb_nI h hN
theorem inb_e {e : Int32} {n N : Nat} (h : e = nI n) (h2 : n < N) (hN : N < 2147483648) : inb e N = true := by subst h; exact inb_nI h2 hN
theorem cl_e {e : Int32} {n : Nat} (h : e = nI n) (hn : n < 2147483648) : e.toNatClampNeg = n := by subst h; exact nI_clamp hn
/-- a loop whose k-th turn keeps I k -/
theorem iter_k {σ ο : Type} {s1 : σ → Option (ο ⊕ (σ ⊕ σ))} (I : Nat → σ → Prop) (n : Nat) (RO : ο → Prop) (RE : σ → Prop)
    (h : ∀ k x, k ≤ n → I k x → (∃ o, s1 x = some (.inl o) ∧ RO o) ∨ (∃ y, s1 x = some (.inr (.inl y)) ∧ I (k + 1) y ∧ k < n) ∨ (∃ y, s1 x = some (.inr (.inr y)) ∧ RE y)) :
    ∀ (F : Nat) (x : σ), I 0 x → n < F → (∃ o, iter s1 F x = some (.inl o) ∧ RO o) ∨ (∃ y, iter s1 F x = some (.inr y) ∧ RE y) := by
  have key : ∀ (F k : Nat) (x : σ), k ≤ n → I k x → n - k < F → (∃ o, iter s1 F x = some (.inl o) ∧ RO o) ∨ (∃ y, iter s1 F x = some (.inr y) ∧ RE y) := by
    intro F
    induction F with
    | zero => intro k x _ _ hF; exact absurd hF (Nat.not_lt_zero _)
    | succ F ih =>
      intro k x hk hI hF
      rcases h k x hk hI with ⟨o, e1, hO⟩ | ⟨y, e1, hy, hkn⟩ | ⟨y, e1, hy⟩
      · exact Or.inl ⟨o, by unfold iter; rw [e1]; rfl, hO⟩
      · rw [iter_c e1]
        exact ih (k + 1) y hkn hy (by omega)
      · exact Or.inr ⟨y, iter_x e1, hy⟩
  exact fun F x hI hF => key F 0 x (Nat.zero_le _) hI (by omega)
/-- a loop that only counts on and ends -/
theorem iter_n {σ ο : Type} {s1 : σ → Option (ο ⊕ (σ ⊕ σ))} (I : Nat → σ → Prop) (n : Nat) (RE : σ → Prop)
    (h : ∀ k x, k < n → I k x → ∃ y, s1 x = some (.inr (.inl y)) ∧ I (k + 1) y) (h2 : ∀ x, I n x → ∃ y, s1 x = some (.inr (.inr y)) ∧ RE y) {x : σ} (h0 : I 0 x) (hn : n < 1000000) : ∃ y, iter s1 mFuel x = some (.inr y) ∧ RE y := by
  rw [mFuel_eq]
  rcases iter_k (s1 := s1) I n (fun _ => False) RE (fun k x hk hI => by
    rcases Nat.lt_or_ge k n with q | q
    · obtain ⟨y, e, hy⟩ := h k x q hI; exact Or.inr (Or.inl ⟨y, e, hy, q⟩)
    · have : k = n := by omega
      subst this
      exact Or.inr (Or.inr (h2 x hI))) 1000000 x h0 hn with ⟨o, _, hF⟩ | q
  · exact hF.elim
  · exact q
theorem iter_m {σ ο : Type} {s1 : σ → Option (ο ⊕ (σ ⊕ σ))} (I : Nat → σ → Prop) (n : Nat) (RO : ο → Prop) (RE : σ → Prop)
    (h : ∀ k x, k ≤ n → I k x → (∃ o, s1 x = some (.inl o) ∧ RO o) ∨ (∃ y, s1 x = some (.inr (.inl y)) ∧ I (k + 1) y ∧ k < n) ∨ (∃ y, s1 x = some (.inr (.inr y)) ∧ RE y)) {x : σ} (h0 : I 0 x) (hn : n < 1000000) : (∃ o, iter s1 mFuel x = some (.inl o) ∧ RO o) ∨ (∃ y, iter s1 mFuel x = some (.inr y) ∧ RE y) := by
  rw [mFuel_eq]; exact iter_k I n RO RE h 1000000 x h0 hn
/-! the plain state: 'said' as the reference holds it -/
def yN (v : Nat → Int32) (s : Nat) : Nat := (v (6 + s)).toNatClampNeg
def pGap (v : Nat → Int32) : Int32 := v 0 - v 6 - v 7
def pAt (v : Nat → Int32) (s k w : Nat) : Int32 := if k = 0 then v (8 + 2 * s + w) else v (126 + 80 * w + 40 * s + (k - 1))
def pTip (v : Nat → Int32) (s w : Nat) : Int32 := pAt v s (yN v s) w
def pAbs (x : Int32) : Int32 := if 0 ≤ x then x else 0 - x
def pMiss (v : Nat → Int32) (w : Nat) : Int32 := pAbs (pTip v 0 w - pTip v 1 w)
def pTime (v : Nat → Int32) : Prop := pGap v = 0 ∧ ¬ v 3 < pMiss v 0 ∧ ¬ v 3 < pMiss v 1
def pSee (v : Nat → Int32) (s : Nat) (e : Int32) (w : Nat) : Int32 := pTip v (1 - s) w + (if w = 0 then e else -e) * v (12 + s) * pGap v / 90
def pCrk (v : Nat → Int32) (s : Nat) : Nat → Int32
  | 0 => 0
  | k + 1 => pCrk v s k + pAbs (pAt v s (k + 1) 0 - pAt v s k 0) + pAbs (pAt v s (k + 1) 1 - pAt v s k 1)
def pTake (v : Nat → Int32) (s : Nat) (n : Int32) : Nat → Int32 := upd v (6 + s) (if (0 : Int32) < v (6 + s) - n then v (6 + s) - n else 0)
def pBuild (v : Nat → Int32) (s : Nat) (t r : Int32) : Nat → Int32 := upd (upd (upd v (126 + 40 * s + yN v s) (pTip v s 0 + t)) (206 + 40 * s + yN v s) (pTip v s 1 + r)) (6 + s) (v (6 + s) + 1)
def pAct (v : Nat → Int32) (s : Nat) (p : Int32) : Nat → Int32 := if p = -1 then pTake v s 1 else if p < 0 then v else if pGap v ≤ 0 then v else pBuild v s (p / 41 - 20) (p - p / 41 * 41 - 20)
def pFld (v : Nat → Int32) : Nat → Nat → Int32
  | 0 => v
  | f + 1 => if pFld v f (14 + 2 * f) = pFld v f 1 then pTake (pTake (pFld v f) 0 (v (14 + 2 * f + 1))) 1 (v (14 + 2 * f + 1)) else pFld v f
def pEnd (v : Nat → Int32) : Nat → Int32 := upd (pFld v (v 4).toNatClampNeg) 1 (v 1 + 1)
def pErr (v : Nat → Int32) (s : Nat) : Int32 := v (30 + 8 * s + (v 1).toNatClampNeg % 8)
def sm9 (x : Int32) : Prop := -9 ≤ x.toInt ∧ x.toInt ≤ 9
def sm20 (x : Int32) : Prop := -20 ≤ x.toInt ∧ x.toInt ≤ 20
/-- a plain state in its bounds: the day at most D -/
def VOk (D : Nat) (v : Nat → Int32) : Prop := ∃ (w : Nat) (y : Nat → Nat) (d sp fl : Nat), v 0 = nI w ∧ (∀ s, s < 2 → v (6 + s) = nI (y s)) ∧ v 1 = nI d ∧ v 2 = nI sp ∧ v 4 = nI fl ∧ w ≤ 40 ∧ y 0 + y 1 ≤ w ∧ d ≤ D ∧ sp ≤ 20 ∧ fl ≤ 8 ∧ (∀ s, s < 2 → ∃ e, v (12 + s) = nI e ∧ e ≤ 9) ∧ (∀ f, f < fl → ∃ c, v (14 + 2 * f + 1) = nI c ∧ c ≤ 9) ∧ (∀ s k, s < 2 → k < 8 → sm9 (v (30 + 8 * s + k))) ∧ (∀ s k w, s < 2 → k < y s → w < 2 → sm20 (pAt v s (k + 1) w - pAt v s k w))
