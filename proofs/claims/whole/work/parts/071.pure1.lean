/-- two loops in step: related states go to related states, and a measure falls -/
theorem iter_rel {σ τ ο π : Type} {s1 : σ → Option (ο ⊕ (σ ⊕ σ))} {s2 : τ → Option (π ⊕ (τ ⊕ τ))} (R : σ → τ → Prop) (μ : σ → Nat) (RO : ο → π → Prop) (RE : σ → τ → Prop)
    (h : ∀ x y, R x y → (∃ o p, s1 x = some (.inl o) ∧ s2 y = some (.inl p) ∧ RO o p) ∨ (∃ x2 y2, s1 x = some (.inr (.inl x2)) ∧ s2 y = some (.inr (.inl y2)) ∧ R x2 y2 ∧ μ x2 < μ x) ∨ (∃ x2 y2, s1 x = some (.inr (.inr x2)) ∧ s2 y = some (.inr (.inr y2)) ∧ RE x2 y2)) :
    ∀ n x y, R x y → μ x < n → (∃ o p, iter s1 n x = some (.inl o) ∧ iter s2 n y = some (.inl p) ∧ RO o p) ∨ (∃ x2 y2, iter s1 n x = some (.inr x2) ∧ iter s2 n y = some (.inr y2) ∧ RE x2 y2) := by
  intro n
  induction n with
  | zero => intro x y _ hn; exact absurd hn (Nat.not_lt_zero _)
  | succ n ih =>
    intro x y hR hn
    rcases h x y hR with ⟨o, p, e1, e2, hO⟩ | ⟨x2, y2, e1, e2, hR2, hm⟩ | ⟨x2, y2, e1, e2, hE⟩
    · exact Or.inl ⟨o, p, by unfold iter; rw [e1]; rfl, by unfold iter; rw [e2]; rfl, hO⟩
    · have e3 : iter s1 (n + 1) x = iter s1 n x2 := by rw [iter, e1]; rfl
      have e4 : iter s2 (n + 1) y = iter s2 n y2 := by rw [iter, e2]; rfl
      rw [e3, e4]
      exact ih x2 y2 hR2 (by omega)
    · exact Or.inr ⟨x2, y2, by unfold iter; rw [e1]; rfl, by unfold iter; rw [e2]; rfl, hE⟩
/-- one loop: a measure falls, an invariant holds -/
theorem iter_inv {σ ο : Type} {s1 : σ → Option (ο ⊕ (σ ⊕ σ))} (I : σ → Prop) (μ : σ → Nat) (RO : ο → Prop) (RE : σ → Prop)
    (h : ∀ x, I x → (∃ o, s1 x = some (.inl o) ∧ RO o) ∨ (∃ x2, s1 x = some (.inr (.inl x2)) ∧ I x2 ∧ μ x2 < μ x) ∨ (∃ x2, s1 x = some (.inr (.inr x2)) ∧ RE x2)) :
    ∀ n x, I x → μ x < n → (∃ o, iter s1 n x = some (.inl o) ∧ RO o) ∨ (∃ x2, iter s1 n x = some (.inr x2) ∧ RE x2) := by
  intro n
  induction n with
  | zero => intro x _ hn; exact absurd hn (Nat.not_lt_zero _)
  | succ n ih =>
    intro x hR hn
    rcases h x hR with ⟨o, e1, hO⟩ | ⟨x2, e1, hR2, hm⟩ | ⟨x2, e1, hE⟩
    · exact Or.inl ⟨o, by unfold iter; rw [e1]; rfl, hO⟩
    · have e3 : iter s1 (n + 1) x = iter s1 n x2 := by rw [iter, e1]; rfl
      rw [e3]
      exact ih x2 hR2 (by omega)
    · exact Or.inr ⟨x2, by unfold iter; rw [e1]; rfl, hE⟩
theorem gA_self {st : HSt} {a : Nat} {g : Nat → Int32} : gA (sAf st a g) a = g := if_pos rfl
theorem gA_ne {st : HSt} {a b : Nat} {g : Nat → Int32} (h : b ≠ a) : gA (sAf st a g) b = gA st b := if_neg h
theorem gI_self {st : HSt} {f a : Nat} {v : Int32} : gI (sI st f a v) f a = v := pu2_self
theorem gI_nef {st : HSt} {f f2 a b : Nat} {v : Int32} (h : f2 ≠ f) : gI (sI st f a v) f2 b = gI st f2 b := by
  show va_up st.1 f (va_up (st.1 f) a v) f2 b = st.1 f2 b
  unfold va_up; rw [if_neg h]
theorem sAf_sAf {st : HSt} {a : Nat} {g g2 : Nat → Int32} : sAf (sAf st a g) a g2 = sAf st a g2 := by
  unfold sAf
  show (st.1, st.2.1, va_up (va_up st.2.2.1 a g) a g2, st.2.2.2) = _
  have : va_up (va_up st.2.2.1 a g) a g2 = va_up st.2.2.1 a g2 := by
    funext j; unfold va_up; by_cases hj : j = a <;> simp [hj]
  rw [this]
theorem sI_sI {st : HSt} {f a : Nat} {v w : Int32} : sI (sI st f a v) f a w = sI st f a w := by
  unfold sI
  show (va_up (va_up st.1 f (va_up (st.1 f) a v)) f (va_up (va_up st.1 f (va_up (st.1 f) a v) f) a w), st.2) = _
  have : va_up (va_up st.1 f (va_up (st.1 f) a v)) f (va_up (va_up st.1 f (va_up (st.1 f) a v) f) a w) = va_up st.1 f (va_up (st.1 f) a w) := by
    funext j k; unfold va_up; by_cases hj : j = f
    · subst hj; by_cases hk : k = a <;> simp [hk]
    · simp [hj]
  rw [this]
theorem sA_sI {st : HSt} {f a b : Nat} {v : Int32} {g : Nat → Int32} : sAf (sI st f a v) b g = sI (sAf st b g) f a v := rfl
/-- a byte -/
def by8 (x : Int32) : Prop := -128 ≤ x.toInt ∧ x.toInt ≤ 127
/-- the tape: as long as t, the same bytes -/
def TpR (hx : Nat) (hst : HSt) (mst : MSt) (t : Nat) : Prop := gK hst hx = 12 ∧ gR hst 1100 hx = some (hx + 1) ∧ gK hst (hx + 1) = 21 ∧ gL hst (hx + 1) = 400 ∧ gI hst 1101 hx = nI t ∧ mst.1 1 = nI t ∧ t ≤ 400 ∧ ∀ i, i < t → gA hst (hx + 1) i = mst.2.1 0 i ∧ by8 (mst.2.1 0 i)
theorem iter_c {σ ο : Type} {s1 : σ → Option (ο ⊕ (σ ⊕ σ))} {n : Nat} {x y : σ} (e : s1 x = some (.inr (.inl y))) : iter s1 (n + 1) x = iter s1 n y := by rw [iter, e]; rfl
theorem iter_x {σ ο : Type} {s1 : σ → Option (ο ⊕ (σ ⊕ σ))} {n : Nat} {x y : σ} (e : s1 x = some (.inr (.inr y))) : iter s1 (n + 1) x = some (.inr y) := by rw [iter, e]; rfl
theorem mFuel_5 : ∃ n, mFuel = n + 5 := ⟨999995, by rw [mFuel_eq]⟩
def TpS (hx : Nat) (st : HSt) (t : Nat) : Prop := gK st hx = 12 ∧ gR st 1100 hx = some (hx + 1) ∧ gK st (hx + 1) = 21 ∧ gL st (hx + 1) = 400 ∧ gI st 1101 hx = nI t
def tpw (a v : Int32) : Int32 := vp_nar .byte ((a >>> (v &&& 31)).toInt8.toInt32)
theorem tpw_b (a v : Int32) : by8 (tpw a v) := by
  show -128 ≤ ((a >>> (v &&& 31)).toInt8.toInt32.toInt8.toInt32).toInt ∧ ((a >>> (v &&& 31)).toInt8.toInt32.toInt8.toInt32).toInt ≤ 127
  rw [Int8.toInt_toInt32]
  have h1 := Int8.le_toInt ((a >>> (v &&& 31)).toInt8.toInt32.toInt8)
  have h2 := Int8.toInt_lt ((a >>> (v &&& 31)).toInt8.toInt32.toInt8)
  omega
theorem pt_step {hx t : Nat} {st : HSt} (a v : Int32) (hv : ¬ v < 0) (h : TpS hx st t) (ht : t < 400) : fh_X11_putOnTape_s3 hx a v st = some (.inr (.inl (v + -8, sI (sA st (hx + 1) t (tpw a v)) 1101 hx (nI (t + 1))))) ∧ TpS hx (sI (sA st (hx + 1) t (tpw a v)) 1101 hx (nI (t + 1))) (t + 1) := by
  obtain ⟨h1, h2, h3, h4, h5⟩ := h
  refine ⟨?_, h1, h2, h3, h4, gI_self⟩
  unfold fh_X11_putOnTape_s3
  rw [if_neg hv, chk_t (isk_t h1), h5, if_neg (show ¬ (400 : Int32) ≤ nI t from fun q => absurd ((nI_leI (a := 400) (by decide) (by omega)).mp q) (by omega)), dr_t h2 h3, bs_, h4, chk_t (inb_nI ht (by decide)), bs_, nI_clamp (by omega)]
  show some (Sum.inr (Sum.inl (v + -8, sI (sA st (hx + 1) t (tpw a v)) 1101 hx (gI st 1101 hx + 1)))) = _
  rw [h5, nI_1]
theorem pt_stop {hx t : Nat} {st : HSt} (a v : Int32) (hv : v < 0) : fh_X11_putOnTape_s3 hx a v st = some (.inr (.inr (v, st))) := by
  unfold fh_X11_putOnTape_s3
  rw [if_pos hv]
theorem sA_go {st : HSt} {b f a i : Nat} {g : Nat → Int32} {v w : Int32} : sA (sI (sAf st b g) f a v) b i w = sI (sAf st b (upd g i w)) f a v := by
  show sAf (sI (sAf st b g) f a v) b (upd (va_up st.2.2.1 b g b) i w) = _
  rw [va_up_self, sA_sI, sAf_sAf]
theorem n24 : (24 + -8 : Int32) = 16 := by decide
theorem n16 : (16 + -8 : Int32) = 8 := by decide
theorem n8 : (8 + -8 : Int32) = 0 := by decide
theorem n0 : (0 + -8 : Int32) < 0 := by decide
theorem pt_all {hx t : Nat} {st : HSt} (a : Int32) (h : TpS hx st t) (ht : t + 4 ≤ 400) : ∃ st2, fh_X11_putOnTape hx a st = some st2 ∧ TpS hx st2 (t + 4) ∧ st2 = sI (sAf st (hx + 1) (upd (upd (upd (upd (gA st (hx + 1)) t (tpw a 24)) (t + 1) (tpw a 16)) (t + 2) (tpw a 8)) (t + 3) (tpw a 0))) 1101 hx (nI (t + 4)) := by
  obtain ⟨e1, p1⟩ := pt_step a 24 (by decide) h (by omega)
  obtain ⟨e2, p2⟩ := pt_step a 16 (by decide) p1 (by omega)
  obtain ⟨e3, p3⟩ := pt_step a 8 (by decide) p2 (by omega)
  obtain ⟨e4, p4⟩ := pt_step a 0 (by decide) p3 (by omega)
  rw [n24] at e1
  rw [n16] at e2
  rw [n8] at e3
  refine ⟨_, ?_, p4, ?_⟩
  · unfold fh_X11_putOnTape
    obtain ⟨n, hn⟩ := mFuel_5
    rw [hn, iter_c e1, iter_c e2, iter_c e3, iter_c e4, iter_x (pt_stop (t := 0) a _ n0)]
    rfl
  · rw [show sA st (hx + 1) t (tpw a 24) = sAf st (hx + 1) (upd (gA st (hx + 1)) t (tpw a 24)) from rfl]
    simp only [sA_go, sI_sI]
theorem m4_step {t : Nat} {ms : MSt} (a v : Int32) (hv : ¬ v < 0) (h : ms.1 1 = nI t) (ht : t < 400) : fm_four_s3 a v ms = some (.inr (.inl (v + -8, (upd ms.1 1 (nI (t + 1)), va_up ms.2.1 0 (upd (ms.2.1 0) t (tpw a v)), ms.2.2)))) := by
  unfold fm_four_s3
  rw [if_neg hv, h, chk_t (inb_nI ht (by decide)), nI_clamp (by omega)]
  show some (Sum.inr (Sum.inl (v + -8, (upd ms.1 1 (ms.1 1 + 1), va_up ms.2.1 0 (upd (ms.2.1 0) t (tpw a v)), ms.2.2)))) = _
  rw [h, nI_1]
theorem upd_upd {f : Nat → Int32} {k : Nat} {x y : Int32} : upd (upd f k x) k y = upd f k y := by
  funext j; unfold upd; by_cases hj : j = k <;> simp [hj]
theorem vup_vup {α : Type} {f : Nat → α} {k : Nat} {x y : α} : va_up (va_up f k x) k y = va_up f k y := by
  funext j; unfold va_up; by_cases hj : j = k <;> simp [hj]
def mT4 (ms : MSt) (t : Nat) (g : Nat → Int32) : MSt := (upd ms.1 1 (nI t), va_up ms.2.1 0 g, ms.2.2)
theorem m4_go {t t2 : Nat} {ms : MSt} {g : Nat → Int32} (a v : Int32) (hv : ¬ v < 0) (ht : t < 400) : fm_four_s3 a v (mT4 ms t g) = some (.inr (.inl (v + -8, mT4 ms (t + 1) (upd g t (tpw a v))))) := by
  rw [m4_step (ms := mT4 ms t g) a v hv rfl ht]
  unfold mT4
  show some (Sum.inr (Sum.inl (v + -8, (upd (upd ms.1 1 (nI t)) 1 (nI (t + 1)), va_up (va_up ms.2.1 0 g) 0 (upd (va_up ms.2.1 0 g 0) t (tpw a v)), ms.2.2)))) = _
  rw [upd_upd, vup_vup, va_up_self]
theorem m4_all {t : Nat} {ms : MSt} (a : Int32) (h : ms.1 1 = nI t) (ht : t + 4 ≤ 400) : fm_four a ms = some (mT4 ms (t + 4) (upd (upd (upd (upd (ms.2.1 0) t (tpw a 24)) (t + 1) (tpw a 16)) (t + 2) (tpw a 8)) (t + 3) (tpw a 0))) := by
  have e1 := m4_step (ms := ms) a 24 (by decide) h (by omega)
  have e2 := m4_go (t2 := 0) (ms := ms) (t := t + 1) (g := upd (ms.2.1 0) t (tpw a 24)) a 16 (by decide) (by omega)
  have e3 := m4_go (t2 := 0) (ms := ms) (t := t + 2) (g := upd (upd (ms.2.1 0) t (tpw a 24)) (t + 1) (tpw a 16)) a 8 (by decide) (by omega)
  have e4 := m4_go (t2 := 0) (ms := ms) (t := t + 3) (g := upd (upd (upd (ms.2.1 0) t (tpw a 24)) (t + 1) (tpw a 16)) (t + 2) (tpw a 8)) a 0 (by decide) (by omega)
  rw [n24] at e1
  rw [n16] at e2
  rw [n8] at e3
  unfold fm_four
  obtain ⟨n, hn⟩ := mFuel_5
  have e5 : ∀ ms2 : MSt, fm_four_s3 a (0 + -8) ms2 = some (.inr (.inr (0 + -8, ms2))) := fun ms2 => by unfold fm_four_s3; rw [if_pos n0]
  rw [hn, iter_c e1]
  show Option.bind (iter _ (n + 4) (16, mT4 ms (t + 1) (upd (ms.2.1 0) t (tpw a 24)))) _ = _
  rw [iter_c e2, iter_c e3, iter_c e4, iter_x (e5 _)]
  rfl
