/-! what a new cell leaves as it was -/
theorem nO_K_ne {st : HSt} {k n b : Nat} (h : b ≠ gN st) : gK (nO st k n) b = gK st b := if_neg h
theorem nO_L_ne {st : HSt} {k n b : Nat} (h : b ≠ gN st) : gL (nO st k n) b = gL st b := if_neg h
theorem nO_R_ne {st : HSt} {k n f b : Nat} (h : b ≠ gN st) : gR (nO st k n) f b = gR st f b := if_neg h
theorem nO_I_ne {st : HSt} {k n f b : Nat} (h : b ≠ gN st) : gI (nO st k n) f b = gI st f b := if_neg h
theorem nO_A_ne {st : HSt} {k n b : Nat} (h : b ≠ gN st) : gA (nO st k n) b = gA st b := if_neg h
theorem nO_L {st : HSt} {k n : Nat} : gL (nO st k n) (gN st) = n := if_pos rfl
theorem nO_A {st : HSt} {k n : Nat} : gA (nO st k n) (gN st) = fun _ => 0 := if_pos rfl
theorem nO_N {st : HSt} {k n : Nat} : gN (nO st k n) = gN st + 1 := rfl
theorem sR_R {st : HSt} {f a : Nat} {v : Option Nat} : gR (sR st f a v) f a = v := pu2_self
theorem sR_R_ne {st : HSt} {f f2 a b : Nat} {v : Option Nat} (h : b ≠ a ∨ f2 ≠ f) : gR (sR st f a v) f2 b = gR st f2 b := by
  show va_up st.2.1 f (va_up (st.2.1 f) a v) f2 b = st.2.1 f2 b
  rcases h with h | h
  · exact pu2_ne h
  · unfold va_up; rw [if_neg h]
/-- out is st with cells made from lo on; below lo all is as it was, but for references of the object at a -/
def Grew (st out : HSt) (lo a : Nat) : Prop := (∀ b, b < lo → gK out b = gK st b ∧ gL out b = gL st b ∧ gA out b = gA st b ∧ gJ out b = gJ st b ∧ gQ out b = gQ st b ∧ (∀ f, gI out f b = gI st f b) ∧ (b ≠ a → ∀ f, gR out f b = gR st f b))
theorem Grew.nO {st out : HSt} {lo a k n : Nat} (h : Grew st out lo a) (hl : lo ≤ gN out) : Grew st (nO out k n) lo a := fun b hb => by
  obtain ⟨h1, h2, h3, h4, h5, h6, h7⟩ := h b hb
  have hne : b ≠ gN out := by omega
  exact ⟨(if_neg hne).trans h1, (if_neg hne).trans h2, (if_neg hne).trans h3, (if_neg hne).trans h4, (if_neg hne).trans h5, fun f => (if_neg hne).trans (h6 f), fun hba f => (if_neg hne).trans (h7 hba f)⟩
theorem Grew.sR {st out : HSt} {lo a f : Nat} {v : Option Nat} (h : Grew st out lo a) : Grew st (sR out f a v) lo a := fun b hb => by
  obtain ⟨h1, h2, h3, h4, h5, h6, h7⟩ := h b hb
  exact ⟨h1, h2, h3, h4, h5, h6, fun hba f2 => (sR_R_ne (Or.inl hba)).trans (h7 hba f2)⟩
theorem Grew.rf {st : HSt} {lo a : Nat} : Grew st st lo a := fun _ _ => ⟨rfl, rfl, rfl, rfl, rfl, fun _ => rfl, fun _ _ => rfl⟩
/-- a new row, kept in a field of the object at a -/
def mk1 (st : HSt) (k n f a : Nat) : HSt := sR (nO st k n) f a (some (gN st))
theorem mk1_N {st : HSt} {k n f a : Nat} : gN (mk1 st k n f a) = gN st + 1 := rfl
theorem mk1_K_ne {st : HSt} {k n f a b : Nat} (h : b ≠ gN st) : gK (mk1 st k n f a) b = gK st b := if_neg h
theorem mk1_K {st : HSt} {k n f a : Nat} : gK (mk1 st k n f a) (gN st) = k := if_pos rfl
theorem mk1_L_ne {st : HSt} {k n f a b : Nat} (h : b ≠ gN st) : gL (mk1 st k n f a) b = gL st b := if_neg h
theorem mk1_L {st : HSt} {k n f a : Nat} : gL (mk1 st k n f a) (gN st) = n := if_pos rfl
theorem mk1_R {st : HSt} {k n f a : Nat} : gR (mk1 st k n f a) f a = some (gN st) := sR_R
theorem mk1_R_ne {st : HSt} {k n f f2 a b : Nat} (h : b ≠ a ∨ f2 ≠ f) (hb : b ≠ gN st) : gR (mk1 st k n f a) f2 b = gR st f2 b := (sR_R_ne h).trans (nO_R_ne hb)
theorem Grew.mk1 {st out : HSt} {lo a k n f : Nat} (h : Grew st out lo a) (hl : lo ≤ gN out) : Grew st (mk1 out k n f a) lo a := (h.nO hl).sR
def rivN (st : HSt) (a : Nat) : HSt := mk1 (mk1 (mk1 (mk1 (mk1 st 22 2 404 a) 22 2 405 a) 22 2 406 a) 22 8 407 a) 22 8 408 a
theorem river_new {st : HSt} {a : Nat} (hk : gK st a = 5) (ha : a < gN st) : fh_X4_init a st = some (rivN st a) := by
  have k0 : gK (nO st 22 2) a = 5 := (nO_K_ne (by omega)).trans hk
  have k1 : gK (mk1 st 22 2 404 a) a = 5 := k0
  have k2 : gK (mk1 (mk1 st 22 2 404 a) 22 2 405 a) a = 5 := (mk1_K_ne (by rw [mk1_N]; omega)).trans k1
  have k3 : gK (mk1 (mk1 (mk1 st 22 2 404 a) 22 2 405 a) 22 2 406 a) a = 5 := (mk1_K_ne (by rw [mk1_N, mk1_N]; omega)).trans k2
  have k4 : gK (mk1 (mk1 (mk1 (mk1 st 22 2 404 a) 22 2 405 a) 22 2 406 a) 22 8 407 a) a = 5 := (mk1_K_ne (by rw [mk1_N, mk1_N, mk1_N]; omega)).trans k3
  have k5 : gK (rivN st a) a = 5 := (mk1_K_ne (by rw [mk1_N, mk1_N, mk1_N, mk1_N]; omega)).trans k4
  unfold fh_X4_init
  simp only [bs_]
  exact (chk_t (isk_t k0)).trans ((chk_t (isk_t k2)).trans ((chk_t (isk_t k3)).trans ((chk_t (isk_t k4)).trans ((chk_t (isk_t k5)).trans rfl))))
theorem riv_N {st : HSt} {a : Nat} : gN (rivN st a) = gN st + 5 := rfl
theorem riv_Grew {st : HSt} {a : Nat} : Grew st (rivN st a) (gN st) a := ((((Grew.rf.mk1 (Nat.le_refl _)).mk1 (by rw [mk1_N]; omega)).mk1 (by rw [mk1_N, mk1_N]; omega)).mk1 (by rw [mk1_N, mk1_N, mk1_N]; omega)).mk1 (by rw [mk1_N, mk1_N, mk1_N, mk1_N]; omega)
