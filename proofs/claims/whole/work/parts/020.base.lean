/-! loops, checks, binds: plain words -/
theorem mFuel_ex : ∃ n : Nat, n = 1000000 := ⟨1000000, rfl⟩
noncomputable def mFuel : Nat := Classical.choose mFuel_ex
theorem mFuel_eq : mFuel = 1000000 := Classical.choose_spec mFuel_ex
def inb (i : Int32) (n : Nat) : Bool := decide (¬ (i < 0 ∨ n ≤ i.toNatClampNeg))
theorem inb_in {i : Int32} {n : Nat} (h : inb i n = true) : vp_in i n := by
  have h2 : ¬ (i < 0 ∨ n ≤ i.toNatClampNeg) := of_decide_eq_true h
  exact h2
theorem inb_of {i : Int32} {n : Nat} (h : vp_in i n) : inb i n = true := by
  have h2 : ¬ (i < 0 ∨ n ≤ i.toNatClampNeg) := h
  exact decide_eq_true h2
def nzi (x : Int32) : Bool := decide (¬ x = 0)
theorem nzi_ne {x : Int32} (h : nzi x = true) : ¬ x = 0 := of_decide_eq_true h
def nzl (x : Int64) : Bool := decide (¬ x = 0)
theorem nzl_ne {x : Int64} (h : nzl x = true) : ¬ x = 0 := of_decide_eq_true h
def isb (x : Int32) : Bool := decide (x = 0 ∨ x = 1)
theorem isb_nar {x : Int32} (h : isb x = true) : narrow .boolean (.int x) = .int x := by
  rcases (of_decide_eq_true h : x = 0 ∨ x = 1) with h | h <;> subst h <;> decide
def chk {α : Type} (b : Bool) (E : Option α) : Option α := if b = true then E else none
theorem chk_b {α β : Type} {b : Bool} {E : Option α} {K : α → Option β} {o : β} (h : (chk b E).bind K = some o) : b = true ∧ E.bind K = some o := by
  unfold chk at h
  cases b with
  | true => exact ⟨rfl, h⟩
  | false => simp at h
theorem bnd_b {α β γ : Type} {a : Option α} {f : α → Option β} {K : β → Option γ} {o : γ} (h : (a.bind f).bind K = some o) : ∃ x, a = some x ∧ (f x).bind K = some o := by
  cases a with
  | none => simp at h
  | some x => exact ⟨x, rfl, h⟩
theorem asc_b {α β γ : Type} {a : Option α} {f : α → Option β} {K : β → Option γ} {o : γ} (h : (a.bind f).bind K = some o) : a.bind (fun x => (f x).bind K) = some o := by
  cases a with
  | none => exact h
  | some x => exact h
theorem top_b {α : Type} {E : Option α} {o : α} (h : E = some o) : E.bind some = some o := by
  cases E with
  | none => exact h
  | some x => exact h
theorem ret_b {α : Type} {v o : α} (h : (some v).bind some = some o) : v = o := Option.some.inj h
theorem ifp {α β : Type} {c : Prop} {d : Decidable c} {a b : Option α} {K : α → Option β} {o : β} (hc : c) (h : (ite c a b).bind K = some o) : a.bind K = some o := by
  rw [if_pos hc] at h; exact h
theorem ifn {α β : Type} {c : Prop} {d : Decidable c} {a b : Option α} {K : α → Option β} {o : β} (hc : ¬ c) (h : (ite c a b).bind K = some o) : b.bind K = some o := by
  rw [if_neg hc] at h; exact h
def iter {σ ο : Type} (step : σ → Option (ο ⊕ (σ ⊕ σ))) : Nat → σ → Option (ο ⊕ σ)
  | 0, _ => none
  | n + 1, x => (step x).bind (Sum.elim (fun o => some (.inl o)) (Sum.elim (fun y => iter step n y) (fun y => some (.inr y))))
def itK {σ ο γ : Type} (step : σ → Option (ο ⊕ (σ ⊕ σ))) (n : Nat) (K : (ο ⊕ σ) → Option γ) : (ο ⊕ (σ ⊕ σ)) → Option γ := Sum.elim (fun o => K (.inl o)) (Sum.elim (fun y => (iter step n y).bind K) (fun y => K (.inr y)))
theorem iter_b {σ ο γ : Type} {step : σ → Option (ο ⊕ (σ ⊕ σ))} {n : Nat} {x : σ} {K : (ο ⊕ σ) → Option γ} {o : γ} (h : (iter step (n + 1) x).bind K = some o) : (step x).bind (itK step n K) = some o := by
  unfold iter at h
  cases hs : step x with
  | none => rw [hs] at h; simp at h
  | some r =>
    rw [hs] at h
    rcases r with r | r | r
    · exact h
    · exact h
    · exact h
theorem iter_0 {σ ο γ : Type} {step : σ → Option (ο ⊕ (σ ⊕ σ))} {x : σ} {K : (ο ⊕ σ) → Option γ} {o : γ} (h : (iter step 0 x).bind K = some o) : False := by
  unfold iter at h
  simp at h
theorem top_e {α : Type} {E : Option α} {o : α} (h : E = some o) : ∃ K : α → Option α, K = some ∧ E.bind K = some o := ⟨some, rfl, top_b h⟩
theorem ret_e {α : Type} {v o : α} {K : α → Option α} (hK : K = some) (h : (some v).bind K = some o) : v = o := by subst hK; exact Option.some.inj h
theorem iter_e {σ ο γ : Type} {step : σ → Option (ο ⊕ (σ ⊕ σ))} {n : Nat} {x : σ} {K : (ο ⊕ σ) → Option γ} {o : γ} (h : (iter step (n + 1) x).bind K = some o) : ∃ K1, K1 = itK step n K ∧ (step x).bind K1 = some o := ⟨_, rfl, iter_b h⟩
theorem cont_b {σ ο γ : Type} {step : σ → Option (ο ⊕ (σ ⊕ σ))} {n : Nat} {y : σ} {K : (ο ⊕ σ) → Option γ} {K1 : (ο ⊕ (σ ⊕ σ)) → Option γ} {o : γ} (hK : K1 = itK step n K) (h : Option.bind (some (Sum.inr (Sum.inl y))) K1 = some o) : (iter step n y).bind K = some o := by subst hK; exact h
theorem exit_b {σ ο γ δ : Type} {step : σ → Option (ο ⊕ (σ ⊕ σ))} {n : Nat} {y : σ} {A : ο → Option δ} {B : σ → Option δ} {K : δ → Option γ} {K1 : (ο ⊕ (σ ⊕ σ)) → Option γ} {o : γ} (hK : K1 = itK step n (fun x => (Sum.elim A B x).bind K)) (h : Option.bind (some (Sum.inr (Sum.inr y))) K1 = some o) : (B y).bind K = some o := by subst hK; exact h
theorem inl_b {σ ο γ δ : Type} {step : σ → Option (ο ⊕ (σ ⊕ σ))} {n : Nat} {r : ο} {A : ο → Option δ} {B : σ → Option δ} {K : δ → Option γ} {K1 : (ο ⊕ (σ ⊕ σ)) → Option γ} {o : γ} (hK : K1 = itK step n (fun x => (Sum.elim A B x).bind K)) (h : Option.bind (some (Sum.inl r)) K1 = some o) : (A r).bind K = some o := by subst hK; exact h
theorem tsw_out {x : Int32} {lo hi : Int} (h : ∀ k : Int, lo ≤ k → k ≤ hi → x ≠ Int32.ofInt k) : x.toInt < lo ∨ hi < x.toInt := by
  rcases Int.lt_or_le x.toInt lo with q | q
  · exact Or.inl q
  · rcases Int.lt_or_le hi x.toInt with q2 | q2
    · exact Or.inr q2
    · exact absurd (Int32.ofInt_toInt x).symm (h x.toInt q q2)
theorem ci_ (x : Int32) {n : Int} {k : Int32} (h : Int32.ofInt n = k) : x + Int32.ofInt n = x + k := by rw [h]
