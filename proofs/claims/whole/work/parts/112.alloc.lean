/-! new cells: a list of what is made, read as data -/
abbrev Op : Type := Nat × Nat × Nat × Nat
/-- 0: a new cell (kind, length); 1: a reference (field, at, to); 2: an element (at, place, to); 3: a row filled with 100000 (at, how many) -/
def apO (N : Nat) (st : HSt) (o : Op) : HSt := if o.1 = 0 then nO st o.2.1 o.2.2.1 else if o.1 = 1 then sR st o.2.1 (N + o.2.2.1) (some (N + o.2.2.2)) else if o.1 = 2 then sQ st (N + o.2.1) o.2.2.1 (some (N + o.2.2.2)) else sAf st (N + o.2.1) (fun i => if i < o.2.2.1 then 100000 else gA st (N + o.2.1) i)
def run (N : Nat) (st : HSt) : List Op → HSt
  | [] => st
  | o :: os => run N (apO N st o) os
theorem run_app {N : Nat} : ∀ {os : List Op} {st : HSt} {ps : List Op}, run N st (os ++ ps) = run N (run N st os) ps
  | [], _, _ => rfl
  | o :: os, st, ps => by show run N (apO N st o) (os ++ ps) = _; rw [run_app]; rfl
def cO : List Op → Nat
  | [] => 0
  | o :: os => (if o.1 = 0 then 1 else 0) + cO os
theorem cO_app : ∀ {os ps : List Op}, cO (os ++ ps) = cO os + cO ps
  | [], _ => (Nat.zero_add _).symm
  | o :: os, ps => by show _ + cO (os ++ ps) = _; rw [cO_app]; show _ = (_ + cO os) + _; omega
theorem apO_N {N : Nat} {st : HSt} {o : Op} : gN (apO N st o) = gN st + (if o.1 = 0 then 1 else 0) := by
  unfold apO
  by_cases h0 : o.1 = 0
  · rw [if_pos h0, if_pos h0]; rfl
  · rw [if_neg h0, if_neg h0]
    split
    · rfl
    · split <;> rfl
theorem run_N {N : Nat} : ∀ {os : List Op} {st : HSt}, gN (run N st os) = gN st + cO os
  | [], _ => rfl
  | o :: os, st => by
    show gN (run N (apO N st o) os) = _
    rw [run_N, apO_N]; show _ = _ + (_ + cO os); omega
/-- an old cell -/
def Old (st st2 : HSt) (b : Nat) : Prop := gK st2 b = gK st b ∧ gL st2 b = gL st b ∧ gA st2 b = gA st b ∧ gJ st2 b = gJ st b ∧ gQ st2 b = gQ st b ∧ (∀ f, gI st2 f b = gI st f b) ∧ ∀ f, gR st2 f b = gR st f b
theorem Old.tr {a b c : HSt} {q : Nat} (h : Old a b q) (h2 : Old b c q) : Old a c q := by
  obtain ⟨a1, a2, a3, a4, a5, a6, a7⟩ := h
  obtain ⟨b1, b2, b3, b4, b5, b6, b7⟩ := h2
  exact ⟨b1.trans a1, b2.trans a2, b3.trans a3, b4.trans a4, b5.trans a5, fun f => (b6 f).trans (a6 f), fun f => (b7 f).trans (a7 f)⟩
theorem apO_old {N : Nat} {st : HSt} {o : Op} {b : Nat} (hb : b < N) (hN : N ≤ gN st) : Old st (apO N st o) b := by
  unfold apO
  split
  · have hne : b ≠ gN st := by omega
    exact ⟨if_neg hne, if_neg hne, if_neg hne, if_neg hne, if_neg hne, fun _ => if_neg hne, fun _ => if_neg hne⟩
  · split
    · exact ⟨rfl, rfl, rfl, rfl, rfl, fun _ => rfl, fun f => sR_R_ne (Or.inl (by omega))⟩
    · split
      · refine ⟨rfl, rfl, rfl, rfl, ?_, fun _ => rfl, fun _ => rfl⟩
        show va_up st.2.2.2.2.1 (N + o.2.1) _ b = _
        exact va_up_ne _ _ (by omega)
      · exact ⟨rfl, rfl, gA_ne (by omega), rfl, rfl, fun _ => rfl, fun _ => rfl⟩
theorem run_old {N b : Nat} (hb : b < N) : ∀ {os : List Op} {st : HSt}, N ≤ gN st → Old st (run N st os) b
  | [], st, _ => ⟨rfl, rfl, rfl, rfl, rfl, fun _ => rfl, fun _ => rfl⟩
  | o :: os, st, h => (apO_old hb h).tr (run_old hb (os := os) (by rw [apO_N]; omega))
/-- what stands at place i (of all that is made, the next being c): outer none: nothing was done there -/
def kOf : List Op → Nat → Nat → Option Nat
  | [], _, _ => none
  | o :: os, c, i => if o.1 = 0 then (if i = c then some o.2.1 else kOf os (c + 1) i) else kOf os c i
def lOf : List Op → Nat → Nat → Option Nat
  | [], _, _ => none
  | o :: os, c, i => if o.1 = 0 then (if i = c then some o.2.2.1 else lOf os (c + 1) i) else lOf os c i
def rOf (f : Nat) : List Op → Nat → Nat → Option (Option Nat) → Option (Option Nat)
  | [], _, _, q => q
  | o :: os, c, i, q => if o.1 = 0 then rOf f os (c + 1) i (if i = c then some none else q) else if o.1 = 1 then rOf f os c i (if o.2.1 = f ∧ o.2.2.1 = i then some (some o.2.2.2) else q) else rOf f os c i q
def qOf (p : Nat) : List Op → Nat → Nat → Option (Option Nat) → Option (Option Nat)
  | [], _, _, q => q
  | o :: os, c, i, q => if o.1 = 0 then qOf p os (c + 1) i (if i = c then some none else q) else if o.1 = 2 then qOf p os c i (if o.2.1 = i ∧ o.2.2.1 = p then some (some o.2.2.2) else q) else qOf p os c i q
/-- how many elements are 100000 -/
def fOf : List Op → Nat → Nat → Option Nat → Option Nat
  | [], _, _, q => q
  | o :: os, c, i, q => if o.1 = 0 then fOf os (c + 1) i (if i = c then some 0 else q) else if o.1 = 1 then fOf os c i q else if o.1 = 2 then fOf os c i q else fOf os c i (if o.2.1 = i then (match q with | none => none | some n => some (if n < o.2.2.1 then o.2.2.1 else n)) else q)
theorem apO_K {N : Nat} {st : HSt} {o : Op} (h : o.1 ≠ 0) (b : Nat) : gK (apO N st o) b = gK st b ∧ gL (apO N st o) b = gL st b := by
  unfold apO
  rw [if_neg h]
  split
  · exact ⟨rfl, rfl⟩
  · split
    · exact ⟨rfl, rfl⟩
    · exact ⟨rfl, rfl⟩
theorem run_K {N i : Nat} : ∀ {os : List Op} {st : HSt} {c : Nat}, gN st = N + c → (gK (run N st os) (N + i) = match kOf os c i with | none => gK st (N + i) | some k => k) ∧ (c ≤ i → gL (run N st os) (N + i) = match lOf os c i with | none => gL st (N + i) | some k => k) ∧ (i < c → gL (run N st os) (N + i) = gL st (N + i))
  | [], st, c, _ => ⟨rfl, fun _ => rfl, fun _ => rfl⟩
  | o :: os, st, c, h => by
    show (gK (run N (apO N st o) os) (N + i) = _) ∧ (_ → gL (run N (apO N st o) os) (N + i) = _) ∧ (_ → gL (run N (apO N st o) os) (N + i) = _)
    by_cases h0 : o.1 = 0
    · have hN : gN (apO N st o) = N + (c + 1) := by rw [apO_N, if_pos h0, h]; omega
      obtain ⟨k1, l1, l2⟩ := run_K (i := i) (os := os) hN
      have ea : apO N st o = nO st o.2.1 o.2.2.1 := by unfold apO; rw [if_pos h0]
      have old : ∀ b, b < N + c → gK (apO N st o) b = gK st b ∧ gL (apO N st o) b = gL st b := fun b hb => by
        rw [ea]; exact ⟨if_neg (by omega), if_neg (by omega)⟩
      have new : gK (apO N st o) (N + c) = o.2.1 ∧ gL (apO N st o) (N + c) = o.2.2.1 := by
        rw [ea, ← h]; exact ⟨if_pos rfl, if_pos rfl⟩
      unfold kOf lOf
      rw [if_pos h0, if_pos h0]
      by_cases ic : i = c
      · subst ic
        rw [if_pos rfl, if_pos rfl]
        have kn : kOf os (i + 1) i = none := kOf_lo os (by omega)
        rw [kn] at k1
        exact ⟨k1.trans new.1, fun _ => (l2 (by omega)).trans new.2, fun q => absurd q (Nat.lt_irrefl _)⟩
      · rw [if_neg ic, if_neg ic]
        rcases Nat.lt_or_ge i c with q | q
        · refine ⟨?_, fun z => by omega, fun _ => (l2 (by omega)).trans (old _ (by omega)).2⟩
          rw [k1, (old (N + i) (by omega)).1]
        · have far : gK (apO N st o) (N + i) = gK st (N + i) ∧ gL (apO N st o) (N + i) = gL st (N + i) := by
            rw [ea]; exact ⟨if_neg (by omega), if_neg (by omega)⟩
          refine ⟨by rw [k1, far.1], fun _ => by rw [l1 (by omega), far.2], fun z => by omega⟩
    · have hN : gN (apO N st o) = N + c := by rw [apO_N, if_neg h0, h]; rfl
      obtain ⟨k1, l1, l2⟩ := run_K (i := i) (os := os) hN
      obtain ⟨e1, e2⟩ := apO_K (N := N) (st := st) h0 (N + i)
      unfold kOf lOf
      rw [if_neg h0, if_neg h0]
      rw [e1] at k1; rw [e2] at l1 l2
      exact ⟨k1, l1, l2⟩
where
  kOf_lo : ∀ (os : List Op) {c i : Nat}, i < c → kOf os c i = none
    | [], _, _, _ => rfl
    | o :: os, c, i, h => by
      unfold kOf
      split
      · rw [if_neg (by omega)]; exact kOf_lo os (by omega)
      · exact kOf_lo os h
