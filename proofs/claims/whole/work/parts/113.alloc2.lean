/-! new cells: references, elements, rows, numbers -/
def vR (N : Nat) (x0 : Option Nat) (q : Option (Option Nat)) : Option Nat := match q with
  | none => x0
  | some r => r.map (fun k => N + k)
theorem run_R {N i f : Nat} {x0 : Option Nat} : ∀ {os : List Op} {st : HSt} {c : Nat} {q : Option (Option Nat)}, gN st = N + c → gR st f (N + i) = vR N x0 q → gR (run N st os) f (N + i) = vR N x0 (rOf f os c i q)
  | [], _, _, _, _, h => h
  | o :: os, st, c, q, hN, h => by
    show gR (run N (apO N st o) os) f (N + i) = _
    unfold rOf
    by_cases h0 : o.1 = 0
    · rw [if_pos h0]
      have ea : apO N st o = nO st o.2.1 o.2.2.1 := by unfold apO; rw [if_pos h0]
      refine run_R (os := os) (by rw [apO_N, if_pos h0, hN]; omega) ?_
      rw [ea]
      by_cases ic : i = c
      · rw [if_pos ic, ic, ← hN]; exact if_pos rfl
      · rw [if_neg ic, ← h]; exact if_neg (by omega)
    · rw [if_neg h0]
      have hN2 : gN (apO N st o) = N + c := by rw [apO_N, if_neg h0, hN]; rfl
      by_cases h1 : o.1 = 1
      · rw [if_pos h1]
        have ea : apO N st o = sR st o.2.1 (N + o.2.2.1) (some (N + o.2.2.2)) := by unfold apO; rw [if_neg h0, if_pos h1]
        refine run_R (os := os) hN2 ?_
        rw [ea]
        by_cases hh : o.2.1 = f ∧ o.2.2.1 = i
        · rw [if_pos hh, hh.1, hh.2]; exact sR_R
        · rw [if_neg hh, ← h]
          refine sR_R_ne ?_
          by_cases e : o.2.1 = f
          · left; intro z; exact hh ⟨e, by omega⟩
          · right; exact fun z => e z.symm
      · rw [if_neg h1]
        refine run_R (os := os) hN2 ?_
        rw [← h]
        unfold apO
        rw [if_neg h0, if_neg h1]
        split <;> rfl
theorem run_Q {N i p : Nat} {x0 : Option Nat} : ∀ {os : List Op} {st : HSt} {c : Nat} {q : Option (Option Nat)}, gN st = N + c → gQ st (N + i) p = vR N x0 q → gQ (run N st os) (N + i) p = vR N x0 (qOf p os c i q)
  | [], _, _, _, _, h => h
  | o :: os, st, c, q, hN, h => by
    show gQ (run N (apO N st o) os) (N + i) p = _
    unfold qOf
    by_cases h0 : o.1 = 0
    · rw [if_pos h0]
      have ea : apO N st o = nO st o.2.1 o.2.2.1 := by unfold apO; rw [if_pos h0]
      refine run_Q (os := os) (by rw [apO_N, if_pos h0, hN]; omega) ?_
      rw [ea]
      by_cases ic : i = c
      · rw [if_pos ic, ic, ← hN]
        show va_up st.2.2.2.2.1 (gN st) (fun _ => none) (gN st) p = _
        rw [va_up_self]; rfl
      · rw [if_neg ic, ← h]
        show va_up st.2.2.2.2.1 (gN st) (fun _ => none) (N + i) p = _
        rw [va_up_ne _ _ (by omega)]
    · rw [if_neg h0]
      have hN2 : gN (apO N st o) = N + c := by rw [apO_N, if_neg h0, hN]; rfl
      by_cases h1 : o.1 = 2
      · rw [if_pos h1]
        have ea : apO N st o = sQ st (N + o.2.1) o.2.2.1 (some (N + o.2.2.2)) := by unfold apO; rw [if_neg h0, if_neg (by omega), if_pos h1]
        refine run_Q (os := os) hN2 ?_
        rw [ea]
        show va_up st.2.2.2.2.1 (N + o.2.1) (va_up (st.2.2.2.2.1 (N + o.2.1)) o.2.2.1 (some (N + o.2.2.2))) (N + i) p = _
        by_cases e : o.2.1 = i
        · rw [e, va_up_self]
          by_cases e2 : o.2.2.1 = p
          · rw [if_pos ⟨rfl, e2⟩, e2, va_up_self]; rfl
          · rw [if_neg (fun z => e2 z.2), va_up_ne _ _ (fun z => e2 z.symm)]; exact h
        · rw [if_neg (fun z => e z.1), va_up_ne _ _ (by omega)]; exact h
      · rw [if_neg h1]
        refine run_Q (os := os) hN2 ?_
        rw [← h]
        unfold apO
        rw [if_neg h0]
        split
        · rfl
        · first | rfl | (rw [if_neg h1]; rfl)
theorem run_I {N i : Nat} : ∀ {os : List Op} {st : HSt} {c : Nat}, gN st = N + c → c ≤ i → i < c + cO os → (∀ f, gI (run N st os) f (N + i) = 0) ∧ ∀ j, gJ (run N st os) (N + i) j = 0
  | [], st, c, _, h1, h2 => by exact absurd h2 (by show ¬ i < c + 0; omega)
  | o :: os, st, c, hN, h1, h2 => by
    show (∀ f, gI (run N (apO N st o) os) f (N + i) = 0) ∧ ∀ j, gJ (run N (apO N st o) os) (N + i) j = 0
    have ec : cO (o :: os) = (if o.1 = 0 then 1 else 0) + cO os := rfl
    rw [ec] at h2
    by_cases h0 : o.1 = 0
    · rw [if_pos h0] at h2
      have hN2 : gN (apO N st o) = N + (c + 1) := by rw [apO_N, if_pos h0, hN]; omega
      by_cases ic : i = c
      · have ea : apO N st o = nO st o.2.1 o.2.2.1 := by unfold apO; rw [if_pos h0]
        have z := kp os (i := i) hN2 (by omega)
        refine ⟨fun f => ?_, fun j => ?_⟩
        · rw [z.1 f, ea, ic, ← hN]; exact if_pos rfl
        · rw [z.2 j, ea, ic, ← hN]
          show va_up st.2.2.2.1 (gN st) (fun _ => 0) (gN st) j = _
          rw [va_up_self]
      · exact run_I (os := os) hN2 (by omega) (by omega)
    · rw [if_neg h0] at h2
      exact run_I (os := os) (by rw [apO_N, if_neg h0, hN]; rfl) h1 (by omega)
where
  kp : ∀ (os : List Op) {st : HSt} {c i : Nat}, gN st = N + c → i < c → (∀ f, gI (run N st os) f (N + i) = gI st f (N + i)) ∧ ∀ j, gJ (run N st os) (N + i) j = gJ st (N + i) j
    | [], _, _, _, _, _ => ⟨fun _ => rfl, fun _ => rfl⟩
    | o :: os, st, c, i, hN, hi => by
      show (∀ f, gI (run N (apO N st o) os) f (N + i) = _) ∧ ∀ j, gJ (run N (apO N st o) os) (N + i) j = _
      have one : (∀ f, gI (apO N st o) f (N + i) = gI st f (N + i)) ∧ ∀ j, gJ (apO N st o) (N + i) j = gJ st (N + i) j := by
        unfold apO
        split
        · refine ⟨fun f => if_neg (by omega), fun j => ?_⟩
          show va_up st.2.2.2.1 (gN st) (fun _ => 0) (N + i) j = _
          rw [va_up_ne _ _ (by omega)]
        · split
          · exact ⟨fun _ => rfl, fun _ => rfl⟩
          · split <;> exact ⟨fun _ => rfl, fun _ => rfl⟩
      by_cases h0 : o.1 = 0
      · obtain ⟨z1, z2⟩ := kp os (st := apO N st o) (c := c + 1) (i := i) (by rw [apO_N, if_pos h0, hN]; omega) (by omega)
        exact ⟨fun f => (z1 f).trans (one.1 f), fun j => (z2 j).trans (one.2 j)⟩
      · obtain ⟨z1, z2⟩ := kp os (st := apO N st o) (c := c) (i := i) (by rw [apO_N, if_neg h0, hN]; rfl) hi
        exact ⟨fun f => (z1 f).trans (one.1 f), fun j => (z2 j).trans (one.2 j)⟩
def vA (n : Nat) (j : Nat) : Int32 := if j < n then 100000 else 0
def wfO : List Op → Nat → Bool
  | [], _ => true
  | o :: os, c => if o.1 = 0 then wfO os (c + 1) else if o.1 ≤ 2 then wfO os c else decide (o.2.1 < c) && wfO os c
def fOf2 : List Op → Nat → Nat → Nat → Nat
  | [], _, _, q => q
  | o :: os, c, i, q => if o.1 = 0 then fOf2 os (c + 1) i (if i = c then 0 else q) else if o.1 ≤ 2 then fOf2 os c i q else fOf2 os c i (if o.2.1 = i then (if q < o.2.2.1 then o.2.2.1 else q) else q)
theorem vA_up {n m : Nat} : (fun j => if j < m then (100000 : Int32) else vA n j) = vA (if n < m then m else n) := by
  funext j
  unfold vA
  by_cases h : j < m
  · rw [if_pos h]
    by_cases q : n < m
    · rw [if_pos q, if_pos h]
    · rw [if_neg q, if_pos (by omega)]
  · rw [if_neg h]
    by_cases q : n < m
    · rw [if_pos q, if_neg h, if_neg (by omega)]
    · rw [if_neg q]
theorem run_A {N i : Nat} : ∀ {os : List Op} {st : HSt} {c q : Nat}, gN st = N + c → wfO os c = true → (i < c → gA st (N + i) = vA q) → i < c + cO os → gA (run N st os) (N + i) = vA (fOf2 os c i q)
  | [], st, c, q, hN, hw, h, hi => h (by have : cO [] = 0 := rfl; omega)
  | o :: os, st, c, q, hN, hw, h, hi => by
    show gA (run N (apO N st o) os) (N + i) = _
    have ec : cO (o :: os) = (if o.1 = 0 then 1 else 0) + cO os := rfl
    rw [ec] at hi
    unfold wfO at hw
    unfold fOf2
    by_cases h0 : o.1 = 0
    · rw [if_pos h0] at hw hi ⊢
      have ea : apO N st o = nO st o.2.1 o.2.2.1 := by unfold apO; rw [if_pos h0]
      refine run_A (os := os) (by rw [apO_N, if_pos h0, hN]; omega) hw (fun hc => ?_) (by omega)
      rw [ea]
      by_cases ic : i = c
      · rw [if_pos ic, ic, ← hN]
        show va_up st.2.2.1 (gN st) (fun _ => 0) (gN st) = _
        rw [va_up_self]
        funext j; unfold vA; rw [if_neg (by omega)]
      · rw [if_neg ic]
        show va_up st.2.2.1 (gN st) (fun _ => 0) (N + i) = _
        rw [va_up_ne _ _ (by omega)]; exact h (by omega)
    · rw [if_neg h0] at hw hi ⊢
      have hN2 : gN (apO N st o) = N + c := by rw [apO_N, if_neg h0, hN]; rfl
      by_cases h2 : o.1 ≤ 2
      · rw [if_pos h2] at hw ⊢
        refine run_A (os := os) hN2 hw (fun hc => ?_) (by omega)
        rw [← h hc]
        unfold apO
        rw [if_neg h0]
        by_cases h1 : o.1 = 1
        · rw [if_pos h1]; rfl
        · rw [if_neg h1, if_pos (by omega)]; rfl
      · rw [if_neg h2] at hw ⊢
        rw [Bool.and_eq_true, decide_eq_true_iff] at hw
        have ea : apO N st o = sAf st (N + o.2.1) (fun j => if j < o.2.2.1 then 100000 else gA st (N + o.2.1) j) := by unfold apO; rw [if_neg h0, if_neg (by omega), if_neg (by omega)]
        refine run_A (os := os) hN2 hw.2 (fun hc => ?_) (by omega)
        rw [ea]
        by_cases e : o.2.1 = i
        · rw [if_pos e, e, gA_self, h hc]; exact vA_up
        · rw [if_neg e, gA_ne (by omega)]; exact h hc
