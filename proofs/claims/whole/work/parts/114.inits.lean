/-! the constructors as lists of what is made -/
theorem kOf_app {k : Nat} : ∀ {os ps : List Op} {c j : Nat}, kOf os c j = some k → kOf (os ++ ps) c j = some k
  | [], _, _, _, h => by cases h
  | o :: os, ps, c, j, h => by
    show kOf (o :: (os ++ ps)) c j = _
    unfold kOf at h ⊢
    by_cases h0 : o.1 = 0
    · rw [if_pos h0] at h ⊢
      by_cases jc : j = c
      · rw [if_pos jc] at h ⊢; exact h
      · rw [if_neg jc] at h ⊢; exact kOf_app h
    · rw [if_neg h0] at h ⊢; exact kOf_app h
theorem cO_0 {os : List Op} {k n z : Nat} : cO (os ++ [(0, k, n, z)]) = cO os + 1 := cO_app
theorem cO_1 {os : List Op} {k n z : Nat} : cO (os ++ [(1, k, n, z)]) = cO os := cO_app
theorem cO_2 {os : List Op} {k n z : Nat} : cO (os ++ [(2, k, n, z)]) = cO os := cO_app
theorem cO_3 {os : List Op} {k n z : Nat} : cO (os ++ [(3, k, n, z)]) = cO os := cO_app
section RUN
variable {N : Nat} {st : HSt} {os : List Op}
theorem s_new {k n : Nat} : nO (run N st os) k n = run N st (os ++ [(0, k, n, 0)]) := by rw [run_app]; rfl
theorem s_ref {f a v : Nat} : sR (run N st os) f (N + a) (some (N + v)) = run N st (os ++ [(1, f, a, v)]) := by rw [run_app]; rfl
theorem s_el {a p v : Nat} : sQ (run N st os) (N + a) p (some (N + v)) = run N st (os ++ [(2, a, p, v)]) := by rw [run_app]; rfl
theorem s_gN {c : Nat} (hN : gN st = N) (hc : cO os = c) : gN (run N st os) = N + c := by rw [run_N, hN, hc]
theorem s_isk {j k : Nat} (hN : gN st = N) (h : kOf os 0 j = some k) : isk (run N st os) (N + j) k = true := by
  have := (run_K (N := N) (i := j) (os := os) (st := st) (c := 0) (by rw [hN]; rfl)).1
  rw [h] at this
  exact isk_t this
theorem s_new_k {k n c : Nat} (hc : cO os = c) : kOf (os ++ [(0, k, n, 0)]) 0 c = some k := by
  subst hc
  have key : ∀ (os : List Op) (c : Nat), kOf (os ++ [(0, k, n, 0)]) c (c + cO os) = some k := by
    intro os
    induction os with
    | nil => intro c; show (if 0 = 0 then (if c + 0 = c then some k else none) else none) = _; rw [if_pos rfl, if_pos (Nat.add_zero c)]
    | cons o os ih =>
      intro c
      show kOf (o :: (os ++ [(0, k, n, 0)])) c (c + ((if o.1 = 0 then 1 else 0) + cO os)) = _
      unfold kOf
      by_cases h0 : o.1 = 0
      · rw [if_pos h0, if_pos h0, if_neg (by omega), show c + (1 + cO os) = c + 1 + cO os by omega]; exact ih (c + 1)
      · rw [if_neg h0, if_neg h0, Nat.zero_add]; exact ih c
  have := key os 0
  rw [Nat.zero_add] at this
  exact this
def rivO (j c : Nat) : List Op := [(0, 22, 2, 0), (1, 404, j, c), (0, 22, 2, 0), (1, 405, j, c + 1), (0, 22, 2, 0), (1, 406, j, c + 2), (0, 22, 8, 0), (1, 407, j, c + 3), (0, 22, 8, 0), (1, 408, j, c + 4)]
theorem s_river {j c : Nat} (hN : gN st = N) (hk : kOf os 0 j = some 5) (hc : cO os = c) : fh_X4_init (N + j) (run N st os) = some (run N st (os ++ rivO j c)) := by
  have g : ∀ {ps : List Op} {d : Nat}, cO ps = d → gN (run N st ps) = N + d := fun h => s_gN hN h
  unfold fh_X4_init
  rw [bs_, s_new, g hc, s_ref, chk_t (s_isk hN (kOf_app hk)), bs_, s_new, g (show cO (os ++ [(0, 22, 2, 0)] ++ [(1, 404, j, c)]) = c + 1 by rw [cO_1, cO_0, hc]), s_ref, chk_t (s_isk hN (kOf_app (kOf_app (kOf_app hk)))), bs_, s_new]
  rw [g (show cO (os ++ [(0, 22, 2, 0)] ++ [(1, 404, j, c)] ++ [(0, 22, 2, 0)] ++ [(1, 405, j, c + 1)]) = c + 2 by rw [cO_1, cO_0, cO_1, cO_0, hc]), s_ref, chk_t (s_isk hN (kOf_app (kOf_app (kOf_app (kOf_app (kOf_app hk)))))), bs_, s_new, bs_]
  rw [g (show cO (os ++ [(0, 22, 2, 0)] ++ [(1, 404, j, c)] ++ [(0, 22, 2, 0)] ++ [(1, 405, j, c + 1)] ++ [(0, 22, 2, 0)] ++ [(1, 406, j, c + 2)]) = c + 3 by rw [cO_1, cO_0, cO_1, cO_0, cO_1, cO_0, hc]), s_ref, chk_t (s_isk hN (kOf_app (kOf_app (kOf_app (kOf_app (kOf_app (kOf_app (kOf_app hk)))))))), bs_, s_new]
  rw [g (show cO (os ++ [(0, 22, 2, 0)] ++ [(1, 404, j, c)] ++ [(0, 22, 2, 0)] ++ [(1, 405, j, c + 1)] ++ [(0, 22, 2, 0)] ++ [(1, 406, j, c + 2)] ++ [(0, 22, 8, 0)] ++ [(1, 407, j, c + 3)]) = c + 4 by rw [cO_1, cO_0, cO_1, cO_0, cO_1, cO_0, cO_1, cO_0, hc]), s_ref, chk_t (s_isk hN (kOf_app (kOf_app (kOf_app (kOf_app (kOf_app (kOf_app (kOf_app (kOf_app (kOf_app hk))))))))))]
  simp only [List.append_assoc, List.cons_append, List.nil_append]
  rfl
def spaO (j c : Nat) : List Op := [(0, 5, 0, 0)] ++ rivO c (c + 1) ++ [(1, 900, j, c), (0, 22, 2, 0), (1, 902, j, c + 6), (0, 22, 80, 0), (1, 903, j, c + 7), (0, 22, 80, 0), (1, 904, j, c + 8)]
theorem s_span {j c : Nat} (hN : gN st = N) (hk : kOf os 0 j = some 10) (hc : cO os = c) : fh_X9_init (N + j) (run N st os) = some (run N st (os ++ spaO j c)) := by
  have g : ∀ {ps : List Op} {d : Nat}, cO ps = d → gN (run N st ps) = N + d := fun h => s_gN hN h
  unfold fh_X9_init
  rw [bs_, s_new, g hc, s_river (j := c) (c := c + 1) hN (s_new_k hc) (by rw [cO_0, hc]), bs_]
  have k1 : kOf (os ++ [(0, 5, 0, 0)] ++ rivO c (c + 1)) 0 j = some 10 := kOf_app (kOf_app hk)
  have c1 : cO (os ++ [(0, 5, 0, 0)] ++ rivO c (c + 1)) = c + 6 := by rw [cO_app, cO_0, hc]; rfl
  generalize ho1 : os ++ [(0, 5, 0, 0)] ++ rivO c (c + 1) = o1 at k1 c1 ⊢
  rw [s_ref, chk_t (s_isk hN k1), bs_, s_new, g (show cO (o1 ++ [(1, 900, j, c)]) = c + 6 by rw [cO_1, c1]), s_ref, chk_t (s_isk hN (kOf_app (kOf_app k1))), bs_, s_new, g (show cO (o1 ++ [(1, 900, j, c)] ++ [(0, 22, 2, 0)] ++ [(1, 902, j, c + 6)]) = c + 7 by rw [cO_1, cO_0, cO_1, c1]), s_ref, chk_t (s_isk hN (kOf_app (kOf_app (kOf_app (kOf_app k1))))), bs_, s_new, bs_, g (show cO (o1 ++ [(1, 900, j, c)] ++ [(0, 22, 2, 0)] ++ [(1, 902, j, c + 6)] ++ [(0, 22, 80, 0)] ++ [(1, 903, j, c + 7)]) = c + 8 by rw [cO_1, cO_0, cO_1, cO_0, cO_1, c1]), s_ref, chk_t (s_isk hN (kOf_app (kOf_app (kOf_app (kOf_app (kOf_app (kOf_app k1)))))))]
  rw [← ho1]
  unfold spaO
  simp only [List.append_assoc, List.cons_append, List.nil_append]
theorem s_fill {b n x : Nat} (hN : gN st = N) (hk : kOf os 0 b = some 22) (hl : gL (run N st os) (N + b) = n) (hn : n ≤ 1000) : fh_J7_fill_53178 (some (N + b)) 100000 (run N st os) = some (run N st (os ++ [(3, b, n, 0)])) := by
  have k22 : gK (run N st os) (N + b) = 22 := isk_k (s_isk hN hk)
  rw [run_app]
  generalize run N st os = s at k22 hl
  obtain ⟨z, e, h1⟩ : ∃ z : Int32 × HSt, iter (fun y : (Int32 × HSt) => fh_J7_fill_53178_s5 (some (N + b)) 100000 (nI n) y.1 y.2) mFuel ((0 : Int32), s) = some (.inr z) ∧ z.2 = sAf s (N + b) (fun i => if i < n then 100000 else gA s (N + b) i) := by
    refine iter_n (fun j (y : Int32 × HSt) => y.1 = nI j ∧ y.2 = sAf s (N + b) (fun i => if i < j then 100000 else gA s (N + b) i)) n _ ?_ ?_ ⟨rfl, ?_⟩ (by omega)
    · rintro j ⟨q, t⟩ hj ⟨hq, ht⟩
      simp only at hq ht
      subst hq; subst ht
      refine ⟨(nI (j + 1), sAf s (N + b) (fun i => if i < j + 1 then 100000 else gA s (N + b) i)), ?_, rfl, rfl⟩
      show fh_J7_fill_53178_s5 (some (N + b)) 100000 (nI n) (nI j) (sAf s (N + b) (fun i => if i < j then 100000 else gA s (N + b) i)) = _
      unfold fh_J7_fill_53178_s5
      rw [if_neg (nI_ge hj (by omega)), dr_sAf, dr_of k22, bs_, gL_sAf, hl, chk_t (inb_n hj (by omega)), nI_clamp (by omega), nI_1]
      unfold sA
      rw [sAf_sAf]
      have eg : (sAf s (N + b) (fun i => if i < j then 100000 else gA s (N + b) i)).2.2.1 (N + b) = fun i => if i < j then 100000 else gA s (N + b) i := gA_self
      rw [eg]
      have ef : upd (fun i => if i < j then 100000 else gA s (N + b) i) j 100000 = fun i => if i < j + 1 then 100000 else gA s (N + b) i := by
        funext i
        by_cases ij : i = j
        · rw [ij, pk_us, if_pos (by omega)]
        · rw [pk_un ij]
          by_cases q : i < j
          · rw [if_pos q, if_pos (by omega)]
          · rw [if_neg q, if_neg (by omega)]
      rw [ef]
    · rintro ⟨q, t⟩ ⟨hq, ht⟩
      simp only at hq ht
      subst hq; subst ht
      refine ⟨(nI n, sAf s (N + b) (fun i => if i < n then 100000 else gA s (N + b) i)), ?_, rfl⟩
      show fh_J7_fill_53178_s5 (some (N + b)) 100000 (nI n) (nI n) (sAf s (N + b) (fun i => if i < n then 100000 else gA s (N + b) i)) = _
      unfold fh_J7_fill_53178_s5
      rw [if_pos (nI_le (Nat.le_refl _) (by omega))]
    · show s = sAf s (N + b) (fun i => if i < 0 then 100000 else gA s (N + b) i)
      have : (fun i => if i < 0 then (100000 : Int32) else gA s (N + b) i) = gA s (N + b) := by
        funext i; rw [if_neg (by omega)]
      rw [this]
      unfold sAf
      have : va_up s.2.2.1 (N + b) (gA s (N + b)) = s.2.2.1 := by
        funext j; unfold va_up; by_cases h : j = N + b <;> simp [h]
      rw [this]
  unfold fh_J7_fill_53178
  rw [dr_of k22, bs_, hl, e]
  show fh_J7_fill_53178_j20 z.2 = _
  rw [h1]; rfl
theorem s_gR {f j v : Nat} (hN : gN st = N) (h : rOf f os 0 j none = some (some v)) : gR (run N st os) f (N + j) = some (N + v) := by
  have := run_R (N := N) (i := j) (f := f) (os := os) (st := st) (c := 0) (x0 := gR st f (N + j)) (q := none) (by rw [hN]; rfl) rfl
  rw [h] at this; exact this
theorem s_gL {j k : Nat} (hN : gN st = N) (h : lOf os 0 j = some k) : gL (run N st os) (N + j) = k := by
  have := (run_K (N := N) (i := j) (os := os) (st := st) (c := 0) (by rw [hN]; rfl)).2.1 (by omega)
  rw [h] at this; exact this
theorem rOf_app {f : Nat} : ∀ {os ps : List Op} {c j : Nat} {q : Option (Option Nat)}, rOf f (os ++ ps) c j q = rOf f ps (c + cO os) j (rOf f os c j q)
  | [], _, _, _, _ => rfl
  | o :: os, ps, c, j, q => by
    have ec : cO (o :: os) = (if o.1 = 0 then 1 else 0) + cO os := rfl
    show rOf f (o :: (os ++ ps)) c j q = _
    rw [ec]
    conv => lhs; unfold rOf
    conv => rhs; arg 5; unfold rOf
    by_cases h0 : o.1 = 0
    · rw [if_pos h0, if_pos h0, if_pos h0, rOf_app, show c + (1 + cO os) = c + 1 + cO os by omega]
    · rw [if_neg h0, if_neg h0, if_neg h0, Nat.zero_add]
      by_cases h1 : o.1 = 1
      · rw [if_pos h1, if_pos h1, rOf_app]
      · rw [if_neg h1, if_neg h1, rOf_app]
theorem lOf_app {k : Nat} : ∀ {os ps : List Op} {c j : Nat}, lOf os c j = some k → lOf (os ++ ps) c j = some k
  | [], _, _, _, h => by cases h
  | o :: os, ps, c, j, h => by
    show lOf (o :: (os ++ ps)) c j = _
    unfold lOf at h ⊢
    by_cases h0 : o.1 = 0
    · rw [if_pos h0] at h ⊢
      by_cases jc : j = c
      · rw [if_pos jc] at h ⊢; exact h
      · rw [if_neg jc] at h ⊢; exact lOf_app h
    · rw [if_neg h0] at h ⊢; exact lOf_app h
theorem lOf_new {k n c : Nat} (hc : cO os = c) : lOf (os ++ [(0, k, n, 0)]) 0 c = some n := by
  subst hc
  have key : ∀ (os : List Op) (c : Nat), lOf (os ++ [(0, k, n, 0)]) c (c + cO os) = some n := by
    intro os
    induction os with
    | nil => intro c; show (if 0 = 0 then (if c + 0 = c then some n else none) else none) = _; rw [if_pos rfl, if_pos (Nat.add_zero c)]
    | cons o os ih =>
      intro c
      show lOf (o :: (os ++ [(0, k, n, 0)])) c (c + ((if o.1 = 0 then 1 else 0) + cO os)) = _
      unfold lOf
      by_cases h0 : o.1 = 0
      · rw [if_pos h0, if_pos h0, if_neg (by omega), show c + (1 + cO os) = c + 1 + cO os by omega]; exact ih (c + 1)
      · rw [if_neg h0, if_neg h0, Nat.zero_add]; exact ih c
  have := key os 0
  rw [Nat.zero_add] at this
  exact this
def sitO (j c : Nat) : List Op := [(0, 10, 0, 0)] ++ spaO c (c + 1) ++ [(1, 800, j, c), (0, 22, 16, 0), (1, 803, j, c + 10), (0, 22, 80, 0), (1, 804, j, c + 11), (3, c + 11, 80, 0)]
theorem s_site {j c : Nat} (hN : gN st = N) (hk : kOf os 0 j = some 9) (hc : cO os = c) : fh_X8_init (N + j) (run N st os) = some (run N st (os ++ sitO j c)) := by
  have g : ∀ {ps : List Op} {d : Nat}, cO ps = d → gN (run N st ps) = N + d := fun h => s_gN hN h
  unfold fh_X8_init
  rw [bs_, s_new, g hc, s_span (j := c) (c := c + 1) hN (s_new_k hc) (by rw [cO_0, hc]), bs_]
  have k1 : kOf (os ++ [(0, 10, 0, 0)] ++ spaO c (c + 1)) 0 j = some 9 := kOf_app (kOf_app hk)
  have c1 : cO (os ++ [(0, 10, 0, 0)] ++ spaO c (c + 1)) = c + 10 := by rw [cO_app, cO_0, hc]; rfl
  generalize ho1 : os ++ [(0, 10, 0, 0)] ++ spaO c (c + 1) = o1 at k1 c1 ⊢
  rw [s_ref, chk_t (s_isk hN k1), bs_, s_new, g (show cO (o1 ++ [(1, 800, j, c)]) = c + 10 by rw [cO_1, c1]), s_ref, chk_t (s_isk hN (kOf_app (kOf_app k1))), bs_, s_new, g (show cO (o1 ++ [(1, 800, j, c)] ++ [(0, 22, 16, 0)] ++ [(1, 803, j, c + 10)]) = c + 11 by rw [cO_1, cO_0, cO_1, c1]), s_ref, chk_t (s_isk hN (kOf_app (kOf_app (kOf_app (kOf_app k1))))), bs_]
  have c2 : cO (o1 ++ [(1, 800, j, c)] ++ [(0, 22, 16, 0)] ++ [(1, 803, j, c + 10)]) = c + 11 := by rw [cO_1, cO_0, cO_1, c1]
  have r804 : rOf 804 (o1 ++ [(1, 800, j, c)] ++ [(0, 22, 16, 0)] ++ [(1, 803, j, c + 10)] ++ [(0, 22, 80, 0)] ++ [(1, 804, j, c + 11)]) 0 j none = some (some (c + 11)) := by
    rw [rOf_app]
    show (if (1 : Nat) = 0 then _ else if (1 : Nat) = 1 then rOf 804 [] _ j (if 804 = 804 ∧ j = j then some (some (c + 11)) else _) else _) = _
    rw [if_neg (by omega), if_pos rfl, if_pos ⟨rfl, rfl⟩]; rfl
  have l804 : lOf (o1 ++ [(1, 800, j, c)] ++ [(0, 22, 16, 0)] ++ [(1, 803, j, c + 10)] ++ [(0, 22, 80, 0)] ++ [(1, 804, j, c + 11)]) 0 (c + 11) = some 80 := lOf_app (lOf_new c2)
  have k804 : kOf (o1 ++ [(1, 800, j, c)] ++ [(0, 22, 16, 0)] ++ [(1, 803, j, c + 10)] ++ [(0, 22, 80, 0)] ++ [(1, 804, j, c + 11)]) 0 (c + 11) = some 22 := kOf_app (s_new_k c2)
  rw [s_gR hN r804, s_fill (x := 0) hN k804 (s_gL hN l804) (by omega), bs_, ← ho1]
  unfold sitO
  simp only [List.append_assoc, List.cons_append, List.nil_append]
end RUN
