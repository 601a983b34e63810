/-! the other constructors -/
section RUN2
variable {N : Nat} {st : HSt} {os : List Op}
def lokO (j c : Nat) : List Op := [(0, 23, 9, 0), (1, 300, j, c), (0, 23, 64, 0), (1, 301, j, c + 1)]
theorem s_look {j c : Nat} (hN : gN st = N) (hk : kOf os 0 j = some 4) (hc : cO os = c) : fh_X3_init (N + j) (run N st os) = some (run N st (os ++ lokO j c)) := by
  have g : ∀ {ps : List Op} {d : Nat}, cO ps = d → gN (run N st ps) = N + d := fun h => s_gN hN h
  unfold fh_X3_init
  rw [bs_, s_new, g hc, s_ref, chk_t (s_isk hN (kOf_app hk)), bs_, s_new, g (show cO (os ++ [(0, 23, 9, 0)] ++ [(1, 300, j, c)]) = c + 1 by rw [cO_1, cO_0, hc]), s_ref, chk_t (s_isk hN (kOf_app (kOf_app (kOf_app hk))))]
  unfold lokO
  simp only [List.append_assoc, List.cons_append, List.nil_append]
def hanO (j c a b : Nat) : List Op := [(0, 22, 6, 0), (1, 104, j, c), (0, 22, 6, 0), (1, 105, j, c + 1), (1, 102, j, a), (1, 103, j, b)]
theorem s_hand {j c a b : Nat} (hN : gN st = N) (hk : kOf os 0 j = some 2) (hc : cO os = c) : fh_X1_init (N + j) (some (N + a)) (some (N + b)) (run N st os) = some (run N st (os ++ hanO j c a b)) := by
  have g : ∀ {ps : List Op} {d : Nat}, cO ps = d → gN (run N st ps) = N + d := fun h => s_gN hN h
  unfold fh_X1_init
  rw [bs_, s_new, g hc, s_ref, chk_t (s_isk hN (kOf_app hk)), bs_, s_new, g (show cO (os ++ [(0, 22, 6, 0)] ++ [(1, 104, j, c)]) = c + 1 by rw [cO_1, cO_0, hc]), s_ref, s_ref, s_ref, chk_t (s_isk hN (kOf_app (kOf_app (kOf_app hk)))), bs_]
  unfold hanO
  simp only [List.append_assoc, List.cons_append, List.nil_append]
def inqO (j c a b : Nat) : List Op := [(0, 22, 8, 0), (1, 203, j, c), (0, 22, 12, 0), (1, 204, j, c + 1), (0, 22, 8, 0), (1, 205, j, c + 2), (1, 201, j, a), (1, 202, j, b)]
theorem s_inq {j c a b : Nat} (hN : gN st = N) (hk : kOf os 0 j = some 3) (hc : cO os = c) : fh_X2_init (N + j) (some (N + a)) (some (N + b)) (run N st os) = some (run N st (os ++ inqO j c a b)) := by
  have g : ∀ {ps : List Op} {d : Nat}, cO ps = d → gN (run N st ps) = N + d := fun h => s_gN hN h
  unfold fh_X2_init
  rw [bs_, s_new, g hc, s_ref, chk_t (s_isk hN (kOf_app hk)), bs_, s_new, g (show cO (os ++ [(0, 22, 8, 0)] ++ [(1, 203, j, c)]) = c + 1 by rw [cO_1, cO_0, hc]), s_ref, chk_t (s_isk hN (kOf_app (kOf_app (kOf_app hk)))), bs_, s_new, g (show cO (os ++ [(0, 22, 8, 0)] ++ [(1, 203, j, c)] ++ [(0, 22, 12, 0)] ++ [(1, 204, j, c + 1)]) = c + 2 by rw [cO_1, cO_0, cO_1, cO_0, hc]), s_ref, chk_t (s_isk hN (kOf_app (kOf_app (kOf_app (kOf_app (kOf_app hk)))))), bs_, s_ref, s_ref]
  unfold inqO
  simp only [List.append_assoc, List.cons_append, List.nil_append]
def tokO (j c : Nat) : List Op := [(0, 22, 401, 0), (1, 1000, j, c), (0, 22, 401, 0), (1, 1001, j, c + 1), (0, 22, 401, 0), (1, 1002, j, c + 2)]
theorem s_tok {j c : Nat} (hN : gN st = N) (hk : kOf os 0 j = some 11) (hc : cO os = c) : fh_X10_init (N + j) (run N st os) = some (run N st (os ++ tokO j c)) := by
  have g : ∀ {ps : List Op} {d : Nat}, cO ps = d → gN (run N st ps) = N + d := fun h => s_gN hN h
  unfold fh_X10_init
  rw [bs_, s_new, g hc, s_ref, chk_t (s_isk hN (kOf_app hk)), bs_, s_new, g (show cO (os ++ [(0, 22, 401, 0)] ++ [(1, 1000, j, c)]) = c + 1 by rw [cO_1, cO_0, hc]), s_ref, chk_t (s_isk hN (kOf_app (kOf_app (kOf_app hk)))), bs_, s_new, g (show cO (os ++ [(0, 22, 401, 0)] ++ [(1, 1000, j, c)] ++ [(0, 22, 401, 0)] ++ [(1, 1001, j, c + 1)]) = c + 2 by rw [cO_1, cO_0, cO_1, cO_0, hc]), s_ref, chk_t (s_isk hN (kOf_app (kOf_app (kOf_app (kOf_app (kOf_app hk)))))), bs_]
  unfold tokO
  simp only [List.append_assoc, List.cons_append, List.nil_append]
def rrdO (j c a : Nat) : List Op := [(0, 22, 12, 0), (1, 701, j, c), (0, 22, 13, 0), (1, 702, j, c + 1), (0, 22, 12, 0), (1, 703, j, c + 2), (0, 22, 400, 0), (1, 704, j, c + 3), (1, 700, j, a)]
theorem s_rrd {j c a : Nat} (hN : gN st = N) (hk : kOf os 0 j = some 8) (hc : cO os = c) : fh_X7_init (N + j) (some (N + a)) (run N st os) = some (run N st (os ++ rrdO j c a)) := by
  have g : ∀ {ps : List Op} {d : Nat}, cO ps = d → gN (run N st ps) = N + d := fun h => s_gN hN h
  unfold fh_X7_init
  rw [bs_, s_new, g hc, s_ref, chk_t (s_isk hN (kOf_app hk)), bs_, s_new, g (show cO (os ++ [(0, 22, 12, 0)] ++ [(1, 701, j, c)]) = c + 1 by rw [cO_1, cO_0, hc]), s_ref, chk_t (s_isk hN (kOf_app (kOf_app (kOf_app hk)))), bs_, s_new, g (show cO (os ++ [(0, 22, 12, 0)] ++ [(1, 701, j, c)] ++ [(0, 22, 13, 0)] ++ [(1, 702, j, c + 1)]) = c + 2 by rw [cO_1, cO_0, cO_1, cO_0, hc]), s_ref, chk_t (s_isk hN (kOf_app (kOf_app (kOf_app (kOf_app (kOf_app hk)))))), bs_, s_new, bs_, g (show cO (os ++ [(0, 22, 12, 0)] ++ [(1, 701, j, c)] ++ [(0, 22, 13, 0)] ++ [(1, 702, j, c + 1)] ++ [(0, 22, 12, 0)] ++ [(1, 703, j, c + 2)]) = c + 3 by rw [cO_1, cO_0, cO_1, cO_0, cO_1, cO_0, hc]), s_ref, s_ref, chk_t (s_isk hN (kOf_app (kOf_app (kOf_app (kOf_app (kOf_app (kOf_app (kOf_app hk))))))))]
  unfold rrdO
  simp only [List.append_assoc, List.cons_append, List.nil_append]
/-- a spare Span, kept at place p of the row at q -/
def sprO (q p c : Nat) : List Op := [(0, 10, 0, 0)] ++ spaO c (c + 1) ++ [(2, q, p, c)]
end RUN2
