/-! reading a RULE: steps within a TEST, both sides -/
theorem stC_app {cd cd2 : Nat → Nat × Nat} {x : Nat} : ∀ {P : List Nat} {s : Nat}, stC cd s P → (∀ j, j < s + P.length → cd2 j = cd j) → cd2 (s + P.length) = (x, 0) → stC cd2 s (P ++ [x])
  | [], s, _, _, h => ⟨h, True.intro⟩
  | y :: P, s, h, e, h2 => by
    have hl : (y :: P).length = P.length + 1 := rfl
    rw [hl] at e h2
    exact ⟨by rw [e s (by omega)]; exact h.1, stC_app h.2 (fun j hj => e j (by omega)) (by rw [show s + 1 + P.length = s + (P.length + 1) by omega]; exact h2)⟩
theorem stC_cg {cd cd2 : Nat → Nat × Nat} : ∀ {P : List Nat} {s : Nat}, stC cd s P → (∀ j, j < s + P.length → cd2 j = cd j) → stC cd2 s P
  | [], s, _, _ => True.intro
  | y :: P, s, h, e => by
    have hl : (y :: P).length = P.length + 1 := rfl
    rw [hl] at e
    exact ⟨by rw [e s (by omega)]; exact h.1, stC_cg h.2 (fun j hj => e j (by omega))⟩
theorem c11_app {x : Nat} : ∀ {P : List Nat}, c11 (P ++ [x]) = c11 P + (if x = 11 then 1 else 0)
  | [] => by show (if x = 11 then 1 else 0) + 0 = 0 + _; omega
  | y :: P => by show (if y = 11 then 1 else 0) + c11 (P ++ [x]) = (if y = 11 then 1 else 0) + c11 P + _; rw [c11_app]; omega
section RTS
variable {st : HSt} {ms : MSt} {H n M i p k sz it dp : Nat} {cd : Nat → Nat × Nat} {P S : List Nat}
/-- the class puts a sign that the reference still holds -/
theorem RT.putop {x : Nat} (R : RT st ms H n M i p k cd sz it P (x :: S) (dp + if x = 11 then 1 else 0)) : fh_X7_put (H + 5) (-nI (opH x)) st = some (putS st H sz (-nI (opH x))) ∧ RT (putS st H sz (-nI (opH x))) ms H n M i p k (cdu cd sz (x, 0)) (sz + 1) it (P ++ [x]) S dp := by
  obtain ⟨hiM, hM⟩ := R.t0
  obtain ⟨J, E, C, ⟨s, s1, s2, s3⟩, ⟨i1, i2, i3⟩, K, B, T, d, c, b⟩ := R
  have hl : (x :: S).length = S.length + 1 := rfl
  rw [hl] at c
  have x11 : 11 ≤ x := (b x (List.mem_append_right _ (List.mem_cons_self ..))).1
  have ap : P ++ x :: S = (P ++ [x]) ++ S := by rw [List.append_assoc]; rfl
  refine ⟨h_rput E C.1 (by omega), J.frh put_F (by omega) (by omega) (by omega) (by omega), E.fr put_F, putS_c (c := (x, 0)) (C.u (fun j hj => cdu_n hj)) cdu_s ?_, ⟨s, ?_, s2.u (fun j hj => cdu_n (by omega)), stC_app s3 (fun j hj => cdu_n (by omega)) (by rw [← s1]; exact cdu_s)⟩, ⟨putS_6.trans i1, i2, i3⟩, K, B, by rw [← ap]; exact T, ?_, by omega, by rw [← ap]; exact b⟩
  · show -nI (opH x) = if x = 0 then nI 0 else if x = 1 then -nI (270 + 0) else -nI (opH x)
    rw [if_neg (by omega), if_neg (by omega)]
  · rw [List.length_append]; show sz + 1 = s + (P.length + 1); omega
  · rw [d, c11_app]; congr 1; omega
/-- NOTs behind a FACT: the class puts them -/
theorem j_notsL {rec : Nat → Int32 → HSt → Option HSt} {d a h : Nat} : ∀ (m e : Nat) (st : HSt) (cd : Nat → Nat × Nat) (sz : Nat) (P : List Nat) (N : Nat), e = d + m → e ≤ 20 → RT st ms H n M i p k cd sz it P (List.replicate m 11 ++ S) (dp + m) → Sg cd a sz true h → m < N →
    ∃ st2 cd2 sz2, iter (fun x : (Int32 × HSt) => fh_X7_readFact_s147 rec (H + 5) (nI e) x.1 x.2) N (nI d, st) = some (.inr (nI e, st2)) ∧ Fr (RdX H) st st2 ∧ RT st2 ms H n M i p k cd2 sz2 it (P ++ List.replicate m 11) S dp ∧ (∀ j, j < sz → cd2 j = cd j) ∧ sz ≤ sz2 ∧ Sg cd2 a sz2 true h := by
  intro m
  induction m generalizing d with
  | zero =>
    intro e st cd sz P N he he2 R Sg0 hN
    obtain ⟨N, rfl⟩ : ∃ N', N = N' + 1 := ⟨N - 1, by omega⟩
    have : e = d := by omega
    subst this
    have s : fh_X7_readFact_s147 rec (H + 5) (nI e) (nI e) st = some (.inr (.inr (nI e, st))) := by
      unfold fh_X7_readFact_s147
      rw [if_pos (nI_le (Nat.le_refl _) (by omega))]
    refine ⟨st, cd, sz, iter_x (s1 := fun x : (Int32 × HSt) => fh_X7_readFact_s147 rec (H + 5) (nI e) x.1 x.2) (x := (nI e, st)) (y := (nI e, st)) s, Fr.rf, ?_, fun _ _ => rfl, Nat.le_refl _, Sg0⟩
    rw [show List.replicate 0 11 = ([] : List Nat) from rfl, List.append_nil]; exact R
  | succ m ih =>
    intro e st cd sz P N he he2 R Sg0 hN
    obtain ⟨N, rfl⟩ : ∃ N', N = N' + 1 := ⟨N - 1, by omega⟩
    have R' : RT st ms H n M i p k cd sz it P (11 :: (List.replicate m 11 ++ S)) ((dp + m) + if 11 = 11 then 1 else 0) := by
      rw [if_pos rfl]; exact R
    obtain ⟨e1, R1⟩ := R'.putop
    have e1' : fh_X7_put (H + 5) (-269 : Int32) st = some (putS st H sz (-nI (opH 11))) := e1
    have s : fh_X7_readFact_s147 rec (H + 5) (nI e) (nI d) st = some (.inr (.inl (nI (d + 1), putS st H sz (-nI (opH 11))))) := by
      unfold fh_X7_readFact_s147
      rw [if_neg (nI_ge (show d < e by omega) (by omega)), chk_t (isk_t R.k8), e1', bs_, nI_1]
    have S1 : Sg (cdu cd sz (11, 0)) a (sz + 1) true h := (Sg0.cg (fun j hj => cdu_n hj)).un (by rw [cdu_s])
    obtain ⟨st2, cd2, sz2, f1, f2, f3, f4, f5, f6⟩ := ih (d := d + 1) e _ _ (sz + 1) (P ++ [11]) N (by omega) he2 R1 S1 (by omega)
    refine ⟨st2, cd2, sz2, ?_, (Frp put_F).tr f2, ?_, fun j hj => by rw [f4 j (by omega), cdu_n hj], by omega, f6⟩
    · rw [iter_c (s1 := fun x : (Int32 × HSt) => fh_X7_readFact_s147 rec (H + 5) (nI e) x.1 x.2) (x := (nI d, st)) (y := (nI (d + 1), _)) s]; exact f1
    · rw [List.append_assoc] at f3; exact f3
/-- NOTs behind a FACT, both sides: the reference settles them -/
theorem j_nots {rec : Nat → Int32 → HSt → Option HSt} {d m a h : Nat} (R : RT st ms H n M i p k cd sz it [] (List.replicate m 11 ++ S) (d + m)) (hS : S = [] ∨ ∃ x S', S = x :: S' ∧ sgS x < 3) (hm : d + m ≤ 20) (Sg0 : Sg cd a sz true h) : ∃ st2 ms2 cd2 sz2, fh_X7_readFact_j144 rec (H + 5) (nI d) (nI (d + m)) st = some st2 ∧ fm_settles (3 : Int32) ms = some ms2 ∧ Fr (RdX H) st st2 ∧ MT k ms ms2 ∧ RT st2 ms2 H n M i p k cd2 sz2 it [] S d ∧ (∀ j, j < sz → cd2 j = cd j) ∧ sz ≤ sz2 ∧ Sg cd2 a sz2 true h := by
  obtain ⟨st2, cd2, sz2, e1, F1, R1, a1, a2, S1⟩ := j_notsL (rec := rec) (d := d) (dp := d) m (d + m) st cd sz [] mFuel rfl hm R Sg0 (by rw [mFuel_eq]; omega)
  obtain ⟨ms2, e2, G2, R2⟩ := R1.settle (L := 3) (by omega) (fun x hx => by
    have : x ∈ List.replicate m 11 := hx
    rw [List.eq_of_mem_replicate this]; decide) hS
  refine ⟨st2, ms2, cd2, sz2, ?_, e2, F1, G2, R2, a1, a2, S1⟩
  unfold fh_X7_readFact_j144
  rw [e1]; rfl
/-- both pass a sign, whatever it is (the reference has passed the blanks) -/
theorem RT.next (R : RT st ms H n M i (ps (ms.2.1 0) n i) k cd sz it P S dp) (hi : i < M) : ∃ st2, fh_X10_next H st = some st2 ∧ Fr (fun b => b = H) st st2 ∧ RT st2 (msi ms 14 (nI (tE (ms.2.1 0) n (ps (ms.2.1 0) n i)))) H n M (i + 1) (tE (ms.2.1 0) n (ps (ms.2.1 0) n i)) k cd sz it P S dp ∧ sz + S.length + 1 ≤ i + 1 := by
  obtain ⟨⟨T, A, h15, hs⟩, E, C1, s, ⟨i1, i2, i3⟩, ⟨k1, k2⟩, B, ⟨T1, T2⟩, d, c, b⟩ := R
  have p1 : ps (ms.2.1 0) n i < n := T.ps_lt.mp hi
  have p2 := (tE_b (t := ms.2.1 0) p1).2
  obtain ⟨s2, e, F, -, T3, -⟩ := h_next T
  rw [if_pos hi] at T3
  refine ⟨s2, e, F, ⟨⟨T3, A.to p2, by rw [msi_n (by omega)]; exact h15, ?_⟩, E.fr F, C1.fr F (by omega) (by omega), s, ⟨(F.I 706 (by omega)).trans i1, by rw [msi_n (by omega)]; exact i2, i3⟩, ⟨by rw [msi_n (by omega)]; exact k1, k2⟩, B, ⟨by rw [msi_n (by omega)]; exact T1, T2⟩, by rw [msi_n (by omega)]; exact d, by omega, b⟩, by omega⟩
  show sk (ms.2.1 0) n (tE (ms.2.1 0) n (ps (ms.2.1 0) n i)) = if ps (ms.2.1 0) n i < n then sk (ms.2.1 0) n (tE (ms.2.1 0) n (ps (ms.2.1 0) n i)) else n
  rw [if_pos p1]
theorem RT.dead {a : Nat} (R : RT st ms H n M i p k cd sz it P S dp) (ha : a < 8) : ∃ s2, fh_X10_fail H (nI a) st = some s2 ∧ Fr (RdX H) st s2 ∧ Dd s2 H (ms.2.1 0) n M (nI (1 + 8 * ps (ms.2.1 0) n i + a)) := by
  obtain ⟨hiM, hM⟩ := R.t0
  obtain ⟨⟨T, A, -⟩, E, C, -, -, -, -, -, -, c, -⟩ := R
  obtain ⟨s2, e, F, -, T2, -⟩ := h_fail (a := a) T
  rw [if_pos rfl] at T2
  have hps : ps (ms.2.1 0) n i ≤ 400 := Nat.le_trans (ps_le i) A.2.1
  refine ⟨s2, e, Frd F, E.fr F, fun z => ?_, ⟨i, T2⟩, sz, by omega, (F.I 705 (by omega)).trans C.1⟩
  have := (nI_eq (b := 0) (by omega) (by omega)).mp z
  omega
theorem RT.tE_w {j : Nat} (R : RT st ms H n M i p k cd sz it P S dp) (hj : j < 23) (hK : gA st (H + 1) i = nI (256 + j)) : i < M ∧ tE (ms.2.1 0) n (ps (ms.2.1 0) n i) = rE (fL (ms.2.1 0)) n (ps (ms.2.1 0) n i) := by
  have T := R.1.1
  have hi : i < M := T.lt hK (by omega) (by omega)
  refine ⟨hi, ?_⟩
  have fl := (((T.2.2.2.2.2.2.2 i hi).2.1.word hj).mp hK).1
  unfold tE; rw [if_pos fl]
theorem RT.tE_c {c0 : Int32} (R : RT st ms H n M i p k cd sz it P S dp) (h0 : isS10 c0 = true) (h60 : c0 ≠ 60) (h62 : c0 ≠ 62) (hK : gA st (H + 1) i = c0) : i < M ∧ tE (ms.2.1 0) n (ps (ms.2.1 0) n i) = ps (ms.2.1 0) n i + 1 := by
  have T := R.1.1
  obtain ⟨k0, a1, a2, a3⟩ := s10_c h0
  have hi : i < M := T.lt (hK.trans a3) (by omega) (by omega)
  refine ⟨hi, ?_⟩
  have kk := ((T.2.2.2.2.2.2.2 i hi).2.1.sign h0).mp hK
  exact tE_s h0 kk.1 h60 h62
end RTS
