/-! new cells beside scratch cells; what the relation does not look at -/
def WfR1 (st : HSt) (r : Nat) : Prop := (∀ j, 0 < j → j < 6 → gK st (r + j) = 22) ∧ gR st 404 r = some (r + 1) ∧ gL st (r + 1) = 2 ∧ gR st 405 r = some (r + 2) ∧ gL st (r + 2) = 2 ∧ gR st 406 r = some (r + 3) ∧ gL st (r + 3) = 2 ∧ gR st 407 r = some (r + 4) ∧ gL st (r + 4) = 8 ∧ gR st 408 r = some (r + 5) ∧ gL st (r + 5) = 8
def WfU1 (st : HSt) (q : Nat) : Prop := (∀ j, 0 < j → j < 5 → gK st (q + j) = 22) ∧ gR st 601 q = some (q + 1) ∧ gR st 602 q = some (q + 2) ∧ gR st 603 q = some (q + 3) ∧ gR st 604 q = some (q + 4)
theorem Wf_ext {st st2 : HSt} (w : Wf st) (hi : Hi st) (E : Ext st st2) (nw : ∀ a, gN st ≤ a → gK st2 a ≠ 10 ∧ gK st2 a ≠ 9 ∧ (gK st2 a = 5 → WfR1 st2 a) ∧ (gK st2 a = 7 → WfU1 st2 a)) : Wf st2 := by
  have o : ∀ b, gK st b ≠ 0 → Old st st2 b := fun b hb => E b (hi.lt hb)
  have at_ : ∀ a k, gK st2 a = k → (a < gN st ∧ gK st a = k) ∨ gN st ≤ a := fun a k h => by
    rcases Nat.lt_or_ge a (gN st) with z | z
    · exact Or.inl ⟨z, (E a z).1.symm.trans h⟩
    · exact Or.inr z
  refine ⟨fun a ha => ?_, fun a ha => ?_, fun a ha => ?_, fun a ha => ?_⟩
  · rcases at_ a 10 ha with ⟨z, k⟩ | z
    · obtain ⟨c1, c2, c3, c4, c5, c6, c7, c8⟩ := w.1 a k
      have oa := o a (by rw [k]; omega)
      have oj : ∀ j, 1 < j → j < 10 → Old st st2 (a + j) := fun j h1 h2 => o _ (by rw [c2 j h1 h2]; omega)
      exact ⟨(o (a + 1) (by rw [c1]; omega)).1.trans c1, fun j h1 h2 => (oj j h1 h2).1.trans (c2 j h1 h2), (oa.2.2.2.2.2.2 902).trans c3, (oj 7 (by omega) (by omega)).2.1.trans c4, (oa.2.2.2.2.2.2 903).trans c5, (oj 8 (by omega) (by omega)).2.1.trans c6, (oa.2.2.2.2.2.2 904).trans c7, (oj 9 (by omega) (by omega)).2.1.trans c8⟩
    · exact absurd ha (nw a z).1
  · rcases at_ a 5 ha with ⟨z, k⟩ | z
    · obtain ⟨c1, c2, c3, c4, c5, c6, c7, c8, c9, c10, c11⟩ := w.2.1 a k
      have oa := o a (by rw [k]; omega)
      have oj : ∀ j, 0 < j → j < 6 → Old st st2 (a + j) := fun j h1 h2 => o _ (by rw [c1 j h1 h2]; omega)
      exact ⟨fun j h1 h2 => (oj j h1 h2).1.trans (c1 j h1 h2), (oa.2.2.2.2.2.2 404).trans c2, (oj 1 (by omega) (by omega)).2.1.trans c3, (oa.2.2.2.2.2.2 405).trans c4, (oj 2 (by omega) (by omega)).2.1.trans c5, (oa.2.2.2.2.2.2 406).trans c6, (oj 3 (by omega) (by omega)).2.1.trans c7, (oa.2.2.2.2.2.2 407).trans c8, (oj 4 (by omega) (by omega)).2.1.trans c9, (oa.2.2.2.2.2.2 408).trans c10, (oj 5 (by omega) (by omega)).2.1.trans c11⟩
    · exact (nw a z).2.2.1 ha
  · rcases at_ a 7 ha with ⟨z, k⟩ | z
    · obtain ⟨c1, c2, c3, c4, c5⟩ := w.2.2.1 a k
      have oa := o a (by rw [k]; omega)
      exact ⟨fun j h1 h2 => (o (a + j) (by rw [c1 j h1 h2]; omega)).1.trans (c1 j h1 h2), (oa.2.2.2.2.2.2 601).trans c2, (oa.2.2.2.2.2.2 602).trans c3, (oa.2.2.2.2.2.2 603).trans c4, (oa.2.2.2.2.2.2 604).trans c5⟩
    · exact (nw a z).2.2.2 ha
  · rcases at_ a 9 ha with ⟨z, k⟩ | z
    · obtain ⟨c1, c2, c3, c4, c5, c6, c7, c8⟩ := w.2.2.2 a k
      have oa := o a (by rw [k]; omega)
      have o11 := o (a + 11) (by rw [c2]; omega)
      have o12 := o (a + 12) (by rw [c3]; omega)
      exact ⟨(o (a + 1) (by rw [c1]; omega)).1.trans c1, o11.1.trans c2, o12.1.trans c3, (oa.2.2.2.2.2.2 800).trans c4, (oa.2.2.2.2.2.2 803).trans c5, o11.2.1.trans c6, (oa.2.2.2.2.2.2 804).trans c7, o12.2.1.trans c8⟩
    · exact absurd ha (nw a z).2.1
/-- the relation looks at these of the reference alone -/
def mKp (k : Nat) : Bool := k == 0 || k == 3 || k == 5 || k == 6 || k == 26 || k == 40 || k == 41
theorem Rel.mw {hx : Nat} {st : HSt} {ms ms2 : MSt} (R : Rel hx st ms) (i1 : ms2.1 1 = ms.1 1) (i2 : ms2.1 2 = ms.1 2) (a : ∀ k, mKp k = true → ms2.2.1 k = ms.2.1 k) : Rel hx st ms2 := by
  obtain ⟨t, nr, r, w, hi, h, p, T, U, I, V, J⟩ := R
  have a26 := a 26 rfl
  refine ⟨t, nr, r, w, hi, h, p, ?_, ?_, by rw [a26]; exact I, by rw [a26]; exact V, ?_⟩
  · obtain ⟨t1, t2, t3, t4, t5, t6, t7, t8⟩ := T
    exact ⟨t1, t2, t3, t4, t5, i1.trans t6, t7, by rw [a 0 rfl]; exact t8⟩
  · obtain ⟨r1, r2, r3, r4⟩ := U
    refine ⟨r1, i2.trans r2, r3, fun k hk => ?_⟩
    obtain ⟨q, u, N, e, R, O, M⟩ := r4 k hk
    refine ⟨q, u, N, e, R, O, ?_⟩
    unfold MrR at *
    rw [a 3 rfl, a 5 rfl, a 6 rfl]; exact M
  · have ev : ∀ k, imV ms2 k = imV ms k := fun k => by funext i; unfold imV; rw [a 40 rfl]
    unfold ImS at *
    refine ⟨fun k hk => ?_, J.2⟩
    rw [a 41 rfl, ev]; exact J.1 k hk
/-- new cells, and the call's own cells changed -/
theorem Rel.extS {hx : Nat} {st st2 : HSt} {ms : MSt} (R : Rel hx st ms) (w2 : Wf st2) (hi2 : Hi st2) (p2 : PkR hx st2)
    (hO : ∀ b, b < gN st → gK st2 b = gK st b ∧ gL st2 b = gL st b ∧ gQ st2 b = gQ st b ∧ ∀ f, fin f = true → gR st2 f b = gR st f b)
    (hN : ∀ b, b < gN st → ¬ Sc hx st b → (∀ f, gI st2 f b = gI st f b) ∧ (∀ f, gR st2 f b = gR st f b) ∧ gA st2 b = gA st b ∧ gJ st2 b = gJ st b) : Rel hx st2 ms := by
  have R0 := R
  obtain ⟨t, nr, r, w, hi, h, p, T, U, I, V, J⟩ := R
  let mid : HSt := (fun f b => if b < gN st then gI st f b else gI st2 f b, fun f b => if b < gN st then gR st f b else gR st2 f b, fun b => if b < gN st then gA st b else gA st2 b, fun b => if b < gN st then gJ st b else gJ st2 b, st2.2.2.2.2)
  have E : Ext st mid := fun b hb => ⟨(hO b hb).1, (hO b hb).2.1, if_pos hb, if_pos hb, (hO b hb).2.2.1, fun _ => if_pos hb, fun _ => if_pos hb⟩
  have h27 : hx + 27 < gN st := h.lt hi (by omega)
  have rr : ∀ f b, fin f = true → gR st2 f b = gR mid f b := fun f b hf => by
    show gR st2 f b = if b < gN st then gR st f b else gR st2 f b
    by_cases z : b < gN st
    · rw [if_pos z]; exact (hO b z).2.2.2 f hf
    · rw [if_neg z]
  have F : Fr (Sc hx st) mid st2 := ⟨rfl, rr, fun b hb => by
    by_cases z : b < gN st
    · obtain ⟨n1, n2, n3, n4⟩ := hN b z hb
      exact ⟨fun f => (n1 f).trans (if_pos z).symm, fun f => (n2 f).trans (if_pos z).symm, n3.trans (if_pos z).symm, n4.trans (if_pos z).symm⟩
    · exact ⟨fun f => (if_neg z).symm, fun f => (if_neg z).symm, (if_neg z).symm, (if_neg z).symm⟩⟩
  have B : Fr (fun _ => True) st2 mid := ⟨rfl, fun f b hf => (rr f b hf).symm, fun b hb => absurd trivial hb⟩
  have Rm : Rel hx mid ms := R0.ext (B.Wf w2) (hi2.fr B) E
  refine Rm.sc (F.mo (fun b hb => ?_)) p2 MF.rf (fun _ _ => rfl)
  unfold Sc at hb ⊢
  rw [show gR mid 10 (hx + 27) = gR st 10 (hx + 27) from if_pos h27]
  exact hb
/-- a new RIVER -/
def nrO : List Op := [(0, 5, 0, 0)] ++ rivO 0 1
def kr6 (j : Nat) : Nat := if j = 0 then 5 else 22
theorem nr_n : cO nrO = 6 := by decide +kernel
theorem nr_k : ∀ j, j < 6 → kOf nrO 0 j = some (kr6 j) := by decide +kernel
theorem nr_f : ∀ j, j < 6 → fOf2 nrO 0 j 0 = 0 := by decide +kernel
theorem nr_w : wfO nrO 0 = true := by decide +kernel
theorem vA_0 : vA 0 = fun _ => 0 := by funext j; unfold vA; rw [if_neg (by omega)]
theorem rv_new {st : HSt} (w : Wf st) (hi : Hi st) : ∃ s5, fh_X4_init (gN st) (nO st 5 0) = some s5 ∧ Wf s5 ∧ Hi s5 ∧ Ext st s5 ∧ gN s5 = gN st + 6 ∧ gK s5 (gN st) = 5 ∧ WfR1 s5 (gN st) ∧ (∀ f, gI s5 f (gN st) = 0) ∧ ∀ j, 0 < j → j < 6 → gA s5 (gN st + j) = fun _ => 0 := by
  have e : fh_X4_init (gN st) (nO st 5 0) = some (run (gN st) st nrO) := s_river (N := gN st) (st := st) (os := [(0, 5, 0, 0)]) (j := 0) (c := 1) rfl rfl rfl
  refine ⟨run (gN st) st nrO, e, ?_⟩
  have E : Ext st (run (gN st) st nrO) := fun b hb => run_old hb (Nat.le_refl _)
  have K : ∀ j, j < 6 → gK (run (gN st) st nrO) (gN st + j) = kr6 j := fun j hj => by
    have := (run_K (N := gN st) (i := j) (os := nrO) (st := st) (c := 0) rfl).1
    rw [nr_k j hj] at this; exact this
  have K0 : ∀ a, gN st + 6 ≤ a → gK (run (gN st) st nrO) a = 0 := fun a ha => by
    have := (run_K (N := gN st) (i := a - gN st) (os := nrO) (st := st) (c := 0) rfl).1
    rw [kOf_hi (by rw [nr_n]; omega), show gN st + (a - gN st) = a by omega] at this
    exact this.trans (hi a (by omega))
  have R : ∀ f j v, rOf f nrO 0 j none = some (some v) → gR (run (gN st) st nrO) f (gN st + j) = some (gN st + v) := fun f j v h => s_gR rfl h
  have L : ∀ j k, lOf nrO 0 j = some k → gL (run (gN st) st nrO) (gN st + j) = k := fun j k h => s_gL rfl h
  have W1 : WfR1 (run (gN st) st nrO) (gN st) := ⟨fun j h1 h2 => by rw [K j h2]; unfold kr6; rw [if_neg (by omega)], R 404 0 1 (by decide +kernel), L 1 2 (by decide +kernel), R 405 0 2 (by decide +kernel), L 2 2 (by decide +kernel), R 406 0 3 (by decide +kernel), L 3 2 (by decide +kernel), R 407 0 4 (by decide +kernel), L 4 8 (by decide +kernel), R 408 0 5 (by decide +kernel), L 5 8 (by decide +kernel)⟩
  have nN : gN (run (gN st) st nrO) = gN st + 6 := by rw [run_N, nr_n]
  refine ⟨Wf_ext w hi E (fun a ha => ?_), fun a ha => K0 a (by rw [nN] at ha; exact ha), E, nN, K 0 (by omega), W1, fun f => ?_, fun j h1 h2 => ?_⟩
  · rcases Nat.lt_or_ge a (gN st + 6) with z | z
    · have kk := K (a - gN st) (by omega)
      rw [show gN st + (a - gN st) = a by omega] at kk
      rw [kk]
      unfold kr6
      by_cases y : a = gN st
      · rw [if_pos (by omega), y]
        exact ⟨by omega, by omega, fun _ => W1, fun q => by omega⟩
      · rw [if_neg (by omega)]
        exact ⟨by omega, by omega, fun q => by omega, fun q => by omega⟩
    · rw [K0 a z]
      exact ⟨by omega, by omega, fun q => by omega, fun q => by omega⟩
  · exact (run_I (N := gN st) (i := 0) (os := nrO) (st := st) (c := 0) rfl (by omega) (by rw [nr_n]; omega)).1 f
  · have := run_A (N := gN st) (i := j) (os := nrO) (st := st) (c := 0) (q := 0) rfl nr_w (fun z => by omega) (by rw [nr_n]; omega)
    rw [nr_f j h2, vA_0] at this; exact this
