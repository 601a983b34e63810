/-! reading a RULE: the class behind a fault -/
def RdX (H b : Nat) : Prop := b = H ∨ (b = H + 5 ∨ b = H + 9)
def RdE (st : HSt) (H : Nat) : Prop := gK st (H + 5) = 8 ∧ gR st 700 (H + 5) = some H ∧ (gR st 701 (H + 5) = some (H + 6) ∧ gK st (H + 6) = 22 ∧ gL st (H + 6) = 12) ∧ (gR st 702 (H + 5) = some (H + 7) ∧ gK st (H + 7) = 22 ∧ gL st (H + 7) = 13) ∧ (gR st 703 (H + 5) = some (H + 8) ∧ gK st (H + 8) = 22 ∧ gL st (H + 8) = 12) ∧ (gR st 704 (H + 5) = some (H + 9) ∧ gK st (H + 9) = 22 ∧ gL st (H + 9) = 400)
theorem RdE.fr {X : Nat → Prop} {st st2 : HSt} {H : Nat} (h : RdE st H) (F : Fr X st st2) : RdE st2 H := by
  unfold RdE at *
  rw [F.R (f := 700) _ rfl, F.R (f := 701) _ rfl, F.R (f := 702) _ rfl, F.R (f := 703) _ rfl, F.R (f := 704) _ rfl]
  simp only [F.K, F.L]
  exact h
theorem Tk.rd {X : Nat → Prop} {st st2 : HSt} {H n M i : Nat} {t : Nat → Int32} {f : Int32} (h : Tk st H t n M i f) (F : Fr X st st2) (hX : ∀ b, X b → H + 5 ≤ b) : Tk st2 H t n M i f := h.fr F (fun z => by have := hX _ z; omega) (fun z => by have := hX _ z; omega) (fun z => by have := hX _ z; omega) (fun z => by have := hX _ z; omega)
theorem Frd {H : Nat} {a b : HSt} (h : Fr (fun q => q = H) a b) : Fr (RdX H) a b := h.mo (fun q hq => Or.inl hq)
/-- one sign of the code is put -/
def putS (st : HSt) (H sz : Nat) (x : Int32) : HSt := sI (sA st (H + 9) sz x) 705 (H + 5) (nI (sz + 1))
theorem put_F {st : HSt} {H sz : Nat} {x : Int32} : Fr (fun b => b = H + 5 ∨ b = H + 9) st (putS st H sz x) := (Fr.sA (Or.inr rfl)).tr (Fr.sI (Or.inl rfl))
theorem Frp {H : Nat} {a b : HSt} (h : Fr (fun q => q = H + 5 ∨ q = H + 9) a b) : Fr (RdX H) a b := h.mo (fun q hq => Or.inr (by omega))
theorem h_rput {st : HSt} {H sz : Nat} {x : Int32} (E : RdE st H) (h : gI st 705 (H + 5) = nI sz) (hs : sz < 400) : fh_X7_put (H + 5) x st = some (putS st H sz x) := by
  obtain ⟨k8, -, -, -, -, ⟨r4, k9, l9⟩⟩ := E
  unfold fh_X7_put
  rw [chk_t (isk_t k8), r4, dr_of k9, bs_, l9, h, if_neg (nI_ge hs (by omega)), chk_t (inb_n hs (by omega)), nI_clamp (by omega), bs_, gI_sA, h, nI_1]
  rfl
def Dd (st : HSt) (H : Nat) (t : Nat → Int32) (n M : Nat) (f : Int32) : Prop := RdE st H ∧ f ≠ 0 ∧ (∃ i, Tk st H t n M i f) ∧ ∃ sz, sz ≤ 400 ∧ gI st 705 (H + 5) = nI sz
section DEAD
variable {st : HSt} {H n M : Nat} {t : Nat → Int32} {f : Int32}
theorem d_put {x : Int32} (D : Dd st H t n M f) : ∃ st2, fh_X7_put (H + 5) x st = some st2 ∧ Fr (RdX H) st st2 ∧ Dd st2 H t n M f := by
  obtain ⟨E, hf, ⟨i, T⟩, sz, h1, h2⟩ := D
  rcases Nat.lt_or_ge sz 400 with z | z
  · exact ⟨_, h_rput E h2 z, Frp put_F, E.fr put_F, hf, ⟨i, T.rd put_F (fun b hb => by omega)⟩, sz + 1, by omega, gI_sI _ _ _ _⟩
  · have e : fh_X7_put (H + 5) x st = some st := by
      obtain ⟨k8, -, -, -, -, ⟨r4, k9, l9⟩⟩ := E
      unfold fh_X7_put
      rw [chk_t (isk_t k8), r4, dr_of k9, bs_, l9, h2, if_pos (nI_le z (by omega))]
    exact ⟨st, e, Fr.rf, E, hf, ⟨i, T⟩, sz, h1, h2⟩
theorem d_kind (D : Dd st H t n M f) : fh_X10_kind H st = some (st, 1) := by
  obtain ⟨E, hf, ⟨i, T⟩, -⟩ := D
  rw [h_kind T, if_neg hf]
theorem d_fail {a : Nat} (D : Dd st H t n M f) : ∃ st2, fh_X10_fail H (nI a) st = some st2 ∧ Fr (RdX H) st st2 ∧ Dd st2 H t n M f := by
  obtain ⟨E, hf, ⟨i, T⟩, sz, h1, h2⟩ := D
  obtain ⟨s2, e, F, -, T2, -⟩ := h_fail (a := a) T
  rw [if_neg hf] at T2
  exact ⟨s2, e, Frd F, E.fr F, hf, ⟨i, T2⟩, sz, h1, (F.I 705 (by omega)).trans h2⟩
theorem d_next (D : Dd st H t n M f) : ∃ st2, fh_X10_next H st = some st2 ∧ Fr (RdX H) st st2 ∧ Dd st2 H t n M f := by
  obtain ⟨E, hf, ⟨i, T⟩, sz, h1, h2⟩ := D
  obtain ⟨s2, e, F, -, T2, -⟩ := h_next T
  exact ⟨s2, e, Frd F, E.fr F, hf, ⟨_, T2⟩, sz, h1, (F.I 705 (by omega)).trans h2⟩
theorem d_items {v : Int32} (D : Dd st H t n M f) : Fr (RdX H) st (sI st 706 (H + 5) v) ∧ Dd (sI st 706 (H + 5) v) H t n M f := by
  obtain ⟨E, hf, ⟨i, T⟩, sz, h1, h2⟩ := D
  have F : Fr (fun b => b = H + 5) st (sI st 706 (H + 5) v) := Fr.sI rfl
  exact ⟨F.mo (fun b hb => Or.inr (by omega)), E.fr F, hf, ⟨i, T.rd F (fun b hb => by omega)⟩, sz, h1, (gI_sI_ne (Or.inl (by omega))).trans h2⟩
theorem Dd.k8 (D : Dd st H t n M f) : gK st (H + 5) = 8 := D.1.1
theorem Dd.r7 (D : Dd st H t n M f) : gR st 700 (H + 5) = some H := D.1.2.1
theorem Dd.k11 (D : Dd st H t n M f) : gK st H = 11 := by obtain ⟨-, -, ⟨i, T⟩, -⟩ := D; exact T.1.1
theorem d_value (D : Dd st H t n M f) : ∃ st2, fh_X7_readValue (H + 5) st = some st2 ∧ Fr (RdX H) st st2 ∧ Dd st2 H t n M f := by
  obtain ⟨s2, e, F, D2⟩ := d_fail (a := 0) D
  have e' : fh_X10_fail H (0 : Int32) st = some s2 := e
  refine ⟨s2, ?_, F, D2⟩
  unfold fh_X7_readValue
  rw [chk_t (isk_t D.k8), D.r7, dr_of D.k11, bs_, d_kind D, bs_]
  dsimp only
  rw [if_neg (show ¬ (1 : Int32) = 2 by decide)]
  unfold fh_X7_readValue_j18
  rw [if_pos rfl, if_pos (show (1 : Int32) < 270 by decide), chk_t (isk_t D.k8), D.r7, dr_of D.k11, bs_, e', bs_]
theorem d_sum (D : Dd st H t n M f) : ∃ st2, fh_X7_readSum (H + 5) st = some st2 ∧ Fr (RdX H) st st2 ∧ Dd st2 H t n M f := by
  obtain ⟨s2, e, F, D2⟩ := d_value D
  refine ⟨s2, ?_, F, D2⟩
  obtain ⟨N, hN⟩ := mFuel_5
  have i17 : fh_X7_readSum_s17 (H + 5) 0 0 0 s2 = some (.inr (.inr (0, s2))) := by
    unfold fh_X7_readSum_s17
    rw [if_neg (show ¬ (400 : Int32) ≤ 0 by decide), chk_t (isk_t D2.k8), D2.r7, dr_of D2.k11, bs_, d_kind D2, bs_]
    dsimp only
    rw [if_neg (show ¬ (1 : Int32) = 42 by decide), chk_t (isk_t D2.k8), D2.r7, dr_of D2.k11, bs_, d_kind D2, bs_]
    dsimp only
    rw [if_neg (show ¬ (1 : Int32) = 47 by decide)]
  have j : fh_X7_readSum_j81 (H + 5) 0 0 s2 = some (.inl s2) := by
    unfold fh_X7_readSum_j81 fh_X7_readSum_j91
    rw [if_pos (show (0 : Int32) ≤ 0 by decide), chk_t (isk_t D2.k8), D2.r7, dr_of D2.k11, bs_, d_kind D2, bs_]
    dsimp only
    rw [if_neg (show ¬ (1 : Int32) = 43 by decide), if_neg (show ¬ (1 : Int32) = 45 by decide)]
  have i4 : fh_X7_readSum_s4 (H + 5) 0 0 st = some (.inl s2) := by
    unfold fh_X7_readSum_s4
    rw [if_neg (show ¬ (400 : Int32) ≤ 0 by decide), chk_t (isk_t D.k8), e, bs_, hN, iter_x (s1 := fun x : (Int32 × HSt) => fh_X7_readSum_s17 (H + 5) 0 0 x.1 x.2) (x := (0, s2)) (y := (0, s2)) i17]
    exact j
  unfold fh_X7_readSum
  rw [hN, it_o (s1 := fun x : (Int32 × Int32 × HSt) => fh_X7_readSum_s4 (H + 5) x.1 x.2.1 x.2.2) (x := (0, 0, st)) i4]
  rfl
theorem d_take {a : Int32} (D : Dd st H t n M f) : ∃ st2, fh_X7_takeSign (H + 5) a st = some st2 ∧ Fr (RdX H) st st2 ∧ Dd st2 H t n M f := by
  unfold fh_X7_takeSign
  by_cases z : a = 0
  · obtain ⟨s1, e1, F1, D1⟩ := d_fail (a := 0) D
    have e1' : fh_X10_fail H (0 : Int32) st = some s1 := e1
    obtain ⟨s2, e2, F2, D2⟩ := d_next D1
    rw [if_pos z, chk_t (isk_t D.k8), D.r7, dr_of D.k11, bs_, e1', bs_, chk_t (isk_t D1.k8), D1.r7, dr_of D1.k11, bs_, e2, bs_]
    exact ⟨s2, rfl, F1.tr F2, D2⟩
  · obtain ⟨s2, e2, F2, D2⟩ := d_next D
    rw [if_neg z, chk_t (isk_t D.k8), D.r7, dr_of D.k11, bs_, e2, bs_]
    exact ⟨s2, rfl, F2, D2⟩
theorem d_j55 {a : Int32} (D : Dd st H t n M f) : ∃ st2, fh_X7_takeFactSign_j55 (H + 5) a st = some st2 ∧ Fr (RdX H) st st2 ∧ Dd st2 H t n M f := by
  obtain ⟨F1, D1⟩ := d_items (v := gI st 706 (H + 5) + 1) D
  obtain ⟨s2, e2, F2, D2⟩ := d_take (a := a) D1
  refine ⟨s2, ?_, F1.tr F2, D2⟩
  unfold fh_X7_takeFactSign_j55
  rw [chk_t (isk_t D.k8), e2, bs_]
theorem d_sign (D : Dd st H t n M f) : ∃ st2, fh_X7_takeFactSign (H + 5) 1 st = some st2 ∧ Fr (RdX H) st st2 ∧ Dd st2 H t n M f := by
  obtain ⟨s2, e2, F2, D2⟩ := d_j55 (a := 0) D
  refine ⟨s2, ?_, F2, D2⟩
  unfold fh_X7_takeFactSign
  rw [if_neg (show ¬ (1 : Int32) = 60 by decide), if_neg (show ¬ (1 : Int32) = 61 by decide), if_neg (show ¬ (1 : Int32) = 62 by decide), if_neg (show ¬ (1 : Int32) = 3 by decide), if_neg (show ¬ (1 : Int32) = 4 by decide)]
  unfold fh_X7_takeFactSign_j33
  rw [if_pos rfl]; exact e2
/-- NOT as often as it was told -/
theorem d_nots {rec : Nat → Int32 → HSt → Option HSt} {d e : Nat} (D : Dd st H t n M f) (hd : d ≤ e) (he : e ≤ 20) : ∃ st2, fh_X7_readFact_j144 rec (H + 5) (nI d) (nI e) st = some st2 ∧ Fr (RdX H) st st2 ∧ Dd st2 H t n M f := by
  have key : ∀ k d st, e = d + k → Dd st H t n M f → ∀ N, k < N → ∃ st2, iter (fun x : (Int32 × HSt) => fh_X7_readFact_s147 rec (H + 5) (nI e) x.1 x.2) N (nI d, st) = some (.inr (nI e, st2)) ∧ Fr (RdX H) st st2 ∧ Dd st2 H t n M f := by
    intro k
    induction k with
    | zero =>
      intro d st hk D N hN
      obtain ⟨N, rfl⟩ : ∃ N', N = N' + 1 := ⟨N - 1, by omega⟩
      have hde : d = e := by omega
      subst hde
      have s : fh_X7_readFact_s147 rec (H + 5) (nI d) (nI d) st = some (.inr (.inr (nI d, st))) := by
        unfold fh_X7_readFact_s147
        rw [if_pos (nI_le (Nat.le_refl _) (by omega))]
      exact ⟨st, iter_x (s1 := fun x : (Int32 × HSt) => fh_X7_readFact_s147 rec (H + 5) (nI d) x.1 x.2) (x := (nI d, st)) (y := (nI d, st)) s, Fr.rf, D⟩
    | succ k ih =>
      intro d st hk D N hN
      obtain ⟨N, rfl⟩ : ∃ N', N = N' + 1 := ⟨N - 1, by omega⟩
      obtain ⟨s1, e1, F1, D1⟩ := d_put (x := -269) D
      have s : fh_X7_readFact_s147 rec (H + 5) (nI e) (nI d) st = some (.inr (.inl (nI (d + 1), s1))) := by
        unfold fh_X7_readFact_s147
        rw [if_neg (nI_ge (show d < e by omega) (by omega)), chk_t (isk_t D.k8), e1, bs_, nI_1]
      obtain ⟨s2, e2, F2, D2⟩ := ih (d + 1) s1 (by omega) D1 N (by omega)
      exact ⟨s2, by rw [iter_c (s1 := fun x : (Int32 × HSt) => fh_X7_readFact_s147 rec (H + 5) (nI e) x.1 x.2) (x := (nI d, st)) (y := (nI (d + 1), s1)) s]; exact e2, F1.tr F2, D2⟩
  obtain ⟨s2, e2, F2, D2⟩ := key (e - d) d st (by omega) D mFuel (by rw [mFuel_eq]; omega)
  refine ⟨s2, ?_, F2, D2⟩
  unfold fh_X7_readFact_j144
  rw [e2]; rfl
/-- behind the SUM of a FACT -/
theorem d_after {rec : Nat → Int32 → HSt → Option HSt} {d e : Nat} (D : Dd st H t n M f) (hd : d ≤ e) (he : e ≤ 20) : ∃ st2, ((fh_X10_kind H st).bind fun x18 => chk (isk x18.1 (H + 5) 8) ((fh_X7_takeFactSign (H + 5) x18.2 x18.1).bind fun x21 => chk (isk x21 (H + 5) 8) ((fh_X7_readSum (H + 5) x21).bind fun x24 => chk (isk x24 (H + 5) 8) ((fh_X7_put (H + 5) (-x18.2) x24).bind fun x27 => fh_X7_readFact_j144 rec (H + 5) (nI d) (nI e) x27)))) = some st2 ∧ Fr (RdX H) st st2 ∧ Dd st2 H t n M f := by
  obtain ⟨s2, e2, F2, D2⟩ := d_sign D
  obtain ⟨s3, e3, F3, D3⟩ := d_sum D2
  obtain ⟨s4, e4, F4, D4⟩ := d_put (x := -(1 : Int32)) D3
  obtain ⟨s5, e5, F5, D5⟩ := d_nots (rec := rec) D4 hd he
  refine ⟨s5, ?_, ((F2.tr F3).tr F4).tr F5, D5⟩
  rw [d_kind D, bs_]
  dsimp only
  rw [chk_t (isk_t D.k8), e2, bs_, chk_t (isk_t D2.k8), e3, bs_, chk_t (isk_t D3.k8), e4, bs_, e5]
theorem d_fact {rec : Nat → Int32 → HSt → Option HSt} {d : Nat} (D : Dd st H t n M f) (hd : d ≤ 20) : ∃ st2, fh_X7_readFact rec (H + 5) (nI d) st = some st2 ∧ Fr (RdX H) st st2 ∧ Dd st2 H t n M f := by
  obtain ⟨s1, e1, F1, D1⟩ := d_sum D
  obtain ⟨s2, e2, F2, D2⟩ := d_after (rec := rec) (d := d) (e := d) D1 (Nat.le_refl _) hd
  refine ⟨s2, ?_, F1.tr F2, D2⟩
  obtain ⟨N, hN⟩ := mFuel_5
  have j70 : fh_X7_readFact_j70 rec (H + 5) (nI d) (nI d) 1 st = some s2 := by
    unfold fh_X7_readFact_j70
    rw [if_neg (show ¬ (1 : Int32) = 91 by decide), chk_t (isk_t D.k8), e1, bs_, chk_t (isk_t D1.k8), D1.r7, dr_of D1.k11, bs_]
    exact e2
  have j34 : fh_X7_readFact_j34 rec (H + 5) (nI d) (nI d) st = some s2 := by
    unfold fh_X7_readFact_j34
    rw [chk_t (isk_t D.k8), D.r7, dr_of D.k11, bs_, d_kind D, bs_]
    dsimp only
    rw [if_neg (show ¬ (1 : Int32) = 269 by decide), if_neg (show ¬ (1 : Int32) = 91 by decide), j70]
    split <;> rfl
  have s : fh_X7_readFact_s2 rec (H + 5) (nI d) (nI d) st = some (.inr (.inr (nI d, st))) := by
    unfold fh_X7_readFact_s2
    rw [chk_t (isk_t D.k8), D.r7, dr_of D.k11, bs_, d_kind D, bs_]
    dsimp only
    rw [if_neg (show ¬ (1 : Int32) = 269 by decide)]
    split <;> rfl
  unfold fh_X7_readFact
  rw [hN, iter_x (s1 := fun x : (Int32 × HSt) => fh_X7_readFact_s2 rec (H + 5) (nI d) x.1 x.2) (x := (nI d, st)) (y := (nI d, st)) s]
  exact j34
/-- the rest of a TEST's turn behind a fault -/
theorem d_j61 {rec : Nat → Int32 → HSt → Option HSt} {a v : Int32} (D : Dd st H t n M f) : ∃ st2, fh_X7_readTest_j61 rec (H + 5) a v st = some (.inl st2) ∧ Fr (RdX H) st st2 ∧ Dd st2 H t n M f := by
  have j72 : ∀ {s : HSt}, Dd s H t n M f → fh_X7_readTest_j72 rec (H + 5) a v s = some (.inl s) := fun {s} D => by
    unfold fh_X7_readTest_j72
    rw [chk_t (isk_t D.k8), D.r7, dr_of D.k11, bs_, d_kind D, bs_]
    dsimp only
    rw [if_neg (show ¬ (1 : Int32) = 267 by decide)]
  unfold fh_X7_readTest_j61
  by_cases z : v ≤ 0
  · rw [if_pos z]; exact ⟨st, j72 D, Fr.rf, D⟩
  · obtain ⟨s1, e1, F1, D1⟩ := d_put (x := -267) D
    rw [if_neg z, chk_t (isk_t D.k8), e1, bs_]
    exact ⟨s1, j72 D1, F1, D1⟩
theorem d_s16 {rec : Nat → Int32 → HSt → Option HSt} {a v w : Int32} {N : Nat} (D : Dd st H t n M f) : iter (fun x : (Int32 × HSt) => fh_X7_readTest_s16 rec (H + 5) a v x.1 x.2) (N + 1) (w, st) = some (.inr (w, st)) := by
  refine iter_x (s1 := fun x : (Int32 × HSt) => fh_X7_readTest_s16 rec (H + 5) a v x.1 x.2) (x := (w, st)) (y := (w, st)) ?_
  show fh_X7_readTest_s16 rec (H + 5) a v w st = _
  unfold fh_X7_readTest_s16
  rw [chk_t (isk_t D.k8), D.r7, dr_of D.k11, bs_, d_kind D, bs_]
  dsimp only
  rw [if_neg (show ¬ (1 : Int32) = 268 by decide)]
  split <;> rfl
end DEAD
