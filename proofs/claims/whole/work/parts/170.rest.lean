/-! reading a RULE: AND, OR and the end of a TEST -/
section RTS
variable {st : HSt} {ms : MSt} {H n M i p k sz it dp : Nat} {cd : Nat → Nat × Nat} {P S : List Nat}
/-- AND (x = 12) or OR (x = 13) follows; m has passed the blanks -/
theorem RT.and_ {x c : Nat} (R : RT st ms H n M i (ps (ms.2.1 0) n i) k cd sz it P S dp) (hc : gA st (H + 1) i = nI c) (hx : (c = 268 ∧ x = 12 ∧ (∀ y, y ∈ P → y = 12) ∧ (S = [] ∨ ∃ y S', S = y :: S' ∧ sgS y < 2)) ∨ (c = 267 ∧ x = 13 ∧ (∀ y, y ∈ P → y = 12 ∨ y = 13) ∧ (S = [] ∨ ∃ y S', S = y :: S' ∧ sgS y < 1))) : ∃ st2 ms2 q2, fh_X10_next H st = some st2 ∧ Fr (fun b => b = H) st st2 ∧ (∀ F, Kr (F + 1) ms = Kf mFuel F ms2) ∧ MT k ms ms2 ∧ i < M ∧ RT st2 ms2 H n M (i + 1) q2 k cd sz it [] (x :: S) dp := by
  obtain ⟨hiM, hM⟩ := R.t0
  have h9 : c < 279 := by omega
  obtain ⟨hi, te⟩ := R.tE_w (j := c - 256) (by omega) (by rw [hc, show 256 + (c - 256) = c by omega])
  obtain ⟨st2, e2, F2, R2, c2⟩ := R.next hi
  generalize hm2 : msi ms 14 (nI (tE (ms.2.1 0) n (ps (ms.2.1 0) n i))) = m2 at R2
  have G2 : MT k ms m2 := by rw [← hm2]; exact MT.i rfl
  have pw : fm_passWord ms = some m2 := by rw [m_passWord R.1.2.1, ← te, hm2]
  have hst : ∃ L, nI (sgS x) = nI L ∧ L = sgS x ∧ L ≤ 3 ∧ (∀ y, y ∈ P → L ≤ sgS y) ∧ (S = [] ∨ ∃ y S', S = y :: S' ∧ sgS y < L) := by
    rcases hx with ⟨-, z2, z3, z4⟩ | ⟨-, z2, z3, z4⟩
    · subst z2; exact ⟨2, rfl, rfl, by omega, fun y hy => by rw [z3 y hy]; decide, z4⟩
    · subst z2; exact ⟨1, rfl, rfl, by omega, fun y hy => by rcases z3 y hy with z | z <;> rw [z] <;> decide, z4⟩
  obtain ⟨L, -, hL, hL3, hP, hS⟩ := hst
  obtain ⟨m3, e3, G3, R3⟩ := R2.settle hL3 hP hS
  have R4 := R3.push (x := x) (d2 := dp) (by omega) c2
  have d3 : m3.1 19 = nI dp := R3.2.2.2.2.2.2.2.2.1
  have id4 : msi (pushM m3 S.length (nI x)) 19 (nI dp) = pushM m3 S.length (nI x) := msi_id (by
    show (msi (msa m3 21 S.length (nI x)) 22 (nI (S.length + 1))).1 19 = _
    rw [msi_n (by omega)]; exact d3)
  rw [id4] at R4
  have G4 : MT k m3 (pushM m3 S.length (nI x)) := by
    have := push_T (k := k) (ms := m3) (l := S.length) (d2 := dp) (x := nI x)
    rw [id4] at this; exact this
  have s22 : m3.1 22 = nI S.length := R3.st_.1
  have j76 : fm_tested_j76 1 (nI x) ms = some (.inr (.inl (1, pushM m3 S.length (nI x)))) := by
    unfold fm_tested_j76
    rw [pw, bs_, m_strength (by omega), bs_, ← hL, e3, bs_, s22, chk_t (inb_n (show S.length < 400 by have := R.cap; omega) (by omega)), nI_clamp (by have := R.cap; omega), msa_I, s22, nI_1]
    rfl
  have W12 := R.isW (j := 12) hc h9 (by omega)
  have W11 := R.isW (j := 11) hc h9 (by omega)
  have rs : Krs ms = some (.inr (.inl (1, pushM m3 S.length (nI x)))) := by
    unfold Krs
    rw [wV_12, wV_11, W12, bs_]
    dsimp only
    rcases hx with ⟨z1, z2, -⟩ | ⟨z1, z2, -⟩
    · subst z2
      rw [if_pos (show c = 256 + 12 by omega), if_neg (show ¬ (1 : Int32) = 0 by decide)]
      unfold fm_tested_j49 fm_tested_j54
      rw [if_neg (show ¬ (1 : Int32) = 0 by decide), wV_12, W12, bs_]
      dsimp only
      rw [if_pos (show c = 256 + 12 by omega), if_neg (show ¬ (1 : Int32) = 0 by decide)]
      exact j76
    · subst z2
      rw [if_neg (show ¬ c = 256 + 12 by omega), if_pos rfl, W11, bs_]
      dsimp only
      rw [if_pos (show c = 256 + 11 by omega), if_neg (show ¬ (1 : Int32) = 0 by decide)]
      unfold fm_tested_j49 fm_tested_j54
      rw [if_neg (show ¬ (1 : Int32) = 0 by decide), wV_12, W12, bs_]
      dsimp only
      rw [if_neg (show ¬ c = 256 + 12 by omega), if_pos rfl]
      exact j76
  refine ⟨st2, _, _, e2, F2, fun F => ?_, (G2.tr G3).tr G4, hi, R4⟩
  unfold Kr
  rw [rs]
  exact K_it
/-- neither AND nor OR: the TEST ends -/
theorem RT.end_ {c : Nat} (R : RT st ms H n M i (ps (ms.2.1 0) n i) k cd sz it P S dp) (hc : gA st (H + 1) i = nI c) (h9 : c < 279) (h1 : c ≠ 268) (h2 : c ≠ 267) (F : Nat) : Kr (F + 1) ms = fm_tested_j112 ms := by
  have W12 := R.isW (j := 12) hc h9 (by omega)
  have W11 := R.isW (j := 11) hc h9 (by omega)
  have rs : Krs ms = some (.inr (.inl (0, ms))) := by
    unfold Krs
    rw [wV_12, wV_11, W12, bs_]
    dsimp only
    rw [if_neg (show ¬ c = 256 + 12 by omega), if_pos rfl, W11, bs_]
    dsimp only
    rw [if_neg (show ¬ c = 256 + 11 by omega), if_pos rfl]
    unfold fm_tested_j54
    rw [if_pos rfl]
  have s : fm_tested_s12 0 ms = some (.inr (.inr (0, ms))) := by
    unfold fm_tested_s12
    rw [if_pos rfl]
  unfold Kr
  rw [rs, bs_]
  show Kend (iter (fun x : (Int32 × MSt) => fm_tested_s12 x.1 x.2) (F + 1) (0, ms)) = _
  rw [iter_x (s1 := fun x : (Int32 × MSt) => fm_tested_s12 x.1 x.2) (x := (0, ms)) s]
  rfl
/-- the end within brackets is a fault -/
theorem RT.endB {c : Nat} (R : RT st ms H n M i (ps (ms.2.1 0) n i) k cd sz it P S dp) (hc : gA st (H + 1) i = nI c) (h9 : c < 279) (h1 : c ≠ 268) (h2 : c ≠ 267) (hb : 91 ∈ P ++ S) (F : Nat) : Kr (F + 1) ms = some (msi ms 15 (nI (1 + 8 * ps (ms.2.1 0) n i + 0)), 0) := by
  rw [R.end_ hc h9 h1 h2]
  have ins := m_inside R.st_ R.len.1 (fun x hx => (R.bnd x hx).2)
  rw [if_pos hb] at ins
  have q14 : ms.1 14 = nI (ps (ms.2.1 0) n i) := R.1.2.1.2.2.1
  have see : fm_see ms = some (ms, sv (ms.2.1 0) n (ps (ms.2.1 0) n i)) := by rw [j_see2 R.1, msi_id q14]
  unfold fm_tested_j112
  rw [ins, bs_]
  dsimp only
  rw [if_neg (show ¬ (1 : Int32) = 0 by decide), see, bs_]
  dsimp only
  rw [q14, show fm_fails (0 : Int32) (nI (ps (ms.2.1 0) n i)) ms = some (msi ms 15 (nI (1 + 8 * ps (ms.2.1 0) n i + 0)), 0) from m_fails (a := 0) R.1.2.2.1, bs_]
  exact chk_t (show isb (0 : Int32) = true by decide)
/-- the end of the outermost TEST -/
theorem RT.endT {c : Nat} (R : RT st ms H n M i (ps (ms.2.1 0) n i) k cd sz it P [] dp) (hc : gA st (H + 1) i = nI c) (h9 : c < 279) (h1 : c ≠ 268) (h2 : c ≠ 267) (hP : ∀ y, y ∈ P → y = 12 ∨ y = 13) (F : Nat) : ∃ ms2, Kr (F + 1) ms = some (ms2, 1) ∧ MT k ms ms2 ∧ RT st ms2 H n M i (ps (ms.2.1 0) n i) k cd sz it [] [] dp := by
  have ins := m_inside R.st_ R.len.1 (fun x hx => (R.bnd x hx).2)
  rw [if_neg (fun z => by
    rw [List.append_nil] at z
    rcases hP 91 z with y | y <;> omega)] at ins
  obtain ⟨m3, e3, G3, R3⟩ := R.settle (L := 1) (by omega) (fun x hx => by rcases hP x hx with z | z <;> rw [z] <;> decide) (Or.inl rfl)
  have e3' : fm_settles (1 : Int32) ms = some m3 := e3
  refine ⟨m3, ?_, G3, R3⟩
  rw [R.end_ hc h9 h1 h2]
  unfold fm_tested_j112
  rw [ins, bs_]
  dsimp only
  rw [if_pos rfl, e3', bs_]
end RTS
/-- what a TEST's reader must do, both sides -/
def TestOk (rec : Nat → Int32 → HSt → Option HSt) (H n M k d : Nat) (t : Nat → Int32) : Prop := ∀ (st : HSt) (ms : MSt) (i p : Nat) (cd : Nat → Nat × Nat) (sz it : Nat) (S : List Nat) (G F : Nat), RT st ms H n M i p k cd sz it [] S d → ms.2.1 0 = t → (S = [] ∨ ∃ S', S = 91 :: S') → M - i + 2 < G → M - i + 2 < F →
  ∃ st2, rec (H + 5) (nI d) st = some st2 ∧ Fr (RdX H) st st2 ∧
    ((∃ ms2 i2 q2 cd2 sz2 it2 P G2 F2, Kf G F ms = Kc G2 F2 ms2 ∧ MT k ms ms2 ∧ RT st2 ms2 H n M i2 q2 k cd2 sz2 it2 P S d ∧ (∀ y, y ∈ P → y = 12 ∨ y = 13) ∧ gA st2 (H + 1) i2 ≠ 268 ∧ gA st2 (H + 1) i2 ≠ 267 ∧ M - i2 + 2 < G2 ∧ M - i2 + 2 < F2 ∧ i < i2 ∧ it < it2 ∧ (∀ j, j < sz → cd2 j = cd j) ∧ Sg cd2 sz sz2 true (it2 - it)) ∨
     (∃ ms2 f, Kf G F ms = some (ms2, 0) ∧ MT k ms ms2 ∧ Dd st2 H t n M f ∧ ms2.1 15 = f))
/-- and a FACT's -/
def FactOk (rec : Nat → Int32 → HSt → Option HSt) (H n M k d : Nat) (t : Nat → Int32) : Prop := ∀ (st : HSt) (ms : MSt) (i p : Nat) (cd : Nat → Nat × Nat) (sz it : Nat) (S : List Nat) (G F : Nat), RT st ms H n M i p k cd sz it [] S d → ms.2.1 0 = t → (S = [] ∨ ∃ x S', S = x :: S' ∧ sgS x < 3) → M - i + 2 < G → M - i + 2 < F →
  ∃ st2, fh_X7_readFact rec (H + 5) (nI d) st = some st2 ∧ Fr (RdX H) st st2 ∧
    ((∃ ms2 i2 q2 cd2 sz2 it2 G2 F2, Kf G F ms = Kc G2 F2 ms2 ∧ MT k ms ms2 ∧ RT st2 ms2 H n M i2 q2 k cd2 sz2 it2 [] S d ∧ M - i2 + 2 < G2 ∧ M - i2 + 2 < F2 ∧ i < i2 ∧ it < it2 ∧ (∀ j, j < sz → cd2 j = cd j) ∧ Sg cd2 sz sz2 true (it2 - it)) ∨
     (∃ ms2 f, Kf G F ms = some (ms2, 0) ∧ MT k ms ms2 ∧ Dd st2 H t n M f ∧ ms2.1 15 = f))
/-- the NOTs ahead of a FACT -/
theorem j_ahead {rec : Nat → Int32 → HSt → Option HSt} {H n M k d : Nat} {S : List Nat} : ∀ (c e m : Nat) (st : HSt) (ms : MSt) (i p : Nat) (cd : Nat → Nat × Nat) (sz it : Nat) (N G F : Nat), e + c = 10 → e = d + m → RT st ms H n M i p k cd sz it [] (List.replicate m 11 ++ S) e → c < N → M - i + 2 < G →
    ∃ e2 m2 st2 ms2 i2 q2 G2, iter (fun x : (Int32 × HSt) => fh_X7_readFact_s2 rec (H + 5) (nI d) x.1 x.2) N (nI e, st) = some (.inr (nI e2, st2)) ∧ Kf G F ms = Kf G2 F ms2 ∧ Fr (RdX H) st st2 ∧ MT k ms ms2 ∧ e2 = d + m2 ∧ e2 ≤ 10 ∧ RT st2 ms2 H n M i2 q2 k cd sz it [] (List.replicate m2 11 ++ S) e2 ∧ i ≤ i2 ∧ M - i2 + 2 < G2 ∧ (e2 = 10 ∨ gA st2 (H + 1) i2 ≠ 269) := by
  intro c
  induction c with
  | zero =>
    intro e m st ms i p cd sz it N G F hc he R hN hG
    obtain ⟨N, rfl⟩ : ∃ N', N = N' + 1 := ⟨N - 1, by omega⟩
    have e10 : e = 10 := by omega
    have s : fh_X7_readFact_s2 rec (H + 5) (nI d) (nI e) st = some (.inr (.inr (nI e, st))) := by
      unfold fh_X7_readFact_s2
      rw [if_pos (show (10 : Int32) ≤ nI e from nI_le (a := 10) (by omega) (by omega))]
    exact ⟨e, m, st, ms, i, p, G, iter_x (s1 := fun x : (Int32 × HSt) => fh_X7_readFact_s2 rec (H + 5) (nI d) x.1 x.2) (x := (nI e, st)) (y := (nI e, st)) s, rfl, Fr.rf, MT.rf, he, by omega, R, Nat.le_refl _, hG, Or.inl e10⟩
  | succ c ih =>
    intro e m st ms i p cd sz it N G F hc he R hN hG
    obtain ⟨N, rfl⟩ : ∃ N', N = N' + 1 := ⟨N - 1, by omega⟩
    have c10 : ¬ (10 : Int32) ≤ nI e := nI_ge (b := 10) (by omega) (by omega)
    by_cases z : gA st (H + 1) i = 269
    · obtain ⟨G, rfl⟩ : ∃ G', G = G' + 1 := ⟨G - 1, by omega⟩
      obtain ⟨s1, m1, q1, e1, F1, K1, M1, hi, R1⟩ := R.open_ (x := 11) (c := 269) (by omega) z (Or.inl ⟨rfl, rfl⟩)
      have s : fh_X7_readFact_s2 rec (H + 5) (nI d) (nI e) st = some (.inr (.inl (nI (e + 1), s1))) := by
        unfold fh_X7_readFact_s2
        rw [if_neg c10, chk_t (isk_t R.k8), R.r7, dr_of R.k11, bs_, R.kind, bs_]
        dsimp only
        rw [if_pos z, chk_t (isk_t R.k8), R.r7, dr_of R.k11, bs_, e1, bs_, nI_1]
      obtain ⟨e2, m2, st2, ms2, i2, q2, G2, a1, a2, a3, a4, a5, a6, a7, a8, a9, a10⟩ := ih (e + 1) (m + 1) s1 m1 (i + 1) q1 cd sz it N G F (by omega) (by omega) R1 (by omega) (by omega)
      refine ⟨e2, m2, st2, ms2, i2, q2, G2, ?_, by rw [K1]; exact a2, (Frd F1).tr a3, M1.tr a4, a5, a6, a7, by omega, a9, a10⟩
      rw [iter_c (s1 := fun x : (Int32 × HSt) => fh_X7_readFact_s2 rec (H + 5) (nI d) x.1 x.2) (x := (nI e, st)) (y := (nI (e + 1), s1)) s]; exact a1
    · have s : fh_X7_readFact_s2 rec (H + 5) (nI d) (nI e) st = some (.inr (.inr (nI e, st))) := by
        unfold fh_X7_readFact_s2
        rw [if_neg c10, chk_t (isk_t R.k8), R.r7, dr_of R.k11, bs_, R.kind, bs_]
        dsimp only
        rw [if_neg z]
      exact ⟨e, m, st, ms, i, p, G, iter_x (s1 := fun x : (Int32 × HSt) => fh_X7_readFact_s2 rec (H + 5) (nI d) x.1 x.2) (x := (nI e, st)) (y := (nI e, st)) s, rfl, Fr.rf, MT.rf, he, by omega, R, Nat.le_refl _, hG, Or.inr z⟩
