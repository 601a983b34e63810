/-! reading a RULE: the reference's stack of open signs -/
def stI (g : Nat → Int32) : List Nat → Prop
  | [] => True
  | x :: S => g S.length = nI x ∧ stI g S
def StR (ms : MSt) (S : List Nat) : Prop := ms.1 22 = nI S.length ∧ stI (ms.2.1 21) S
def stC (cd : Nat → Nat × Nat) (s : Nat) : List Nat → Prop
  | [] => True
  | x :: P => cd s = (x, 0) ∧ stC cd (s + 1) P
def c11 : List Nat → Nat
  | [] => 0
  | x :: P => (if x = 11 then 1 else 0) + c11 P
def sgS (x : Nat) : Nat := if x = 13 then 1 else if x = 12 then 2 else if x = 11 then 3 else 0
theorem stI_up {g : Nat → Int32} {z : Int32} {j : Nat} : ∀ {S : List Nat}, stI g S → S.length ≤ j → stI (upd g j z) S
  | [], _, _ => True.intro
  | x :: S, h, hj => by
    have : S.length < j := hj
    exact ⟨by rw [pk_un (by omega)]; exact h.1, stI_up h.2 (by omega)⟩
theorem m_strength {x : Nat} (h : x < 1000) : fm_strength (nI x) = some (nI (sgS x)) := by
  have q : ∀ a, a < 1000 → (nI x = nI a ↔ x = a) := fun a ha => nI_eq (by omega) (by omega)
  have q13 : nI x = (13 : Int32) ↔ x = 13 := q 13 (by omega)
  have q12 : nI x = (12 : Int32) ↔ x = 12 := q 12 (by omega)
  have q11 : nI x = (11 : Int32) ↔ x = 11 := q 11 (by omega)
  unfold fm_strength sgS
  by_cases a : x = 13
  · rw [if_pos (q13.mpr a), if_pos a]; rfl
  rw [if_neg (fun y => a (q13.mp y)), if_neg a]
  by_cases b : x = 12
  · rw [if_pos (q12.mpr b), if_pos b]; rfl
  rw [if_neg (fun y => b (q12.mp y)), if_neg b]
  by_cases c : x = 11
  · rw [if_pos (q11.mpr c), if_pos c]; rfl
  rw [if_neg (fun y => c (q11.mp y)), if_neg c]; rfl
def mSt (k : Nat) : Bool := k == 3 || k == 4 || k == 19 || k == 22
def mRt (k : Nat) : Bool := k == 3 || k == 4 || k == 14 || k == 15 || k == 16 || k == 18 || k == 19 || k == 21 || k == 22
theorem mRu_t : ∀ k, mRu k = true → mRt k = true := fun k h => by
  unfold mRu at h
  rcases (by simpa using h : ((((k = 3 ∨ k = 4) ∨ k = 14) ∨ k = 15) ∨ k = 16) ∨ k = 18) with ((((z | z) | z) | z) | z) | z <;> rw [z] <;> rfl
/-- what the reference changes as it reads a TEST of text k -/
def MT (k : Nat) (ms ms2 : MSt) : Prop := MF mRt ms ms2 ∧ ∀ x, x < 400 * k → ms2.2.1 3 x = ms.2.1 3 x
theorem MT.rf {k : Nat} {ms : MSt} : MT k ms ms := ⟨MF.rf, fun _ _ => rfl⟩
theorem MT.tr {k : Nat} {a b c : MSt} (h : MT k a b) (g : MT k b c) : MT k a c := ⟨h.1.tr g.1, fun x hx => (g.2 x hx).trans (h.2 x hx)⟩
theorem MG.t {k : Nat} {a b : MSt} (h : MG k a b) : MT k a b := ⟨h.1.mo mRu_t, h.2⟩
theorem MT.i {k f : Nat} {a : MSt} {v : Int32} (h : mRt f = true) : MT k a (msi a f v) := ⟨MF.msi h, fun _ _ => rfl⟩
theorem mSt_u : ∀ k, mSt k = true → mRt k = true := fun k h => by
  unfold mSt at h
  rcases (by simpa using h : ((k = 3 ∨ k = 4) ∨ k = 19) ∨ k = 22) with ((z | z) | z) | z <;> rw [z] <;> rfl
/-- signs of at least this strength are put, the rest stays -/
theorem m_settle {k L : Nat} {cd : Nat → Nat × Nat} {S : List Nat} (hS : S = [] ∨ ∃ x S', S = x :: S' ∧ sgS x < L ∧ x < 1000) (hL : L ≤ 3) : ∀ (P : List Nat) (ms : MSt) (s dp F : Nat), StR ms (P ++ S) → (∀ x, x ∈ P → L ≤ sgS x ∧ 11 ≤ x ∧ x < 1000) → CdM ms k cd s → stC cd s P → ms.1 17 = nI k → k < 6 → s + P.length + S.length ≤ 400 → ms.1 19 = nI (dp + c11 P) → P.length < F →
    ∃ ms2, iter (fun x : MSt => fm_settles_s0 (nI L) x) F ms = some (.inr ms2) ∧ StR ms2 S ∧ CdM ms2 k cd (s + P.length) ∧ ms2.1 19 = nI dp ∧ MF mSt ms ms2 ∧ ∀ x, x < 400 * k → ms2.2.1 3 x = ms.2.1 3 x
  | [], ms, s, dp, F, hT, hP, hC, hc, h17, hk, hs, h19, hF => by
    obtain ⟨F, rfl⟩ : ∃ F', F = F' + 1 := ⟨F - 1, by omega⟩
    obtain ⟨a, b⟩ := hT
    change ms.1 22 = nI S.length at a
    change stI (ms.2.1 21) S at b
    have hl : S.length ≤ 400 := by omega
    refine ⟨ms, iter_x (s1 := fun x : MSt => fm_settles_s0 (nI L) x) (x := ms) ?_, ⟨a, b⟩, hC, h19, MF.rf, fun _ _ => rfl⟩
    show fm_settles_s0 (nI L) ms = _
    unfold fm_settles_s0
    rcases hS with z | ⟨x, S', z, z2, z3⟩
    · rw [a, z, if_pos (by decide)]
    · subst z
      have hl' : S'.length + 1 ≤ 400 := hl
      change ms.1 22 = nI (S'.length + 1) at a
      rw [a, if_neg (show ¬ nI (S'.length + 1) ≤ (0 : Int32) from nI_ge (b := S'.length + 1) (a := 0) (by omega) (by omega)), nI_pred, chk_t (inb_n (by omega) (by omega)), nI_clamp (by omega), b.1, m_strength z3, bs_, if_pos (nI_lt z2 (by omega))]
  | x :: P, ms, s, dp, F, hT, hP, hC, hc, h17, hk, hs, h19, hF => by
    obtain ⟨F, rfl⟩ : ∃ F', F = F' + 1 := ⟨F - 1, by omega⟩
    obtain ⟨a, b⟩ := hT
    have hlen : (x :: P ++ S).length = (P ++ S).length + 1 := rfl
    have hPS : (P ++ S).length = P.length + S.length := List.length_append
    have hxl : (x :: P).length = P.length + 1 := rfl
    rw [hlen] at a
    obtain ⟨b1, b2⟩ := b
    change ms.2.1 21 (P ++ S).length = nI x at b1
    change stI (ms.2.1 21) (P ++ S) at b2
    obtain ⟨x1, x2, x3⟩ := hP x (List.mem_cons_self ..)
    have sg4 : sgS x ≤ 3 := by
      unfold sgS
      split
      · omega
      · split
        · omega
        · split <;> omega
    obtain ⟨d1, d2⟩ := hc
    let m1 := msi ms 22 (nI (P ++ S).length)
    have p1 : fm_puts (nI x) 0 m1 = some (putM m1 k s (nI x)) := by
      have := m_puts (ms := m1) (a := nI x) (b := 0) (k := k) (sz := s) (by show (msi ms 22 _).1 17 = _; rw [msi_n (by omega)]; exact h17) hk hC.1 (by omega)
      rw [show (16 : Int32) * 0 = 0 by decide, Int32.add_zero] at this
      exact this
    let m2 := putM m1 k s (nI x)
    have i22 : m2.1 22 = nI (P ++ S).length := msi_s ms 22 _
    have a21 : m2.2.1 21 = ms.2.1 21 := by
      show (msa (msa m1 3 (400 * k + s) (nI x)) 4 k (nI (s + 1))).2.1 21 = _
      rw [msa_n (by omega), msa_n (by omega)]; rfl
    have C2 : CdM m2 k cd (s + 1) := putM_c (c := (x, 0)) (show CdM m1 k cd s from hC) d1 (by
      show nI x = if x ≤ 1 then nI (x + 16 * 0) else nI x
      rw [if_neg (by omega)])
    have i19 : m2.1 19 = nI (dp + c11 (x :: P)) := by
      show (msi ms 22 (nI (P ++ S).length)).1 19 = _
      rw [msi_n (by omega)]; exact h19
    let m3 := if x = 11 then msi m2 19 (nI (dp + c11 P)) else m2
    have F2 : MF mSt ms m2 := (MF.msi rfl).tr ((MF.msa rfl).tr (MF.msa rfl))
    have G2 : MG k m1 m2 := putM_G
    have F3 : MF mSt ms m3 := by
      show MF mSt ms (if x = 11 then msi m2 19 (nI (dp + c11 P)) else m2)
      split
      · exact F2.tr (MF.msi rfl)
      · exact F2
    have a3 : m3.2 = m2.2 := by
      show (if x = 11 then msi m2 19 (nI (dp + c11 P)) else m2).2 = _
      split <;> rfl
    have st : fm_settles_s0 (nI L) ms = some (.inr (.inl m3)) := by
      unfold fm_settles_s0
      rw [a, if_neg (show ¬ nI ((P ++ S).length + 1) ≤ (0 : Int32) from nI_ge (b := (P ++ S).length + 1) (a := 0) (by omega) (by omega)), nI_pred, chk_t (inb_n (show (P ++ S).length < 400 by omega) (by omega)), nI_clamp (show (P ++ S).length < 2147483648 by omega), b1, m_strength x3, bs_, if_neg (nI_nlt x1 (by omega)), msi_s, chk_t (inb_n (show (P ++ S).length < 400 by omega) (by omega)), nI_clamp (show (P ++ S).length < 2147483648 by omega), show (msi ms 22 (nI (P ++ S).length)).2.1 21 (P ++ S).length = nI x from b1, p1, bs_]
      show chk (inb (m2.1 22) 400) (if m2.2.1 21 (m2.1 22).toNatClampNeg = 11 then (some (.inr (.inl (msi m2 19 (m2.1 19 - 1)))) : Option (MSt ⊕ (MSt ⊕ MSt))) else some (.inr (.inl m2))) = some (.inr (.inl (if x = 11 then msi m2 19 (nI (dp + c11 P)) else m2)))
      rw [i22, chk_t (inb_n (show (P ++ S).length < 400 by omega) (by omega)), nI_clamp (show (P ++ S).length < 2147483648 by omega), a21, b1]
      by_cases e : x = 11
      · rw [if_pos (show nI x = (11 : Int32) by rw [e]; rfl), if_pos e, i19]
        have : dp + c11 (x :: P) = dp + c11 P + 1 := by show dp + ((if x = 11 then 1 else 0) + c11 P) = _; rw [if_pos e]; omega
        rw [this, nI_pred]
      · rw [if_neg (show ¬ nI x = (11 : Int32) from fun y => e ((nI_eq (b := 11) (by omega) (by omega)).mp y)), if_neg e]
    have i19' : m3.1 19 = nI (dp + c11 P) := by
      show (if x = 11 then msi m2 19 (nI (dp + c11 P)) else m2).1 19 = _
      by_cases e : x = 11
      · rw [if_pos e, msi_s]
      · rw [if_neg e, i19]
        have : c11 (x :: P) = c11 P := by show (if x = 11 then 1 else 0) + c11 P = _; rw [if_neg e]; omega
        rw [this]
    have i22' : m3.1 22 = nI (P ++ S).length := by
      show (if x = 11 then msi m2 19 (nI (dp + c11 P)) else m2).1 22 = _
      split
      · rw [msi_n (by omega)]; exact i22
      · exact i22
    have C3 : CdM m3 k cd (s + 1) := by unfold CdM; rw [a3]; exact C2
    obtain ⟨ms2, e2, T2, D2, q2, M2, R2⟩ := m_settle (k := k) (L := L) (cd := cd) hS hL P m3 (s + 1) dp F ⟨i22', by rw [a3, a21]; exact b2⟩ (fun y hy => hP y (List.mem_cons_of_mem _ hy)) C3 d2 (by rw [F3.I 17 rfl]; exact h17) hk (by omega) i19' (by omega)
    refine ⟨ms2, ?_, T2, by rw [show s + (x :: P).length = s + 1 + P.length by omega]; exact D2, q2, F3.tr M2, fun y hy => ?_⟩
    · rw [iter_c (s1 := fun x : MSt => fm_settles_s0 (nI L) x) (x := ms) (y := m3) st]; exact e2
    · rw [R2 y hy, a3]
      exact G2.2 y hy
/-- is a bracket open? -/
theorem stI_m {g : Nat → Int32} : ∀ {S : List Nat}, stI g S → (∀ x, x ∈ S → x < 1000) → (91 ∈ S ↔ ∃ j, j < S.length ∧ g j = 91)
  | [], _, _ => ⟨fun h => absurd h (List.not_mem_nil), fun ⟨j, hj, _⟩ => absurd hj (Nat.not_lt_zero _)⟩
  | x :: S, h, hb => by
    have ih := stI_m h.2 (fun y hy => hb y (List.mem_cons_of_mem _ hy))
    have hx := hb x (List.mem_cons_self ..)
    have e : nI x = (91 : Int32) ↔ x = 91 := nI_eq (b := 91) (by omega) (by omega)
    refine ⟨fun q => ?_, fun ⟨j, hj, gj⟩ => ?_⟩
    · rcases List.mem_cons.mp q with z | z
      · exact ⟨S.length, Nat.lt_succ_self _, by rw [h.1, ← z]; rfl⟩
      · obtain ⟨j, hj, gj⟩ := ih.mp z
        exact ⟨j, Nat.lt_succ_of_lt hj, gj⟩
    · have hj' : j < S.length + 1 := hj
      by_cases z : j = S.length
      · rw [z, h.1] at gj
        rw [e.mp gj]; exact List.mem_cons_self ..
      · exact List.mem_cons_of_mem _ (ih.mpr ⟨j, by omega, gj⟩)
theorem m_inside {ms : MSt} {S : List Nat} (h : StR ms S) (hl : S.length ≤ 400) (hb : ∀ x, x ∈ S → x < 1000) : fm_isInside ms = some (ms, if 91 ∈ S then 1 else 0) := by
  have key := stI_m h.2 hb
  have run := iter_m (ο := MSt × Int32) (s1 := fun x : (Int32 × MSt) => fm_isInside_s2 x.1 x.2) (fun j (x : Int32 × MSt) => x = (nI j, ms) ∧ ∀ i, i < j → ms.2.1 21 i ≠ 91) S.length (fun o => o = (ms, 1) ∧ ∃ j, j < S.length ∧ ms.2.1 21 j = 91) (fun y => y.2 = ms ∧ ∀ j, j < S.length → ms.2.1 21 j ≠ 91) (by
    rintro j x hj ⟨rfl, hn⟩
    show (∃ o, fm_isInside_s2 (nI j) ms = some (.inl o) ∧ _) ∨ (∃ y, fm_isInside_s2 (nI j) ms = some (.inr (.inl y)) ∧ _) ∨ (∃ y, fm_isInside_s2 (nI j) ms = some (.inr (.inr y)) ∧ _)
    unfold fm_isInside_s2
    rw [h.1]
    rcases Nat.lt_or_ge j S.length with z | z
    · rw [if_neg (nI_ge z (by omega)), chk_t (inb_n (show j < 400 by omega) (by omega)), nI_clamp (by omega)]
      by_cases e : ms.2.1 21 j = 91
      · rw [if_pos e]; exact Or.inl ⟨_, rfl, rfl, j, z, e⟩
      · rw [if_neg e, nI_1]
        refine Or.inr (Or.inl ⟨_, rfl, ⟨rfl, fun i hi => ?_⟩, z⟩)
        by_cases y : i = j
        · rw [y]; exact e
        · exact hn i (by omega)
    · rw [if_pos (nI_le z (by omega))]
      exact Or.inr (Or.inr ⟨_, rfl, rfl, fun i hi => hn i (by omega)⟩)) (x := ((0 : Int32), ms)) ⟨rfl, fun i hi => absurd hi (Nat.not_lt_zero _)⟩ (by omega)
  unfold fm_isInside
  rcases run with ⟨o, e, r1, r2⟩ | ⟨y, e, r1, r2⟩
  · rw [e, if_pos (key.mpr r2), r1]; rfl
  · rw [e, if_neg (fun z => by obtain ⟨j, hj, gj⟩ := key.mp z; exact r2 j hj gj)]
    show fm_isInside_j29 y.2 = _
    rw [r1]; rfl
