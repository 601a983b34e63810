/-! a RIVER told: the reference puts it down -/
/-- a loop that writes n elements of a row from place b on -/
theorem cp_loop {A n b : Nat} {g : Nat → Int32} {s1 : (Int32 × MSt) → Option ((MSt × Int32) ⊕ ((Int32 × MSt) ⊕ (Int32 × MSt)))} {m : MSt} (hn : n < 1000) (hs : ∀ j s, j < n → MF (fun k => k == A) m s → s1 (nI j, s) = some (.inr (.inl (nI (j + 1), msa s A (b + j) (g j))))) (he : ∀ s, MF (fun k => k == A) m s → s1 (nI n, s) = some (.inr (.inr (nI n, s)))) : ∃ m2, iter s1 mFuel ((0 : Int32), m) = some (.inr (nI n, m2)) ∧ MF (fun k => k == A) m m2 ∧ m2.1 = m.1 ∧ ∀ i, m2.2.1 A i = if b ≤ i ∧ i < b + n then g (i - b) else m.2.1 A i := by
  obtain ⟨y, e, h1, h2, h3, h4⟩ := iter_n (s1 := s1) (fun j (x : Int32 × MSt) => x.1 = nI j ∧ MF (fun k => k == A) m x.2 ∧ x.2.1 = m.1 ∧ ∀ i, x.2.2.1 A i = if b ≤ i ∧ i < b + j then g (i - b) else m.2.1 A i) n (fun x => x.1 = nI n ∧ MF (fun k => k == A) m x.2 ∧ x.2.1 = m.1 ∧ ∀ i, x.2.2.1 A i = if b ≤ i ∧ i < b + n then g (i - b) else m.2.1 A i) (by
    rintro j ⟨x1, x2⟩ hj ⟨c1, c2, c3, c4⟩
    simp only at c1 c2 c3 c4
    subst c1
    refine ⟨_, hs j x2 hj c2, rfl, c2.tr (MF.msa (by simp)), c3, fun i => ?_⟩
    show (msa x2 A (b + j) (g j)).2.1 A i = _
    rw [msa_s]
    by_cases z : i = b + j
    · rw [z, pk_us, if_pos (by omega), show b + j - b = j by omega]
    · rw [pk_un z, c4 i]
      by_cases y : b ≤ i ∧ i < b + j
      · rw [if_pos y, if_pos (by omega)]
      · rw [if_neg y, if_neg (by omega)]) (by
    rintro ⟨x1, x2⟩ ⟨c1, c2, c3, c4⟩
    simp only at c1 c2 c3 c4
    subst c1
    exact ⟨_, he x2 c2, rfl, c2, c3, c4⟩) (x := ((0 : Int32), m)) ⟨rfl, MF.rf, rfl, fun i => by rw [if_neg (by omega)]⟩ (by omega)
  obtain ⟨y1, y2⟩ := y
  simp only at h1 h2 h3 h4
  subst h1
  exact ⟨y2, e, h2, h3, h4⟩
theorem idx_n {b j : Nat} : nI b + nI j = nI (b + j) := nI_add b j
/-- what 'said' holds once a RIVER is told -/
def ToldV (m : MSt) (v : Nat → Int32) (w k : Nat) (sp ic : Int32) : Prop := v 0 = nI w ∧ v 1 = 0 ∧ v 2 = sp ∧ v 3 = ic ∧ v 4 = nI k ∧ v 5 = m.2.1 26 5 ∧ v 6 = 0 ∧ v 7 = 0 ∧ (∀ j, j < 4 → v (8 + j) = m.2.1 11 j) ∧ (∀ j, j < 2 → v (12 + j) = m.2.1 12 j) ∧ (∀ j, j < 2 * k → v (14 + j) = m.2.1 13 j) ∧ (∀ j, j < 16 → v (30 + j) = 0) ∧ (∀ j, j < 80 → v (46 + j) = 99999)
noncomputable def rivT (m : MSt) : Option (MSt × Int32) := chk (inb (5 : Int32) 286) ((iter (fun x : (Int32 × MSt) => fm_river_s90 (m.2.1 26 (5 : Int32).toNatClampNeg) x.1 x.2) mFuel ((0 : Int32), m)).bind (Sum.elim (fun o : MSt × Int32 => (some o : Option (MSt × Int32))) (fun x : (Int32 × MSt) => fm_river_j110 (m.2.1 26 (5 : Int32).toNatClampNeg) x.2)))
theorem m_told {m : MSt} {w k : Nat} (h7 : m.1 7 = nI w) (h10 : m.1 10 = nI k) (hk : k ≤ 8) : ∃ m2, rivT m = some (m2, nI w) ∧ MF (fun k => k == 26) m m2 ∧ ToldV m (m2.2.1 26) w k (if 0 ≤ m.1 8 then m.1 8 else 1) (if 0 ≤ m.1 9 then m.1 9 else 0) := by
  have x5 : (5 : Int32).toNatClampNeg = 5 := by decide
  obtain ⟨a1, e1, F1, i1, v1⟩ := cp_loop (A := 26) (n := 286) (b := 0) (g := fun _ => 0) (m := m) (s1 := fun x : (Int32 × MSt) => fm_river_s90 (m.2.1 26 5) x.1 x.2) (by omega) (fun j s hj _ => by
    show fm_river_s90 (m.2.1 26 5) (nI j) s = _
    unfold fm_river_s90
    rw [if_neg (show ¬ (286 : Int32) ≤ nI j from nI_ge (b := 286) hj (by omega)), chk_t (inb_n hj (by omega)), nI_clamp (by omega), nI_1, Nat.zero_add]) (fun s _ => by
    show fm_river_s90 (m.2.1 26 5) (nI 286) s = _
    unfold fm_river_s90
    rw [if_pos (by decide)])
  unfold rivT
  rw [x5, chk_t (by decide), e1]
  show ∃ m2, fm_river_j110 (m.2.1 26 5) a1 = some (m2, nI w) ∧ _
  -- the single places
  let sp : Int32 := if 0 ≤ m.1 8 then m.1 8 else 1
  let ic : Int32 := if 0 ≤ m.1 9 then m.1 9 else 0
  let b1 := msa (msa (msa (msa (msa a1 26 0 (m.1 7)) 26 2 sp) 26 3 ic) 26 4 (m.1 10)) 26 5 (m.2.1 26 5)
  have Fb : MF (fun k => k == 26) m b1 := ((((F1.tr (MF.msa rfl)).tr (MF.msa rfl)).tr (MF.msa rfl)).tr (MF.msa rfl)).tr (MF.msa rfl)
  have ib : b1.1 = m.1 := i1
  have tail : ∃ m2, (iter (fun x : (Int32 × MSt) => fm_river_s181 x.1 x.2) mFuel ((0 : Int32), b1)).bind (Sum.elim (fun o : MSt × Int32 => (some o : Option (MSt × Int32))) (fun x : (Int32 × MSt) => fm_river_j207 x.2)) = some (m2, nI w) ∧ MF (fun k => k == 26) m m2 ∧ ToldV m (m2.2.1 26) w k sp ic := by
    obtain ⟨a2, e2, F2, i2, v2⟩ := cp_loop (A := 26) (n := 4) (b := 8) (g := fun j => m.2.1 11 j) (m := b1) (s1 := fun x : (Int32 × MSt) => fm_river_s181 x.1 x.2) (by omega) (fun j s hj G => by
      show fm_river_s181 (nI j) s = _
      unfold fm_river_s181
      rw [if_neg (show ¬ (4 : Int32) ≤ nI j from nI_ge (b := 4) hj (by omega)), chk_t (inb_n hj (by omega)), show (8 : Int32) + nI j = nI (8 + j) from idx_n (b := 8), chk_t (inb_n (by omega) (by omega)), nI_clamp (by omega), nI_clamp (by omega), nI_1, G.A 11 rfl, Fb.A 11 rfl]) (fun s _ => by
      show fm_river_s181 (nI 4) s = _
      unfold fm_river_s181
      rw [if_pos (by decide)])
    have G2 := Fb.tr F2
    rw [e2]
    show ∃ m2, fm_river_j207 a2 = some (m2, nI w) ∧ _
    obtain ⟨a3, e3, F3, i3, v3⟩ := cp_loop (A := 26) (n := 2) (b := 12) (g := fun j => m.2.1 12 j) (m := a2) (s1 := fun x : (Int32 × MSt) => fm_river_s209 x.1 x.2) (by omega) (fun j s hj G => by
      show fm_river_s209 (nI j) s = _
      unfold fm_river_s209
      rw [if_neg (show ¬ (2 : Int32) ≤ nI j from nI_ge (b := 2) hj (by omega)), chk_t (inb_n hj (by omega)), show (12 : Int32) + nI j = nI (12 + j) from idx_n (b := 12), chk_t (inb_n (by omega) (by omega)), nI_clamp (by omega), nI_clamp (by omega), nI_1, G.A 12 rfl, G2.A 12 rfl]) (fun s _ => by
      show fm_river_s209 (nI 2) s = _
      unfold fm_river_s209
      rw [if_pos (by decide)])
    have G3 := G2.tr F3
    unfold fm_river_j207
    rw [e3]
    show ∃ m2, fm_river_j235 a3 = some (m2, nI w) ∧ _
    have k10 : ∀ s, MF (fun k => k == 26) a3 s → (2 : Int32) * s.1 10 = nI (2 * k) := fun s G => by
      rw [G.I 10 rfl, G3.I 10 rfl, h10]; exact pk_mul 2 k
    obtain ⟨a4, e4, F4, i4, v4⟩ := cp_loop (A := 26) (n := 2 * k) (b := 14) (g := fun j => m.2.1 13 j) (m := a3) (s1 := fun x : (Int32 × MSt) => fm_river_s237 x.1 x.2) (by omega) (fun j s hj G => by
      show fm_river_s237 (nI j) s = _
      unfold fm_river_s237
      rw [k10 s G, if_neg (nI_ge hj (by omega)), chk_t (inb_n (show j < 16 by omega) (by omega)), show (14 : Int32) + nI j = nI (14 + j) from idx_n (b := 14), chk_t (inb_n (by omega) (by omega)), nI_clamp (by omega), nI_clamp (by omega), nI_1, G.A 13 rfl, G3.A 13 rfl]) (fun s G => by
      show fm_river_s237 (nI (2 * k)) s = _
      unfold fm_river_s237
      rw [k10 s G, if_pos (nI_le (Nat.le_refl _) (by omega))])
    have G4 := G3.tr F4
    unfold fm_river_j235
    rw [e4]
    show ∃ m2, fm_river_j268 a4 = some (m2, nI w) ∧ _
    obtain ⟨a5, e5, F5, i5, v5⟩ := cp_loop (A := 26) (n := 80) (b := 46) (g := fun _ => 99999) (m := a4) (s1 := fun x : (Int32 × MSt) => fm_river_s270 x.1 x.2) (by omega) (fun j s hj G => by
      show fm_river_s270 (nI j) s = _
      unfold fm_river_s270
      rw [if_neg (show ¬ (80 : Int32) ≤ nI j from nI_ge (b := 80) hj (by omega)), show (46 : Int32) + nI j = nI (46 + j) from idx_n (b := 46), chk_t (inb_n (by omega) (by omega)), nI_clamp (by omega), nI_1]) (fun s G => by
      show fm_river_s270 (nI 80) s = _
      unfold fm_river_s270
      rw [if_pos (by decide)])
    have G5 := G4.tr F5
    unfold fm_river_j268
    rw [e5]
    refine ⟨a5, ?_, G5, ?_⟩
    · show some (a5, a5.1 7) = _
      rw [G5.I 7 rfl, h7]
    have lo : ∀ i, i < 8 → a5.2.1 26 i = b1.2.1 26 i := fun i hi => by
      rw [v5, if_neg (by omega), v4, if_neg (by omega), v3, if_neg (by omega), v2, if_neg (by omega)]
    have bs : ∀ i, b1.2.1 26 i = upd (upd (upd (upd (upd (a1.2.1 26) 0 (m.1 7)) 2 sp) 3 ic) 4 (m.1 10)) 5 (m.2.1 26 5) i := fun i => by
      show (msa (msa (msa (msa (msa a1 26 0 (m.1 7)) 26 2 sp) 26 3 ic) 26 4 (m.1 10)) 26 5 (m.2.1 26 5)).2.1 26 i = _
      rw [msa_s, msa_s, msa_s, msa_s, msa_s]
    refine ⟨?_, ?_, ?_, ?_, ?_, ?_, ?_, ?_, fun j hj => ?_, fun j hj => ?_, fun j hj => ?_, fun j hj => ?_, fun j hj => ?_⟩
    · rw [lo 0 (by omega), bs, pk_un (by omega), pk_un (by omega), pk_un (by omega), pk_un (by omega), pk_us, h7]
    · rw [lo 1 (by omega), bs, pk_un (by omega), pk_un (by omega), pk_un (by omega), pk_un (by omega), pk_un (by omega), v1, if_pos (by omega)]
    · rw [lo 2 (by omega), bs, pk_un (by omega), pk_un (by omega), pk_un (by omega), pk_us]
    · rw [lo 3 (by omega), bs, pk_un (by omega), pk_un (by omega), pk_us]
    · rw [lo 4 (by omega), bs, pk_un (by omega), pk_us, h10]
    · rw [lo 5 (by omega), bs, pk_us]
    · rw [lo 6 (by omega), bs, pk_un (by omega), pk_un (by omega), pk_un (by omega), pk_un (by omega), pk_un (by omega), v1, if_pos (by omega)]
    · rw [lo 7 (by omega), bs, pk_un (by omega), pk_un (by omega), pk_un (by omega), pk_un (by omega), pk_un (by omega), v1, if_pos (by omega)]
    · rw [v5, if_neg (by omega), v4, if_neg (by omega), v3, if_neg (by omega), v2, if_pos (by omega), show 8 + j - 8 = j by omega]
    · rw [v5, if_neg (by omega), v4, if_neg (by omega), v3, if_pos (by omega), show 12 + j - 12 = j by omega]
    · rw [v5, if_neg (by omega), v4, if_pos (by omega), show 14 + j - 14 = j by omega]
    · rw [v5, if_neg (by omega), v4, if_neg (by omega), v3, if_neg (by omega), v2, if_neg (by omega), bs, pk_un (by omega), pk_un (by omega), pk_un (by omega), pk_un (by omega), pk_un (by omega), v1, if_pos (by omega)]
    · rw [v5, if_pos (by omega)]
  have t0 : (0 : Int32).toNatClampNeg = 0 := by decide
  have t2 : (2 : Int32).toNatClampNeg = 2 := by decide
  have t3 : (3 : Int32).toNatClampNeg = 3 := by decide
  have t4 : (4 : Int32).toNatClampNeg = 4 := by decide
  have hd : fm_river_j110 (m.2.1 26 5) a1 = (iter (fun x : (Int32 × MSt) => fm_river_s181 x.1 x.2) mFuel ((0 : Int32), b1)).bind (Sum.elim (fun o : MSt × Int32 => (some o : Option (MSt × Int32))) (fun x : (Int32 × MSt) => fm_river_j207 x.2)) := by
    have last : ∀ (z : Int32) (s : MSt), s.1 = m.1 → fm_river_j161 (m.2.1 26 5) z 3 s = (iter (fun x : (Int32 × MSt) => fm_river_s181 x.1 x.2) mFuel ((0 : Int32), msa (msa (msa s 26 3 z) 26 4 (m.1 10)) 26 5 (m.2.1 26 5))).bind (Sum.elim (fun o : MSt × Int32 => (some o : Option (MSt × Int32))) (fun x : (Int32 × MSt) => fm_river_j207 x.2)) := by
      intro z s hs
      unfold fm_river_j161
      rw [chk_t (show inb (3 : Int32) 286 = true by decide), chk_t (show inb (4 : Int32) 286 = true by decide), chk_t (show inb (5 : Int32) 286 = true by decide), t3, t4, x5, msa_I, hs]
    have mid : ∀ (z : Int32) (s : MSt), s.1 = m.1 → fm_river_j140 (m.2.1 26 5) z 2 s = fm_river_j161 (m.2.1 26 5) ic 3 (msa s 26 2 z) := by
      intro z s hs
      unfold fm_river_j140
      rw [chk_t (show inb (2 : Int32) 286 = true by decide), t2, msa_I, hs]
      show _ = fm_river_j161 (m.2.1 26 5) (if 0 ≤ m.1 9 then m.1 9 else 0) 3 (msa s 26 2 z)
      split <;> rfl
    have top : fm_river_j110 (m.2.1 26 5) a1 = fm_river_j140 (m.2.1 26 5) sp 2 (msa a1 26 0 (m.1 7)) := by
      unfold fm_river_j110
      rw [chk_t (show inb (0 : Int32) 286 = true by decide), t0, msa_I, i1]
      show _ = fm_river_j140 (m.2.1 26 5) (if 0 ≤ m.1 8 then m.1 8 else 1) 2 (msa a1 26 0 (m.1 7))
      split <;> rfl
    rw [top, mid _ _ (by rw [msa_I]; exact i1), last _ _ (by rw [msa_I, msa_I]; exact i1)]
  rw [hd]
  exact tail
