/-! reading a RULE: comparisons, both sides -/
theorem KdR.two {t : Nat → Int32} {n q : Nat} {c : Int32} (h : KdR t n q c) : (c = 3 ↔ t q = 60 ∧ tE t n q - q = 2) ∧ (c = 4 ↔ t q = 62 ∧ tE t n q - q = 2) := by
  have nn : ∀ k, k < 2 ^ 31 → k ≠ 3 → ¬ nI k = (3 : Int32) := fun k hk h2 z => h2 ((nI_eq (b := 3) hk (by omega)).mp z)
  have n4 : ∀ k, k < 2 ^ 31 → k ≠ 4 → ¬ nI k = (4 : Int32) := fun k hk h2 z => h2 ((nI_eq (b := 4) hk (by omega)).mp z)
  have no60 : t q = 60 → ¬ fL t q = true ∧ ¬ fD t q = true := fun z => s10_not (by decide) z
  have no62 : t q = 62 → ¬ fL t q = true ∧ ¬ fD t q = true := fun z => s10_not (by decide) z
  rcases h with ⟨a, b⟩ | ⟨a, b, d⟩ | ⟨a, b, d⟩
  · refine ⟨⟨fun z => ?_, fun z => absurd a (no60 z.1).1⟩, ⟨fun z => ?_, fun z => absurd a (no62 z.1).1⟩⟩
    · rcases b with ⟨i, -, hi, -, e⟩ | ⟨e, -⟩
      · rw [e] at z; exact absurd z (nn _ (by omega) (by omega))
      · rw [e] at z; exact absurd z (by decide)
    · rcases b with ⟨i, -, hi, -, e⟩ | ⟨e, -⟩
      · rw [e] at z; exact absurd z (n4 _ (by omega) (by omega))
      · rw [e] at z; exact absurd z (by decide)
  · refine ⟨⟨fun z => ?_, fun z => absurd b (no60 z.1).2⟩, ⟨fun z => ?_, fun z => absurd b (no62 z.1).2⟩⟩
    · rw [d] at z; exact absurd z (by decide)
    · rw [d] at z; exact absurd z (by decide)
  · rcases d with ⟨d, e⟩ | ⟨d, e⟩
    · have or62 : t q = 60 ∨ t q = 62 := by
        unfold tE at d
        rw [if_neg a, if_neg b] at d
        split at d
        · rename_i z; exact z.1
        · omega
      by_cases z : t q = 60
      · rw [e, if_pos z]
        exact ⟨⟨fun _ => ⟨z, d⟩, fun _ => rfl⟩, ⟨fun y => absurd y (by decide), fun y => by rw [z] at y; exact absurd y.1 (by decide)⟩⟩
      · rw [e, if_neg z]
        have z2 : t q = 62 := by rcases or62 with y | y; exact absurd y z; exact y
        exact ⟨⟨fun y => absurd y (by decide), fun y => absurd y.1 z⟩, ⟨fun _ => ⟨z2, d⟩, fun _ => rfl⟩⟩
    · rw [e]
      by_cases s : isS10 (t q) = true
      · rw [if_pos s]
        obtain ⟨k, k1, k2, k3⟩ := s10_c s
        refine ⟨⟨fun y => ?_, fun y => absurd y.2 d⟩, ⟨fun y => ?_, fun y => absurd y.2 d⟩⟩
        · rw [k3] at y; exact absurd y (nn _ (by omega) (by omega))
        · rw [k3] at y; exact absurd y (n4 _ (by omega) (by omega))
      · rw [if_neg s]
        exact ⟨⟨fun y => absurd y (by decide), fun y => absurd y.2 d⟩, ⟨fun y => absurd y (by decide), fun y => absurd y.2 d⟩⟩
/-- both pass whatever sign stands here -/
theorem RJ.passT {st : HSt} {ms : MSt} {H n M i k sz it : Nat} {cd : Nat → Nat × Nat} (J : RJ st ms H n M i (ps (ms.2.1 0) n i) k cd sz it) (hi : i < M) : ∃ st2, fh_X10_next H st = some st2 ∧ Fr (fun b => b = H) st st2 ∧ RJ st2 (msi ms 14 (nI (tE (ms.2.1 0) n (ps (ms.2.1 0) n i)))) H n M (i + 1) (tE (ms.2.1 0) n (ps (ms.2.1 0) n i)) k cd sz it := by
  obtain ⟨⟨T, A, h15, hs⟩, E, C1, C2, ⟨i1, i2, i3⟩, ⟨k1, k2⟩, B⟩ := J
  have p1 : ps (ms.2.1 0) n i < n := T.ps_lt.mp hi
  have p2 := (tE_b (t := ms.2.1 0) p1).2
  obtain ⟨s2, e, F, -, T2, -⟩ := h_next T
  rw [if_pos hi] at T2
  refine ⟨s2, e, F, ⟨T2, A.to p2, by rw [msi_n (by omega)]; exact h15, ?_⟩, E.fr F, C1.fr F (by omega) (by omega), C2, ⟨(F.I 706 (by omega)).trans i1, by rw [msi_n (by omega)]; exact i2, i3⟩, ⟨by rw [msi_n (by omega)]; exact k1, k2⟩, B⟩
  show sk (ms.2.1 0) n (tE (ms.2.1 0) n (ps (ms.2.1 0) n i)) = if ps (ms.2.1 0) n i < n then sk (ms.2.1 0) n (tE (ms.2.1 0) n (ps (ms.2.1 0) n i)) else n
  rw [if_pos p1]
theorem RJ.item {st : HSt} {ms : MSt} {H n M i p k sz it : Nat} {cd : Nat → Nat × Nat} (J : RJ st ms H n M i p k cd sz it) (h : it < 60) : RJ (sI st 706 (H + 5) (nI (it + 1))) (msi ms 18 (nI (it + 1))) H n M i p k cd sz (it + 1) := by
  obtain ⟨J1, E, C1, C2, ⟨i1, i2, i3⟩, ⟨k1, k2⟩, B⟩ := J
  have F : Fr (fun b => b = H + 5) st (sI st 706 (H + 5) (nI (it + 1))) := Fr.sI rfl
  exact ⟨(J1.frh F (by omega) (by omega) (by omega) (by omega)).frm (Y := fun q => q == 18) (MF.msi rfl) rfl rfl rfl rfl, E.fr F, ⟨(gI_sI_ne (Or.inl (by omega))).trans C1.1, C1.2⟩, C2, ⟨gI_sI _ _ _ _, msi_s _ _ _, by omega⟩, ⟨by rw [msi_n (by omega)]; exact k1, k2⟩, B⟩
/-- which comparison a sign is (0: none) -/
def cmpK (kd : Nat) : Nat := if kd = 60 then 6 else if kd = 3 then 7 else if kd = 61 then 8 else if kd = 4 then 9 else if kd = 62 then 10 else 0
theorem cmpK_o {kd : Nat} (h : cmpK kd ≠ 0) : 6 ≤ cmpK kd ∧ cmpK kd ≤ 10 ∧ opH (cmpK kd) = kd ∧ (kd = 60 ∨ kd = 3 ∨ kd = 61 ∨ kd = 4 ∨ kd = 62) := by
  unfold cmpK at *
  by_cases a : kd = 60
  · subst a; exact ⟨by decide, by decide, by decide, by decide⟩
  by_cases b : kd = 3
  · subst b; exact ⟨by decide, by decide, by decide, by decide⟩
  by_cases c : kd = 61
  · subst c; exact ⟨by decide, by decide, by decide, by decide⟩
  by_cases d : kd = 4
  · subst d; exact ⟨by decide, by decide, by decide, by decide⟩
  by_cases e : kd = 62
  · subst e; exact ⟨by decide, by decide, by decide, by decide⟩
  rw [if_neg a, if_neg b, if_neg c, if_neg d, if_neg e] at h
  exact absurd rfl h
theorem cj105 {c v X a : Int32} {m : MSt} (h : ∀ m, (if c = 60 then (if v = 0 then fm_compare_j152 0 m else fm_compare_j152 1 m) else (if c = 61 then fm_compare_j152 2 m else (if v = 0 then fm_compare_j152 4 m else fm_compare_j152 3 m))) = fm_compare_j152 X m) : fm_compare_j105 c a v m = ((fm_makes a m).bind fun x9 => (if x9.2 = 0 then some (x9.1, (0 : Int32)) else fm_compare_j152 X x9.1)) := by
  unfold fm_compare_j105
  congr 1
  funext x
  rw [h]
/-- the reference at the sign of a comparison (m has passed the blanks) -/
theorem m_csign {st : HSt} {m : MSt} {H n M i kd : Nat} (J : Jt2 st m H n M i (ps (m.2.1 0) n i)) (B : B8 (m.2.1 0) n) (hK : gA st (H + 1) i = nI kd) (hk9 : kd < 279) :
    (cmpK kd = 0 → sv (m.2.1 0) n (ps (m.2.1 0) n i) ≠ 60 ∧ sv (m.2.1 0) n (ps (m.2.1 0) n i) ≠ 61 ∧ sv (m.2.1 0) n (ps (m.2.1 0) n i) ≠ 62) ∧
    (cmpK kd ≠ 0 → i < M ∧ (sv (m.2.1 0) n (ps (m.2.1 0) n i) = 60 ∨ sv (m.2.1 0) n (ps (m.2.1 0) n i) = 61 ∨ sv (m.2.1 0) n (ps (m.2.1 0) n i) = 62) ∧ fm_compare_j44 (sv (m.2.1 0) n (ps (m.2.1 0) n i)) (nI (ps (m.2.1 0) n i)) m = ((fm_makes (nI (ps (m.2.1 0) n i)) (msi m 14 (nI (tE (m.2.1 0) n (ps (m.2.1 0) n i))))).bind fun x9 => (if x9.2 = 0 then some (x9.1, (0 : Int32)) else fm_compare_j152 (nI (cmpK kd - 6)) x9.1))) := by
  have q : ∀ a, a < 279 → (gA st (H + 1) i = nI a ↔ kd = a) := fun a ha => by rw [hK]; exact nI_eq (by omega) (by omega)
  have T := J.1
  have s61 := see_sign J B (c0 := 61) (by decide) (by decide) (by decide)
  have e61 : sv (m.2.1 0) n (ps (m.2.1 0) n i) = 61 ↔ kd = 61 := s61.trans (q 61 (by omega))
  -- the sign < or > seen
  have e60 : sv (m.2.1 0) n (ps (m.2.1 0) n i) = 60 ↔ kd = 60 ∨ kd = 3 := by
    rcases Nat.lt_or_ge i M with z | z
    · obtain ⟨p1, p2, -⟩ := T.2.2.2.2.2.2.2 i z
      unfold sv
      rw [if_neg (by omega)]
      refine (b255 (k := 60) (B _ p1) (by omega)).trans ?_
      rw [← q 60 (by omega), ← q 3 (by omega)]
      refine ⟨fun y => ?_, fun y => ?_⟩
      · by_cases d : tE (m.2.1 0) n (ps (m.2.1 0) n i) - ps (m.2.1 0) n i = 2
        · exact Or.inr (p2.two.1.mpr ⟨y, d⟩)
        · exact Or.inl ((p2.sign (c0 := 60) (by decide)).mpr ⟨y, d⟩)
      · rcases y with y | y
        · exact ((p2.sign (c0 := 60) (by decide)).mp y).1
        · exact (p2.two.1.mp y).1
    · have e : i = M := by have := T.2.2.1; omega
      have g := T.2.2.2.2.2.1
      rw [← e, hK] at g
      have g0 := (nI_eq (b := 0) (by omega) (by omega)).mp g
      have pe : ps (m.2.1 0) n i = n := by rw [e]; exact T.2.2.2.1
      unfold sv
      rw [if_pos pe]
      exact ⟨fun y => absurd y (by decide), fun y => by omega⟩
  have e62 : sv (m.2.1 0) n (ps (m.2.1 0) n i) = 62 ↔ kd = 62 ∨ kd = 4 := by
    rcases Nat.lt_or_ge i M with z | z
    · obtain ⟨p1, p2, -⟩ := T.2.2.2.2.2.2.2 i z
      unfold sv
      rw [if_neg (by omega)]
      refine (b255 (k := 62) (B _ p1) (by omega)).trans ?_
      rw [← q 62 (by omega), ← q 4 (by omega)]
      refine ⟨fun y => ?_, fun y => ?_⟩
      · by_cases d : tE (m.2.1 0) n (ps (m.2.1 0) n i) - ps (m.2.1 0) n i = 2
        · exact Or.inr (p2.two.2.mpr ⟨y, d⟩)
        · exact Or.inl ((p2.sign (c0 := 62) (by decide)).mpr ⟨y, d⟩)
      · rcases y with y | y
        · exact ((p2.sign (c0 := 62) (by decide)).mp y).1
        · exact (p2.two.2.mp y).1
    · have e : i = M := by have := T.2.2.1; omega
      have g := T.2.2.2.2.2.1
      rw [← e, hK] at g
      have g0 := (nI_eq (b := 0) (by omega) (by omega)).mp g
      have pe : ps (m.2.1 0) n i = n := by rw [e]; exact T.2.2.2.1
      unfold sv
      rw [if_pos pe]
      exact ⟨fun y => absurd y (by decide), fun y => by omega⟩
  refine ⟨fun h0 => ?_, fun h0 => ?_⟩
  · unfold cmpK at h0
    refine ⟨fun y => ?_, fun y => ?_, fun y => ?_⟩
    · rcases e60.mp y with z | z <;> subst z <;> exact absurd h0 (by decide)
    · have z := e61.mp y; subst z; exact absurd h0 (by decide)
    · rcases e62.mp y with z | z <;> subst z <;> exact absurd h0 (by decide)
  · obtain ⟨-, -, -, hc⟩ := cmpK_o h0
    have hi : i < M := T.lt hK (by omega) hk9
    have p1 : ps (m.2.1 0) n i < n := T.ps_lt.mp hi
    have hn := J.2.1.2.1
    have p2 := (T.2.2.2.2.2.2.2 i hi).2.1
    have m14 : m.1 14 = nI (ps (m.2.1 0) n i) := J.2.1.2.2.1
    have m1 : m.1 1 = nI n := J.2.1.1
    refine ⟨hi, ?_, ?_⟩
    · rcases hc with z | z | z | z | z
      · exact Or.inl (e60.mpr (Or.inl z))
      · exact Or.inl (e60.mpr (Or.inr z))
      · exact Or.inr (Or.inl (e61.mpr z))
      · exact Or.inr (Or.inr (e62.mpr (Or.inr z)))
      · exact Or.inr (Or.inr (e62.mpr (Or.inl z)))
    generalize hq : ps (m.2.1 0) n i = Q at *
    -- what follows < or >
    have look : ∀ c : Int32, (c = 60 ∨ c = 62) → m.2.1 0 Q = c → fm_compare_j44 c (nI Q) m = fm_compare_j90 c (nI Q) (if tE (m.2.1 0) n Q - Q = 2 then 1 else 0) (msi m 14 (nI (Q + 1))) ∧ tE (m.2.1 0) n Q = (if tE (m.2.1 0) n Q - Q = 2 then Q + 1 + 1 else Q + 1) := by
      intro c hcc tq
      have c61 : ¬ c = 61 := by rcases hcc with z | z <;> rw [z] <;> decide
      obtain ⟨nl, nd⟩ := s10_not (t := m.2.1 0) (q := Q) (c := c) (by rcases hcc with z | z <;> rw [z] <;> decide) tq
      have te : tE (m.2.1 0) n Q = if (Q + 1 < n ∧ m.2.1 0 (Q + 1) = 61) then Q + 2 else Q + 1 := by
        unfold tE
        rw [if_neg nl, if_neg nd]
        by_cases y : Q + 1 < n ∧ m.2.1 0 (Q + 1) = 61
        · rw [if_pos y, if_pos ⟨by rw [tq]; exact hcc, y⟩]
        · rw [if_neg y, if_neg (fun x => y x.2)]
      unfold fm_compare_j44
      rw [if_neg c61, m14, nI_1, show (msi m 14 (nI (Q + 1))).1 1 = nI n by rw [msi_n (by omega)]; exact m1, show (msi m 14 (nI (Q + 1))).1 14 = nI (Q + 1) from msi_s _ _ _]
      by_cases y : Q + 1 < n ∧ m.2.1 0 (Q + 1) = 61
      · rw [if_pos y] at te
        rw [te, if_pos (show Q + 2 - Q = 2 by omega), if_pos (show Q + 2 - Q = 2 by omega), if_neg (nI_ge y.1 (by omega)), chk_t (inb_n (show Q + 1 < 400 by omega) (by omega)), nI_clamp (by omega), if_pos (show (msi m 14 (nI (Q + 1))).2.1 0 (Q + 1) = 61 from y.2)]
        exact ⟨rfl, rfl⟩
      · rw [if_neg y] at te
        rw [te, if_neg (show ¬ Q + 1 - Q = 2 by omega), if_neg (show ¬ Q + 1 - Q = 2 by omega)]
        refine ⟨?_, rfl⟩
        rcases Nat.lt_or_ge (Q + 1) n with x | x
        · rw [if_neg (nI_ge x (by omega)), chk_t (inb_n (show Q + 1 < 400 by omega) (by omega)), nI_clamp (by omega), if_neg (show ¬ (msi m 14 (nI (Q + 1))).2.1 0 (Q + 1) = 61 from fun w => y ⟨x, w⟩)]
          rfl
        · rw [if_pos (nI_le x (by omega))]
          rfl
    have b60 : ¬ (60 : Int32) = 61 := by decide
    have b62 : ¬ (62 : Int32) = 60 := by decide
    have b62' : ¬ (62 : Int32) = 61 := by decide
    have n1 : ¬ (1 : Int32) = 0 := by decide
    rcases hc with z | z | z | z | z
    · have k := (p2.sign (c0 := 60) (by decide)).mp ((q 60 (by omega)).mpr z)
      obtain ⟨l1, l2⟩ := look 60 (Or.inl rfl) k.1
      rw [if_neg k.2] at l1 l2
      rw [e60.mpr (Or.inl z), l1, l2]
      subst z
      unfold fm_compare_j90
      rw [if_pos rfl]
      exact cj105 (fun m => by rw [if_pos rfl, if_pos rfl]; rfl)
    · have k := p2.two.1.mp ((q 3 (by omega)).mpr z)
      obtain ⟨l1, l2⟩ := look 60 (Or.inl rfl) k.1
      rw [if_pos k.2] at l1 l2
      rw [e60.mpr (Or.inr z), l1, l2]
      subst z
      unfold fm_compare_j90
      rw [if_neg n1, msi_s, nI_1, msi_msi]
      exact cj105 (fun m => by rw [if_pos rfl, if_neg n1]; rfl)
    · have k := (p2.sign (c0 := 61) (by decide)).mp ((q 61 (by omega)).mpr z)
      have te := tE_s (n := n) (c0 := 61) (by decide) k.1 (by decide) (by decide)
      rw [e61.mpr z, te]
      subst z
      unfold fm_compare_j44 fm_compare_j89 fm_compare_j90
      rw [if_pos rfl, if_pos rfl, m14, nI_1]
      exact cj105 (fun m => by rw [if_neg (show ¬ (61 : Int32) = 60 by decide), if_pos rfl]; rfl)
    · have k := p2.two.2.mp ((q 4 (by omega)).mpr z)
      obtain ⟨l1, l2⟩ := look 62 (Or.inr rfl) k.1
      rw [if_pos k.2] at l1 l2
      rw [e62.mpr (Or.inr z), l1, l2]
      subst z
      unfold fm_compare_j90
      rw [if_neg n1, msi_s, nI_1, msi_msi]
      exact cj105 (fun m => by rw [if_neg b62, if_neg b62', if_neg n1]; rfl)
    · have k := (p2.sign (c0 := 62) (by decide)).mp ((q 62 (by omega)).mpr z)
      obtain ⟨l1, l2⟩ := look 62 (Or.inr rfl) k.1
      rw [if_neg k.2] at l1 l2
      rw [e62.mpr (Or.inl z), l1, l2]
      subst z
      unfold fm_compare_j90
      rw [if_pos rfl]
      exact cj105 (fun m => by rw [if_neg b62, if_neg b62', if_pos rfl]; rfl)
