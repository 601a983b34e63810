/-! the reference: held, isSo, isAny, first, looks, acts -/
theorem lg_le {a b : Int64} : lg_cmp a b ≤ 0 ↔ ¬ b < a := by
  unfold lg_cmp
  split
  · rename_i h; exact ⟨fun q => absurd q (by decide), fun q => absurd h q⟩
  · rename_i h
    split
    · exact ⟨fun _ => h, fun _ => by decide⟩
    · exact ⟨fun _ => h, fun _ => by decide⟩
theorem lg_ge {a b : Int64} : 0 ≤ lg_cmp a b ↔ ¬ a < b := by
  constructor
  · intro h q; have := lg_lt.mpr q; exact Int32.lt_irrefl (Int32.lt_of_lt_of_le this h)
  · intro h
    rcases Int32.lt_or_le (lg_cmp a b) 0 with q | q
    · exact absurd (lg_lt.mp q) h
    · exact q
theorem m_held {ms : MSt} {v : Nat → Int32} {sp : Nat} {x : Int64} (hv : ms.2.1 26 = v) (h2 : v 2 = nI sp) (hsp : sp ≤ 20) : fm_held x ms = some (ms, pHold (v 2) x) := by
  have e2 : ms.2.1 26 (Int32.toNatClampNeg 2) = nI sp := by rw [hv, cln2]; exact h2
  have a1 : (nI sp).toInt64.toInt = (sp : Int) := by rw [l64, nI_toInt (by omega)]
  have a2 : (-nI sp).toInt64.toInt = -(sp : Int) := by rw [l64, nI_neg_toInt (by omega)]
  unfold fm_held
  rw [chk_t (by decide), chk_t (by decide), chk_t (by decide), e2, h2]
  have key : ∀ y : Int32, y.toInt = (if x.toInt < -(sp : Int) then -(sp : Int) else if (sp : Int) < x.toInt then (sp : Int) else x.toInt) → some (ms, y) = some (ms, pHold (nI sp) x) := fun y h => by
    rw [i32_of (h.trans (pHold_e hsp x).symm)]
  by_cases h1 : x < (-nI sp).toInt64
  · rw [if_neg (fun q => lg_ge.mp q h1)]
    have h1' := Int64.lt_iff_toInt_lt.mp h1
    exact key _ (by rw [i32s (by omega) (by omega), a2, if_pos (by omega)])
  · rw [if_pos (lg_ge.mpr h1)]
    have h1' : ¬ x.toInt < (-nI sp).toInt64.toInt := fun q => h1 (Int64.lt_iff_toInt_lt.mpr q)
    by_cases h3 : (nI sp).toInt64 < x
    · rw [if_neg (fun q => lg_le.mp q h3)]
      have h3' := Int64.lt_iff_toInt_lt.mp h3
      exact key _ (by rw [i32s (by omega) (by omega), a1, if_neg (by omega), if_pos (by omega)])
    · rw [if_pos (lg_le.mpr h3)]
      have h3' : ¬ (nI sp).toInt64.toInt < x.toInt := fun q => h3 (Int64.lt_iff_toInt_lt.mpr q)
      exact key _ (by rw [i32s (by omega) (by omega), if_neg (by omega), if_neg (by omega)])
theorem n60 (k c : Nat) : (60 : Int32) * nI k + 5 * nI c = nI (60 * k + 5 * c) := by
  show nI 60 * nI k + nI 5 * nI c = _; rw [pk_mul, pk_mul, nI_add]
theorem na (n m : Nat) {x : Int32} (h : x = nI m) : nI n + x = nI (n + m) := by rw [h, nI_add]
section MRULE
variable {ms : MSt} {k N : Nat} {u : Ru} {w : Nat → Int64}
theorem m_isSo {c : Nat} {x z : Int32} (R : MrR ms k u N) (O : RuOk u) (hw : ∀ j, j < 9 → ms.2.2 25 j = w j) (hc : c < u.1) (ht : (u.2.1 c).2.2.1 < (u.2.1 c).2.2.2) (hx : x = nI k) (hz : z = nI (60 * k + 5 * c)) : ∃ ms2, fm_isSo x z ms = some (ms2, if pRun w u.2.2 (u.2.1 c).2.2.1 ((u.2.1 c).2.2.2 - (u.2.1 c).2.2.1) = 0 then 0 else 1) ∧ MF mXs ms ms2 := by
  subst hx; subst hz
  obtain ⟨hk, hN, h6, h5, h3⟩ := R
  obtain ⟨a1, a2, a3, a4, a5⟩ := h5 c hc
  obtain ⟨o1, o2, o3, o4, o5, o6, o7⟩ := O.2 c hc
  have n12 := O.1
  obtain ⟨ms2, e, F⟩ := m_reckons (x := nI k) (y := nI (u.2.1 c).2.2.1) (z := nI (u.2.1 c).2.2.2) (w := w) hk hN (by omega) h3 hw (o6 ht) rfl rfl (congrArg nI (by omega))
  rw [if_pos ht] at a3
  refine ⟨ms2, ?_, F⟩
  unfold fm_isSo
  rw [na _ 3 (x := 3) rfl, na _ 4 (x := 4) rfl, chk_t (inb_n (by omega) (by omega)), chk_t (inb_n (by omega) (by omega)), nI_clamp (by omega), nI_clamp (by omega), a3, a4, e, bs_]
  dsimp only
  rcases seg_b (w := w) (o6 ht) with q | q
  · rw [q, if_pos rfl, if_neg (fun z => by have := lg_eq.mp z; exact absurd this (by decide))]
  · rw [q, if_pos (lg_eq.mpr rfl), if_neg (by decide)]
theorem m_any {t : Nat} {x z : Int32} (R : MrR ms k u N) (O : RuOk u) (hw : ∀ j, j < 9 → ms.2.2 25 j = w j) (ht : 2 ≤ t) (hx : x = nI k) (hz : z = nI t) (ht4 : t < 4) : ∃ ms2, fm_isAny x z ms = some (ms2, if pAny u w t = true then 1 else 0) ∧ MF mXs ms ms2 := by
  subst hx; subst hz
  have n12 := O.1
  have hk := R.1
  have key := iter_m (s1 := fun x : (Int32 × MSt) => fm_isAny_s2 (nI k) (nI t) x.1 x.2) (fun c (x : Int32 × MSt) => x.1 = nI c ∧ MF mXs ms x.2 ∧ fst1 (pP u w t) c = none) u.1 (fun o : MSt × Int32 => MF mXs ms o.1 ∧ o.2 = 1 ∧ pAny u w t = true) (fun y : Int32 × MSt => MF mXs ms y.2 ∧ pAny u w t = false) ?_ (x := ((0 : Int32), ms)) ⟨rfl, MF.rf, rfl⟩ (by omega)
  · unfold fm_isAny
    rcases key with ⟨o, e, F, o2, hp⟩ | ⟨y, e, F, hp⟩
    · refine ⟨o.1, ?_, F⟩
      rw [e, hp, if_pos rfl]
      show some o = _
      rw [← o2]
    · refine ⟨y.2, ?_, F⟩
      rw [e, hp, if_neg (by decide)]
      rfl
  · rintro c ⟨i, s⟩ hcn ⟨hi, F, hf⟩
    simp only at hi F hf
    subst hi
    have R2 : MrR s k u N := R.fr F rfl rfl rfl
    have hw2 : ∀ j, j < 9 → s.2.2 25 j = w j := fun j hj => by rw [F.J 25 rfl]; exact hw j hj
    rcases Nat.lt_or_ge c u.1 with hlt | hge
    · obtain ⟨a1, a2, a3, a4, a5⟩ := R2.2.2.2.1 c hlt
      obtain ⟨o1, o2, o3, o4, o5, o6, o7⟩ := O.2 c hlt
      have head : fm_isAny_s2 (nI k) (nI t) (nI c) s = (if nI (u.2.1 c).1 = nI t then (fm_isSo (nI k) (nI (60 * k + 5 * c)) s).bind fun x5 => (if x5.2 = 0 then some (.inr (.inl ((nI c + 1), x5.1))) else some (.inl (x5.1, (1 : Int32)))) else some (.inr (.inl ((nI c + 1), s)))) := by
        unfold fm_isAny_s2
        rw [chk_t (inb_n hk (by omega)), nI_clamp (by omega), R2.2.2.1, if_neg (nI_ge hlt (by omega)), n60, chk_t (inb_n (by omega) (by omega)), nI_clamp (by omega), a1]
      show (∃ o, fm_isAny_s2 (nI k) (nI t) (nI c) s = _ ∧ _) ∨ (∃ y, fm_isAny_s2 (nI k) (nI t) (nI c) s = _ ∧ _) ∨ (∃ y, fm_isAny_s2 (nI k) (nI t) (nI c) s = _ ∧ _)
      rw [head]
      by_cases hk1 : (u.2.1 c).1 = t
      · rw [if_pos (by rw [hk1])]
        have hte := o7 (by omega)
        obtain ⟨s2, e2, F2⟩ := m_isSo (x := nI k) (z := nI (60 * k + 5 * c)) R2 O hw2 hlt hte rfl rfl
        rw [e2, bs_]
        dsimp only
        by_cases hr : pRun w u.2.2 (u.2.1 c).2.2.1 ((u.2.1 c).2.2.2 - (u.2.1 c).2.2.1) = 0
        · right; left
          refine ⟨(nI (c + 1), s2), ?_, ⟨rfl, F.tr F2, fst1_miss hf ?_⟩, hlt⟩
          · rw [if_pos hr, if_pos rfl, nI_1]
          · unfold pP; rw [hr, decide_eq_false (show ¬ (u.2.1 c).2.2.1 = (u.2.1 c).2.2.2 by omega)]; simp
        · left
          refine ⟨(s2, 1), ?_, F.tr F2, rfl, ?_⟩
          · rw [if_neg hr, if_neg (by decide)]
          · unfold pAny; rw [fst1_hit hf (by unfold pP; simp [hk1, hr]) hlt]; rfl
      · rw [if_neg (fun e => hk1 ((nI_eq (by omega) (by omega)).mp e))]
        right; left
        refine ⟨(nI (c + 1), s), by rw [nI_1], ⟨rfl, F, fst1_miss hf ?_⟩, hlt⟩
        unfold pP; rw [decide_eq_false hk1]; rfl
    · have e : c = u.1 := by omega
      subst e
      right; right
      refine ⟨(nI u.1, s), ?_, F, ?_⟩
      · show fm_isAny_s2 (nI k) (nI t) (nI u.1) s = _
        unfold fm_isAny_s2
        rw [chk_t (inb_n hk (by omega)), nI_clamp (by omega), R2.2.2.1, if_pos (nI_le (Nat.le_refl _) (by omega))]
      · unfold pAny; rw [hf]; rfl
theorem m_first {t sp : Nat} {v : Nat → Int32} {x z : Int32} (hv : ms.2.1 26 = v) (h2 : v 2 = nI sp) (hsp : sp ≤ 20) (R : MrR ms k u N) (O : RuOk u) (hw : ∀ j, j < 9 → ms.2.2 25 j = w j) (ht : t < 2) (hx : x = nI k) (hz : z = nI t) : ∃ ms2, fm_first x z ms = some (ms2, pFst u w t (v 2)) ∧ MF mXs ms ms2 := by
  subst hx; subst hz
  have n12 := O.1
  have hk := R.1
  have key := iter_m (s1 := fun x : (Int32 × MSt) => fm_first_s2 (nI k) (nI t) x.1 x.2) (fun c (x : Int32 × MSt) => x.1 = nI c ∧ MF mXs ms x.2 ∧ fst1 (pP u w t) c = none) u.1 (fun o : MSt × Int32 => MF mXs ms o.1 ∧ o.2 = pFst u w t (v 2)) (fun y : Int32 × MSt => MF mXs ms y.2 ∧ pFst u w t (v 2) = 0) ?_ (x := ((0 : Int32), ms)) ⟨rfl, MF.rf, rfl⟩ (by omega)
  · unfold fm_first
    rcases key with ⟨o, e, F, o2⟩ | ⟨y, e, F, hp⟩
    · refine ⟨o.1, ?_, F⟩
      rw [e, ← o2]; rfl
    · refine ⟨y.2, ?_, F⟩
      rw [e, hp]; rfl
  · rintro c ⟨i, s⟩ hcn ⟨hi, F, hf⟩
    simp only at hi F hf
    subst hi
    have R2 : MrR s k u N := R.fr F rfl rfl rfl
    have hw2 : ∀ j, j < 9 → s.2.2 25 j = w j := fun j hj => by rw [F.J 25 rfl]; exact hw j hj
    have hv2 : s.2.1 26 = v := (F.A 26 rfl).trans hv
    rcases Nat.lt_or_ge c u.1 with hlt | hge
    · obtain ⟨a1, a2, a3, a4, a5⟩ := R2.2.2.2.1 c hlt
      obtain ⟨o1, o2, o3, o4, o5, o6, o7⟩ := O.2 c hlt
      have fin_ : ∀ s2, MF mXs s s2 → fst1 (pP u w t) u.1 = some c → (u.2.1 c).1 = t → ∃ s3, fm_first_j55 (nI k) (nI (60 * k + 5 * c)) s2 = some (.inl (s3, pFst u w t (v 2))) ∧ MF mXs s2 s3 := by
        intro s2 F2 hfc hk1
        obtain ⟨hk, hN, -, h5, h3⟩ := R2.fr F2 rfl rfl rfl
        obtain ⟨b1, b2, b3, b4, b5⟩ := h5 c hlt
        obtain ⟨q1, q2⟩ := b2 (by omega)
        obtain ⟨s3, e3, F3⟩ := m_reckons (ms := s2) (x := nI k) (y := nI (u.2.1 c).2.1) (z := nI (u.2.1 c).2.2.1) (w := w) (i := (u.2.1 c).2.1) (n := (u.2.1 c).2.2.1 - (u.2.1 c).2.1) hk hN (by omega) h3 (fun j hj => by rw [F2.J 25 rfl]; exact hw2 j hj) (o5 (by omega)) rfl rfl (congrArg nI (by omega))
        refine ⟨s3, ?_, F3⟩
        unfold fm_first_j55
        rw [na _ 1 (x := 1) rfl, na _ 2 (x := 2) rfl, chk_t (inb_n (by omega) (by omega)), chk_t (inb_n (by omega) (by omega)), nI_clamp (by omega), nI_clamp (by omega), q1, q2, e3, bs_]
        dsimp only
        rw [m_held (((F3.A 26 rfl).trans (F2.A 26 rfl)).trans hv2) h2 hsp, bs_]
        unfold pFst; rw [hfc]
      have head : fm_first_s2 (nI k) (nI t) (nI c) s = (if nI (u.2.1 c).1 = nI t then (if (if (u.2.1 c).2.2.1 < (u.2.1 c).2.2.2 then nI (u.2.1 c).2.2.1 else -1) < 0 then fm_first_j55 (nI k) (nI (60 * k + 5 * c)) s else (fm_isSo (nI k) (nI (60 * k + 5 * c)) s).bind fun x13 => (if x13.2 = 0 then some (.inr (.inl ((nI c + 1), x13.1))) else fm_first_j55 (nI k) (nI (60 * k + 5 * c)) x13.1)) else some (.inr (.inl ((nI c + 1), s)))) := by
        unfold fm_first_s2
        rw [chk_t (inb_n hk (by omega)), nI_clamp (by omega), R2.2.2.1, if_neg (nI_ge hlt (by omega)), n60, na _ 3 (x := 3) rfl, chk_t (inb_n (by omega) (by omega)), nI_clamp (by omega), a1, chk_t (inb_n (by omega) (by omega)), nI_clamp (by omega), a3]
      show (∃ o, fm_first_s2 (nI k) (nI t) (nI c) s = _ ∧ _) ∨ (∃ y, fm_first_s2 (nI k) (nI t) (nI c) s = _ ∧ _) ∨ (∃ y, fm_first_s2 (nI k) (nI t) (nI c) s = _ ∧ _)
      rw [head]
      by_cases hk1 : (u.2.1 c).1 = t
      · rw [if_pos (by rw [hk1])]
        by_cases hte : (u.2.1 c).2.2.1 < (u.2.1 c).2.2.2
        · rw [if_pos hte, if_neg (nI_pos (by omega))]
          obtain ⟨s2, e2, F2⟩ := m_isSo (x := nI k) (z := nI (60 * k + 5 * c)) R2 O hw2 hlt hte rfl rfl
          rw [e2, bs_]
          dsimp only
          by_cases hr : pRun w u.2.2 (u.2.1 c).2.2.1 ((u.2.1 c).2.2.2 - (u.2.1 c).2.2.1) = 0
          · right; left
            refine ⟨(nI (c + 1), s2), ?_, ⟨rfl, F.tr F2, fst1_miss hf ?_⟩, hlt⟩
            · rw [if_pos hr, if_pos rfl, nI_1]
            · unfold pP; rw [hr, decide_eq_false (show ¬ (u.2.1 c).2.2.1 = (u.2.1 c).2.2.2 by omega)]; simp
          · left
            obtain ⟨s3, e3, F3⟩ := fin_ s2 F2 (fst1_hit hf (by unfold pP; simp [hk1, hr]) hlt) hk1
            refine ⟨(s3, pFst u w t (v 2)), ?_, (F.tr F2).tr F3, rfl⟩
            rw [if_neg hr, if_neg (by decide), e3]
        · left
          rw [if_neg hte, if_pos (by decide)]
          obtain ⟨s3, e3, F3⟩ := fin_ s MF.rf (fst1_hit hf (by unfold pP; simp [hk1, show (u.2.1 c).2.2.1 = (u.2.1 c).2.2.2 by omega]) hlt) hk1
          exact ⟨_, e3, F.tr F3, rfl⟩
      · rw [if_neg (fun e => hk1 ((nI_eq (by omega) (by omega)).mp e))]
        right; left
        refine ⟨(nI (c + 1), s), by rw [nI_1], ⟨rfl, F, fst1_miss hf ?_⟩, hlt⟩
        unfold pP; rw [decide_eq_false hk1]; rfl
    · have e : c = u.1 := by omega
      subst e
      right; right
      refine ⟨(nI u.1, s), ?_, F, ?_⟩
      · show fm_first_s2 (nI k) (nI t) (nI u.1) s = _
        unfold fm_first_s2
        rw [chk_t (inb_n hk (by omega)), nI_clamp (by omega), R2.2.2.1, if_pos (nI_le (Nat.le_refl _) (by omega))]
      · unfold pFst; rw [hf]
end MRULE
