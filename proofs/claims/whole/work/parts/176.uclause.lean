/-! reading a RULE: a clause, both sides -/
theorem m_doingSort {m : MSt} {c : Nat} (W : ∀ k, k < 23 → fm_isWord (wV k) m = some (m, if c = 256 + k then 1 else 0)) : fm_doingSort m = some (m, if 262 ≤ c ∧ c ≤ 265 then nI (c - 262) else -1) := by
  have n1 : ¬ (1 : Int32) = 0 := by decide
  unfold fm_doingSort
  rw [wV_6, wV_7, wV_8, wV_9, W 6 (by omega), bs_]
  dsimp only
  by_cases z : c = 256 + 6
  · rw [if_pos z, if_neg n1, if_pos (by omega), show c - 262 = 0 by omega]; rfl
  rw [if_neg z, if_pos rfl, W 7 (by omega), bs_]
  dsimp only
  by_cases z1 : c = 256 + 7
  · rw [if_pos z1, if_neg n1, if_pos (by omega), show c - 262 = 1 by omega]; rfl
  rw [if_neg z1, if_pos rfl, W 8 (by omega), bs_]
  dsimp only
  by_cases z2 : c = 256 + 8
  · rw [if_pos z2, if_neg n1, if_pos (by omega), show c - 262 = 2 by omega]; rfl
  rw [if_neg z2, if_pos rfl, W 9 (by omega), bs_]
  dsimp only
  by_cases z3 : c = 256 + 9
  · rw [if_pos z3, if_neg n1, if_pos (by omega), show c - 262 = 3 by omega]; rfl
  rw [if_neg z3, if_pos rfl, if_neg (by omega)]
theorem j_uclause {st : HSt} {ms : MSt} {H n M i p k sz it c : Nat} {cd : Nat → Nat × Nat} (J : RJ st ms H n M i p k cd sz it) (hz : sz ≤ i) (hc : c ≤ 12) (h20 : ms.1 20 = nI c) (h6 : ms.2.1 6 k = nI c) : ∃ st2 ms2 rr, fh_X7_readClause (H + 5) (nI c) st = some st2 ∧ fm_clauseHere ms = some (ms2, rr) ∧ Fr (RdZ H) st st2 ∧ ME k ms ms2 ∧
    ((rr = 1 ∧ c < 12 ∧ ms2.1 20 = nI (c + 1) ∧ ∃ i2 q2 cd2 sz2 it2 q, RJ st2 ms2 H n M i2 q2 k cd2 sz2 it2 ∧ sz2 ≤ i2 ∧ sz ≤ sz2 ∧ (∀ j, j < sz → cd2 j = cd j) ∧ ClO cd2 q sz2 ∧ q.2.1 = sz ∧ q.2.2.2 = sz2 ∧ gA st2 (H + 6) = upd (gA st (H + 6)) c (nI (262 + q.1)) ∧ gA st2 (H + 7) = upd (upd (gA st (H + 7)) c (nI sz)) (c + 1) (nI sz2) ∧ gA st2 (H + 8) = upd (gA st (H + 8)) c (nI q.2.2.1) ∧ ClM ms2 k c q ∧ (∀ x, x < 60 * k + 5 * c → ms2.2.1 5 x = ms.2.1 5 x) ∧ ms2.2.1 6 k = nI (c + 1)) ∨
     (rr = 0 ∧ ∃ f, Dd st2 H (ms.2.1 0) n M f ∧ ms2.1 15 = f)) := by
  obtain ⟨hiM, hM⟩ := J.t0
  have Js := J.seen
  obtain ⟨k1, k2⟩ := J.2.2.2.2.2.1
  generalize hm : msi ms 14 (nI (ps (ms.2.1 0) n i)) = m at Js
  have tm : m.2.1 = ms.2.1 := by rw [← hm]; rfl
  have tm0 : m.2.1 0 = ms.2.1 0 := by rw [tm]
  rw [← tm0] at Js
  obtain ⟨kd, hk9, hK⟩ := J.1.1.kn
  have m14 : m.1 14 = nI (ps (m.2.1 0) n i) := Js.1.2.1.2.2.1
  have m15 : m.1 15 = 0 := Js.1.2.2.1
  have m17 : m.1 17 = nI k := Js.2.2.2.2.2.1.1
  have m20 : m.1 20 = nI c := by rw [← hm, msi_n (by omega)]; exact h20
  have Gm : MD k ms m := by rw [← hm]; exact MD.i rfl
  have n6 : ¬ nI k = (6 : Int32) := fun z => by have := (nI_eq (b := 6) (by omega) (by omega)).mp z; omega
  have W : ∀ k, k < 23 → fm_isWord (wV k) m = some (m, if kd = 256 + k then 1 else 0) := fun k hk => j_w Js.1 hK hk9 hk
  have bad : ∀ a, a < 5 → ∃ s2 ms2 rr, fh_X10_fail H (nI a) st = some s2 ∧ bq (fm_fails (nI a) (nI (ps (m.2.1 0) n i)) m) = some (ms2, rr) ∧ rr = 0 ∧ Fr (RdZ H) st s2 ∧ ME k ms ms2 ∧ ∃ f, Dd s2 H (ms.2.1 0) n M f ∧ ms2.1 15 = f := by
    intro a ha
    obtain ⟨s2, e, F, D⟩ := J.dead (a := a) (by omega) (by omega)
    refine ⟨s2, _, 0, e, bq_ (m_fails m15) (Or.inr rfl), rfl, RdX_Z F, (Gm.tr (MD.i rfl)).e, _, D, ?_⟩
    rw [msi_s, tm0]
  have head : fm_clauseHere ms = (if 262 ≤ kd ∧ kd ≤ 265 then fm_clauseHere_j68 (nI (ps (m.2.1 0) n i)) 0 12 (nI c) m else bq (fm_fails 0 (nI (ps (m.2.1 0) n i)) m)) := by
    unfold fm_clauseHere
    rw [j_see2 J.1, bs_]
    dsimp only
    rw [hm, m17, if_neg n6, m14]
    unfold fm_clauseHere_j24
    rw [if_pos rfl, m_doingSort W, bs_]
    dsimp only
    by_cases z : 262 ≤ kd ∧ kd ≤ 265
    · rw [if_pos z, if_pos z, if_pos (show (0 : Int32) ≤ nI (kd - 262) from nI_le (a := 0) (by omega) (by omega))]
      unfold fm_clauseHere_j53
      rw [if_pos rfl, m20]
    · rw [if_neg z, if_neg z, if_neg (show ¬ (0 : Int32) ≤ -1 by decide)]
      rfl
  rw [head]
  have E := J.2.1
  obtain ⟨k8, r7, ⟨r1, k6, l6⟩, ⟨r2, kk7, l7⟩, -⟩ := id E
  have k11 := J.k11
  unfold fh_X7_readClause
  rw [chk_t (isk_t k8), r7, dr_of k11, bs_, J.kind, bs_]
  dsimp only
  rw [hK, chk_t (isk_t k8), r7, dr_of k11, bs_]
  by_cases hin : 262 ≤ kd ∧ kd ≤ 265
  · rw [if_pos hin, if_neg (show ¬ nI kd < (262 : Int32) from nI_nlt (b := 262) hin.1 (by omega)), if_pos (show nI kd ≤ (265 : Int32) from nI_le (b := 265) hin.2 (by omega)), bs_]
    unfold fm_clauseHere_j68
    rcases Nat.lt_or_ge c 12 with hc2 | hc2
    · rw [if_neg (show ¬ nI c = (12 : Int32) from fun z => by have := (nI_eq (b := 12) (by omega) (by omega)).mp z; omega), if_pos rfl, if_pos (show nI c < (12 : Int32) from nI_lt (b := 12) hc2 (by omega)), m20, nI_1]
      let m2 := msi m 20 (nI (c + 1))
      have J2 : RJ st m2 H n M i (ps (m2.2.1 0) n i) k cd sz it := Js.fm (Y := fun q => q == 20) (MF.msi rfl) ⟨rfl, rfl, rfl, rfl, rfl, rfl, rfl, rfl⟩
      have W2 : ∀ k, k < 23 → fm_isWord (wV k) m2 = some (m2, if kd = 256 + k then 1 else 0) := fun k hk => j_w J2.1 hK hk9 hk
      obtain ⟨st2, ms2, rr, b1, b2, b3, b4, b5⟩ := j_doing (c := c) (s := kd - 262) J2 hz (by omega) (by rw [hK, show 262 + (kd - 262) = kd by omega]) hc2 (by show m.2.1 6 k = _; rw [tm]; exact h6)
      rw [show fm_doingSort (msi m 20 (nI (c + 1))) = some (m2, if 262 ≤ kd ∧ kd ≤ 265 then nI (kd - 262) else -1) from m_doingSort W2, bs_, if_pos hin, b2, bs_]
      dsimp only
      have t2 : m2.2.1 0 = ms.2.1 0 := tm0
      have cls : (fh_X10_next H st).bind (fun x23 => chk (isk x23 (H + 5) 8) ((dr x23 (gR x23 701 (H + 5)) 22).bind fun b26 => chk (inb (nI c) (gL x23 b26)) ((dr x23 (gR (sA x23 b26 (nI c).toNatClampNeg (nI kd)) 702 (H + 5)) 22).bind fun b31 => chk (inb (nI c) (gL (sA x23 b26 (nI c).toNatClampNeg (nI kd)) b31)) ((some (sA (sA x23 b26 (nI c).toNatClampNeg (nI kd)) b31 (nI c).toNatClampNeg (gI (sA x23 b26 (nI c).toNatClampNeg (nI kd)) 705 (H + 5)))).bind fun x36 => (if nI kd = (262 : Int32) then fh_X7_readClause_j84 (H + 5) (nI c) x36 else (if nI kd = (263 : Int32) then fh_X7_readClause_j84 (H + 5) (nI c) x36 else fh_X7_readClause_j89 (H + 5) (nI c) (0 : Int32) x36)))))) = some st2 := by
        rw [← b1, show 262 + (kd - 262) = kd by omega]
        unfold bodyH
        obtain ⟨s1, e1, F1, -⟩ := h_next J.1.1
        rw [e1, bs_, bs_]
        obtain ⟨k8', -, ⟨r1', k6', l6'⟩, ⟨r2', k7', l7'⟩, -⟩ := E.fr F1
        rw [chk_t (isk_t k8'), r1', dr_of k6', bs_, l6', chk_t (inb_n hc2 (by omega)), nI_clamp (by omega), show gR (sA s1 (H + 6) c (nI kd)) 702 (H + 5) = some (H + 7) from r2', dr_of k7', bs_, show gL (sA s1 (H + 6) c (nI kd)) (H + 7) = 13 from l7', chk_t (inb_n (show c < 13 by omega) (by omega)), bs_, bs_]
        have q : ∀ a, a < 279 → (nI kd = nI a ↔ kd = a) := fun a ha => nI_eq (by omega) (by omega)
        have q2 : nI kd = (262 : Int32) ↔ kd = 262 := q 262 (by omega)
        have q3 : nI kd = (263 : Int32) ↔ kd = 263 := q 263 (by omega)
        show (if nI kd = (262 : Int32) then fh_X7_readClause_j84 (H + 5) (nI c) (sA (sA s1 (H + 6) c (nI kd)) (H + 7) c (gI s1 705 (H + 5))) else (if nI kd = (263 : Int32) then fh_X7_readClause_j84 (H + 5) (nI c) (sA (sA s1 (H + 6) c (nI kd)) (H + 7) c (gI s1 705 (H + 5))) else fh_X7_readClause_j89 (H + 5) (nI c) (0 : Int32) (sA (sA s1 (H + 6) c (nI kd)) (H + 7) c (gI s1 705 (H + 5))))) = _
        by_cases y2 : kd = 262
        · rw [if_pos (q2.mpr y2), if_pos (Or.inl y2)]; rfl
        · rw [if_neg (fun y => y2 (q2.mp y))]
          by_cases y3 : kd = 263
          · rw [if_pos (q3.mpr y3), if_pos (Or.inr y3)]; rfl
          · rw [if_neg (fun y => y3 (q3.mp y)), if_neg (fun y => by rcases y with y | y; exact y2 y; exact y3 y)]
      have D2 : ME k ms m2 := Gm.e.tr (ME.i rfl)
      rcases b5 with ⟨x1, i2, q2, cd2, sz2, it2, q, J3, p1, p2, p3, p4, p5, p6, p7, p8, p9, p10, p11, p12, p13⟩ | ⟨x1, f, D, f1⟩
      · subst x1
        refine ⟨st2, ms2, 1, (chk_t (isk_t k8)).trans cls, chk_t (show isb (1 : Int32) = true by decide), b3, D2.tr b4.e, Or.inl ⟨rfl, hc2, ?_, i2, q2, cd2, sz2, it2, q, J3, p1, p2, p3, p4, p6, p7, by rw [p5]; exact p8, p9, p10, p11, fun x hx => by rw [p12 x hx]; show m.2.1 5 x = _; rw [tm], p13⟩⟩
        rw [b4.1.I 20 rfl]; exact msi_s _ _ _
      · subst x1
        rw [t2] at D
        exact ⟨st2, ms2, 0, (chk_t (isk_t k8)).trans cls, chk_t (show isb (0 : Int32) = true by decide), b3, D2.tr b4.e, Or.inr ⟨rfl, f, D, f1⟩⟩
    · obtain ⟨s2, ms2, rr, e, e2, hr, F, D, f, Df, ff⟩ := bad 4 (by omega)
      have e' : fh_X10_fail H (4 : Int32) st = some s2 := e
      have c12 : c = 12 := by omega
      rw [if_pos (show nI c = (12 : Int32) by rw [c12]; rfl), if_neg (show ¬ nI c < (12 : Int32) by rw [c12]; decide), chk_t (isk_t k8), bs_, e', bs_]
      exact ⟨s2, ms2, rr, rfl, e2, F, D, Or.inr ⟨hr, f, Df, ff⟩⟩
  · obtain ⟨s2, ms2, rr, e, e2, hr, F, D, f, Df, ff⟩ := bad 0 (by omega)
    have e' : fh_X10_fail H (0 : Int32) st = some s2 := e
    rw [if_neg hin, e', bs_]
    rcases Nat.lt_or_ge kd 262 with z | z
    · rw [if_pos (show nI kd < (262 : Int32) from nI_lt (b := 262) z (by omega))]
      exact ⟨s2, ms2, rr, rfl, e2, F, D, Or.inr ⟨hr, f, Df, ff⟩⟩
    · rw [if_neg (show ¬ nI kd < (262 : Int32) from nI_nlt (b := 262) z (by omega)), if_neg (show ¬ nI kd ≤ (265 : Int32) from nI_ge (b := kd) (a := 265) (by omega) (by omega))]
      exact ⟨s2, ms2, rr, rfl, e2, F, D, Or.inr ⟨hr, f, Df, ff⟩⟩
