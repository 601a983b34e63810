/-! reading a RULE: a FACT, both sides -/
theorem fact_ok {rec : Nat → Int32 → HSt → Option HSt} {H n M k d : Nat} {t : Nat → Int32} (hd : d ≤ 10) (HT : ∀ d', d < d' → d' ≤ 10 → TestOk rec H n M k d' t) : FactOk rec H n M k d t := by
  intro st ms i p cd sz it S G F R ht hS hG hF
  subst ht
  obtain ⟨e, m, s1, m1, i1, q1, G1, a1, a2, a3, a4, a5, a6, R1, a8, a9, a10⟩ := j_ahead (rec := rec) (d := d) (S := S) (10 - d) d 0 st ms i p cd sz it mFuel G F (by omega) (by omega) R (by rw [mFuel_eq]; omega) hG
  have t1 : m1.2.1 0 = ms.2.1 0 := a4.1.A 0 rfl
  have hf : fh_X7_readFact rec (H + 5) (nI d) st = fh_X7_readFact_j34 rec (H + 5) (nI d) (nI e) s1 := by
    unfold fh_X7_readFact
    rw [a1]; rfl
  rw [hf, a2]
  obtain ⟨hiM, hM⟩ := R1.t0
  obtain ⟨c, hc9, hc⟩ := R1.1.1.kn
  have q : ∀ a, a < 279 → (nI c = nI a ↔ c = a) := fun a ha => nI_eq (by omega) (by omega)
  have q269 : nI c = (269 : Int32) ↔ c = 269 := q 269 (by omega)
  have q91 : nI c = (91 : Int32) ↔ c = 91 := q 91 (by omega)
  have head : fh_X7_readFact_j34 rec (H + 5) (nI d) (nI e) s1 = (if nI e < (10 : Int32) then fh_X7_readFact_j70 rec (H + 5) (nI d) (nI e) (nI c) s1 else (if c = 269 ∨ c = 91 then (fh_X10_fail H (2 : Int32) s1).bind fun x => some x else fh_X7_readFact_j70 rec (H + 5) (nI d) (nI e) (nI c) s1)) := by
    unfold fh_X7_readFact_j34
    rw [chk_t (isk_t R1.k8), R1.r7, dr_of R1.k11, bs_, R1.kind, bs_]
    dsimp only
    rw [hc, chk_t (isk_t R1.k8), R1.r7, dr_of R1.k11, bs_]
    by_cases ze : nI e < (10 : Int32)
    · rw [if_pos ze, if_pos ze]
    · rw [if_neg ze, if_neg ze]
      by_cases z : c = 269
      · rw [if_pos (q269.mpr z), if_pos (Or.inl z)]
      · rw [if_neg (fun y => z (q269.mp y))]
        by_cases z2 : c = 91
        · rw [if_pos (q91.mpr z2), if_pos (Or.inr z2)]
        · rw [if_neg (fun y => z2 (q91.mp y)), if_neg (fun y => by rcases y with y | y; exact z y; exact z2 y)]
  by_cases deep : e = 10 ∧ (c = 269 ∨ c = 91)
  · -- too deep
    obtain ⟨e10, hcc⟩ := deep
    subst e10
    obtain ⟨G1, rfl⟩ : ∃ G', G1 = G' + 1 := ⟨G1 - 1, by omega⟩
    obtain ⟨m2, K2, M2, f2⟩ := R1.deep_ hc hcc
    obtain ⟨s2, e2, F2, D2⟩ := R1.dead (a := 2) (by omega)
    have e2' : fh_X10_fail H (2 : Int32) s1 = some s2 := e2
    rw [head, if_neg (show ¬ nI 10 < (10 : Int32) by decide), if_pos hcc, e2', K2]
    rw [t1] at D2 f2
    exact ⟨s2, rfl, a3.tr F2, Or.inr ⟨m2, _, rfl, a4.tr M2, D2, f2⟩⟩
  have j70 : fh_X7_readFact_j34 rec (H + 5) (nI d) (nI e) s1 = fh_X7_readFact_j70 rec (H + 5) (nI d) (nI e) (nI c) s1 := by
    rw [head]
    rcases Nat.lt_or_ge e 10 with z | z
    · rw [if_pos (show nI e < (10 : Int32) from nI_lt (b := 10) z (by omega))]
    · rw [if_neg (show ¬ nI e < (10 : Int32) from nI_nlt (b := 10) z (by omega)), if_neg (fun y => deep ⟨by omega, y⟩)]
  rw [j70]
  have n269 : c ≠ 269 := fun z => by
    rcases a10 with y | y
    · exact deep ⟨y, Or.inl z⟩
    · exact y (by rw [hc, z]; rfl)
  have loS : ∀ m, (List.replicate m 11 ++ S = [] ∨ ∃ x S', List.replicate m 11 ++ S = x :: S') := fun m => by
    cases h : List.replicate m 11 ++ S with
    | nil => exact Or.inl rfl
    | cons x S' => exact Or.inr ⟨x, S', rfl⟩
  by_cases z91 : c = 91
  · -- brackets
    have e9 : e < 10 := by
      rcases Nat.lt_or_ge e 10 with y | y
      · exact y
      · exact absurd ⟨by omega, Or.inr z91⟩ deep
    obtain ⟨G1, rfl⟩ : ∃ G', G1 = G' + 1 := ⟨G1 - 1, by omega⟩
    obtain ⟨s2, m2, q2, e2, F2, K2, M2, hi, R2⟩ := R1.open_ (x := 91) e9 hc (Or.inr ⟨z91, rfl⟩)
    have t2 : m2.2.1 0 = ms.2.1 0 := by rw [M2.1.A 0 rfl, t1]
    obtain ⟨s3, e3, F3, c3⟩ := HT (e + 1) (by omega) (by omega) s2 m2 (i1 + 1) q2 cd sz it (91 :: (List.replicate m 11 ++ S)) G1 F R2 t2 (Or.inr ⟨_, rfl⟩) (by omega) (by omega)
    rw [K2]
    have hd70 : fh_X7_readFact_j70 rec (H + 5) (nI d) (nI e) (nI c) s1 = chk (isk s3 (H + 5) 8) ((dr s3 (gR s3 700 (H + 5)) 11).bind fun b44 => (fh_X10_kind b44 s3).bind fun x48 => (if x48.2 = (93 : Int32) then fh_X7_readFact_j108 rec (H + 5) (nI d) (nI e) (1 : Int32) (H + 5) x48.1 else fh_X7_readFact_j108 rec (H + 5) (nI d) (nI e) (0 : Int32) (H + 5) x48.1)) := by
      unfold fh_X7_readFact_j70
      rw [if_pos (q91.mpr z91), chk_t (isk_t R1.k8), R1.r7, dr_of R1.k11, bs_, e2, bs_, chk_t (isk_t R2.k8), nI_1, e3, bs_]
    rw [hd70]
    have FF := (a3.tr (Frd F2)).tr F3
    rcases c3 with ⟨m3, i3, q3, cd3, sz3, it3, P, G3, F3', K3, M3, R3, hP, n268, n267, g1, g2, o1, o2, o3, o4⟩ | ⟨m3, f, K3, M3, D3, f3⟩
    · have t3 : m3.2.1 0 = ms.2.1 0 := by rw [M3.1.A 0 rfl, t2]
      rw [chk_t (isk_t R3.k8), R3.r7, dr_of R3.k11, bs_, R3.kind, bs_]
      dsimp only
      by_cases z93 : gA s3 (H + 1) i3 = 93
      · rw [if_pos z93]
        obtain ⟨G3, rfl⟩ : ∃ G', G3 = G' + 1 := ⟨G3 - 1, by omega⟩
        obtain ⟨s4, m4, q4, e4, F4, K4, M4, hi3, R4⟩ := R3.close_ hP z93
        have R4' : RT s4 m4 H n M (i3 + 1) q4 k cd3 sz3 it3 [] (List.replicate m 11 ++ S) (d + m) := by rw [← a5]; exact R4
        obtain ⟨s5, m5, cd5, sz5, e5, e5m, F5, M5, R5, b1, b2, S5⟩ := j_nots (rec := rec) R4' hS (by omega) o4
        unfold fh_X7_readFact_j108 fh_X7_takeSign
        rw [chk_t (isk_t R3.k8), if_neg (show ¬ (1 : Int32) = 0 by decide), chk_t (isk_t R3.k8), R3.r7, dr_of R3.k11, bs_, e4, bs_, bs_, a5, e5]
        refine ⟨s5, rfl, (FF.tr (Frd F4)).tr F5, Or.inl ⟨m5, i3 + 1, q4, cd5, sz5, it3, G3, F3', ?_, (((a4.tr M2).tr M3).tr M4).tr M5, R5, by omega, by omega, by omega, by omega, fun j hj => by rw [b1 j (by have := o4.1; omega)]; exact o3 j hj, S5⟩⟩
        rw [K3, K4, e5m]; rfl
      · rw [if_neg z93]
        obtain ⟨G3, rfl⟩ : ∃ G', G3 = G' + 1 := ⟨G3 - 1, by omega⟩
        obtain ⟨F3', rfl⟩ : ∃ F', F3' = F' + 1 := ⟨F3' - 1, by omega⟩
        obtain ⟨c3, hc39, hc3⟩ := R3.1.1.kn
        have R3s := R3.seen
        have K4 := R3.stop_ (Or.inl z93) G3 (F3' + 1)
        have nn : ∀ a, a < 279 → gA s3 (H + 1) i3 ≠ nI a → c3 ≠ a := fun a ha h y => h (by rw [hc3, y])
        have K5 := R3s.endB hc3 hc39 (nn 268 (by omega) n268) (nn 267 (by omega) n267) (List.mem_append_right _ (List.mem_cons_self ..)) F3'
        obtain ⟨s4, e4, F4, D4⟩ := R3.dead (a := 0) (by omega)
        have e4' : fh_X10_fail H (0 : Int32) s3 = some s4 := e4
        obtain ⟨s5, e5, F5, D5⟩ := d_next D4
        obtain ⟨s6, e6, F6, D6⟩ := d_nots (rec := rec) (d := d) (e := e) D5 (by omega) (by omega)
        unfold fh_X7_readFact_j108 fh_X7_takeSign
        rw [chk_t (isk_t R3.k8), if_pos rfl, chk_t (isk_t R3.k8), R3.r7, dr_of R3.k11, bs_, e4', bs_, chk_t (isk_t D4.k8), D4.r7, dr_of D4.k11, bs_, e5, bs_, bs_, e6]
        refine ⟨s6, rfl, ((FF.tr F4).tr F5).tr F6, Or.inr ⟨_, _, by rw [K3, K4, K5], ((a4.tr M2).tr M3).tr ((MT.i rfl).tr (MT.i rfl)), ?_, msi_s _ _ _⟩⟩
        rw [t3] at D6
        show Dd s6 H (ms.2.1 0) n M (nI (1 + 8 * ps (m3.2.1 0) n i3 + 0))
        rw [t3]; exact D6
    · obtain ⟨s5, e5, F5, D5⟩ := d_take (a := 0) D3
      obtain ⟨s6, e6, F6, D6⟩ := d_nots (rec := rec) (d := d) (e := e) D5 (by omega) (by omega)
      rw [chk_t (isk_t D3.k8), D3.r7, dr_of D3.k11, bs_, d_kind D3, bs_]
      dsimp only
      rw [if_neg (show ¬ (1 : Int32) = 93 by decide)]
      unfold fh_X7_readFact_j108
      rw [chk_t (isk_t D3.k8), e5, bs_, e6]
      exact ⟨s6, rfl, (FF.tr F5).tr F6, Or.inr ⟨m3, f, K3, (a4.tr M2).tr M3, D6, f3⟩⟩
  · -- a comparison
    obtain ⟨G1, rfl⟩ : ∃ G', G1 = G' + 2 := ⟨G1 - 2, by omega⟩
    rw [R1.cmpK_ hc hc9 n269 z91]
    have hd70 : fh_X7_readFact_j70 rec (H + 5) (nI d) (nI e) (nI c) s1 = cmpH rec H (nI d) (nI e) s1 := by
      unfold fh_X7_readFact_j70 cmpH
      rw [if_neg (fun y => z91 (q91.mp y))]
    rw [hd70]
    have R1s := R1.seen
    obtain ⟨m2, rr, ec, M2, c2⟩ := j_cmp R1s.rj (by have := R1s.cap; omega)
    have M2t : MT k ms m2 := (a4.tr (MT.i rfl)).tr M2.t
    have t2 : m2.2.1 0 = ms.2.1 0 := M2t.1.A 0 rfl
    rcases c2 with ⟨x1, s2, i2, q2, cd2, sz2, it2, J2, F2, h2, o1, o2, o3, o4, o5⟩ | ⟨x1, f, f2, D2⟩
    · subst x1
      rw [bq_ ec (Or.inl rfl), h2]
      have st2 : StR m2 (List.replicate m 11 ++ S) := by
        have T := R1s.st_
        unfold StR at *
        rw [M2.1.I 22 rfl, M2.1.A 21 rfl]; exact T
      have cap := R1s.cap
      have R2 : RT s2 m2 H n M i2 q2 k cd2 sz2 it2 [] (List.replicate m 11 ++ S) (d + m) := J2.rt st2 (by rw [M2.1.I 19 rfl, ← a5]; exact R1s.2.2.2.2.2.2.2.2.1) (by omega) (fun x hx => R1s.bnd x hx)
      obtain ⟨s5, m5, cd5, sz5, e5, e5m, F5, M5, R5, b1, b2, S5⟩ := j_nots (rec := rec) R2 hS (by omega) o5
      rw [a5, e5]
      refine ⟨s5, rfl, (a3.tr F2).tr F5, Or.inl ⟨m5, i2, q2, cd5, sz5, it2, mFuel, F, ?_, M2t.tr M5, R5, by rw [mFuel_eq]; omega, by omega, by omega, by omega, fun j hj => by rw [b1 j (by have := o5.1; omega)]; exact o4 j hj, S5⟩⟩
      show Kf2 F (m2, 1) = _
      unfold Kf2 Kcl
      rw [if_neg (show ¬ (1 : Int32) = 0 by decide), e5m]
      rfl
    · subst x1
      obtain ⟨s5, e5, F5, D5⟩ := D2 rec d e (by omega) (by omega)
      rw [bq_ ec (Or.inr rfl), e5]
      refine ⟨s5, rfl, a3.tr F5, Or.inr ⟨m2, f, ?_, M2t, ?_, f2⟩⟩
      · show Kf2 F (m2, 0) = _
        unfold Kf2
        rw [if_pos rfl]
      · have : (msi m1 14 (nI (ps (m1.2.1 0) n i1))).2.1 0 = ms.2.1 0 := t1
        rw [this] at D5; exact D5
