/-! reading a RIVER: a clause, both sides -/
def mRw (k : Nat) : Bool := mRv k || k == 20
theorem mRv_w : ∀ k, mRv k = true → mRw k = true := fun k h => by unfold mRw; rw [h]; rfl
def bq (x : Option (MSt × Int32)) : Option (MSt × Int32) := x.bind fun y => chk (isb y.2) (some (y.1, y.2))
theorem bq_ {x : Option (MSt × Int32)} {m : MSt} {v : Int32} (h : x = some (m, v)) (hv : v = 1 ∨ v = 0) : bq x = some (m, v) := by
  rw [h]
  show chk (isb v) (some (m, v)) = _
  rcases hv with z | z <;> subst z <;> exact chk_t (by decide)
theorem m_rline {m : MSt} {a : Int32} {c : Nat} (W : ∀ k, k < 23 → fm_isWord (wV k) m = some (m, if c = 256 + k then 1 else 0)) :
    (c = 256 → fm_riverLineHere a m = bq (fm_isWideHere a m)) ∧ (c ≠ 256 → m.1 7 = 0 → fm_riverLineHere a m = bq (fm_fails 4 a m)) ∧
    (c = 257 → m.1 7 ≠ 0 → fm_riverLineHere a m = bq (fm_isBankHere m)) ∧ (c = 258 → m.1 7 ≠ 0 → fm_riverLineHere a m = bq (fm_areEyesHere m)) ∧
    (c = 259 → m.1 7 ≠ 0 → fm_riverLineHere a m = bq (fm_isStepHere a m)) ∧ (c = 260 → m.1 7 ≠ 0 → fm_riverLineHere a m = bq (fm_areInchesHere a m)) ∧ (c = 261 → m.1 7 ≠ 0 → fm_riverLineHere a m = bq (fm_isFloodHere a m)) := by
  have n1 : ¬ (1 : Int32) = 0 := by decide
  unfold fm_riverLineHere
  rw [wV_0, wV_1, wV_2, wV_3, wV_4, W 0 (by omega), bs_]
  dsimp only
  rw [W 1 (by omega), bs_]
  dsimp only
  rw [W 2 (by omega), bs_]
  dsimp only
  rw [W 3 (by omega), bs_]
  dsimp only
  rw [W 4 (by omega), bs_]
  dsimp only
  refine ⟨fun h => ?_, fun h h7 => ?_, fun h h7 => ?_, fun h h7 => ?_, fun h h7 => ?_, fun h h7 => ?_, fun h h7 => ?_⟩
  · rw [if_pos (show c = 256 + 0 from h), if_neg n1]; rfl
  · rw [if_neg (show ¬ c = 256 + 0 from h), if_pos rfl, if_pos h7]; rfl
  · rw [if_neg (show ¬ c = 256 + 0 by omega), if_pos rfl, if_neg h7, if_pos (show c = 256 + 1 from h), if_neg n1]; rfl
  · rw [if_neg (show ¬ c = 256 + 0 by omega), if_pos rfl, if_neg h7, if_neg (show ¬ c = 256 + 1 by omega), if_pos rfl, if_pos (show c = 256 + 2 from h), if_neg n1]; rfl
  · rw [if_neg (show ¬ c = 256 + 0 by omega), if_pos rfl, if_neg h7, if_neg (show ¬ c = 256 + 1 by omega), if_pos rfl, if_neg (show ¬ c = 256 + 2 by omega), if_pos rfl, if_pos (show c = 256 + 3 from h), if_neg n1]; rfl
  · rw [if_neg (show ¬ c = 256 + 0 by omega), if_pos rfl, if_neg h7, if_neg (show ¬ c = 256 + 1 by omega), if_pos rfl, if_neg (show ¬ c = 256 + 2 by omega), if_pos rfl, if_neg (show ¬ c = 256 + 3 by omega), if_pos rfl, if_pos (show c = 256 + 4 from h), if_neg n1]; rfl
  · rw [if_neg (show ¬ c = 256 + 0 by omega), if_pos rfl, if_neg h7, if_neg (show ¬ c = 256 + 1 by omega), if_pos rfl, if_neg (show ¬ c = 256 + 2 by omega), if_pos rfl, if_neg (show ¬ c = 256 + 3 by omega), if_pos rfl, if_neg (show ¬ c = 256 + 4 by omega), if_pos rfl]; rfl
theorem RvO.b {t : Nat → Int32} {H n M r : Nat} {st st2 : HSt} {ms ms2 : MSt} {rr : Int32} (h : RvO t H n M r st st2 ms ms2 rr) : rr = 1 ∨ rr = 0 := by
  rcases h.2.2 with z | z
  · exact Or.inl z.1
  · exact Or.inr z.1
/-- what a clause comes to, both sides -/
def RvC (t : Nat → Int32) (H n M r c : Nat) (st st2 : HSt) (ms ms2 : MSt) (rr : Int32) : Prop := Fr (RvX H r) st st2 ∧ MF mRw ms ms2 ∧ ((rr = 1 ∧ c < 24 ∧ ms2.1 20 = nI (c + 1) ∧ ∃ i q w k, 2 ≤ w ∧ Jt2 st2 ms2 H n M i q ∧ RvJ st2 ms2 H r w k) ∨ (rr = 0 ∧ ∃ i f, f ≠ 0 ∧ ms2.1 15 = f ∧ Tk st2 H t n M i f))
theorem j_rclause {st : HSt} {ms : MSt} {H n M i p r w k c : Nat} (E : RvE st H r) (J : Jt2 st ms H n M i p) (V : RvJ st ms H r w k) (hw : (c = 0 ∧ w = 0) ∨ (c ≠ 0 ∧ 2 ≤ w)) (hc : c ≤ 24) (h17 : ms.1 17 = 6) (h20 : ms.1 20 = nI c) : ∃ st2 ms2 rr, fh_X5_readClause (H + 4) (some r) (nI c) st = some st2 ∧ fm_clauseHere ms = some (ms2, rr) ∧ RvC (ms.2.1 0) H n M r c st st2 ms ms2 rr := by
  have hr := E.1
  have T := J.1
  have J1 := J.seen
  obtain ⟨kd, hk9, hK⟩ := T.kn
  have hps : ps (ms.2.1 0) n i ≤ 400 := Nat.le_trans (ps_le i) J.2.1.2.1
  obtain ⟨a0, -⟩ := id T.1
  obtain ⟨hk6, h5, k5⟩ : gK st (H + 4) = 6 ∧ gR st 500 (H + 4) = some H ∧ gK st r = 5 := ⟨E.2.1, E.2.2.1, E.2.2.2.1⟩
  generalize hm1 : msi ms 14 (nI (ps (ms.2.1 0) n i)) = m1 at J1
  have t1 : m1.2.1 0 = ms.2.1 0 := by rw [← hm1]; rfl
  rw [← t1] at J1
  have q14 : m1.1 14 = nI (ps (ms.2.1 0) n i) := by rw [← hm1, msi_s]
  have q17 : m1.1 17 = 6 := by rw [← hm1, msi_n (by omega)]; exact h17
  have q20 : m1.1 20 = nI c := by rw [← hm1, msi_n (by omega)]; exact h20
  have q15 : m1.1 15 = 0 := J1.2.2.1
  have G1 : MF mRw ms m1 := by rw [← hm1]; exact MF.msi rfl
  -- a fault, told by both
  have bad : ∀ a m, a < 5 → m.1 15 = 0 → MF mRw ms m → ∃ s2 ms2 rr, fh_X10_fail H (nI a) st = some s2 ∧ bq (fm_fails (nI a) (nI (ps (ms.2.1 0) n i)) m) = some (ms2, rr) ∧ RvC (ms.2.1 0) H n M r c st s2 ms ms2 rr := by
    intro a m ha hm G
    obtain ⟨s2, e, F, -, T2, -⟩ := h_fail (a := a) T
    rw [if_pos rfl] at T2
    refine ⟨s2, _, _, e, bq_ (m_fails hm) (Or.inr rfl), Frw F, G.tr (MF.msi rfl), Or.inr ⟨rfl, i, _, ?_, msi_s _ _ _, T2⟩⟩
    intro z
    have := (nI_eq (b := 0) (by omega) (by omega)).mp z
    omega
  have head : fm_clauseHere ms = (fm_isRiverWord m1).bind fun x25 => (if x25.2 = 0 then bq (fm_fails (0 : Int32) (nI (ps (ms.2.1 0) n i)) x25.1) else fm_clauseHere_j53 (nI (ps (ms.2.1 0) n i)) 1 x25.1) := by
    unfold fm_clauseHere
    rw [j_see J, bs_]
    dsimp only
    rw [hm1, q17, if_pos rfl, q14]
    unfold fm_clauseHere_j24
    rw [if_neg (show ¬ (1 : Int32) = 0 by decide)]
    rfl
  have hK1 : gA st (H + 1) i = nI kd := hK
  rw [head, m_isRiverWord J1 hK1 hk9, bs_]
  dsimp only
  unfold fh_X5_readClause
  rw [chk_t (isk_t hk6), h5, dr_of a0, bs_, h_kind T, bs_]
  dsimp only
  rw [if_pos (show (0 : Int32) = 0 from rfl), hK, chk_t (isk_t hk6), h5, dr_of a0, bs_]
  by_cases hin : 256 ≤ kd ∧ kd ≤ 261
  · rw [if_pos hin, if_neg (show ¬ (1 : Int32) = 0 by decide), if_neg (show ¬ nI kd < (256 : Int32) from nI_nlt (b := 256) hin.1 (by omega)), if_pos (show nI kd ≤ (261 : Int32) from nI_le (b := 261) hin.2 (by omega)), bs_]
    unfold fm_clauseHere_j53 fm_clauseHere_j68
    rw [if_neg (show ¬ (1 : Int32) = 0 by decide), q20]
    rcases Nat.lt_or_ge c 24 with hc4 | hc4
    · rw [if_neg (show ¬ nI c = (24 : Int32) from fun z => by have := (nI_eq (b := 24) (by omega) (by omega)).mp z; omega), if_neg (show ¬ (1 : Int32) = 0 by decide), if_neg (show ¬ (24 : Int32) ≤ nI c from nI_ge (b := 24) hc4 (by omega)), nI_1, chk_t (isk_t hk6)]
      generalize hm2 : msi m1 20 (nI (c + 1)) = m2
      have t2 : m2.2.1 0 = ms.2.1 0 := by rw [← hm2]; exact t1
      have Gy : MF (fun k => k == 14 || k == 20) ms m2 := by rw [← hm2, ← hm1]; exact (MF.msi rfl).tr (MF.msi rfl)
      have G2 : MF mRw ms m2 := by rw [← hm2]; exact G1.tr (MF.msi rfl)
      have J2 : Jt2 st m2 H n M i (ps (m2.2.1 0) n i) := by rw [t2, ← t1, ← hm2]; exact J1.frm (Y := fun k => k == 20) (MF.msi rfl) rfl rfl rfl rfl
      have W : ∀ k, k < 23 → fm_isWord (wV k) m2 = some (m2, if kd = 256 + k then 1 else 0) := fun k hk => j_w J2 hK hk9 hk
      obtain ⟨L0, Lf, L1, L2, L3, L4, L5⟩ := m_rline (a := nI (ps (ms.2.1 0) n i)) W
      have V2 : RvJ st m2 H r w k := V.frm Gy (fun j h1 h2 => by
        rcases (by omega : j = 7 ∨ j = 8 ∨ j = 9 ∨ j = 10 ∨ j = 11 ∨ j = 12 ∨ j = 13) with z | z | z | z | z | z | z <;> rw [z] <;> rfl)
      have s20 : m2.1 20 = nI (c + 1) := by rw [← hm2, msi_s]
      obtain ⟨⟨w1, w2, w3⟩, -, -, ⟨k1, k2, k3, -⟩, g5, g6⟩ := id V2
      have b5 : gI st 501 (H + 4) = 0 ∨ gI st 501 (H + 4) = 1 := by rcases g5 with z | z; exact Or.inl z.1; exact Or.inr z.1
      have b6 : gI st 502 (H + 4) = 0 ∨ gI st 502 (H + 4) = 1 := by rcases g6 with z | z; exact Or.inl z.1; exact Or.inr z.1
      obtain ⟨x, ex, hx⟩ := h_many E (show c ≤ 24 by omega) k3 hk9 k1 b5 b6
      rw [ex, bs_]
      dsimp only
      show ∃ st2 ms2 rr, _ ∧ bq (fm_riverLineHere (nI (ps (ms.2.1 0) n i)) m2) = some (ms2, rr) ∧ _
      have nw : ∀ {v : Nat}, 2 ≤ v → v ≤ 40 → ¬ nI v = 0 := fun h1 h2 z => by have := (nI_eq (b := 0) (by omega) (by omega)).mp z; omega
      rcases hx with ⟨x0, hx⟩ | ⟨x1, hx⟩
      · subst x0
        rw [if_pos rfl, chk_t (isk_t hk6), h5, dr_of a0, bs_]
        obtain ⟨s1, m3, e1, e2, F1, -, G3, J3⟩ := j_pass J2 (show kd - 256 < 23 by omega) (T.lt hK (by omega) hk9) (by rw [hK, show 256 + (kd - 256) = kd by omega])
        rw [e1, bs_]
        have E1 := E.fr F1
        have V3 : RvJ s1 m3 H r w k := (V2.frh F1 (by omega) (fun j hj => by omega)).frm G3 (fun j h1 h2 => by
          rcases (by omega : j = 7 ∨ j = 8 ∨ j = 9 ∨ j = 10 ∨ j = 11 ∨ j = 12 ∨ j = 13) with z | z | z | z | z | z | z <;> rw [z] <;> rfl)
        have t3 : m3.2.1 0 = ms.2.1 0 := by rw [G3.A 0 rfl, t2]
        have u20 : m3.1 20 = nI (c + 1) := by rw [G3.I 20 rfl]; exact s20
        have fin : ∀ {s2 ms2 rr}, RvO (m3.2.1 0) H n M r s1 s2 m3 ms2 rr → RvC (ms.2.1 0) H n M r c st s2 ms ms2 rr := by
          rintro s2 ms2 rr ⟨f1, f2, f3⟩
          rw [t3] at f3
          refine ⟨(Frw F1).tr f1, (G2.tr (G3.mo (fun k h => by rw [of_decide_eq_true h]; rfl))).tr (f2.mo mRv_w), ?_⟩
          rcases f3 with ⟨y1, y2⟩ | y
          · exact Or.inl ⟨y1, hc4, by rw [f2.I 20 rfl]; exact u20, y2⟩
          · exact Or.inr y
        have q : ∀ a, a < 279 → (nI kd = nI a ↔ kd = a) := fun a ha => nI_eq (by omega) (by omega)
        have q6 : nI kd = (256 : Int32) ↔ kd = 256 := q 256 (by omega)
        have q7 : nI kd = (257 : Int32) ↔ kd = 257 := q 257 (by omega)
        have q8 : nI kd = (258 : Int32) ↔ kd = 258 := q 258 (by omega)
        have q9 : nI kd = (259 : Int32) ↔ kd = 259 := q 259 (by omega)
        have q10 : nI kd = (260 : Int32) ↔ kd = 260 := q 260 (by omega)
        have k61 := E1.2.1
        by_cases z0 : kd = 256
        · have c0 : c = 0 := by
            by_cases y : c = 0
            · exact y
            · exact absurd (Or.inr (Or.inl ⟨y, z0⟩)) hx
          have w0 : w = 0 := by omega
          subst w0
          obtain ⟨s2, v, ms2, rr, d1, d2, d3, O⟩ := j_wide (at_ := nI (ps (ms.2.1 0) n i)) E1 J3 V3 e2 w2
          rw [if_pos (q6.mpr z0), chk_t (isk_t k61), d1, bs_]
          dsimp only
          rw [dr_of d2, bs_, L0 z0, bq_ d3 O.b]
          exact ⟨_, _, _, rfl, bq_ rfl O.b, fin O⟩
        have c1 : c ≠ 0 := fun y => hx (Or.inl ⟨y, z0⟩)
        have w2' : 2 ≤ w := by omega
        have h7 : m2.1 7 ≠ 0 := by rw [w2]; exact nw w2' w3
        rw [if_neg (fun y => z0 (q6.mp y))]
        by_cases z1 : kd = 257
        · obtain ⟨s2, ms2, rr, d1, d3, O⟩ := j_bank E1 J3 V3 w2' e2
          rw [if_pos (q7.mpr z1), chk_t (isk_t k61), d1, bs_, L1 z1 h7, bq_ d3 O.b]
          exact ⟨_, _, _, rfl, bq_ rfl O.b, fin O⟩
        rw [if_neg (fun y => z1 (q7.mp y))]
        by_cases z2 : kd = 258
        · obtain ⟨s2, ms2, rr, d1, d3, O⟩ := j_eyes E1 J3 V3 w2' e2
          rw [if_pos (q8.mpr z2), chk_t (isk_t k61), d1, bs_, L2 z2 h7, bq_ d3 O.b]
          exact ⟨_, _, _, rfl, bq_ rfl O.b, fin O⟩
        rw [if_neg (fun y => z2 (q8.mp y))]
        by_cases z3 : kd = 259
        · have h8 : m2.1 8 = -1 := by
            rcases g5 with y | y
            · exact y.2.1
            · exact absurd (Or.inr (Or.inr (Or.inl ⟨z3, y.1⟩))) hx
          obtain ⟨s2, v, ms2, rr, d1, d2, d4, d3, O⟩ := j_step (at_ := nI (ps (ms.2.1 0) n i)) E1 J3 V3 w2' e2 h8
          rw [if_pos (q9.mpr z3), chk_t (isk_t k61), d1, bs_]
          dsimp only
          rw [dr_of d2, bs_, chk_t (isk_t d4), L3 z3 h7, bq_ d3 O.b]
          exact ⟨_, _, _, rfl, bq_ rfl O.b, fin O⟩
        rw [if_neg (fun y => z3 (q9.mp y))]
        by_cases z4 : kd = 260
        · have h9 : m2.1 9 = -1 := by
            rcases g6 with y | y
            · exact y.2.1
            · exact absurd (Or.inr (Or.inr (Or.inr (Or.inl ⟨z4, y.1⟩)))) hx
          obtain ⟨s2, v, ms2, rr, d1, d2, d4, d3, O⟩ := j_inch (at_ := nI (ps (ms.2.1 0) n i)) E1 J3 V3 w2' e2 h9
          rw [if_pos (q10.mpr z4), chk_t (isk_t k61), d1, bs_]
          dsimp only
          rw [dr_of d2, bs_, chk_t (isk_t d4), L4 z4 h7, bq_ d3 O.b]
          exact ⟨_, _, _, rfl, bq_ rfl O.b, fin O⟩
        rw [if_neg (fun y => z4 (q10.mp y))]
        have z5 : kd = 261 := by omega
        have hk8 : k < 8 := by
          rcases Nat.lt_or_ge k 8 with y | y
          · exact y
          · exact absurd (Or.inr (Or.inr (Or.inr (Or.inr ⟨z5, by omega⟩)))) hx
        obtain ⟨s2, ms2, rr, d1, d3, O⟩ := j_flood (at_ := nI (ps (ms.2.1 0) n i)) E1 J3 V3 w2' hk8 e2 k2
        rw [chk_t (isk_t k61), d1, bs_, L5 z5 h7, bq_ d3 O.b]
        exact ⟨_, _, _, rfl, bq_ rfl O.b, fin O⟩
      · subst x1
        have m15 : m2.1 15 = 0 := J2.2.2.1
        obtain ⟨s2, ms2, rr, d1, d2, O⟩ := bad 4 m2 (by omega) m15 G2
        have rb : rr = 1 ∨ rr = 0 := by
          rcases O.2.2 with z | z
          · exact Or.inl z.1
          · exact Or.inr z.1
        have d1' : fh_X10_fail H (4 : Int32) st = some s2 := d1
        rw [if_neg (show ¬ (1 : Int32) = 0 by decide), chk_t (isk_t hk6), h5, dr_of a0, bs_, d1', bs_]
        have d2' : bq (fm_fails (4 : Int32) (nI (ps (ms.2.1 0) n i)) m2) = some (ms2, rr) := d2
        have line : fm_riverLineHere (nI (ps (ms.2.1 0) n i)) m2 = some (ms2, rr) := by
          by_cases z0 : kd = 256
          · rw [L0 z0]
            have w2' : 2 ≤ w := by
              rcases hx with y | y | y | y | y <;> omega
            refine bq_ ?_ rb
            unfold fm_isWideHere
            rw [w2, if_neg (show ¬ nI w ≤ (0 : Int32) from nI_ge (a := 0) (b := w) (by omega) (by omega))]
            exact d2'
          · by_cases y : w = 0
            · rw [Lf z0 (by rw [w2, y]; rfl)]; exact d2'
            · have h7 : m2.1 7 ≠ 0 := by rw [w2]; exact nw (by omega) w3
              rcases hx with y | y | ⟨y, y2⟩ | ⟨y, y2⟩ | ⟨y, y2⟩
              · omega
              · omega
              · rw [L3 y h7]
                refine bq_ ?_ rb
                rcases g5 with u | ⟨-, -, s, -, s1, s2, -⟩
                · rw [u.1] at y2; exact absurd y2 (by decide)
                · unfold fm_isStepHere
                  rw [s2, if_neg (show ¬ nI s < (0 : Int32) from nI_nlt (b := 0) (by omega) (by omega))]
                  exact d2'
              · rw [L4 y h7]
                refine bq_ ?_ rb
                rcases g6 with u | ⟨-, s, s1, s2, -⟩
                · rw [u.1] at y2; exact absurd y2 (by decide)
                · unfold fm_areInchesHere
                  rw [s2, if_neg (show ¬ nI s < (0 : Int32) from nI_nlt (b := 0) (by omega) (by omega))]
                  exact d2'
              · rw [L5 y h7]
                refine bq_ ?_ rb
                unfold fm_isFloodHere
                rw [k2, y2, if_pos (show nI 8 = (8 : Int32) from rfl)]
                exact d2'
        rw [line]
        exact ⟨_, _, _, rfl, bq_ rfl rb, O⟩
    · have c24 : c = 24 := by omega
      obtain ⟨s2, ms2, rr, d1, d2, O⟩ := bad 4 m1 (by omega) q15 G1
      have d1' : fh_X10_fail H (4 : Int32) st = some s2 := d1
      rw [if_pos (show nI c = (24 : Int32) by rw [c24]; rfl), if_pos (show (24 : Int32) ≤ nI c by rw [c24]; decide), d1', bs_]
      exact ⟨_, _, _, chk_t (isk_t hk6), d2, O⟩
  · obtain ⟨s2, ms2, rr, d1, d2, O⟩ := bad 0 m1 (by omega) q15 G1
    have d1' : fh_X10_fail H (0 : Int32) st = some s2 := d1
    rw [if_neg hin, if_pos rfl]
    rw [d1', bs_]
    rcases Nat.lt_or_ge kd 256 with z | z
    · rw [if_pos (show nI kd < (256 : Int32) from nI_lt (b := 256) z (by omega))]
      exact ⟨_, _, _, rfl, d2, O⟩
    · rw [if_neg (show ¬ nI kd < (256 : Int32) from nI_nlt (b := 256) z (by omega)), if_neg (show ¬ nI kd ≤ (261 : Int32) from nI_ge (b := kd) (a := 261) (by omega) (by omega))]
      exact ⟨_, _, _, rfl, d2, O⟩
