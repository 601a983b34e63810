/-! straight, spite: the recursion of the class -/
def ent (md : Option Nat) (sd rc : Nat) (u : Option Ru) (m g cost : Nat) (path v : Nat → Int32) (a : Ac) : Ac := if pGap v = 0 ∨ m = 0 then wei md sd v cost (rowO path g) a else nod md sd rc u m g cost path v a
theorem chi_e {md : Option Nat} {sd rc : Nat} {u : Option Ru} {m g cost : Nat} {path v2 : Nat → Int32} {mark : Int32} {a : Ac} : chi md sd m g cost path v2 mark (nod md sd rc u m (g + 1)) a = if pru md cost a = true then a else ent md sd rc u m (g + 1) cost (upd path g mark) v2 a := rfl
theorem pur_iff {hx c2 : Nat} {st : HSt} {md : Option Nat} {a : Ac} (A : AcR hx st md a) (hc : ∀ c, md = some c → c ≤ 8) (h : c2 ≤ 12) : gI st 111 (hx + 103) < nI c2 ↔ pru md c2 a = true := by
  unfold pru
  cases md with
  | some c =>
    have := hc c rfl
    rw [A.1 c rfl]
    dsimp only
    rw [decide_eq_true_iff, nI_ltI (by omega) (by omega)]
  | none =>
    dsimp only
    cases ha : a.1 with
    | none =>
      rw [(A.2.1 ha).2 rfl]
      dsimp only
      exact ⟨fun q => absurd q (nI_nlt (by omega) (by omega)), fun q => by cases q⟩
    | some b =>
      obtain ⟨-, -, hb, -, hb2⟩ := A.2.2 b ha
      rw [hb2 rfl]
      dsimp only
      rw [decide_eq_true_iff]
      cases b with
      | zero => exact ⟨fun _ => Nat.zero_le _, fun _ => Int32.lt_of_lt_of_le (show nI 0 - 1 < 0 by decide) (nI_pos' (by omega))⟩
      | succ b => rw [nI_pred, nI_ltI (by omega) (by omega)]; omega
theorem tv_lt {rc k : Nat} (hr : rc ≤ 2) (hk : k ≤ 2 * rc + 1) : nI rc < tv rc k ↔ 2 * rc < k := by
  unfold tv
  rw [Int32.lt_iff_toInt_lt, pk_sub_toInt (by omega) (by omega), nI_toInt (by omega)]; omega
theorem tv_1 {rc k : Nat} : tv rc k + 1 = tv rc (k + 1) := by
  unfold tv
  rw [← nI_1, Int32.sub_eq_add_neg, Int32.sub_eq_add_neg, Int32.add_assoc, Int32.add_comm _ 1, ← Int32.add_assoc]
theorem tv_0 {rc : Nat} : -nI rc = tv rc 0 := by
  unfold tv; exact (Int32.zero_sub _).symm
theorem ab_le {rc k : Nat} (hr : rc ≤ 2) (hk : k ≤ 2 * rc) : ab rc k ≤ 2 := by unfold ab; split <;> omega
theorem pru_mono {md : Option Nat} {c1 c2 : Nat} {a : Ac} (h : c1 ≤ c2) (p : pru md c1 a = true) : pru md c2 a = true := by
  unfold pru at *
  cases md with
  | some c => dsimp only at *; rw [decide_eq_true_iff] at *; omega
  | none =>
    dsimp only at *
    cases ha : a.1 with
    | none => rw [ha] at p; cases p
    | some b => rw [ha] at p; dsimp only at *; rw [decide_eq_true_iff] at *; omega
theorem h_node {hx n sd rc sp r : Nat} {md : Option Nat} {q : Option Nat} {u : Option Ru} {v0 : Nat → Int32} (hsd : sd < 2) (hrc : rc ≤ 2) (hsp : v0 2 = nI sp) (hsp2 : sp ≤ 20) (ersp : rc = if sp < 2 then sp else 2) (hc8 : ∀ c, md = some c → c ≤ 8) (hn : n ≤ 6) : ∀ (m g : Nat), g + m = n → ∀ (k D cost : Nat) (a : Ac) (path v : Nat → Int32) (st : HSt), D + m ≤ 20000 → HdR hx st n md sd q u v0 → AcR hx st md a → SpR st (hx + 33 + 10 * g) r v → VOk D v → KpR v0 v → (∀ i, i < g → gA st (hx + 104) i = path i) → cost ≤ 2 * g → pru md cost a = false → ∃ st2, fh_X1_goDeeper (m + 1 + k) (hx + 103) (nI g) (nI cost) st = some st2 ∧ HdR hx st2 n md sd q u v0 ∧ Fr (Wh hx g) st st2 ∧ (∀ i, i < g → gA st2 (hx + 104) i = gA st (hx + 104) i) ∧ AcR hx st2 md (ent md sd rc u m g cost path v a) := by
  intro m
  induction m with
  | zero =>
    intro g hg k D cost a path v st hD Q A S V K hp hcost hpr
    obtain ⟨w, h, Q1, ⟨a1, a2, a3, a4, a5⟩, E⟩ := id Q
    have k103 : gK st (hx + 103) = 2 := h.k (by omega) rfl
    obtain ⟨r102, r103, r104, l104, r105, l105⟩ := h.2.2.2.2.2.1
    obtain ⟨s2, e2, Q2, A2, F2⟩ := h_weigh Q A (by omega) hsd (by omega) hp S V hpr
    rw [show 0 + 1 + k = k + 1 by omega]
    show ∃ st2, fh_X1_goDeeperF (fh_X1_goDeeper k) (hx + 103) (nI g) (nI cost) st = some st2 ∧ _
    have e3 : fh_X1_goDeeperF (fh_X1_goDeeper k) (hx + 103) (nI g) (nI cost) st = some s2 := by
      unfold fh_X1_goDeeperF
      rw [chk_t (isk_t k103), r103, dr_of (h.k (j := 31) (c := 27) (by omega) rfl), bs_, sp_L h, chk_t (inb_n (by omega) (by omega)), nI_clamp (by omega), sp_qi h (by omega), dr_of S.2.2.1, bs_, h_met w S, bs_]
      dsimp only
      rw [chk_t (isk_t k103), a2, if_neg (nI_nlt (by omega) (by omega)), e2, bs_, chk_t (isk_t k103)]
      split <;> rfl
    refine ⟨s2, e3, Q2, F2.mo (fun b z => by unfold Wh; omega), fun i hi => by rw [F2.A (by omega)], ?_⟩
    unfold ent; rw [if_pos (Or.inr rfl)]; exact A2
  | succ m ih =>
    intro g hg k D cost a path v st hD Q A S V K hp hcost hpr
    obtain ⟨w, h, Q1, ⟨a1, a2, a3, a4, a5⟩, E⟩ := id Q
    have k103 : gK st (hx + 103) = 2 := h.k (by omega) rfl
    obtain ⟨r102, r103, r104, l104, r105, l105⟩ := h.2.2.2.2.2.1
    let rcf := fh_X1_goDeeper (m + 1 + k)
    rw [show m + 1 + 1 + k = (m + 1 + k) + 1 by omega]
    show ∃ st2, fh_X1_goDeeperF rcf (hx + 103) (nI g) (nI cost) st = some st2 ∧ _
    have head : fh_X1_goDeeperF rcf (hx + 103) (nI g) (nI cost) st = (if (if pGap v = 0 then (1 : Int32) else 0) = 0 then (if mdI md = 0 then (if pGap v ≤ nI (2 * (m + 1)) then fh_X1_goDeeper_j53 rcf (hx + 103) (nI g) (nI cost) (some (hx + 33 + 10 * g)) st else some st) else fh_X1_goDeeper_j53 rcf (hx + 103) (nI g) (nI cost) (some (hx + 33 + 10 * g)) st) else (fh_X1_weigh (hx + 103) (some (hx + 33 + 10 * g)) (nI g) (nI cost) st).bind fun x15 => some x15) := by
      have e2 : (2 : Int32) * (nI n - nI g) = nI (2 * (m + 1)) := by rw [pk_sub (by omega), show n - g = m + 1 by omega]; exact pk_mul 2 _
      unfold fh_X1_goDeeperF
      rw [chk_t (isk_t k103), r103, dr_of (h.k (j := 31) (c := 27) (by omega) rfl), bs_, sp_L h, chk_t (inb_n (by omega) (by omega)), nI_clamp (by omega), sp_qi h (by omega), dr_of S.2.2.1, bs_, h_met w S, bs_]
      dsimp only
      rw [chk_t (isk_t k103), a2, if_pos (nI_lt (by omega) (by omega)), a3, chk_t (isk_t S.2.2.1), h_gap w S, bs_]
      dsimp only
      rw [chk_t (isk_t k103), a2, e2, chk_t (isk_t k103)]
    rw [head]
    by_cases hm : pGap v = 0
    · rw [if_pos hm, if_neg (show ¬ (1 : Int32) = 0 by decide)]
      obtain ⟨s2, e2, Q2, A2, F2⟩ := h_weigh Q A (by omega) hsd (by omega) hp S V hpr
      rw [e2, bs_]
      refine ⟨s2, rfl, Q2, F2.mo (fun b z => by unfold Wh; omega), fun i hi => by rw [F2.A (by omega)], ?_⟩
      unfold ent; rw [if_pos (Or.inl hm)]; exact A2
    · have e_ent : ent md sd rc u (m + 1) g cost path v a = nod md sd rc u (m + 1) g cost path v a := by unfold ent; rw [if_neg (by rintro (z | z); exact hm z; omega)]
      rw [if_neg hm, if_pos rfl, e_ent]
      have hgp : ¬ pGap v ≤ 0 := by
        obtain ⟨w0, y, d, sp', fl, h0, h6, h1, h2, h4, hw, hy, -⟩ := id V
        rw [pGap_n h0 (h6 0 (by omega)) (h6 1 (by omega)) hy] at hm ⊢
        intro z
        have := (nI_leI (a := w0 - y 0 - y 1) (b := 0) (by omega) (by omega)).mp z
        exact hm (by rw [show w0 - y 0 - y 1 = 0 by omega]; rfl)
      have main : ∃ st2, fh_X1_goDeeper_j53 rcf (hx + 103) (nI g) (nI cost) (some (hx + 33 + 10 * g)) st = some st2 ∧ HdR hx st2 n md sd q u v0 ∧ Fr (Wh hx g) st st2 ∧ (∀ i, i < g → gA st2 (hx + 104) i = gA st (hx + 104) i) ∧ AcR hx st2 md (nod md sd rc u (m + 1) g cost path v a) := by
        obtain ⟨w0, y, d, sp', fl, h0, h6, h1, h2, h4, hw, hy, hd, -⟩ := id V
        have hErr : ErR st (hx + 3) v := ⟨E.1, fun s j hs hj => by rw [K _ (by omega) (by omega) (by omega) (by omega)]; exact E.2 s j hs hj⟩
        have i1 : gI st 901 (hx + 33 + 10 * g) = nI d := S.2.2.2.1.trans h1
        have er := h_errorOn (s := 1 - sd) (x := nI (1 - sd)) (d := d) (z := nI d) w hErr rfl (by omega) rfl (by omega)
        rw [← pErr_e h1 (by omega)] at er
        obtain ⟨s1, p1, G1⟩ := h_planOf (s := 1 - sd) (x := nI (1 - sd)) (e := pErr v (1 - sd)) w h.lk S V rfl (by omega) Q1
        have lxq : ∀ b, Lx (hx + 28) b → Wh hx g b := fun b z => by unfold Lx at z; unfold Wh; omega
        have Qs : HdR hx s1 n md sd q u v0 := Q.fr (g := g) G1 lxq (by unfold Lx; omega)
        have As : AcR hx s1 md a := A.fr G1 (by unfold Lx; omega) (by unfold Lx; omega)
        have Ss := sph_fr w h (by omega) S V G1 lxq
        have i401 : gI s1 401 r = nI sp := by
          rw [Ss.2.1.2.2.1, K 2 (by omega) (by omega) (by omega) (by omega)]; exact hsp
        have ereach : (if nI sp < 2 then nI sp else (2 : Int32)) = nI rc := by
          rw [ersp]
          by_cases z : sp < 2
          · rw [if_pos z, if_pos (show nI sp < 2 from nI_lt (b := 2) z (by omega))]
          · rw [if_neg z, if_neg (show ¬ nI sp < 2 from nI_nlt (b := 2) (by omega) (by omega))]; rfl
        have pre : fh_X1_goDeeper_j53 rcf (hx + 103) (nI g) (nI cost) (some (hx + 33 + 10 * g)) st = (iter (fun x : (Int32 × Int32 × HSt) => fh_X1_goDeeper_s111 rcf (hx + 103) (nI g) (nI cost) (some (hx + 33 + 10 * g)) (pOth v sd u) (nI rc) x.1 x.2.1 x.2.2) mFuel ((1 : Int32), tv rc 0, s1)).bind (Sum.elim (fun o : HSt => (some o : Option (HSt))) (fun x : (Int32 × Int32 × HSt) => fh_X1_goDeeper_j203 rcf (hx + 103) x.2.2)) := by
          unfold fh_X1_goDeeper_j53
          rw [chk_t (isk_t k103), dr_of S.2.2.1, bs_, a4, dr_of (k3 h), bs_, a1, n1s hsd, i1, er, bs_]
          dsimp only
          rw [r102, dr_of h.lk.1, bs_, a5]
          show ((fh_X3_planOf (hx + 28) (some (hx + 33 + 10 * g)) q (nI (1 - sd)) (pErr v (1 - sd)) st).bind _) = _
          rw [p1, bs_]
          dsimp only
          rw [chk_t (isk_t Ss.2.2.1), st_riv Ss, bs_, i401, ereach, tv_0]
          rfl

        have child : ∀ (s : HSt) (a' : Ac) (j : Nat), j ≤ 2 * rc → HdR hx s n md sd q u v0 → AcR hx s md a' → Fr (Wh hx g) st s → (∀ i, i < g → gA s (hx + 104) i = gA st (hx + 104) i) → ∀ (c' : Nat) (mark : Int32), (c' = if hasB v sd u = true then cost + ab rc j else cost) → (mark = if hasB v sd u = true then tv rc j else -100) → pru md c' a' = false → pru md (cost + ab rc j) a' = false → ∃ s2, fh_X1_goDeeper_s111 rcf (hx + 103) (nI g) (nI cost) (some (hx + 33 + 10 * g)) (pOth v sd u) (nI rc) 1 (tv rc j) s = some (.inr (.inl (if hasB v sd u = true then 1 else 0, tv rc (j + 1), s2))) ∧ HdR hx s2 n md sd q u v0 ∧ Fr (Wh hx g) st s2 ∧ (∀ i, i < g → gA s2 (hx + 104) i = gA st (hx + 104) i) ∧ AcR hx s2 md (ent md sd rc u m (g + 1) c' (upd path g mark) (pFd v sd u (tv rc j)) a') := by
          intro s a' j hj Qj Aj Fj pj c' mark ec em hp' hpj
          obtain ⟨w', h', Q1', ⟨b1, b2, b3, b4, b5⟩, E'⟩ := id Qj
          obtain ⟨t102, t103, t104, tl104, t105, tl105⟩ := h'.2.2.2.2.2.1
          have Sj := sph_fr w h (by omega) S V Fj (fun _ z => z)
          have abj := ab_le hrc hj
          obtain ⟨s2, e2, S2, G2⟩ := h_goDayF (t := tv rc j) Qj (by omega) hsd Sj V hgp (tv_s hrc hj)
          have sxq : ∀ b, Sx (hx + 33 + 10 * (g + 1)) b → Wh hx g b := fun b z => Or.inl ⟨g + 1, by omega, by omega, z⟩
          have sx6 : ∀ i, 103 ≤ i → ¬ Sx (hx + 33 + 10 * (g + 1)) (hx + i) := fun i hi z => by unfold Sx at z; omega
          have Q2 : HdR hx s2 n md sd q u v0 := Qj.fr (g := g) G2 sxq (sx6 103 (by omega))
          have A2 : AcR hx s2 md a' := Aj.fr G2 (sx6 103 (by omega)) (sx6 105 (by omega))
          have h2 := Q2.2.1
          let s3 := sA s2 (hx + 104) g mark
          have G3 : Fr (fun b => b = hx + 104) s2 s3 := Fr.sA rfl
          have w104 : ∀ b, b = hx + 104 → Wh hx g b := fun b z => by unfold Wh; omega
          have Q3 : HdR hx s3 n md sd q u v0 := Q2.fr (g := g) G3 w104 (by omega)
          have A3 : AcR hx s3 md a' := A2.fr G3 (by omega) (by omega)
          have w2 := Q2.1
          have S3 : SpR s3 (hx + 33 + 10 * (g + 1)) r (pFd v sd u (tv rc j)) := S2.fr (V.fd (tv_s hrc hj)) G3 (by omega) (by omega) (by omega) (by omega) (fun i hi z => wh_riv (g := g) w2 h2 S2.2.1.1 hi (w104 _ z))
          have p3 : ∀ i, i < g + 1 → gA s3 (hx + 104) i = upd path g mark i := fun i hi => by
            show gA (sA s2 (hx + 104) g mark) (hx + 104) i = _
            rw [gA_sA]
            by_cases ig : i = g
            · rw [ig, pk_us, pk_us]
            · rw [pk_un ig, pk_un ig, G2.A (sx6 104 (by omega)), pj i (by omega)]; exact hp i (by omega)
          have hc' : c' ≤ 2 * (g + 1) := by rw [ec]; split <;> omega
          obtain ⟨s4, e4, Q4, F4, p4, A4⟩ := ih (g + 1) (by omega) k (D + 1) c' a' (upd path g mark) (pFd v sd u (tv rc j)) s3 (by omega) Q3 A3 S3 (V.fd (tv_s hrc hj)) (K.tr Kp_fd) p3 hc' hp'
          refine ⟨s4, ?_, Q4, (Fj.tr (G2.mo sxq)).tr ((G3.mo w104).tr (F4.mo wh_mo)), fun i hi => ?_, A4⟩
          · have hnP : ¬ gI s 111 (hx + 103) < nI (cost + ab rc j) := fun z => by
              have := (pur_iff Aj hc8 (by omega)).mp z; rw [this] at hpj; cases hpj
            have eabs : (if 0 ≤ tv rc j then tv rc j else 0 - tv rc j) = nI (ab rc j) := tv_a hrc hj
            unfold fh_X1_goDeeper_s111
            rw [if_neg (fun z => by have := (tv_lt hrc (by omega)).mp z; omega), if_neg (show ¬ (1 : Int32) = 0 by decide), chk_t (isk_t (h'.k (j := 103) (c := 2) (by omega) rfl)), eabs, nI_add, if_neg hnP, t103, dr_of (h'.k (j := 31) (c := 27) (by omega) rfl), bs_, sp_L h', na g 1 (x := 1) rfl, chk_t (inb_n (by omega) (by omega)), nI_clamp (by omega), sp_qi h' (by omega), e2, bs_]
            dsimp only
            rw [chk_t (isk_t (h2.k (j := 103) (c := 2) (by omega) rfl))]
            have t104' : gR s2 104 (hx + 103) = some (hx + 104) := h2.2.2.2.2.2.1.2.2.1
            have tl' : gL s2 (hx + 104) = 6 := h2.2.2.2.2.2.1.2.2.2.1
            have jj : ∀ (v7 t0 : Int32) (cc : Nat), (if v7 = 0 then nI cost else nI cost + nI (ab rc j)) = nI cc → t0 = mark → cc = c' → fh_X1_goDeeper_j173 rcf (hx + 103) (nI g) (nI cost) (some (hx + 33 + 10 * g)) (pOth v sd u) (nI rc) v7 (tv rc j) t0 (nI g) (gR s2 104 (hx + 103)) s2 = some (.inr (.inl (v7, tv rc (j + 1), s4))) := fun v7 t0 cc hcc ht0 hcc' => by
              unfold fh_X1_goDeeper_j173
              rw [t104', dr_of (h2.k (j := 104) (c := 22) (by omega) rfl), bs_, tl', chk_t (inb_n (by omega) (by omega)), nI_clamp (by omega), na g 1 (x := 1) rfl, eabs, ht0, chk_t (isk_t (h2.k (j := 103) (c := 2) (by omega) rfl)), chk_t (isk_t (h2.k (j := 103) (c := 2) (by omega) rfl)), tv_1]
              have e4' : rcf (hx + 103) (nI (g + 1)) (nI c') (sA s2 (hx + 104) g mark) = some s4 := e4
              by_cases z : v7 = 0
              · rw [if_pos z] at hcc ⊢
                rw [hcc, hcc', e4', bs_]
              · rw [if_neg z] at hcc ⊢
                rw [hcc, hcc', e4', bs_]
            by_cases hb : hasB v sd u = true
            · rw [if_pos hb] at ec em ⊢
              rw [if_neg (show ¬ (1 : Int32) = 0 by decide)]
              exact jj 1 (tv rc j) (cost + ab rc j) (by rw [if_neg (show ¬ (1 : Int32) = 0 by decide), nI_add]) em.symm ec.symm
            · rw [if_neg hb] at ec em ⊢
              rw [if_pos rfl]
              exact jj 0 (-100) cost (by rw [if_pos rfl]) em.symm ec.symm
          · rw [p4 i (by omega)]
            show gA (sA s2 (hx + 104) g mark) (hx + 104) i = _
            rw [gA_sA, pk_un (by omega), G2.A (sx6 104 (by omega))]; exact pj i hi
        have skip : ∀ (s : HSt) (a' : Ac) (j : Nat), j ≤ 2 * rc → HdR hx s n md sd q u v0 → AcR hx s md a' → pru md (cost + ab rc j) a' = true → fh_X1_goDeeper_s111 rcf (hx + 103) (nI g) (nI cost) (some (hx + 33 + 10 * g)) (pOth v sd u) (nI rc) 1 (tv rc j) s = some (.inr (.inl (1, tv rc (j + 1), s))) := by
          intro s a' j hj Qj Aj hpj
          have abj := ab_le hrc hj
          have eabs : (if 0 ≤ tv rc j then tv rc j else 0 - tv rc j) = nI (ab rc j) := tv_a hrc hj
          unfold fh_X1_goDeeper_s111
          rw [if_neg (fun z => by have := (tv_lt hrc (by omega)).mp z; omega), if_neg (show ¬ (1 : Int32) = 0 by decide), chk_t (isk_t (Qj.2.1.k (j := 103) (c := 2) (by omega) rfl)), eabs, nI_add, if_pos ((pur_iff Aj hc8 (by omega)).mpr hpj), tv_1]
        have stop : ∀ (s : HSt), fh_X1_goDeeper_s111 rcf (hx + 103) (nI g) (nI cost) (some (hx + 33 + 10 * g)) (pOth v sd u) (nI rc) 1 (tv rc (2 * rc + 1)) s = some (.inr (.inr (1, tv rc (2 * rc + 1), s))) := fun s => by
          unfold fh_X1_goDeeper_s111
          rw [if_pos ((tv_lt hrc (by omega)).mpr (by omega))]
        rw [pre]
        by_cases hb : hasB v sd u = true
        · obtain ⟨y2, e2, Q2, F2, p2, A2⟩ : ∃ z : Int32 × Int32 × HSt, iter (fun x : (Int32 × Int32 × HSt) => fh_X1_goDeeper_s111 rcf (hx + 103) (nI g) (nI cost) (some (hx + 33 + 10 * g)) (pOth v sd u) (nI rc) x.1 x.2.1 x.2.2) mFuel ((1 : Int32), tv rc 0, s1) = some (.inr z) ∧ HdR hx z.2.2 n md sd q u v0 ∧ Fr (Wh hx g) st z.2.2 ∧ (∀ i, i < g → gA z.2.2 (hx + 104) i = gA st (hx + 104) i) ∧ AcR hx z.2.2 md (foldK (fun j a => chi md sd m g (cost + ab rc j) path (pFd v sd u (tv rc j)) (tv rc j) (nod md sd rc u m (g + 1)) a) (2 * rc + 1) a) := by
            refine iter_n (fun j (x : Int32 × Int32 × HSt) => x.1 = 1 ∧ x.2.1 = tv rc j ∧ HdR hx x.2.2 n md sd q u v0 ∧ Fr (Wh hx g) st x.2.2 ∧ (∀ i, i < g → gA x.2.2 (hx + 104) i = gA st (hx + 104) i) ∧ AcR hx x.2.2 md (foldK (fun j a => chi md sd m g (cost + ab rc j) path (pFd v sd u (tv rc j)) (tv rc j) (nod md sd rc u m (g + 1)) a) j a)) (2 * rc + 1) _ ?_ ?_ ⟨rfl, rfl, Qs, G1.mo lxq, fun i hi => by rw [G1.A (by unfold Lx; omega)], As⟩ (by omega)
            · rintro j ⟨b, i, s⟩ hj ⟨hb', hi, Qj, Fj, pj, Aj⟩
              simp only at hb' hi Qj Fj pj Aj
              subst hb'; subst hi
              have ef : foldK (fun j a => chi md sd m g (cost + ab rc j) path (pFd v sd u (tv rc j)) (tv rc j) (nod md sd rc u m (g + 1)) a) (j + 1) a = chi md sd m g (cost + ab rc j) path (pFd v sd u (tv rc j)) (tv rc j) (nod md sd rc u m (g + 1)) (foldK (fun j a => chi md sd m g (cost + ab rc j) path (pFd v sd u (tv rc j)) (tv rc j) (nod md sd rc u m (g + 1)) a) j a) := rfl
              rw [ef, chi_e]
              by_cases hpj : pru md (cost + ab rc j) (foldK (fun j a => chi md sd m g (cost + ab rc j) path (pFd v sd u (tv rc j)) (tv rc j) (nod md sd rc u m (g + 1)) a) j a) = true
              · rw [if_pos hpj]
                exact ⟨_, skip s _ j (by omega) Qj Aj hpj, rfl, rfl, Qj, Fj, pj, Aj⟩
              · rw [if_neg hpj]
                have hpf := Bool.eq_false_iff.mpr hpj
                obtain ⟨s2, e2, Q2, F2, p2, A2⟩ := child s _ j (by omega) Qj Aj Fj pj (cost + ab rc j) (tv rc j) (by rw [if_pos hb]) (by rw [if_pos hb]) hpf hpf
                rw [if_pos hb] at e2
                exact ⟨_, e2, rfl, rfl, Q2, F2, p2, A2⟩
            · rintro ⟨b, i, s⟩ ⟨hb', hi, Qj, Fj, pj, Aj⟩
              simp only at hb' hi Qj Fj pj Aj
              subst hb'; subst hi
              exact ⟨_, stop s, Qj, Fj, pj, Aj⟩
          rw [e2]
          refine ⟨y2.2.2, rfl, Q2, F2, p2, ?_⟩
          unfold nod; rw [if_pos hb]; exact A2
        · have ab0 : ab rc rc = 0 := by unfold ab; rw [if_pos (Nat.le_refl _), Nat.sub_self]
          have hbf := Bool.eq_false_iff.mpr hb
          obtain ⟨y2, e2, Q2, F2, p2, A2⟩ : ∃ z : Int32 × Int32 × HSt, iter (fun x : (Int32 × Int32 × HSt) => fh_X1_goDeeper_s111 rcf (hx + 103) (nI g) (nI cost) (some (hx + 33 + 10 * g)) (pOth v sd u) (nI rc) x.1 x.2.1 x.2.2) mFuel ((1 : Int32), tv rc 0, s1) = some (.inr z) ∧ HdR hx z.2.2 n md sd q u v0 ∧ Fr (Wh hx g) st z.2.2 ∧ (∀ i, i < g → gA z.2.2 (hx + 104) i = gA st (hx + 104) i) ∧ AcR hx z.2.2 md (chi md sd m g cost path (pFd v sd u (tv rc 0)) (-100) (nod md sd rc u m (g + 1)) a) := by
            refine iter_w (fun j (x : Int32 × Int32 × HSt) => HdR hx x.2.2 n md sd q u v0 ∧ Fr (Wh hx g) st x.2.2 ∧ (∀ i, i < g → gA x.2.2 (hx + 104) i = gA st (hx + 104) i) ∧ ((x.1 = 1 ∧ x.2.1 = tv rc j ∧ AcR hx x.2.2 md a ∧ (rc < j → False) ∧ j ≤ rc) ∨ (x.1 = 0 ∧ AcR hx x.2.2 md (chi md sd m g cost path (pFd v sd u (tv rc 0)) (-100) (nod md sd rc u m (g + 1)) a)))) 10 _ ?_ ⟨Qs, G1.mo lxq, fun i hi => by rw [G1.A (by unfold Lx; omega)], Or.inl ⟨rfl, rfl, As, fun z => by omega, by omega⟩⟩ (by omega)
            rintro j ⟨b, i, s⟩ hj10 ⟨Qj, Fj, pj, hh⟩
            simp only at Qj Fj pj hh
            rcases hh with ⟨hb', hi, Aj, -, hjr⟩ | ⟨hb', Aj⟩
            · subst hb'; subst hi
              left
              by_cases hpj : pru md (cost + ab rc j) a = true
              · have hjlt : j < rc := by
                  rcases Nat.lt_or_ge j rc with z | z
                  · exact z
                  · have : j = rc := by omega
                    rw [this, ab0, Nat.add_zero, hpr] at hpj; cases hpj
                exact ⟨_, skip s _ j (by omega) Qj Aj hpj, ⟨Qj, Fj, pj, Or.inl ⟨rfl, rfl, Aj, fun z => by omega, by omega⟩⟩, by omega⟩
              · obtain ⟨s2, e2, Q2, F2, p2, A2⟩ := child s _ j (by omega) Qj Aj Fj pj cost (-100) (by rw [if_neg hb]) (by rw [if_neg hb]) hpr (Bool.eq_false_iff.mpr hpj)
                rw [if_neg hb] at e2
                refine ⟨_, e2, ⟨Q2, F2, p2, Or.inr ⟨rfl, ?_⟩⟩, by omega⟩
                rw [chi_e, if_neg (by rw [hpr]; decide), ← fd_ind hbf (tv_s hrc (show j ≤ 2 * rc by omega)) (tv_s hrc (by omega))]
                exact A2
            · subst hb'
              right
              refine ⟨(0, i, s), ?_, Qj, Fj, pj, Aj⟩
              show fh_X1_goDeeper_s111 rcf (hx + 103) (nI g) (nI cost) (some (hx + 33 + 10 * g)) (pOth v sd u) (nI rc) 0 i s = _
              unfold fh_X1_goDeeper_s111
              rw [if_pos rfl]
              split <;> rfl
          rw [e2]
          refine ⟨y2.2.2, rfl, Q2, F2, p2, ?_⟩
          unfold nod; rw [if_neg hb]; exact A2
      cases md with
      | some c => rw [if_neg (show ¬ mdI (some c) = 0 by show ¬ (1 : Int32) = 0; decide)]; exact main
      | none =>
        rw [if_pos (show mdI none = 0 from rfl)]
        obtain ⟨w0, y, d, sp', fl, h0, h6, h1, h2, h4, hw, hy, hd, -⟩ := id V
        have eg := pGap_n h0 (h6 0 (by omega)) (h6 1 (by omega)) hy
        have egp := gp_e h0 (h6 0 (by omega)) (h6 1 (by omega)) hy hw
        by_cases hf : pGap v ≤ nI (2 * (m + 1))
        · rw [if_pos hf]; exact main
        · rw [if_neg hf]
          refine ⟨st, rfl, Q, Fr.rf, fun _ _ => rfl, ?_⟩
          rw [nod_far hrc (m + 1) g cost D path v a V (by
            rw [egp]
            rcases Nat.lt_or_ge (2 * (m + 1)) (w0 - y 0 - y 1) with z | z
            · exact z
            · exfalso; apply hf; rw [eg]; exact nI_le z (by omega))]
          exact A
