/-! straight, spite -/
def isS (a : Ac) : Prop := a.1 ≠ none
theorem wei_s {c sd cost : Nat} {v row : Nat → Int32} {a : Ac} : isS (wei (some c) sd v cost row a) := by
  unfold wei
  dsimp only
  cases ha : a.1 with
  | none => exact fun z => by cases z
  | some b =>
    dsimp only
    split
    · exact fun z => by cases z
    · intro z; rw [ha] at z; cases z
theorem foldK_s {f : Nat → Ac → Ac} (h : ∀ k a, isS a → isS (f k a)) : ∀ n a, isS a → isS (foldK f n a)
  | 0, _, q => q
  | n + 1, a, q => h n _ (foldK_s h n a q)
theorem nod_s {c sd rc : Nat} {u : Option Ru} : ∀ (m g cost : Nat) (path v : Nat → Int32) (a : Ac), isS a → isS (nod (some c) sd rc u m g cost path v a)
  | 0, _, _, _, _, _, h => h
  | m + 1, g, cost, path, v, a, h => by
    have ch : ∀ (cost : Nat) (v2 : Nat → Int32) (mark : Int32) (a : Ac), isS a → isS (chi (some c) sd m g cost path v2 mark (nod (some c) sd rc u m (g + 1)) a) := fun cost v2 mark a h => by
      unfold chi
      split
      · exact h
      · split
        · exact wei_s
        · exact nod_s m (g + 1) cost _ _ a h
    unfold nod
    split
    · exact foldK_s (fun k a q => ch _ _ _ a q) _ a h
    · exact ch _ _ _ a h
theorem foldK_hit {f : Nat → Ac → Ac} (h : ∀ k a, isS a → isS (f k a)) {j : Nat} (hj : ∀ a, isS (f j a)) : ∀ n a, j < n → isS (foldK f n a)
  | 0, _, q => absurd q (Nat.not_lt_zero _)
  | n + 1, a, q => by
    unfold foldK
    rcases Nat.lt_or_ge j n with z | z
    · exact h n _ (foldK_hit h hj n a z)
    · rw [show n = j by omega]; exact hj _
theorem nod_found {c sd rc : Nat} {u : Option Ru} : ∀ (m g cost : Nat) (path v : Nat → Int32) (a : Ac), cost ≤ c → isS (nod (some c) sd rc u (m + 1) g cost path v a) := by
  intro m
  induction m with
  | zero =>
    intro g cost path v a hc
    have ch : ∀ (v2 : Nat → Int32) (mark : Int32) (a : Ac), isS (chi (some c) sd 0 g cost path v2 mark (nod (some c) sd rc u 0 (g + 1)) a) := fun v2 mark a => by
      unfold chi
      rw [if_neg (by unfold pru; dsimp only; rw [decide_eq_true_iff]; omega), if_pos (Or.inr rfl)]
      exact wei_s
    have ck : ∀ (cost : Nat) (v2 : Nat → Int32) (mark : Int32) (a : Ac), isS a → isS (chi (some c) sd 0 g cost path v2 mark (nod (some c) sd rc u 0 (g + 1)) a) := fun cost v2 mark a h => by
      unfold chi
      split
      · exact h
      · rw [if_pos (Or.inr rfl)]; exact wei_s
    unfold nod
    split
    · refine foldK_hit (j := rc) (fun k a q => ck _ _ _ a q) (fun a => ?_) _ a (by omega)
      have ab0 : ab rc rc = 0 := by unfold ab; rw [if_pos (Nat.le_refl _), Nat.sub_self]
      rw [ab0, Nat.add_zero]; exact ch _ _ a
    · exact ch _ _ a
  | succ m ih =>
    intro g cost path v a hc
    have ch : ∀ (v2 : Nat → Int32) (mark : Int32) (a : Ac), isS (chi (some c) sd (m + 1) g cost path v2 mark (nod (some c) sd rc u (m + 1) (g + 1)) a) := fun v2 mark a => by
      unfold chi
      rw [if_neg (by unfold pru; dsimp only; rw [decide_eq_true_iff]; omega)]
      split
      · exact wei_s
      · exact ih (g + 1) cost _ _ a hc
    have ck : ∀ (cost : Nat) (v2 : Nat → Int32) (mark : Int32) (a : Ac), isS a → isS (chi (some c) sd (m + 1) g cost path v2 mark (nod (some c) sd rc u (m + 1) (g + 1)) a) := fun cost v2 mark a h => by
      unfold chi
      split
      · exact h
      · split
        · exact wei_s
        · exact nod_s (m + 1) (g + 1) cost _ _ a h
    unfold nod
    split
    · refine foldK_hit (j := rc) (fun k a q => ck _ _ _ a q) (fun a => ?_) _ a (by omega)
      have ab0 : ab rc rc = 0 := by unfold ab; rw [if_pos (Nat.le_refl _), Nat.sub_self]
      rw [ab0, Nat.add_zero]; exact ch _ _ a
    · exact ch _ _ a
theorem bB_6 : ∀ n, n ≤ 6 → bB n ≤ 23436 := by
  intro n hn
  rcases (by omega : n = 0 ∨ n = 1 ∨ n = 2 ∨ n = 3 ∨ n = 4 ∨ n = 5 ∨ n = 6) with rfl | rfl | rfl | rfl | rfl | rfl | rfl <;> decide
theorem m_through {ms : MSt} {n sd rc sp D : Nat} {md : Option Nat} {x : Int32} {u : Option Ru} {path row : Nat → Int32} (hsd : sd < 2) (hsp : ms.2.1 26 2 = nI sp) (hsp2 : sp ≤ 20) (ersp : rc = if sp < 2 then sp else 2) (hc8 : ∀ c, md = some c → c ≤ 8) (hn : n ≤ 6) (hn0 : 0 < n) (R : MqR ms x u) (V : VOk D (ms.2.1 26)) (hD : D ≤ 10000) : ∃ ms2, fm_goesThrough (nI sd) x (nI n) (mdI md) (cI md) ms = some ms2 ∧ MF mXq ms ms2 ∧ ms2.2.1 26 = ms.2.1 26 ∧ AcM ms2 (nod md sd rc u n 0 0 path (ms.2.1 26) (none, row)) := by
  have hrc : rc ≤ 2 := by rw [ersp]; split <;> omega
  obtain ⟨m1, e1, K1, F1⟩ := m_keeps (ms := msi ms 38 (-1))
  have s1 : m1.2.1 26 = ms.2.1 26 := by rw [F1.A 26 rfl]; rfl
  obtain ⟨m2, e2, p2, o2, F2⟩ := m_keepsAt (ms := msa m1 36 0 0) (d := 0) (by omega)
  have s2 : m2.2.1 26 = ms.2.1 26 := by rw [F2.A 26 rfl, msa_n (by omega)]; exact s1
  have most := m_most (ms := m2) (sp := sp) (by rw [s2]; exact hsp) hsp2
  rw [← ersp] at most
  let m3 := msa m2 35 0 (tv rc 0 - 1)
  have F03 : MF mXq ms m3 := ((((MF.msi (X := mXq) (k := 38) rfl).tr (F1.mo mX31_q)).tr (MF.msa rfl)).tr (F2.mo (fun k hk => by rw [beq_iff_eq] at hk; subst hk; rfl))).tr (MF.msa rfl)
  have T3 : TMx ms m3 0 (fun _ _ => 0) (fun _ => 0) path (none, row) := by
    refine ⟨F03, fun i hi => ?_, fun i hi => ?_, ?_, fun j i hj => by omega, fun j hj => by omega, fun j hj => by omega, ⟨fun _ => ?_, fun b hb => (by cases hb)⟩⟩
    · show (msa m2 35 0 (tv rc 0 - 1)).2.1 31 i = _
      rw [msa_n (by omega), F2.A 31 rfl, msa_n (by omega)]; exact K1 i hi
    · show (msa m2 35 0 (tv rc 0 - 1)).2.1 26 i = _
      rw [msa_n (by omega), s2]
    · show (msa m2 35 0 (tv rc 0 - 1)).2.1 26 2 = _
      rw [msa_n (by omega), s2]
    · show (msa m2 35 0 (tv rc 0 - 1)).1 38 = _
      rw [msa_I, F2.I 38 rfl, msa_I, F1.I 38 rfl, msi_s]
  have Td3 : TMd m3 0 0 (ms.2.1 26) := by
    refine ⟨fun i hi => ?_, ?_⟩
    · show (msa m2 35 0 (tv rc 0 - 1)).2.1 34 (286 * 0 + i) = _
      rw [msa_n (by omega), p2 i hi, msa_n (by omega), s1]
    · show (msa m2 35 0 (tv rc 0 - 1)).2.1 36 0 = _
      rw [msa_n (by omega), F2.A 36 rfl, msa_s, pk_us]; rfl
  obtain ⟨N, m4, hN, st4, T4⟩ := m_node (ms0 := ms) (md := md) hsd hrc hsp hsp2 ersp hc8 hn R n 0 hn0 (by omega) m3 _ _ path (ms.2.1 26) (none, row) 0 D T3 Td3 (by show (msa m2 35 0 (tv rc 0 - 1)).2.1 35 0 = _; rw [msa_s, pk_us]) (fun _ _ => rfl) V hsp (by omega) (by omega)
  have hb := bB_6 n hn
  obtain ⟨q1, q2, q3, q4, -, -, -, q8⟩ := T4
  obtain ⟨m5, e5, h5, G5⟩ := m_putv (ms := m4) (v := ms.2.1 26) q2 q3
  refine ⟨m5, ?_, q1.tr (G5.mo mX26_q), h5, q8.fr G5 rfl rfl⟩
  unfold fm_goesThrough
  rw [e1, bs_, chk_t (by decide), cln0, show fm_keepsAt 0 (msa m1 36 0 0) = some m2 from e2, bs_, most, bs_, chk_t (by decide)]
  dsimp only
  rw [tv_0]
  have lp : iter (fun y : (Int32 × MSt) => fm_goesThrough_s37 (nI sd) x (nI n) (mdI md) (cI md) y.1 y.2) mFuel (nI 0, m3) = some (.inr (nI 0 + -1, m4)) := by
    rw [mFuel_eq, show 1000000 = N + ((999999 - N) + 1) by omega, iter_stp _ st4]
    refine iter_x ?_
    show fm_goesThrough_s37 (nI sd) x (nI n) (mdI md) (cI md) (nI 0 + -1) m4 = _
    unfold fm_goesThrough_s37
    rw [if_pos (by decide)]
  show Option.bind (iter (fun y : (Int32 × MSt) => fm_goesThrough_s37 (nI sd) x (nI n) (mdI md) (cI md) y.1 y.2) mFuel (nI 0, m3)) _ = _
  rw [lp]
  show fm_goesThrough_j309 m4 = _
  unfold fm_goesThrough_j309
  rw [e5, bs_]
/-- the class's search -/
theorem h_hand {hx r D n sd rc sp : Nat} {md : Option Nat} {st : HSt} {v path row : Nat → Int32} {q : Option Nat} {u : Option Ru} (w : Wf st) (h : Sh hx st) (I : ImR st (hx + 3) r v) (V : VOk D v) (hD : D ≤ 10000) (Q : RqR st q u) (hsd : sd < 2) (hsp : v 2 = nI sp) (hsp2 : sp ≤ 20) (ersp : rc = if sp < 2 then sp else 2) (hc8 : ∀ c, md = some c → c ≤ 8) (hn : n ≤ 6) (hn0 : 0 < n) (hm : ¬ pGap v = 0) (pz : Int32) (hpz1 : ∀ c, md = some c → pz = nI c) (hpz2 : md = none → pz = nI 12) : ∃ st2, ((fh_X1_beginBy (hx + 103) (some (hx + 3)) (nI sd) q (sI (sI (sI st 110 (hx + 103) (mdI md)) 109 (hx + 103) (nI n)) 111 (hx + 103) pz)).bind fun x2 => chk (isk x2 (hx + 103) 2) ((fh_X1_goDeeper 8 (hx + 103) (0 : Int32) (0 : Int32) x2).bind fun x5 => some x5)) = some st2 ∧ OnW hx st st2 ∧ AcR hx st2 md (nod md sd rc u n 0 0 path v (none, row)) := by
  have hrc : rc ≤ 2 := by rw [ersp]; split <;> omega
  let s0 := sI (sI (sI st 110 (hx + 103) (mdI md)) 109 (hx + 103) (nI n)) 111 (hx + 103) pz
  let s1 := sI (sI (sR (sI (sR s0 106 (hx + 103) (some (hx + 3))) 108 (hx + 103) (nI sd)) 107 (hx + 103) q) 100 (hx + 103) 0) 101 (hx + 103) 0
  let X : Nat → Prop := fun b => b = hx + 103
  have F1 : Fr X st s1 := (((((((Fr.sI (X := X) rfl).tr (Fr.sI (X := X) rfl)).tr (Fr.sI (X := X) rfl)).tr (Fr.sR (X := X) rfl rfl)).tr (Fr.sI (X := X) rfl)).tr (Fr.sR (X := X) rfl rfl)).tr (Fr.sI (X := X) rfl)).tr (Fr.sI (X := X) rfl)
  have h1 := h.fr F1
  have w1 := F1.Wf w
  have xw : ∀ b, X b → Wh hx 0 b := fun b z => by have z' : b = hx + 103 := z; unfold Wh; omega
  have S1 : SpR s1 (hx + 3 + 1) r v := I.1.fr V F1 (fun z => by have z' : hx + 3 + 1 = hx + 103 := z; omega) (fun z => by have z' : hx + 3 + 1 + 7 = hx + 103 := z; omega) (fun z => by have z' : hx + 3 + 1 + 8 = hx + 103 := z; omega) (fun z => by have z' : hx + 3 + 1 + 9 = hx + 103 := z; omega) (fun j hj z => wh_riv w h I.1.2.1.1 hj (xw _ z))
  obtain ⟨s2, e2, S2, F2⟩ := h_become (a := hx + 33) (b := hx + 3 + 1) w1 (sp_k0 h1) S1 V (by omega)
  have h2 := h1.fr F2
  have n103 : ¬ Sx (hx + 33) (hx + 103) := by unfold Sx; omega
  have FB : Fr (fun b => Wh hx 0 b ∨ Sx (hx + 33) b) st s2 := (F1.mo (fun b z => Or.inl (xw b z))).tr (F2.mo (fun _ z => Or.inr z))
  have g103 : ∀ f, gI s2 f (hx + 103) = gI s1 f (hx + 103) := fun f => F2.I f n103
  have gr103 : ∀ f, gR s2 f (hx + 103) = gR s1 f (hx + 103) := fun f => F2.R' f n103
  have i108 : gI s1 108 (hx + 103) = nI sd := by
    show gI (sI (sI (sR (sI (sR s0 106 (hx + 103) (some (hx + 3))) 108 (hx + 103) (nI sd)) 107 (hx + 103) q) 100 (hx + 103) 0) 101 (hx + 103) 0) 108 (hx + 103) = _
    rw [gI_sI_ne (Or.inl (by omega)), gI_sI_ne (Or.inl (by omega)), gI_sR, gI_sI]
  have i0 : ∀ f, f ≠ 101 → f ≠ 100 → f ≠ 108 → gI s1 f (hx + 103) = gI s0 f (hx + 103) := fun f a b c => by
    show gI (sI (sI (sR (sI (sR s0 106 (hx + 103) (some (hx + 3))) 108 (hx + 103) (nI sd)) 107 (hx + 103) q) 100 (hx + 103) 0) 101 (hx + 103) 0) f (hx + 103) = _
    rw [gI_sI_ne (Or.inl a), gI_sI_ne (Or.inl b), gI_sR, gI_sI_ne (Or.inl c), gI_sR]
  have j111 : gI s0 111 (hx + 103) = pz := gI_sI _ _ _ _
  have j109 : gI s0 109 (hx + 103) = nI n := by
    show gI (sI (sI (sI st 110 (hx + 103) (mdI md)) 109 (hx + 103) (nI n)) 111 (hx + 103) pz) 109 (hx + 103) = _
    rw [gI_sI_ne (Or.inl (by omega)), gI_sI]
  have j110 : gI s0 110 (hx + 103) = mdI md := by
    show gI (sI (sI (sI st 110 (hx + 103) (mdI md)) 109 (hx + 103) (nI n)) 111 (hx + 103) pz) 110 (hx + 103) = _
    rw [gI_sI_ne (Or.inl (by omega)), gI_sI_ne (Or.inl (by omega)), gI_sI]
  have i100 : gI s1 100 (hx + 103) = 0 := by
    show gI (sI (sI (sR (sI (sR s0 106 (hx + 103) (some (hx + 3))) 108 (hx + 103) (nI sd)) 107 (hx + 103) q) 100 (hx + 103) 0) 101 (hx + 103) 0) 100 (hx + 103) = _
    rw [gI_sI_ne (Or.inl (by omega)), gI_sI]
  have r106 : gR s1 106 (hx + 103) = some (hx + 3) := by
    show gR (sR (sI (sR s0 106 (hx + 103) (some (hx + 3))) 108 (hx + 103) (nI sd)) 107 (hx + 103) q) 106 (hx + 103) = _
    rw [sR_R_ne (Or.inr (by omega)), gR_sI, sR_R]
  have r107 : gR s1 107 (hx + 103) = q := by
    show gR (sR (sI (sR s0 106 (hx + 103) (some (hx + 3))) 108 (hx + 103) (nI sd)) 107 (hx + 103) q) 107 (hx + 103) = _
    rw [sR_R]
  have outr : ∀ b j, gK st b = 7 → j < 5 → ¬ (Wh hx 0 (b + j) ∨ Sx (hx + 33) (b + j)) := fun b j hb hj z => by
    rcases z with z | z
    · exact wh_rule w h hb hj z
    · have := blk7 w h hb; unfold Sx at z; omega
  have o14 : ¬ (Wh hx 0 (hx + 3 + 11) ∨ Sx (hx + 33) (hx + 3 + 11)) := fun z => by
    rcases z with z | z
    · have := wh_in z; omega
    · unfold Sx at z; omega
  have Q2 : HdR hx s2 n md sd q u v := ⟨F2.Wf w1, h2, Rq_fr Q FB outr, ⟨(g103 108).trans i108, (g103 109).trans ((i0 109 (by omega) (by omega) (by omega)).trans j109), (g103 110).trans ((i0 110 (by omega) (by omega) (by omega)).trans j110), (gr103 106).trans r106, (gr103 107).trans r107⟩, I.2.1.fr FB o14 KpR.rf⟩
  have e111 : gI s2 111 (hx + 103) = pz := (g103 111).trans ((i0 111 (by omega) (by omega) (by omega)).trans j111)
  have A2 : AcR hx s2 md (none, row) := ⟨fun c hc => e111.trans (hpz1 c hc), fun _ => ⟨(g103 100).trans i100, fun hc => e111.trans (hpz2 hc)⟩, fun b hb => by cases hb⟩
  have hpr : pru md 0 (none, row) = false := by
    unfold pru
    cases md with
    | none => rfl
    | some c => dsimp only; rw [decide_eq_false_iff_not]; omega
  obtain ⟨s3, e3, Q3, F3, p3, A3⟩ := h_node (rc := rc) (sp := sp) (r := r) hsd hrc hsp hsp2 ersp hc8 hn n 0 (by omega) (7 - n) D 0 (none, row) path v s2 (by omega) Q2 A2 S2 V KpR.rf (fun i hi => by omega) (by omega) hpr
  rw [show n + 1 + (7 - n) = 8 by omega] at e3
  have e_ent : ent md sd rc u n 0 0 path v (none, row) = nod md sd rc u n 0 0 path v (none, row) := by unfold ent; rw [if_neg (by rintro (z | z); exact hm z; omega)]
  rw [e_ent] at A3
  have FF : Fr (fun b => Wh hx 0 b ∨ Sx (hx + 33) b) st s3 := FB.tr (F3.mo (fun _ z => Or.inl z))
  refine ⟨s3, ?_, ⟨FF.mo (fun b z => ?_), FF.R' 10 (fun z => ?_)⟩, A3⟩
  · have bb : fh_X1_beginBy (hx + 103) (some (hx + 3)) (nI sd) q s0 = some s2 := by
      unfold fh_X1_beginBy
      rw [chk_t (show isk s0 (hx + 103) 2 = true from isk_t (h.k (j := 103) (c := 2) (by omega) rfl)), bs_]
      show ((dr s1 (gR s1 103 (hx + 103)) 27).bind _) = _
      rw [h1.2.2.2.2.2.1.2.1, dr_of (h1.k (j := 31) (c := 27) (by omega) rfl), bs_, sp_L h1, chk_t (by decide), dr_of (k3 h1), bs_, cln0, sp_q0 h1, dr_of (sp_k0 h1), bs_, r800 w1 h1, e2, bs_]
    show ((fh_X1_beginBy (hx + 103) (some (hx + 3)) (nI sd) q s0).bind _) = _
    rw [bb, bs_, chk_t (isk_t (h2.k (j := 103) (c := 2) (by omega) rfl))]
    show ((fh_X1_goDeeper 8 (hx + 103) (nI 0) (nI 0) s2).bind _) = _
    rw [e3, bs_]
  · rcases z with (⟨i, i1, i2, i3⟩ | z) | z
    · exact Or.inr (Or.inr (Or.inr (Or.inr (Or.inl ⟨i, i2, i3⟩))))
    · unfold Sc; omega
    · exact Or.inr (Or.inr (Or.inr (Or.inr (Or.inl ⟨0, by omega, z⟩))))
  · rcases z with z | z
    · have := wh_in z; omega
    · unfold Sx at z; omega
def cl (v : Nat → Int32) (nr : Nat) (a b : Int32) : Int32 := if v 0 ≤ 0 then 0 else if sd a = 0 then 0 else if rl nr b = 0 then 0 else if pGap v = 0 then 0 else 1
theorem cl_c {v : Nat → Int32} {nr : Nat} {a b : Int32} (hn : nr ≤ 6) : cl v nr a b = 0 ∨ (cl v nr a b = 1 ∧ ¬ v 0 ≤ 0 ∧ (∃ s, s < 2 ∧ a = nI s) ∧ (b = -1 ∨ ∃ k, k < nr ∧ b = nI k) ∧ ¬ pGap v = 0) := by
  unfold cl
  by_cases h : v 0 ≤ 0
  · left; rw [if_pos h]
  · rw [if_neg h]
    rcases sd_c a with q | ⟨q, qa⟩
    · left; rw [if_pos q]
    · rw [if_neg (by rw [q]; decide)]
      rcases rl_c hn b with z | ⟨z, zb⟩
      · left; rw [if_pos z]
      · rw [if_neg (by rw [z]; decide)]
        by_cases g : pGap v = 0
        · left; rw [if_pos g]
        · right; rw [if_neg g]; exact ⟨rfl, h, qa, zb, g⟩
theorem h_free {hx nr r : Nat} {st : HSt} {v : Nat → Int32} {a b : Int32} (w : Wf st) (h : Sh hx st) (S : SpR st (hx + 3 + 1) r v) (h1 : gI st 1103 hx = nI nr) : fh_X11_isFreeHand hx a b st = some (st, cl v nr a b) := by
  unfold fh_X11_isFreeHand cl
  rw [chk_t (st_k h), h_hasR w h S, bs_]
  dsimp only
  by_cases hr : v 0 ≤ 0
  · rw [if_pos hr, if_pos rfl, if_pos hr]
  · rw [if_neg hr, if_neg (show ¬ (1 : Int32) = 0 by decide), if_neg hr, h_side, bs_]
    dsimp only
    by_cases q : sd a = 0
    · rw [if_pos q, if_pos q]
    · rw [if_neg q, if_neg q, chk_t (st_k h), h_isRule h h1, bs_]
      dsimp only
      by_cases z : rl nr b = 0
      · rw [if_pos z, if_pos z]
      · rw [if_neg z, if_neg z, chk_t (st_k h), st_site h, bs_, st_span w (k3 h), bs_, h_met w S, bs_]
        dsimp only
        by_cases g : pGap v = 0
        · rw [if_pos g, if_neg (show ¬ (1 : Int32) = 0 by decide), if_pos g]
        · rw [if_neg g, if_pos rfl, if_neg g]
theorem m_free {nr : Nat} {ms : MSt} {v : Nat → Int32} {a b : Int32} (hv : ms.2.1 26 = v) (h1 : ms.1 2 = nI nr) : fm_canLike a b ms = some (ms, cl v nr a b) := by
  unfold fm_canLike cl
  rw [m_river hv, bs_]
  dsimp only
  by_cases hr : v 0 ≤ 0
  · rw [if_pos hr, if_pos rfl, if_pos hr]
  · rw [if_neg hr, if_neg (show ¬ (1 : Int32) = 0 by decide), if_neg hr, m_side, bs_]
    by_cases q : sd a = 0
    · rw [if_pos q, if_pos q]
    · rw [if_neg q, if_neg q, m_isRule h1, bs_]
      dsimp only
      by_cases z : rl nr b = 0
      · rw [if_pos z, if_pos z]
      · rw [if_neg z, if_neg z, m_met hv, bs_]
        dsimp only
        by_cases g : pGap v = 0
        · rw [if_pos g, if_neg (show ¬ (1 : Int32) = 0 by decide), if_pos g]
        · rw [if_neg g, if_pos rfl, if_neg g]
theorem h_best {hx k : Nat} {st : HSt} (h : Sh hx st) (hk : k < 6) : fh_X1_bestTurnOn (hx + 103) (nI k) st = some (st, gA st (hx + 105) k) := by
  obtain ⟨r102, r103, r104, l104, r105, l105⟩ := h.2.2.2.2.2.1
  unfold fh_X1_bestTurnOn
  rw [if_neg (nI_pos (by omega)), chk_t (isk_t (h.k (j := 103) (c := 2) (by omega) rfl)), r105, dr_of (h.k (j := 105) (c := 22) (by omega) rfl), bs_, l105, if_neg (nI_ge hk (by omega)), chk_t (inb_n hk (by omega)), nI_clamp (by omega)]
theorem Rel.on2 {hx : Nat} {st st2 : HSt} {ms m2 : MSt} (R : Rel hx st ms) (o : OnW hx st st2) (F : MF mXq ms m2) (e : m2.2.1 26 = ms.2.1 26) : Rel hx st2 m2 := by
  have p : PkR hx st := by obtain ⟨t, nr, r, w, hi, h, p, -⟩ := R; exact p
  exact R.sc o.1 (o.pk p) F (fun i _ => by rw [e])
theorem sim_straight : Sim3 Rel fh_X11_straight fm_straight := sim3_of (fun hx st ms a b wh R => by
  have R0 := R
  obtain ⟨t, nr, r, w, hi, h, p, T, U, I, V, J⟩ := R
  obtain ⟨w0, y, d, sp, fl, h0, h6, h1, h2, h4, hw0, hy, hd, hsp, -⟩ := id V
  unfold fh_X11_straight fm_straight
  rw [chk_t (st_k h), h_free w h I.1 U.1, bs_, m_free rfl U.2.1, bs_]
  dsimp only
  rcases cl_c (v := ms.2.1 26) (a := a) (b := b) U.2.2.1 with e | ⟨e, hr, ⟨s, hs, rfl⟩, hb, hg⟩
  · rw [e]
    exact ⟨(st, -100000), (ms, -100000), rfl, rfl, rfl, R0⟩
  rw [e, if_neg (show ¬ (1 : Int32) = 0 by decide), if_neg (show ¬ (1 : Int32) = 0 by decide), h_in (L := 0) (U := 6) (by decide) (by decide), bs_, m_in (L := 0) (U := 6) (by decide) (by decide), bs_]
  dsimp only
  rcases wI_c wh 0 6 with ⟨e1, l1⟩ | ⟨e1, l1, l2⟩
  · rw [e1]
    exact ⟨(st, -100000), (ms, -100000), rfl, rfl, rfl, R0⟩
  obtain ⟨wh, hwh, rfl⟩ := n_of (a := wh) (U := 6) l1 l2
  obtain ⟨q, u, Q, M, eq⟩ := ask_rule w h p U hb
  rw [e1, if_neg (show ¬ (1 : Int32) = 0 by decide), if_neg (show ¬ (1 : Int32) = 0 by decide), chk_t (st_k h), r1109 h, dr_of (k27 h), bs_, eq st Fr.rf, bs_]
  dsimp only
  rw [h.2.2.2.2.1.2.2.2.2.2.2.2.2.2.1, dr_of (h.k (j := 103) (c := 2) (by omega) rfl), bs_, r1104 h]
  obtain ⟨s2, f2, ow, A2⟩ := h_hand (md := none) (n := 6) (path := fun _ => 0) (row := fun _ => 0) w h I V (by omega) Q hs h2 hsp rfl (fun c hc => by cases hc) (by omega) (by omega) hg (nI 12) (fun c hc => by cases hc) (fun _ => rfl)
  obtain ⟨m2, g2, G2, s26, B2⟩ := m_through (md := none) (n := 6) (path := fun _ => 0) (row := fun _ => 0) hs h2 hsp rfl (fun c hc => by cases hc) (by omega) (by omega) M V (by omega)
  have gs : fh_X1_goStraight (hx + 103) (some (hx + 3)) (nI s) q st = some s2 := by
    unfold fh_X1_goStraight
    rw [chk_t (isk_t (h.k (j := 103) (c := 2) (by omega) rfl))]
    exact f2
  have gm : fm_goesThrough (nI s) b 6 0 0 ms = some m2 := g2
  have h2' : Sh hx s2 := h.fr ow.1
  have Rf := R0.on2 ow G2 s26
  rw [gs, bs_, gm, bs_, chk_t (isk_t (h2'.k (j := 103) (c := 2) (by omega) rfl))]
  generalize nod none s (if sp < 2 then sp else 2) u 6 0 0 (fun _ => 0) (ms.2.1 26) (none, fun _ => 0) = ac at A2 B2
  cases ha : ac.1 with
  | none =>
    rw [(A2.2.1 ha).1, if_pos rfl, B2.1 ha, if_neg (by decide)]
    exact ⟨_, _, rfl, rfl, rfl, Rf⟩
  | some c =>
    obtain ⟨c1, c2, c3, c4, -⟩ := A2.2.2 c ha
    obtain ⟨d1, d2, d3⟩ := B2.2 c ha
    rw [c1, if_neg (show ¬ (1 : Int32) = 0 by decide), d1, if_pos (nI_pos' (by omega)), c2]
    rcases Nat.eq_zero_or_pos wh with q0 | q0
    · subst q0
      rw [if_pos (show nI 0 = 0 from rfl), if_pos (show nI 0 = 0 from rfl)]
      exact ⟨_, _, rfl, rfl, rfl, Rf⟩
    · obtain ⟨k, rfl⟩ : ∃ k, wh = k + 1 := ⟨wh - 1, by omega⟩
      rw [if_neg (nI_ne0 (by omega) (by omega)), if_neg (nI_ne0 (by omega) (by omega)), nI_pred, h_best h2' (by omega), bs_, chk_t (inb_n (by omega) (by omega)), nI_clamp (by omega), c4 k (by omega), d3 k (by omega)]
      exact ⟨_, _, rfl, rfl, rfl, Rf⟩)
theorem sim_spite : Sim4 Rel fh_X11_spite fm_spite := sim4_of (fun hx st ms a b cc wh R => by
  have R0 := R
  obtain ⟨t, nr, r, w, hi, h, p, T, U, I, V, J⟩ := R
  obtain ⟨w0, y, d, sp, fl, h0, h6, h1, h2, h4, hw0, hy, hd, hsp, -⟩ := id V
  unfold fh_X11_spite fm_spite
  rw [chk_t (st_k h), h_free w h I.1 U.1, bs_, m_free rfl U.2.1, bs_]
  dsimp only
  rcases cl_c (v := ms.2.1 26) (a := a) (b := b) U.2.2.1 with e | ⟨e, hr, ⟨s, hs, rfl⟩, hb, hg⟩
  · rw [e]
    exact ⟨(st, -100000), (ms, -100000), rfl, rfl, rfl, R0⟩
  rw [e, if_neg (show ¬ (1 : Int32) = 0 by decide), if_neg (show ¬ (1 : Int32) = 0 by decide), h_in (L := 0) (U := 8) (by decide) (by decide), bs_, m_in (L := 0) (U := 8) (by decide) (by decide), bs_]
  dsimp only
  rcases wI_c cc 0 8 with ⟨e1, l1⟩ | ⟨e1, l1, l2⟩
  · rw [e1]
    exact ⟨(st, -100000), (ms, -100000), rfl, rfl, rfl, R0⟩
  rw [e1, if_neg (show ¬ (1 : Int32) = 0 by decide), if_neg (show ¬ (1 : Int32) = 0 by decide), h_in (L := 0) (U := 4) (by decide) (by decide), bs_, m_in (L := 0) (U := 4) (by decide) (by decide), bs_]
  dsimp only
  rcases wI_c wh 0 4 with ⟨e2, l3⟩ | ⟨e2, l3, l4⟩
  · rw [e2]
    exact ⟨(st, -100000), (ms, -100000), rfl, rfl, rfl, R0⟩
  obtain ⟨cc, hcc, rfl⟩ := n_of (a := cc) (U := 8) l1 l2
  obtain ⟨wh, hwh, rfl⟩ := n_of (a := wh) (U := 4) l3 l4
  obtain ⟨q, u, Q, M, eq⟩ := ask_rule w h p U hb
  rw [e2, if_neg (show ¬ (1 : Int32) = 0 by decide), if_neg (show ¬ (1 : Int32) = 0 by decide), chk_t (st_k h), r1109 h, dr_of (k27 h), bs_, eq st Fr.rf, bs_]
  dsimp only
  rw [h.2.2.2.2.1.2.2.2.2.2.2.2.2.2.1, dr_of (h.k (j := 103) (c := 2) (by omega) rfl), bs_, r1104 h]
  obtain ⟨s2, f2, ow, A2⟩ := h_hand (md := some cc) (n := 4) (path := fun _ => 0) (row := fun _ => 0) w h I V (by omega) Q hs h2 hsp rfl (fun c hc => by injection hc with hc; omega) (by omega) (by omega) hg (nI cc) (fun c hc => by injection hc with hc; rw [hc]) (fun z => by cases z)
  obtain ⟨m2, g2, G2, s26, B2⟩ := m_through (md := some cc) (n := 4) (path := fun _ => 0) (row := fun _ => 0) hs h2 hsp rfl (fun c hc => by injection hc with hc; omega) (by omega) (by omega) M V (by omega)
  have gs : fh_X1_goSpiteful (hx + 103) (some (hx + 3)) (nI s) q (nI cc) st = some s2 := by
    unfold fh_X1_goSpiteful
    rw [chk_t (isk_t (h.k (j := 103) (c := 2) (by omega) rfl))]
    exact f2
  have gm : fm_goesThrough (nI s) b 4 1 (nI cc) ms = some m2 := g2
  have h2' : Sh hx s2 := h.fr ow.1
  have Rf := R0.on2 ow G2 s26
  have fo : isS (nod (some cc) s (if sp < 2 then sp else 2) u 4 0 0 (fun _ => 0) (ms.2.1 26) (none, fun _ => 0)) := nod_found 3 0 0 _ _ _ (by omega)
  rw [gs, bs_, gm, bs_, chk_t (isk_t (h2'.k (j := 103) (c := 2) (by omega) rfl))]
  generalize nod (some cc) s (if sp < 2 then sp else 2) u 4 0 0 (fun _ => 0) (ms.2.1 26) (none, fun _ => 0) = ac at A2 B2 fo
  cases ha : ac.1 with
  | none => exact absurd ha fo
  | some c =>
    obtain ⟨c1, c2, c3, c4, -⟩ := A2.2.2 c ha
    obtain ⟨d1, d2, d3⟩ := B2.2 c ha
    rw [d1, c2]
    rcases Nat.eq_zero_or_pos wh with q0 | q0
    · subst q0
      rw [if_pos (show nI 0 = 0 from rfl), if_pos (show nI 0 = 0 from rfl)]
      exact ⟨_, _, rfl, rfl, rfl, Rf⟩
    · obtain ⟨k, rfl⟩ : ∃ k, wh = k + 1 := ⟨wh - 1, by omega⟩
      rw [if_neg (nI_ne0 (by omega) (by omega)), if_neg (nI_ne0 (by omega) (by omega)), nI_pred, chk_t (isk_t (h2'.k (j := 103) (c := 2) (by omega) rfl)), h_best h2' (by omega), bs_, chk_t (inb_n (by omega) (by omega)), nI_clamp (by omega), c4 k (by omega), d3 k (by omega)]
      exact ⟨_, _, rfl, rfl, rfl, Rf⟩)
