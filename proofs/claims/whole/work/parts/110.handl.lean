/-! straight, spite: the loop of the reference -/
def Sps {σ ο : Type} (s : σ → Option (ο ⊕ (σ ⊕ σ))) : Nat → σ → σ → Prop
  | 0, x, y => x = y
  | n + 1, x, y => ∃ z, s x = some (.inr (.inl z)) ∧ Sps s n z y
theorem Sps.tr {σ ο : Type} {s : σ → Option (ο ⊕ (σ ⊕ σ))} : ∀ {n m : Nat} {x y z : σ}, Sps s n x y → Sps s m y z → Sps s (n + m) x z
  | 0, m, x, y, z, h, h2 => by rw [Nat.zero_add]; have e : x = y := h; rw [e]; exact h2
  | n + 1, m, x, y, z, h, h2 => by
    obtain ⟨q, e, h⟩ := h
    rw [show n + 1 + m = (n + m) + 1 by omega]
    exact ⟨q, e, h.tr h2⟩
theorem Sps.one {σ ο : Type} {s : σ → Option (ο ⊕ (σ ⊕ σ))} {x y : σ} (h : s x = some (.inr (.inl y))) : Sps s 1 x y := ⟨y, h, rfl⟩
theorem iter_stp {σ ο : Type} {s : σ → Option (ο ⊕ (σ ⊕ σ))} : ∀ {n : Nat} {x y : σ} (F : Nat), Sps s n x y → iter s (n + F) x = iter s F y
  | 0, x, y, F, h => by rw [Nat.zero_add]; have e : x = y := h; rw [e]
  | n + 1, x, y, F, h => by
    obtain ⟨q, e, h⟩ := h
    rw [show n + 1 + F = (n + F) + 1 by omega, iter_c e]
    exact iter_stp F h
def AcM (ms : MSt) (a : Ac) : Prop := (a.1 = none → ms.1 38 = -1) ∧ ∀ b, a.1 = some b → ms.1 38 = nI b ∧ b ≤ 2000 ∧ ∀ i, i < 6 → ms.2.1 37 i = a.2 i
theorem AcM.fr {X : Nat → Bool} {m1 m2 : MSt} {a : Ac} (A : AcM m1 a) (F : MF X m1 m2) (h37 : X 37 = false) (h38 : X 38 = false) : AcM m2 a := by
  unfold AcM at *; rw [F.I 38 h38, F.A 37 h37]; exact A
def TMx (ms0 ms : MSt) (d : Nat) (vs : Nat → Nat → Int32) (cs : Nat → Nat) (path : Nat → Int32) (a : Ac) : Prop := MF mXq ms0 ms ∧ (∀ i, i < 286 → ms.2.1 31 i = ms0.2.1 26 i) ∧ (∀ i, 286 ≤ i → ms.2.1 26 i = ms0.2.1 26 i) ∧ ms.2.1 26 2 = ms0.2.1 26 2 ∧ (∀ j i, j < d → i < 286 → ms.2.1 34 (286 * j + i) = vs j i) ∧ (∀ j, j < d → ms.2.1 36 j = nI (cs j)) ∧ (∀ j, j < d → ms.2.1 35 j = path j) ∧ AcM ms a
/-- what stands at depth d itself -/
def TMd (ms : MSt) (d cost : Nat) (v : Nat → Int32) : Prop := (∀ i, i < 286 → ms.2.1 34 (286 * d + i) = v i) ∧ ms.2.1 36 d = nI cost
def cI (md : Option Nat) : Int32 := match md with
  | none => 0
  | some c => nI c
def bB : Nat → Nat
  | 0 => 0
  | m + 1 => 5 * (1 + bB m) + 1
theorem rowO_u {path f : Nat → Int32} {d : Nat} {mark : Int32} (hp : ∀ j, j < d → f j = path j) (hm : f d = mark) : ∀ i, rowO f (d + 1) i = rowO (upd path d mark) (d + 1) i := fun i => by
  unfold rowO
  by_cases h : i < d + 1
  · rw [if_pos h, if_pos h]
    by_cases e : i = d
    · rw [e, pk_us]; exact hm
    · rw [pk_un e]; exact hp i (by omega)
  · rw [if_neg h, if_neg h]
theorem wei_c {md : Option Nat} {sd cost : Nat} {v r1 r2 : Nat → Int32} {a : Ac} (h : ∀ i, r1 i = r2 i) : wei md sd v cost r1 a = wei md sd v cost r2 a := by
  rw [show r1 = r2 from funext h]
section LOOP
variable {ms0 : MSt} {n sd rc sp : Nat} {md : Option Nat} {x : Int32} {u : Option Ru}
/-- a row's end is weighed -/
theorem m_weigh {ms : MSt} {d cost D : Nat} {v : Nat → Int32} {a : Ac} (hsd : sd < 2) (hd : d < 6) (hv : ms.2.1 26 = v) (V : VOk D v) (A : AcM ms a) (hcost : cost ≤ 12) : ∃ ms2, fm_goesThrough_j203 (nI sd) x (nI n) (mdI md) (cI md) (nI d) (nI cost) 1 ms = some (.inr (.inl (nI d, ms2))) ∧ AcM ms2 (wei md sd v cost (rowO (ms.2.1 35) (d + 1)) a) ∧ MF (fun k => k == 37 || k == 38) ms ms2 := by
  unfold fm_goesThrough_j203
  rw [if_neg (show ¬ (1 : Int32) = 0 by decide)]
  cases md with
  | none =>
    rw [if_pos (show mdI none = 0 from rfl), m_time' hv V, bs_]
    dsimp only
    unfold wei
    dsimp only
    by_cases hz : pTm v = 0
    · rw [if_pos hz, if_pos hz]; exact ⟨ms, rfl, A, MF.rf⟩
    · rw [if_neg hz, if_neg hz]
      unfold fm_goesThrough_j277
      obtain ⟨m2, e2, G, F⟩ := m_takesRow (ms := msi ms 38 (nI cost)) (g := d + 1) (by omega)
      rw [if_pos (show mdI none = 0 from rfl), na d 1 (x := 1) rfl, e2, bs_]
      refine ⟨m2, rfl, ⟨fun z => (by cases z), fun b hb => ?_⟩, (MF.msi rfl).tr (F.mo (fun k hk => by rw [hk]; rfl))⟩
      injection hb with hb; subst hb
      refine ⟨?_, by omega, fun i hi => G i hi⟩
      rw [F.I 38 rfl, msi_s]
  | some c =>
    obtain ⟨y, K, ey, hy, hK, eK, eN⟩ := crk_n V (s := 1 - sd) (by omega)
    have ec := m_crooked (ms := ms) (s := 1 - sd) (x := nI (1 - sd)) hv rfl (by omega) ey hy
    rw [eK] at ec
    rw [if_neg (show ¬ mdI (some c) = 0 by show ¬ (1 : Int32) = 0; decide), n1s hsd, ec, bs_]
    dsimp only
    unfold wei
    dsimp only
    rw [eN]
    obtain ⟨m2, e2, G, F⟩ := m_takesRow (ms := msi ms 38 (nI K)) (g := d + 1) (by omega)
    have j277 : fm_goesThrough_j277 (nI sd) x (nI n) (mdI (some c)) (cI (some c)) (nI d) (nI cost) ms = some (.inr (.inl (nI d, m2))) := by
      unfold fm_goesThrough_j277
      rw [if_neg (show ¬ mdI (some c) = 0 by show ¬ (1 : Int32) = 0; decide), n1s hsd, ec, bs_]
      dsimp only
      rw [na d 1 (x := 1) rfl, e2, bs_]
    have keepd : AcM m2 (some K, rowO (ms.2.1 35) (d + 1)) := ⟨fun z => (by cases z), fun b hb => by
      injection hb with hb; subst hb
      exact ⟨by rw [F.I 38 rfl, msi_s], by omega, fun i hi => G i hi⟩⟩
    have FF : MF (fun k => k == 37 || k == 38) ms m2 := (MF.msi rfl).tr (F.mo (fun k hk => by rw [hk]; rfl))
    cases ha : a.1 with
    | none =>
      rw [A.1 ha, if_pos (Int32.lt_of_lt_of_le (show (-1 : Int32) < 0 by decide) (nI_pos' (by omega))), j277]
      exact ⟨m2, rfl, keepd, FF⟩
    | some b =>
      obtain ⟨b1, b2, -⟩ := A.2 b ha
      rw [b1]
      dsimp only
      by_cases hb : b < K
      · rw [if_pos (nI_lt hb (by omega)), j277, if_pos hb]
        exact ⟨m2, rfl, keepd, FF⟩
      · rw [if_neg (nI_nlt (by omega) (by omega)), if_neg hb]
        exact ⟨ms, rfl, A, MF.rf⟩
theorem mXw_q : ∀ k, (k == 37 || k == 38) = true → mXq k = true := fun k h => by
  simp only [Bool.or_eq_true, beq_iff_eq] at h
  rcases h with h | h <;> subst h <;> rfl
/-- one turn of the loop, up to its end or to the next depth -/
theorem m_child (hsd : sd < 2) (hrc : rc ≤ 2) (hsp : ms0.2.1 26 2 = nI sp) (hsp2 : sp ≤ 20) (ersp : rc = if sp < 2 then sp else 2) (hc8 : ∀ c, md = some c → c ≤ 8) (hn : n ≤ 6) (R : MqR ms0 x u) {m d : Nat} (hd : d + (m + 1) = n)
    (ih : ∀ (ms : MSt) (vs : Nat → Nat → Int32) (cs : Nat → Nat) (path v : Nat → Int32) (a : Ac) (cost D : Nat), TMx ms0 ms (d + 1) vs cs path a → TMd ms (d + 1) cost v → ms.2.1 35 (d + 1) = tv rc 0 - 1 → (∀ i, 286 ≤ i → v i = ms0.2.1 26 i) → VOk D v → v 2 = nI sp → D + m ≤ 20000 → cost ≤ 2 * (d + 1) → 0 < m → ∃ N ms', N ≤ bB m ∧ Sps (fun y : (Int32 × MSt) => fm_goesThrough_s37 (nI sd) x (nI n) (mdI md) (cI md) y.1 y.2) N (nI (d + 1), ms) (nI (d + 1) + -1, ms') ∧ TMx ms0 ms' (d + 1) vs cs path (nod md sd rc u m (d + 1) cost path v a))
    {ms : MSt} {vs : Nat → Nat → Int32} {cs : Nat → Nat} {path v : Nat → Int32} {a : Ac} {cost D k : Nat} (T : TMx ms0 ms d vs cs path a) (Td : TMd ms d cost v) (ht : ms.2.1 35 d = tv rc k - 1) (hk : k ≤ 2 * rc) (hhi : ∀ i, 286 ≤ i → v i = ms0.2.1 26 i) (V : VOk D v) (hv2 : v 2 = nI sp) (hD : D + (m + 1) ≤ 20000) (hcost : cost ≤ 2 * d) :
    ∃ N ms', N ≤ 1 + bB m ∧ Sps (fun y : (Int32 × MSt) => fm_goesThrough_s37 (nI sd) x (nI n) (mdI md) (cI md) y.1 y.2) N (nI d, ms) (nI d, ms') ∧ TMx ms0 ms' d vs cs path (chi md sd m d (if hasB v sd u = true then cost + ab rc k else cost) path (pFd v sd u (tv rc k)) (if hasB v sd u = true then tv rc k else -100) (nod md sd rc u m (d + 1)) a) ∧ TMd ms' d cost v ∧ ms'.2.1 35 d = (if hasB v sd u = true then tv rc k else -100) := by
  obtain ⟨M0, M31, Mhi, M2, M34, M36, M35, MA⟩ := T
  obtain ⟨D34, D36⟩ := Td
  have abk := ab_le hrc hk
  have tvk := tv_s hrc hk
  have most := m_most (ms := ms) (M2.trans hsp) hsp2
  rw [← ersp] at most
  have tn1 : ¬ tv rc k - 1 = nI rc := fun z => by
    have e1 : tv rc k = nI rc + 1 := by rw [← z, Int32.sub_add_cancel]
    have := (tv_lt hrc (show k ≤ 2 * rc + 1 by omega)).mp (by rw [e1, nI_1]; exact nI_lt (by omega) (by omega))
    omega
  have tn2 : ¬ tv rc k - 1 = -100 := fun z => by
    have e1 : tv rc k = -100 + 1 := by rw [← z, Int32.sub_add_cancel]
    have := tvk.1
    rw [e1] at this
    exact absurd this (by decide)
  let m1 := msa ms 35 d (tv rc k)
  obtain ⟨m2, e2, p26, phi, F2⟩ := m_putsAt (ms := m1) (d := d) (by omega)
  have hsaid : m2.2.1 26 = v := by
    funext i
    rcases Nat.lt_or_ge i 286 with q | q
    · rw [p26 i q]
      show (msa ms 35 d (tv rc k)).2.1 34 (286 * d + i) = _
      rw [msa_n (by omega)]; exact D34 i q
    · rw [phi i q]
      show (msa ms 35 d (tv rc k)).2.1 26 i = _
      rw [msa_n (by omega), Mhi i q, hhi i q]
  have F12 : MF mXq ms m2 := (MF.msa (X := mXq) (k := 35) rfl).tr (F2.mo mX26_q)
  have t35 : m2.2.1 35 d = tv rc k := by rw [F2.A 35 rfl, msa_s, pk_us]
  obtain ⟨m3, e3, S3, F3⟩ := m_passesAs (t := tv rc k) hsaid V (by omega) hsd tvk (R.fr (M0.tr F12) rfl rfl rfl)
  have F13 : MF mXq ms m3 := F12.tr (F3.mo mXd_q)
  have t35' : m3.2.1 35 d = tv rc k := by rw [F3.A 35 rfl]; exact t35
  have c36 : m3.2.1 36 d = nI cost := by rw [F3.A 36 rfl, F2.A 36 rfl, msa_n (by omega)]; exact D36
  have V3 := V.fd (sd := sd) (u := u) tvk
  let c' := if hasB v sd u = true then cost + ab rc k else cost
  let mark := if hasB v sd u = true then tv rc k else -100
  have hc' : c' ≤ 2 * (d + 1) := by show (if hasB v sd u = true then cost + ab rc k else cost) ≤ _; split <;> omega
  obtain ⟨m4, q4, F4, t4⟩ : ∃ m4, fm_goesThrough_s37 (nI sd) x (nI n) (mdI md) (cI md) (nI d) ms = fm_goesThrough_j149 (nI sd) x (nI n) (mdI md) (cI md) (nI d) (nI c') m4 ∧ MF (fun k => k == 35) m3 m4 ∧ m4.2.1 35 = upd (m3.2.1 35) d mark := by
    have head : fm_goesThrough_s37 (nI sd) x (nI n) (mdI md) (cI md) (nI d) ms = (if (if hasB v sd u = true then (1 : Int32) else 0) = 0 then fm_goesThrough_j132 (nI sd) x (nI n) (mdI md) (cI md) (nI d) (if hasB v sd u = true then (1 : Int32) else 0) (0 : Int32) (nI cost) m3 else fm_goesThrough_j132 (nI sd) x (nI n) (mdI md) (cI md) (nI d) (if hasB v sd u = true then (1 : Int32) else 0) (nI (ab rc k)) (nI cost) m3) := by
      unfold fm_goesThrough_s37
      rw [if_neg (nI_pos (by omega)), chk_t (inb_n (by omega) (by omega)), most, bs_, nI_clamp (by omega), ht]
      dsimp only
      rw [if_neg tn1, chk_t (inb_n (by omega) (by omega)), if_neg tn2, chk_t (inb_n (by omega) (by omega)), chk_t (inb_n (by omega) (by omega)), Int32.sub_add_cancel]
      show ((fm_putsBackAt (nI d) m1).bind _) = _
      rw [e2, bs_, chk_t (inb_n (by omega) (by omega)), t35, e3, bs_, chk_t (inb_n (by omega) (by omega)), chk_t (inb_n (by omega) (by omega))]
      dsimp only
      rw [t35', c36, m_plain, bs_, tv_a hrc hk]
    rw [head]
    unfold fm_goesThrough_j132
    by_cases hb : hasB v sd u = true
    · refine ⟨m3, ?_, MF.rf, ?_⟩
      · rw [if_pos hb, if_neg (show ¬ (1 : Int32) = 0 by decide), if_neg (show ¬ (1 : Int32) = 0 by decide), nI_add]
        show _ = fm_goesThrough_j149 (nI sd) x (nI n) (mdI md) (cI md) (nI d) (nI (if hasB v sd u = true then cost + ab rc k else cost)) m3
        rw [if_pos hb]
      · show _ = upd (m3.2.1 35) d (if hasB v sd u = true then tv rc k else -100)
        rw [if_pos hb, ← t35']
        funext j
        by_cases e : j = d
        · rw [e, pk_us]
        · rw [pk_un e]
    · refine ⟨msa m3 35 d (-100), ?_, MF.msa rfl, ?_⟩
      · rw [if_neg hb, if_pos rfl, if_pos rfl, chk_t (inb_n (by omega) (by omega)), nI_clamp (by omega), Int32.add_zero]
        show _ = fm_goesThrough_j149 (nI sd) x (nI n) (mdI md) (cI md) (nI d) (nI (if hasB v sd u = true then cost + ab rc k else cost)) _
        rw [if_neg hb]
      · show _ = upd (m3.2.1 35) d (if hasB v sd u = true then tv rc k else -100)
        rw [msa_s, if_neg hb]
  have F14 : MF mXq ms m4 := F13.tr (F4.mo (fun k hk => by rw [beq_iff_eq] at hk; subst hk; rfl))
  have S4 : m4.2.1 26 = pFd v sd u (tv rc k) := (F4.A 26 rfl).trans S3
  have g34 : ∀ j, m4.2.1 34 j = ms.2.1 34 j := fun j => by rw [F4.A 34 rfl, F3.A 34 rfl, F2.A 34 rfl, msa_n (by omega)]
  have g36 : ∀ j, m4.2.1 36 j = ms.2.1 36 j := fun j => by rw [F4.A 36 rfl, F3.A 36 rfl, F2.A 36 rfl, msa_n (by omega)]
  have g35 : ∀ j, j < d → m4.2.1 35 j = ms.2.1 35 j := fun j hj => by rw [t4, pk_un (by omega), F3.A 35 rfl, F2.A 35 rfl, msa_s, pk_un (by omega)]
  have g35d : m4.2.1 35 d = mark := by rw [t4, pk_us]
  have A4 : AcM m4 a := by
    have g37 : m4.2.1 37 = ms.2.1 37 := by rw [F4.A 37 rfl, F3.A 37 rfl, F2.A 37 rfl, msa_n (by omega)]
    have g38 : m4.1 38 = ms.1 38 := by rw [F4.I 38 rfl, F3.I 38 rfl, F2.I 38 rfl, msa_I]
    unfold AcM at *; rw [g37, g38]; exact MA
  have T4 : TMx ms0 m4 d vs cs path a := ⟨M0.tr F14, fun i hi => by rw [F4.A 31 rfl, F3.A 31 rfl, F2.A 31 rfl, msa_n (by omega)]; exact M31 i hi, fun i hi => by rw [S4, fd_hi V tvk hi]; exact hhi i hi, by rw [S4, Kp_fd 2 (by omega) (by omega) (by omega) (by omega), hv2, hsp], fun j i hj hi => by rw [g34]; exact M34 j i hj hi, fun j hj => by rw [g36]; exact M36 j hj, fun j hj => by rw [g35 j hj]; exact M35 j hj, A4⟩
  have Td4 : TMd m4 d cost v := ⟨fun i hi => by rw [g34]; exact D34 i hi, by rw [g36]; exact D36⟩
  show ∃ N ms', N ≤ 1 + bB m ∧ Sps _ N (nI d, ms) (nI d, ms') ∧ TMx ms0 ms' d vs cs path (chi md sd m d c' path (pFd v sd u (tv rc k)) mark (nod md sd rc u m (d + 1)) a) ∧ TMd ms' d cost v ∧ ms'.2.1 35 d = mark
  rw [chi_e]
  by_cases hp : pru md c' a = true
  · rw [if_pos hp]
    refine ⟨1, m4, by omega, Sps.one ?_, T4, Td4, g35d⟩
    show fm_goesThrough_s37 (nI sd) x (nI n) (mdI md) (cI md) (nI d) ms = _
    rw [q4]
    unfold fm_goesThrough_j149
    unfold pru at hp
    cases md with
    | none =>
      rw [if_pos (show mdI none = 0 from rfl)]
      dsimp only at hp
      cases ha : a.1 with
      | none => rw [ha] at hp; cases hp
      | some b =>
        rw [ha] at hp
        dsimp only at hp
        have hb := of_decide_eq_true hp
        obtain ⟨b1, b2, -⟩ := A4.2 b ha
        rw [b1, if_neg (nI_pos (by omega)), if_neg (nI_nlt hb (by omega))]
    | some c =>
      dsimp only at hp
      have hb := of_decide_eq_true hp
      have := hc8 c rfl
      rw [if_neg (show ¬ mdI (some c) = 0 by show ¬ (1 : Int32) = 0; decide), if_neg (show ¬ nI c' ≤ cI (some c) from nI_ge hb (by omega))]
  · rw [if_neg hp]
    have q5 : fm_goesThrough_s37 (nI sd) x (nI n) (mdI md) (cI md) (nI d) ms = (if (if pGap (pFd v sd u (tv rc k)) = 0 then (1 : Int32) else 0) = 0 then (if nI d = nI n - 1 then fm_goesThrough_j203 (nI sd) x (nI n) (mdI md) (cI md) (nI d) (nI c') 1 m4 else fm_goesThrough_j203 (nI sd) x (nI n) (mdI md) (cI md) (nI d) (nI c') 0 m4) else fm_goesThrough_j203 (nI sd) x (nI n) (mdI md) (cI md) (nI d) (nI c') 1 m4) := by
      have j183 : fm_goesThrough_j183 (nI sd) x (nI n) (mdI md) (cI md) (nI d) (nI c') m4 = (if (if pGap (pFd v sd u (tv rc k)) = 0 then (1 : Int32) else 0) = 0 then (if nI d = nI n - 1 then fm_goesThrough_j203 (nI sd) x (nI n) (mdI md) (cI md) (nI d) (nI c') 1 m4 else fm_goesThrough_j203 (nI sd) x (nI n) (mdI md) (cI md) (nI d) (nI c') 0 m4) else fm_goesThrough_j203 (nI sd) x (nI n) (mdI md) (cI md) (nI d) (nI c') 1 m4) := by
        unfold fm_goesThrough_j183 fm_goesThrough_j198
        rw [m_met S4, bs_]
      rw [q4]
      unfold fm_goesThrough_j149
      unfold pru at hp
      cases md with
      | none =>
        rw [if_pos (show mdI none = 0 from rfl)]
        dsimp only at hp
        cases ha : a.1 with
        | none => rw [A4.1 ha, if_pos (by decide)]; exact j183
        | some b =>
          rw [ha] at hp
          dsimp only at hp
          have hb : ¬ b ≤ c' := fun z => hp (decide_eq_true z)
          obtain ⟨b1, b2, -⟩ := A4.2 b ha
          rw [b1, if_neg (nI_pos (by omega)), if_pos (nI_lt (by omega) (by omega))]; exact j183
      | some c =>
        dsimp only at hp
        have hb : ¬ c < c' := fun z => hp (decide_eq_true z)
        have := hc8 c rfl
        rw [if_neg (show ¬ mdI (some c) = 0 by show ¬ (1 : Int32) = 0; decide), if_pos (show nI c' ≤ cI (some c) from nI_le (by omega) (by omega))]; exact j183
    have ed : nI d = nI n - 1 ↔ m = 0 := by
      obtain ⟨n', rfl⟩ : ∃ n', n = n' + 1 := ⟨n - 1, by omega⟩
      rw [nI_pred, nI_eq (by omega) (by omega)]; omega
    by_cases hl : pGap (pFd v sd u (tv rc k)) = 0 ∨ m = 0
    · obtain ⟨m5, e5, A5, F5⟩ := m_weigh (n := n) (md := md) (x := x) (d := d) (cost := c') hsd (by omega) S4 V3 A4 (by omega)
      have e6 : ent md sd rc u m (d + 1) c' (upd path d mark) (pFd v sd u (tv rc k)) a = wei md sd (pFd v sd u (tv rc k)) c' (rowO (m4.2.1 35) (d + 1)) a := by
        unfold ent
        rw [if_pos hl]
        exact wei_c (fun i => (rowO_u (fun j hj => T4.2.2.2.2.2.2.1 j hj) g35d i).symm)
      rw [e6]
      refine ⟨1, m5, by omega, Sps.one ?_, ?_, ?_, ?_⟩
      · show fm_goesThrough_s37 (nI sd) x (nI n) (mdI md) (cI md) (nI d) ms = _
        rw [q5]
        by_cases hm : pGap (pFd v sd u (tv rc k)) = 0
        · rw [if_pos hm, if_neg (show ¬ (1 : Int32) = 0 by decide)]; exact e5
        · rw [if_neg hm, if_pos rfl, if_pos (ed.mpr (by rcases hl with z | z; exact absurd z hm; exact z))]; exact e5
      · obtain ⟨t1, t2, t3, t4', t5, t6, t7, -⟩ := T4
        exact ⟨t1.tr (F5.mo mXw_q), fun i hi => by rw [F5.A 31 rfl]; exact t2 i hi, fun i hi => by rw [F5.A 26 rfl]; exact t3 i hi, by rw [F5.A 26 rfl]; exact t4', fun j i hj hi => by rw [F5.A 34 rfl]; exact t5 j i hj hi, fun j hj => by rw [F5.A 36 rfl]; exact t6 j hj, fun j hj => by rw [F5.A 35 rfl]; exact t7 j hj, A5⟩
      · exact ⟨fun i hi => by rw [F5.A 34 rfl]; exact Td4.1 i hi, by rw [F5.A 36 rfl]; exact Td4.2⟩
      · rw [F5.A 35 rfl]; exact g35d
    · have hm : ¬ pGap (pFd v sd u (tv rc k)) = 0 := fun z => hl (Or.inl z)
      have hm0 : ¬ m = 0 := fun z => hl (Or.inr z)
      have e6 : ent md sd rc u m (d + 1) c' (upd path d mark) (pFd v sd u (tv rc k)) a = nod md sd rc u m (d + 1) c' (upd path d mark) (pFd v sd u (tv rc k)) a := by
        unfold ent; rw [if_neg hl]
      rw [e6]
      obtain ⟨m6, f6, p6, o6, F6⟩ := m_keepsAt (ms := msa m4 36 (d + 1) (nI c')) (d := d + 1) (by omega)
      have s6 : m6.2.1 26 = pFd v sd u (tv rc k) := by rw [F6.A 26 rfl, msa_n (by omega)]; exact S4
      have most6 := m_most (ms := m6) (sp := sp) (by rw [s6, Kp_fd 2 (by omega) (by omega) (by omega) (by omega)]; exact hv2) hsp2
      rw [← ersp] at most6
      let m7 := msa m6 35 (d + 1) (tv rc 0 - 1)
      have st1 : fm_goesThrough_s37 (nI sd) x (nI n) (mdI md) (cI md) (nI d) ms = some (.inr (.inl (nI (d + 1), m7))) := by
        rw [q5, if_neg hm, if_pos rfl, if_neg (fun z => hm0 (ed.mp z))]
        unfold fm_goesThrough_j203
        rw [if_pos rfl, nI_1, chk_t (inb_n (by omega) (by omega)), nI_clamp (by omega), f6, bs_, most6, bs_, chk_t (inb_n (by omega) (by omega))]
        dsimp only
        rw [tv_0]
      obtain ⟨t1, t2, t3, t4', t5, t6, t7, t8⟩ := id T4
      let vs' : Nat → Nat → Int32 := fun j => if j = d then v else vs j
      let cs' : Nat → Nat := fun j => if j = d then cost else cs j
      have T7 : TMx ms0 m7 (d + 1) vs' cs' (upd path d mark) a := by
        refine ⟨((t1.tr (MF.msa rfl)).tr (F6.mo (fun k hk => by rw [beq_iff_eq] at hk; subst hk; rfl))).tr (MF.msa rfl), fun i hi => ?_, fun i hi => ?_, ?_, fun j i hj hi => ?_, fun j hj => ?_, fun j hj => ?_, ?_⟩
        · show (msa m6 35 (d + 1) (tv rc 0 - 1)).2.1 31 i = _
          rw [msa_n (by omega), F6.A 31 rfl, msa_n (by omega)]; exact t2 i hi
        · show (msa m6 35 (d + 1) (tv rc 0 - 1)).2.1 26 i = _
          rw [msa_n (by omega), F6.A 26 rfl, msa_n (by omega)]; exact t3 i hi
        · show (msa m6 35 (d + 1) (tv rc 0 - 1)).2.1 26 2 = _
          rw [msa_n (by omega), F6.A 26 rfl, msa_n (by omega)]; exact t4'
        · show (msa m6 35 (d + 1) (tv rc 0 - 1)).2.1 34 (286 * j + i) = (if j = d then v else vs j) i
          rw [msa_n (by omega), o6 _ (by omega), msa_n (by omega)]
          by_cases e : j = d
          · rw [if_pos e, e]; exact Td4.1 i hi
          · rw [if_neg e]; exact t5 j i (by omega) hi
        · show (msa m6 35 (d + 1) (tv rc 0 - 1)).2.1 36 j = nI (if j = d then cost else cs j)
          rw [msa_n (by omega), F6.A 36 rfl, msa_s, pk_un (by omega)]
          by_cases e : j = d
          · rw [if_pos e, e]; exact Td4.2
          · rw [if_neg e]; exact t6 j (by omega)
        · show (msa m6 35 (d + 1) (tv rc 0 - 1)).2.1 35 j = _
          rw [msa_s, pk_un (by omega), F6.A 35 rfl, msa_n (by omega)]
          by_cases e : j = d
          · rw [e, pk_us]; exact g35d
          · rw [pk_un e]; exact t7 j (by omega)
        · have g37 : m7.2.1 37 = m4.2.1 37 := by
            show (msa m6 35 (d + 1) (tv rc 0 - 1)).2.1 37 = _
            rw [msa_n (by omega), F6.A 37 rfl, msa_n (by omega)]
          have g38 : m7.1 38 = m4.1 38 := by
            show (msa m6 35 (d + 1) (tv rc 0 - 1)).1 38 = _
            rw [msa_I, F6.I 38 rfl, msa_I]
          unfold AcM at *; rw [g37, g38]; exact t8
      have Td7 : TMd m7 (d + 1) c' (pFd v sd u (tv rc k)) := by
        refine ⟨fun i hi => ?_, ?_⟩
        · show (msa m6 35 (d + 1) (tv rc 0 - 1)).2.1 34 (286 * (d + 1) + i) = _
          rw [msa_n (by omega), p6 i hi, msa_n (by omega), S4]
        · show (msa m6 35 (d + 1) (tv rc 0 - 1)).2.1 36 (d + 1) = _
          rw [msa_n (by omega), F6.A 36 rfl, msa_s, pk_us]
      obtain ⟨N, m8, hN, st8, T8⟩ := ih m7 vs' cs' (upd path d mark) (pFd v sd u (tv rc k)) a c' (D + 1) T7 Td7 (by show (msa m6 35 (d + 1) (tv rc 0 - 1)).2.1 35 (d + 1) = _; rw [msa_s, pk_us]) (fun i hi => by rw [fd_hi V tvk hi]; exact hhi i hi) V3 (by rw [Kp_fd 2 (by omega) (by omega) (by omega) (by omega)]; exact hv2) (by omega) hc' (by omega)
      obtain ⟨z1, z2, z3, z4, z5, z6, z7, z8⟩ := T8
      refine ⟨1 + N, m8, by omega, (Sps.one st1).tr (by rw [pk_m1] at st8; exact st8), ⟨z1, z2, z3, z4, fun j i hj hi => ?_, fun j hj => ?_, fun j hj => ?_, z8⟩, ⟨fun i hi => ?_, ?_⟩, ?_⟩
      · rw [z5 j i (by omega) hi]; show (if j = d then v else vs j) i = _; rw [if_neg (by omega)]
      · rw [z6 j (by omega)]; show nI (if j = d then cost else cs j) = _; rw [if_neg (by omega)]
      · rw [z7 j (by omega), pk_un (by omega)]
      · rw [z5 d i (by omega) hi]; show (if d = d then v else vs d) i = _; rw [if_pos rfl]
      · rw [z6 d (by omega)]; show nI (if d = d then cost else cs d) = _; rw [if_pos rfl]
      · rw [z7 d (by omega), pk_us]
end LOOP
section LOOP2
variable {ms0 : MSt} {n sd rc sp : Nat} {md : Option Nat} {x : Int32} {u : Option Ru}
theorem m_pop_ {ms : MSt} {d : Nat} (hd : d < 7) (hsp : ms.2.1 26 2 = nI sp) (hsp2 : sp ≤ 20) (ersp : rc = if sp < 2 then sp else 2) (h : ms.2.1 35 d = nI rc ∨ ms.2.1 35 d = -100) : fm_goesThrough_s37 (nI sd) x (nI n) (mdI md) (cI md) (nI d) ms = some (.inr (.inl (nI d + -1, ms))) := by
  have most := m_most (ms := ms) hsp hsp2
  rw [← ersp] at most
  unfold fm_goesThrough_s37
  rw [if_neg (nI_pos (by omega)), chk_t (inb_n (by omega) (by omega)), most, bs_, nI_clamp (by omega), chk_t (inb_n (by omega) (by omega))]
  dsimp only
  by_cases q : ms.2.1 35 d = nI rc
  · rw [if_pos q]
  · rw [if_neg q]
    rcases h with h | h
    · exact absurd h q
    · rw [if_pos h]
theorem m_node (hsd : sd < 2) (hrc : rc ≤ 2) (hsp : ms0.2.1 26 2 = nI sp) (hsp2 : sp ≤ 20) (ersp : rc = if sp < 2 then sp else 2) (hc8 : ∀ c, md = some c → c ≤ 8) (hn : n ≤ 6) (R : MqR ms0 x u) : ∀ (m d : Nat), 0 < m → d + m = n → ∀ (ms : MSt) (vs : Nat → Nat → Int32) (cs : Nat → Nat) (path v : Nat → Int32) (a : Ac) (cost D : Nat), TMx ms0 ms d vs cs path a → TMd ms d cost v → ms.2.1 35 d = tv rc 0 - 1 → (∀ i, 286 ≤ i → v i = ms0.2.1 26 i) → VOk D v → v 2 = nI sp → D + m ≤ 20000 → cost ≤ 2 * d → ∃ N ms', N ≤ bB m ∧ Sps (fun y : (Int32 × MSt) => fm_goesThrough_s37 (nI sd) x (nI n) (mdI md) (cI md) y.1 y.2) N (nI d, ms) (nI d + -1, ms') ∧ TMx ms0 ms' d vs cs path (nod md sd rc u m d cost path v a) := by
  intro m
  induction m with
  | zero => intro d h; exact absurd h (Nat.lt_irrefl _)
  | succ m ih =>
    intro d _ hd ms vs cs path v a cost D T Td ht hhi V hv2 hD hcost
    have ih' : ∀ (ms : MSt) (vs : Nat → Nat → Int32) (cs : Nat → Nat) (path v : Nat → Int32) (a : Ac) (cost D : Nat), TMx ms0 ms (d + 1) vs cs path a → TMd ms (d + 1) cost v → ms.2.1 35 (d + 1) = tv rc 0 - 1 → (∀ i, 286 ≤ i → v i = ms0.2.1 26 i) → VOk D v → v 2 = nI sp → D + m ≤ 20000 → cost ≤ 2 * (d + 1) → 0 < m → ∃ N ms', N ≤ bB m ∧ Sps (fun y : (Int32 × MSt) => fm_goesThrough_s37 (nI sd) x (nI n) (mdI md) (cI md) y.1 y.2) N (nI (d + 1), ms) (nI (d + 1) + -1, ms') ∧ TMx ms0 ms' (d + 1) vs cs path (nod md sd rc u m (d + 1) cost path v a) := fun ms vs cs path v a cost D h1 h2 h3 h4 h5 h6 h7 h8 h9 => ih (d + 1) h9 (by omega) ms vs cs path v a cost D h1 h2 h3 h4 h5 h6 h7 h8
    have bBm : bB (m + 1) = 5 * (1 + bB m) + 1 := rfl
    by_cases hb : hasB v sd u = true
    · have key : ∀ j, j ≤ 2 * rc + 1 → ∃ N ms', N ≤ j * (1 + bB m) ∧ Sps (fun y : (Int32 × MSt) => fm_goesThrough_s37 (nI sd) x (nI n) (mdI md) (cI md) y.1 y.2) N (nI d, ms) (nI d, ms') ∧ TMx ms0 ms' d vs cs path (foldK (fun k a => chi md sd m d (cost + ab rc k) path (pFd v sd u (tv rc k)) (tv rc k) (nod md sd rc u m (d + 1)) a) j a) ∧ TMd ms' d cost v ∧ ms'.2.1 35 d = tv rc j - 1 := by
        intro j
        induction j with
        | zero => intro _; exact ⟨0, ms, by omega, rfl, T, Td, ht⟩
        | succ j ihj =>
          intro hj
          obtain ⟨N, m1, hN, s1, T1, Td1, t1⟩ := ihj (by omega)
          obtain ⟨N2, m2, hN2, s2, T2, Td2, t2⟩ := m_child (m := m) (d := d) hsd hrc hsp hsp2 ersp hc8 hn R hd ih' T1 Td1 t1 (by omega) hhi V hv2 hD hcost
          rw [if_pos hb, if_pos hb] at T2
          rw [if_pos hb] at t2
          refine ⟨N + N2, m2, ?_, s1.tr s2, T2, Td2, ?_⟩
          · have : (j + 1) * (1 + bB m) = j * (1 + bB m) + (1 + bB m) := Nat.succ_mul _ _
            omega
          · rw [t2, ← tv_1, Int32.add_sub_cancel]
      obtain ⟨N, m1, hN, s1, T1, Td1, t1⟩ := key (2 * rc + 1) (Nat.le_refl _)
      have e35 : m1.2.1 35 d = nI rc := by
        rw [t1, ← tv_1, Int32.add_sub_cancel]
        unfold tv
        rw [pk_sub (by omega)]; exact congrArg nI (by omega)
      refine ⟨N + 1, m1, ?_, s1.tr (Sps.one (m_pop_ (by omega) (T1.2.2.2.1.trans hsp) hsp2 ersp (Or.inl e35))), ?_⟩
      · rw [bBm]
        have : (2 * rc + 1) * (1 + bB m) ≤ 5 * (1 + bB m) := Nat.mul_le_mul_right _ (by omega)
        omega
      · unfold nod; rw [if_pos hb]; exact T1
    · obtain ⟨N, m1, hN, s1, T1, Td1, t1⟩ := m_child (m := m) (d := d) hsd hrc hsp hsp2 ersp hc8 hn R hd ih' T Td ht (by omega) hhi V hv2 hD hcost
      rw [if_neg hb, if_neg hb] at T1
      rw [if_neg hb] at t1
      refine ⟨N + 1, m1, by rw [bBm]; omega, s1.tr (Sps.one (m_pop_ (by omega) (T1.2.2.2.1.trans hsp) hsp2 ersp (Or.inr t1))), ?_⟩
      unfold nod; rw [if_neg hb]; exact T1
end LOOP2
