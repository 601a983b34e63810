/-! straight, spite: the search of the class -/
def Wh (hx g b : Nat) : Prop := (∃ i, g < i ∧ i < 7 ∧ Sx (hx + 33 + 10 * i) b) ∨ b = hx + 29 ∨ b = hx + 30 ∨ b = hx + 103 ∨ b = hx + 104 ∨ b = hx + 105
theorem wh_in {hx g b : Nat} (h : Wh hx g b) : hx + 29 ≤ b ∧ b ≤ hx + 109 := by
  rcases h with ⟨i, h1, h2, e⟩ | h | h | h | h | h
  · unfold Sx at e; omega
  all_goals omega
theorem wh_riv {hx g r j : Nat} {st : HSt} (w : Wf st) (h : Sh hx st) (k : gK st r = 5) (hj : j < 6) : ¬ Wh hx g (r + j) := fun z => by
  have hi := wh_in z
  rcases blk5 w h k with q | q | q | ⟨i, hi2, q⟩
  · omega
  · omega
  · omega
  · rcases z with ⟨i2, h1, h2, e⟩ | z | z | z | z | z
    · unfold Sx at e; omega
    all_goals omega
theorem wh_rule {hx g q j : Nat} {st : HSt} (w : Wf st) (h : Sh hx st) (k : gK st q = 7) (hj : j < 5) : ¬ Wh hx g (q + j) := fun z => by
  have hi := wh_in z
  rcases blk7 w h k with e | e <;> omega
theorem wh_sp {hx g i j : Nat} (hi : i ≤ g) (hg : g < 7) (hj : j < 10) : ¬ Wh hx g (hx + 33 + 10 * i + j) := fun z => by
  rcases z with ⟨i2, h1, h2, e⟩ | z | z | z | z | z
  · unfold Sx at e; omega
  all_goals omega
theorem wh_mo {hx g : Nat} : ∀ b, Wh hx (g + 1) b → Wh hx g b := fun b z => by
  rcases z with ⟨i, h1, h2, e⟩ | z
  · exact Or.inl ⟨i, by omega, h2, e⟩
  · exact Or.inr z
def mdI (md : Option Nat) : Int32 := match md with
  | none => 0
  | some _ => 1
def HdR (hx : Nat) (st : HSt) (n : Nat) (md : Option Nat) (sd : Nat) (q : Option Nat) (u : Option Ru) (v0 : Nat → Int32) : Prop := Wf st ∧ Sh hx st ∧ RqR st q u ∧ (gI st 108 (hx + 103) = nI sd ∧ gI st 109 (hx + 103) = nI n ∧ gI st 110 (hx + 103) = mdI md ∧ gR st 106 (hx + 103) = some (hx + 3) ∧ gR st 107 (hx + 103) = q) ∧ ErR st (hx + 3) v0
def AcR (hx : Nat) (st : HSt) (md : Option Nat) (a : Ac) : Prop := (∀ c, md = some c → gI st 111 (hx + 103) = nI c) ∧ (a.1 = none → gI st 100 (hx + 103) = 0 ∧ (md = none → gI st 111 (hx + 103) = nI 12)) ∧ ∀ b, a.1 = some b → gI st 100 (hx + 103) = 1 ∧ gI st 101 (hx + 103) = nI b ∧ b ≤ 2000 ∧ (∀ i, i < 6 → gA st (hx + 105) i = a.2 i) ∧ (md = none → gI st 111 (hx + 103) = nI b - 1)
theorem HdR.fr {X : Nat → Prop} {hx g n sd : Nat} {md : Option Nat} {st st2 : HSt} {q : Option Nat} {u : Option Ru} {v0 : Nat → Int32} (Q : HdR hx st n md sd q u v0) (F : Fr X st st2) (hX : ∀ b, X b → Wh hx g b) (h103 : ¬ X (hx + 103)) : HdR hx st2 n md sd q u v0 := by
  obtain ⟨w, h, Q1, ⟨a1, a2, a3, a4, a5⟩, E⟩ := Q
  exact ⟨F.Wf w, h.fr F, Rq_fr Q1 F (fun b j hb hj z => wh_rule w h hb hj (hX _ z)), ⟨(F.I 108 h103).trans a1, (F.I 109 h103).trans a2, (F.I 110 h103).trans a3, (F.R' 106 h103).trans a4, (F.R' 107 h103).trans a5⟩, E.fr F (fun z => by have := wh_in (hX _ z); omega) KpR.rf⟩
theorem AcR.fr {X : Nat → Prop} {hx : Nat} {md : Option Nat} {st st2 : HSt} {a : Ac} (A : AcR hx st md a) (F : Fr X st st2) (h103 : ¬ X (hx + 103)) (h105 : ¬ X (hx + 105)) : AcR hx st2 md a := by
  unfold AcR at *
  rw [F.I 111 h103, F.I 100 h103, F.I 101 h103, F.A h105]; exact A
theorem HdR.wr {hx n sd : Nat} {md : Option Nat} {st : HSt} {q : Option Nat} {u : Option Ru} {v0 : Nat → Int32} {f : Nat} {x : Int32} (Q : HdR hx st n md sd q u v0) (h8 : f ≠ 108) (h9 : f ≠ 109) (h10 : f ≠ 110) : HdR hx (sI st f (hx + 103) x) n md sd q u v0 := by
  obtain ⟨w, h, Q1, ⟨a1, a2, a3, a4, a5⟩, E⟩ := Q
  have F : Fr (fun b => b = hx + 103) st (sI st f (hx + 103) x) := Fr.sI rfl
  exact ⟨F.Wf w, h.fr F, Rq_fr Q1 F (fun b j hb hj z => wh_rule (g := 0) w h hb hj (Or.inr (Or.inr (Or.inr (Or.inl z))))), ⟨(gI_sI_ne (Or.inl (by omega))).trans a1, (gI_sI_ne (Or.inl (by omega))).trans a2, (gI_sI_ne (Or.inl (by omega))).trans a3, a4, a5⟩, E.fr F (by omega) KpR.rf⟩
theorem sph_fr {X : Nat → Prop} {hx g r D : Nat} {st st2 : HSt} {z : Nat → Int32} (w : Wf st) (h : Sh hx st) (hg : g < 7) (S : SpR st (hx + 33 + 10 * g) r z) (V : VOk D z) (F : Fr X st st2) (hX : ∀ b, X b → Wh hx g b) : SpR st2 (hx + 33 + 10 * g) r z :=
  S.fr V F (fun q => wh_sp (i := g) (j := 0) (Nat.le_refl _) hg (by omega) (hX _ q)) (fun q => wh_sp (i := g) (j := 7) (Nat.le_refl _) hg (by omega) (hX _ q)) (fun q => wh_sp (i := g) (j := 8) (Nat.le_refl _) hg (by omega) (hX _ q)) (fun q => wh_sp (i := g) (j := 9) (Nat.le_refl _) hg (by omega) (hX _ q)) (fun j hj q => wh_riv w h S.2.1.1 hj (hX _ q))
/-- the best row is kept -/
theorem h_keep {hx n sd g : Nat} {md : Option Nat} {st : HSt} {q : Option Nat} {u : Option Ru} {v0 path : Nat → Int32} {x : Int32} (Q : HdR hx st n md sd q u v0) (hg : g ≤ 6) (hp : ∀ i, i < g → gA st (hx + 104) i = path i) : ∃ st2, fh_X1_keep (hx + 103) (nI g) x st = some st2 ∧ HdR hx st2 n md sd q u v0 ∧ Fr (fun b => b = hx + 103 ∨ b = hx + 105) st st2 ∧ gI st2 100 (hx + 103) = 1 ∧ gI st2 101 (hx + 103) = x ∧ gI st2 111 (hx + 103) = gI st 111 (hx + 103) ∧ ∀ i, i < 6 → gA st2 (hx + 105) i = rowO path g i := by
  let s1 := sI (sI st 100 (hx + 103) 1) 101 (hx + 103) x
  have Q1 : HdR hx s1 n md sd q u v0 := (Q.wr (f := 100) (x := 1) (by omega) (by omega) (by omega)).wr (by omega) (by omega) (by omega)
  have F1 : Fr (fun b => b = hx + 103 ∨ b = hx + 105) st s1 := (Fr.sI (Or.inl rfl)).tr (Fr.sI (Or.inl rfl))
  obtain ⟨y, e, Q2, F2, g1, g2, g3, G⟩ : ∃ y : Int32 × HSt, iter (fun z : (Int32 × HSt) => fh_X1_keep_s12 (hx + 103) (nI g) z.1 z.2) mFuel ((0 : Int32), s1) = some (.inr y) ∧ HdR hx y.2 n md sd q u v0 ∧ Fr (fun b => b = hx + 103 ∨ b = hx + 105) st y.2 ∧ gI y.2 100 (hx + 103) = 1 ∧ gI y.2 101 (hx + 103) = x ∧ gI y.2 111 (hx + 103) = gI st 111 (hx + 103) ∧ ∀ i, i < 6 → gA y.2 (hx + 105) i = rowO path g i := by
    refine iter_n (fun j (z : Int32 × HSt) => z.1 = nI j ∧ HdR hx z.2 n md sd q u v0 ∧ Fr (fun b => b = hx + 103 ∨ b = hx + 105) st z.2 ∧ gI z.2 100 (hx + 103) = 1 ∧ gI z.2 101 (hx + 103) = x ∧ gI z.2 111 (hx + 103) = gI st 111 (hx + 103) ∧ ∀ i, i < j → gA z.2 (hx + 105) i = rowO path g i) 6 _ ?_ ?_ ⟨rfl, Q1, F1, ?_, gI_sI _ _ _ _, ?_, fun _ z => absurd z (Nat.not_lt_zero _)⟩ (by omega)
    · rintro j ⟨i, s⟩ hj ⟨hi, Qs, F, a1, a2, a3, G⟩
      simp only at hi Qs F a1 a2 a3 G
      subst hi
      have h' := Qs.2.1
      obtain ⟨r102, r103, r104, l104, r105, l105⟩ := h'.2.2.2.2.2.1
      have F3 : Fr (fun b => b = hx + 105) s (sA s (hx + 105) j (rowO path g j)) := Fr.sA rfl
      refine ⟨(nI (j + 1), sA s (hx + 105) j (rowO path g j)), ?_, rfl, Qs.fr (g := 0) F3 (fun b z => by unfold Wh; omega) (by omega), F.tr (F3.mo (fun b z => Or.inr z)), a1, a2, a3, fun i hi => ?_⟩
      · show fh_X1_keep_s12 (hx + 103) (nI g) (nI j) s = _
        unfold fh_X1_keep_s12
        rw [chk_t (isk_t (h'.k (j := 103) (c := 2) (by omega) rfl)), r105, dr_of (h'.k (j := 105) (c := 22) (by omega) rfl), bs_, l105, if_neg (nI_ge hj (by omega)), chk_t (inb_n hj (by omega)), r104, dr_of (h'.k (j := 104) (c := 22) (by omega) rfl), bs_, l104, chk_t (inb_n hj (by omega)), chk_t (inb_n hj (by omega)), nI_clamp (by omega), nI_1]
        unfold rowO
        by_cases z : j < g
        · rw [if_neg (nI_ge z (by omega)), if_pos z, F.A (by omega), hp j z]
        · rw [if_pos (nI_le (by omega) (by omega)), if_neg z]
      · show gA (sA s (hx + 105) j (rowO path g j)) (hx + 105) i = _
        rw [gA_sA]
        by_cases ij : i = j
        · rw [ij, pk_us]
        · rw [pk_un ij]; exact G i (by omega)
    · rintro ⟨i, s⟩ ⟨hi, Qs, F, a1, a2, a3, G⟩
      simp only at hi Qs F a1 a2 a3 G
      subst hi
      refine ⟨(nI 6, s), ?_, Qs, F, a1, a2, a3, G⟩
      have h' := Qs.2.1
      obtain ⟨r102, r103, r104, l104, r105, l105⟩ := h'.2.2.2.2.2.1
      show fh_X1_keep_s12 (hx + 103) (nI g) (nI 6) s = _
      unfold fh_X1_keep_s12
      rw [chk_t (isk_t (h'.k (j := 103) (c := 2) (by omega) rfl)), r105, dr_of (h'.k (j := 105) (c := 22) (by omega) rfl), bs_, l105, if_pos (by decide)]
    · show gI (sI (sI st 100 (hx + 103) 1) 101 (hx + 103) x) 100 (hx + 103) = _
      rw [gI_sI_ne (Or.inl (by omega)), gI_sI]
    · show gI (sI (sI st 100 (hx + 103) 1) 101 (hx + 103) x) 111 (hx + 103) = _
      rw [gI_sI_ne (Or.inl (by omega)), gI_sI_ne (Or.inl (by omega))]
  refine ⟨y.2, ?_, Q2, F2, g1, g2, g3, G⟩
  unfold fh_X1_keep
  rw [chk_t (isk_t (Q.2.1.k (j := 103) (c := 2) (by omega) rfl)), e]
  rfl
theorem sm_abs {x : Int32} (h : sm20 x) : ∃ n, n ≤ 20 ∧ pAbs x = nI n := by
  obtain ⟨h1, h2⟩ := h
  have hlt : x.toInt < 2147483648 := Int32.toInt_lt x
  unfold pAbs
  by_cases q : 0 ≤ x
  · rw [if_pos q]
    obtain ⟨n, hn, e⟩ := n_of (a := x) (U := 20) (by have := Int32.le_iff_toInt_le.mp q; exact this) h2
    exact ⟨n, hn, e⟩
  · rw [if_neg q]
    have q2 : x.toInt < 0 := by
      rcases Int.lt_or_le x.toInt 0 with z | z
      · exact z
      · exact absurd (Int32.le_iff_toInt_le.mpr (show (0 : Int32).toInt ≤ x.toInt from z)) q
    have en : (0 - x).toInt = -x.toInt := by rw [Int32.zero_sub, Int32.toInt_neg, Int.bmod_def]; omega
    obtain ⟨n, hn, e⟩ := n_of (a := 0 - x) (U := 20) (by omega) (by omega)
    exact ⟨n, hn, e⟩
theorem crk_n {D s : Nat} {v : Nat → Int32} (V : VOk D v) (hs : s < 2) : ∃ y K, v (6 + s) = nI y ∧ y ≤ 40 ∧ K ≤ 1600 ∧ pCrk v s y = nI K ∧ crN v s = K := by
  obtain ⟨w, y, d, sp, fl, h0, h6, h1, h2, h4, hw, hy, hd, hsp, hfl, -, -, -, ht⟩ := V
  have hys : y s ≤ 40 := by rcases (by omega : s = 0 ∨ s = 1) with rfl | rfl <;> omega
  have key : ∀ k, k ≤ y s → ∃ K, K ≤ 40 * k ∧ pCrk v s k = nI K := by
    intro k
    induction k with
    | zero => intro _; exact ⟨0, by omega, rfl⟩
    | succ k ih =>
      intro hk
      obtain ⟨K, hK, e⟩ := ih (by omega)
      obtain ⟨a, ha, ea⟩ := sm_abs (ht s k 0 hs (by omega) (by omega))
      obtain ⟨b, hb, eb⟩ := sm_abs (ht s k 1 hs (by omega) (by omega))
      refine ⟨K + a + b, by omega, ?_⟩
      show pCrk v s k + pAbs (pAt v s (k + 1) 0 - pAt v s k 0) + pAbs (pAt v s (k + 1) 1 - pAt v s k 1) = _
      rw [e, ea, eb, nI_add, nI_add]
  obtain ⟨K, hK, e⟩ := key (y s) (Nat.le_refl _)
  refine ⟨y s, K, h6 s hs, hys, by omega, e, ?_⟩
  unfold crN
  rw [yN_e (h6 s hs) hys, e, nI_clamp (by omega)]
/-- a row's end is weighed -/
theorem h_weigh {hx n sd g cost r D : Nat} {md : Option Nat} {st : HSt} {q : Option Nat} {u : Option Ru} {v0 path v : Nat → Int32} {a : Ac} (Q : HdR hx st n md sd q u v0) (A : AcR hx st md a) (hg : g ≤ 6) (hsd : sd < 2) (hcost : cost ≤ 12) (hp : ∀ i, i < g → gA st (hx + 104) i = path i) (S : SpR st (hx + 33 + 10 * g) r v) (V : VOk D v) (hpr : pru md cost a = false) : ∃ st2, fh_X1_weigh (hx + 103) (some (hx + 33 + 10 * g)) (nI g) (nI cost) st = some st2 ∧ HdR hx st2 n md sd q u v0 ∧ AcR hx st2 md (wei md sd v cost (rowO path g) a) ∧ Fr (fun b => b = hx + 103 ∨ b = hx + 105) st st2 := by
  obtain ⟨w, h, Q1, ⟨a1, a2, a3, a4, a5⟩, E⟩ := id Q
  have k103 : gK st (hx + 103) = 2 := h.k (by omega) rfl
  unfold fh_X1_weigh
  rw [chk_t (isk_t k103), a3]
  cases md with
  | none =>
    rw [if_pos (show mdI none = 0 from rfl), dr_of S.2.2.1, bs_, h_time w S V, bs_]
    dsimp only
    unfold wei
    dsimp only
    by_cases hz : pTm v = 0
    · rw [if_pos hz, if_pos hz]
      exact ⟨st, rfl, Q, A, Fr.rf⟩
    · have hP : ¬ gI st 111 (hx + 103) < nI cost := by
        cases ha : a.1 with
        | none => rw [(A.2.1 ha).2 rfl]; exact nI_nlt (by omega) (by omega)
        | some b =>
          obtain ⟨-, -, hb, -, hb2⟩ := A.2.2 b ha
          rw [hb2 rfl]
          unfold pru at hpr
          rw [ha] at hpr
          have hlt : cost < b := by have := of_decide_eq_false hpr; omega
          obtain ⟨b', rfl⟩ : ∃ b', b = b' + 1 := ⟨b - 1, by omega⟩
          rw [nI_pred]; exact nI_nlt (by omega) (by omega)
      rw [if_neg hz, if_neg hz, chk_t (isk_t k103), if_neg hP]
      obtain ⟨s2, e2, Q2, F2, g1, g2, g3, G⟩ := h_keep (x := nI cost) Q hg hp
      rw [e2, bs_, chk_t (isk_t (Q2.2.1.k (j := 103) (c := 2) (by omega) rfl))]
      refine ⟨_, rfl, Q2.wr (by omega) (by omega) (by omega), ⟨fun c hc => (by cases hc), fun z => (by cases z), fun b hb => ?_⟩, F2.tr (Fr.sI (Or.inl rfl))⟩
      injection hb with hb; subst hb
      refine ⟨(gI_sI_ne (Or.inl (by omega))).trans g1, (gI_sI_ne (Or.inl (by omega))).trans g2, by omega, G, fun _ => gI_sI _ _ _ _⟩
  | some c =>
    obtain ⟨y, K, ey, hy, hK, eK, eN⟩ := crk_n V (s := 1 - sd) (by omega)
    rw [if_neg (show ¬ mdI (some c) = 0 by show ¬ (1 : Int32) = 0; decide), dr_of S.2.2.1, bs_, a1, n1s hsd, h_crook w S rfl (by omega) ey hy, bs_, eK]
    dsimp only
    unfold wei
    dsimp only
    rw [chk_t (isk_t k103), eN]
    have keepd : ∀ s2, HdR hx s2 n (some c) sd q u v0 → gI s2 100 (hx + 103) = 1 → gI s2 101 (hx + 103) = nI K → gI s2 111 (hx + 103) = gI st 111 (hx + 103) → (∀ i, i < 6 → gA s2 (hx + 105) i = rowO path g i) → AcR hx s2 (some c) (some K, rowO path g) := fun s2 Q2 g1 g2 g3 G => ⟨fun c' hc => by rw [g3]; exact A.1 c' hc, fun z => (by cases z), fun b hb => by
      injection hb with hb; subst hb
      exact ⟨g1, g2, by omega, G, fun z => by cases z⟩⟩
    obtain ⟨s2, e2, Q2, F2, g1, g2, g3, G⟩ := h_keep (x := nI K) Q hg hp
    cases ha : a.1 with
    | none =>
      rw [(A.2.1 ha).1, if_pos rfl, e2, bs_]
      exact ⟨s2, rfl, Q2, keepd s2 Q2 g1 g2 g3 G, F2⟩
    | some b =>
      obtain ⟨b1, b2, b3, -⟩ := A.2.2 b ha
      rw [b1, if_neg (show ¬ (1 : Int32) = 0 by decide), b2]
      by_cases hb : b < K
      · rw [if_neg (nI_ge hb (by omega)), e2, bs_]
        dsimp only
        rw [if_pos hb]
        exact ⟨s2, rfl, Q2, keepd s2 Q2 g1 g2 g3 G, F2⟩
      · rw [if_pos (nI_le (by omega) (by omega))]
        dsimp only
        rw [if_neg hb]
        exact ⟨st, rfl, Q, A, Fr.rf⟩
/-- a day on the next spare -/
theorem h_goDayF {hx n sd g r D : Nat} {md : Option Nat} {st : HSt} {q : Option Nat} {u : Option Ru} {v0 v : Nat → Int32} {t : Int32} (Q : HdR hx st n md sd q u v0) (hg : g < 6) (hsd : sd < 2) (S : SpR st (hx + 33 + 10 * g) r v) (V : VOk D v) (hm : ¬ pGap v ≤ 0) (ht : sm20 t) : ∃ st2, fh_X1_goDay (hx + 103) (some (hx + 33 + 10 * g)) (some (hx + 33 + 10 * (g + 1))) t (pOth v sd u) st = some (st2, if hasB v sd u = true then 1 else 0) ∧ SpR st2 (hx + 33 + 10 * (g + 1)) r (pFd v sd u t) ∧ Fr (Sx (hx + 33 + 10 * (g + 1))) st st2 := by
  obtain ⟨w, h, Q1, ⟨a1, a2, a3, a4, a5⟩, E⟩ := id Q
  have kg : gK st (hx + 33 + 10 * (g + 1)) = 10 := sp_k h (by omega)
  obtain ⟨s1, e1, S1, F1⟩ := h_become (a := hx + 33 + 10 * (g + 1)) (b := hx + 33 + 10 * g) w kg S V (by omega)
  have w1 := F1.Wf w
  have n103 : ¬ Sx (hx + 33 + 10 * (g + 1)) (hx + 103) := by unfold Sx; omega
  unfold fh_X1_goDay pFd hasB
  rw [dr_of kg, bs_, e1, bs_, chk_t (isk_t ((F1.K _).trans (h.k (j := 103) (c := 2) (by omega) rfl))), (F1.I 108 n103).trans a1]
  rcases (by omega : sd = 0 ∨ sd = 1) with rfl | rfl
  · rw [if_pos (show nI 0 = 0 from rfl), if_pos rfl, if_pos rfl, if_pos rfl, chk_t (isk_t S1.2.2.1)]
    obtain ⟨-, A2⟩ := h_add (s := 0) (x := 0) (t := t) (z := 0) w1 S1 V rfl (by omega)
    obtain ⟨s2, e2, S2, F2⟩ := A2 hm
    have eb : pAct v 0 (pl t) = pBuild v 0 t 0 := by rw [pAct_pl ht, if_neg hm]
    rw [← eb] at S2
    have V2 := V.act (s := 0) (by omega) (pl_ok ht)
    obtain ⟨s3, e3, S3, F3⟩ := h_act (s := 1) (x := 1) (p := pOth v 0 u) (F2.Wf w1) S2 V2 rfl (by omega)
    obtain ⟨s4, e4, S4, F4⟩ := h_endDay (F3.Wf (F2.Wf w1)) S3 (V2.act (s := 1) (p := pOth v 0 u) (by omega) (plan_ok V))
    rw [e2, bs_]
    dsimp only
    rw [chk_t (isk_t S2.2.2.1), e3, bs_, chk_t (isk_t S3.2.2.1), e4, bs_, chk_t (by decide)]
    exact ⟨s4, rfl, S4, ((F1.tr F2).tr F3).tr F4⟩
  · rw [if_neg (show ¬ nI 1 = 0 by decide), if_neg (show ¬ (1 : Nat) = 0 by omega), if_neg (show ¬ (1 : Nat) = 0 by omega), chk_t (isk_t S1.2.2.1)]
    obtain ⟨s2, e2, S2, F2⟩ := h_act (s := 0) (x := 0) (p := pOth v 1 u) w1 S1 V rfl (by omega)
    have V2 := V.act (s := 0) (p := pOth v 1 u) (by omega) (plan_ok V)
    obtain ⟨A1, A2⟩ := h_add (s := 1) (x := 1) (t := t) (z := 0) (F2.Wf w1) S2 V2 rfl (by omega)
    rw [e2, bs_, chk_t (isk_t S2.2.2.1)]
    by_cases hg2 : pGap (pAct v 0 (pOth v 1 u)) ≤ 0
    · have eb : pAct (pAct v 0 (pOth v 1 u)) 1 (pl t) = pAct v 0 (pOth v 1 u) := by rw [pAct_pl ht, if_pos hg2]
      rw [A1 hg2, bs_, eb]
      dsimp only
      obtain ⟨s4, e4, S4, F4⟩ := h_endDay (F2.Wf w1) S2 V2
      rw [chk_t (isk_t S2.2.2.1), e4, bs_, chk_t (by decide), decide_eq_false (fun z => z hg2)]
      exact ⟨s4, rfl, S4, (F1.tr F2).tr F4⟩
    · have eb : pAct (pAct v 0 (pOth v 1 u)) 1 (pl t) = pBuild (pAct v 0 (pOth v 1 u)) 1 t 0 := by rw [pAct_pl ht, if_neg hg2]
      obtain ⟨s3, e3, S3, F3⟩ := A2 hg2
      rw [← eb] at S3
      obtain ⟨s4, e4, S4, F4⟩ := h_endDay (F3.Wf (F2.Wf w1)) S3 (V2.act (s := 1) (by omega) (pl_ok ht))
      rw [e3, bs_]
      dsimp only
      rw [chk_t (isk_t S3.2.2.1), e4, bs_, chk_t (by decide), decide_eq_true hg2]
      exact ⟨s4, rfl, S4, ((F1.tr F2).tr F3).tr F4⟩
