/-! erred: rows of errors of both sides (class) -/
def sg (a e : Nat) : Int32 := (nI a - 1) * nI e
def pSt (l r : Option Ru) (e : Nat) (v : Nat → Int32) (a b : Nat) : Nat → Int32 := if pGap v = 0 then v else pDay v l r (sg a e) (sg b e)
def sum3 (f : Nat → Nat) : Nat := f 0 + f 1 + f 2
def cR (l r : Option Ru) (e : Nat) : Nat → (Nat → Int32) → Nat
  | 0, v => if ruB v = true then 1 else 0
  | m + 1, v => sum3 fun a => sum3 fun b => cR l r e m (pSt l r e v a b)
def cS (l r : Option Ru) (e : Nat) : Nat → (Nat → Int32) → Nat → Nat
  | 0, _, _ => 0
  | m + 1, v, j => sum3 fun a => sum3 fun b => if j = 0 then (if a = 1 then 0 else cR l r e m (pSt l r e v a b)) else if j = 1 then (if b = 1 then 0 else cR l r e m (pSt l r e v a b)) else cS l r e m (pSt l r e v a b) (j - 2)
theorem VOk.st {l r : Option Ru} {e D a b : Nat} {v : Nat → Int32} (V : VOk D v) : VOk (D + 1) (pSt l r e v a b) := by
  unfold pSt
  split
  · exact V.mo (by omega)
  · exact V.day
theorem Kp_st {l r : Option Ru} {e a b : Nat} {v : Nat → Int32} : KpR v (pSt l r e v a b) := by
  unfold pSt
  split
  · exact KpR.rf
  · exact Kp_day
theorem st_hi {l r : Option Ru} {e a b D i : Nat} {v : Nat → Int32} (V : VOk D v) (hi : 286 ≤ i) : pSt l r e v a b i = v i := by
  unfold pSt
  split
  · rfl
  · exact day_hi V hi
def Wq (hx g b : Nat) : Prop := (∃ i, g < i ∧ i < 7 ∧ Sx (hx + 33 + 10 * i) b) ∨ b = hx + 29 ∨ b = hx + 30 ∨ b = hx + 106 ∨ b = hx + 107 ∨ b = hx + 108 ∨ b = hx + 109
theorem wq_in {hx g b : Nat} (h : Wq hx g b) : hx + 29 ≤ b ∧ b ≤ hx + 109 := by
  rcases h with ⟨i, h1, h2, e⟩ | h | h | h | h | h | h
  · unfold Sx at e; omega
  all_goals omega
theorem wq_riv {hx g r j : Nat} {st : HSt} (w : Wf st) (h : Sh hx st) (k : gK st r = 5) (hj : j < 6) : ¬ Wq hx g (r + j) := fun z => by
  have hi := wq_in z
  rcases blk5 w h k with q | q | q | ⟨i, hi2, q⟩
  · omega
  · omega
  · omega
  · rcases z with ⟨i2, h1, h2, e⟩ | z | z | z | z | z | z
    · unfold Sx at e; omega
    all_goals omega
theorem wq_rule {hx g q j : Nat} {st : HSt} (w : Wf st) (h : Sh hx st) (k : gK st q = 7) (hj : j < 5) : ¬ Wq hx g (q + j) := fun z => by
  have hi := wq_in z
  rcases blk7 w h k with e | e <;> omega
theorem wq_sp {hx g i j : Nat} (hi : i ≤ g) (hg : g < 7) (hj : j < 10) : ¬ Wq hx g (hx + 33 + 10 * i + j) := fun z => by
  rcases z with ⟨i2, h1, h2, e⟩ | z | z | z | z | z | z
  · unfold Sx at e; omega
  all_goals omega
theorem wq_mo {hx g : Nat} : ∀ b, Wq hx (g + 1) b → Wq hx g b := fun b z => by
  rcases z with ⟨i, h1, h2, e⟩ | z
  · exact Or.inl ⟨i, by omega, h2, e⟩
  · exact Or.inr z
/-- what an inquest knows -/
def IqR (hx : Nat) (st : HSt) (n e : Nat) (ql qr : Option Nat) (l u : Option Ru) (v0 : Nat → Int32) : Prop := Wf st ∧ Sh hx st ∧ RqR st ql l ∧ RqR st qr u ∧ (gI st 209 (hx + 106) = nI n ∧ gI st 210 (hx + 106) = nI e ∧ gR st 206 (hx + 106) = some (hx + 3) ∧ gR st 207 (hx + 106) = ql ∧ gR st 208 (hx + 106) = qr) ∧ RnR st (hx + 3) v0
theorem IqR.fr {X : Nat → Prop} {hx g n e : Nat} {st st2 : HSt} {ql qr : Option Nat} {l u : Option Ru} {v0 : Nat → Int32} (Q : IqR hx st n e ql qr l u v0) (F : Fr X st st2) (hX : ∀ b, X b → Wq hx g b) (h106 : ¬ X (hx + 106)) : IqR hx st2 n e ql qr l u v0 := by
  obtain ⟨w, h, Ql, Qr, ⟨a1, a2, a3, a4, a5⟩, Rn⟩ := Q
  have out : ∀ b j, gK st b = 7 → j < 5 → ¬ X (b + j) := fun b j hb hj z => wq_rule w h hb hj (hX _ z)
  refine ⟨F.Wf w, h.fr F, Rq_fr Ql F out, Rq_fr Qr F out, ⟨(F.I 209 h106).trans a1, (F.I 210 h106).trans a2, (F.R' 206 h106).trans a3, (F.R' 207 h106).trans a4, (F.R' 208 h106).trans a5⟩, ?_⟩
  have o3 : ¬ X (hx + 3) := fun z => by have := wq_in (hX _ z); omega
  have o15 : ¬ X (hx + 3 + 12) := fun z => by have := wq_in (hX _ z); omega
  unfold RnR at *
  rw [F.I 802 o3, F.A o15]; exact Rn
theorem IqR.s200 {hx n e : Nat} {st : HSt} {ql qr : Option Nat} {l u : Option Ru} {v0 : Nat → Int32} {x : Int32} (Q : IqR hx st n e ql qr l u v0) : IqR hx (sI st 200 (hx + 106) x) n e ql qr l u v0 := by
  obtain ⟨w, h, Ql, Qr, ⟨a1, a2, a3, a4, a5⟩, Rn⟩ := Q
  have F : Fr (fun b => b = hx + 106) st (sI st 200 (hx + 106) x) := Fr.sI rfl
  have out : ∀ b j, gK st b = 7 → j < 5 → ¬ (b + j = hx + 106) := fun b j hb hj z => wq_rule (g := 0) w h hb hj (Or.inr (Or.inr (Or.inr (Or.inl z))))
  refine ⟨F.Wf w, h.fr F, Rq_fr Ql F out, Rq_fr Qr F out, ⟨?_, ?_, a3, a4, a5⟩, ?_⟩
  · rw [gI_sI_ne (Or.inl (by omega))]; exact a1
  · rw [gI_sI_ne (Or.inl (by omega))]; exact a2
  · unfold RnR at *
    rw [gI_sI_ne (Or.inl (by omega))]; exact Rn
theorem sp_qi {hx : Nat} {st : HSt} (h : Sh hx st) {i : Nat} (hi : i < 7) : gQ st (hx + 31) i = some (hx + 33 + 10 * i) := h.2.2.2.2.1.2.2.2.2.2.2.2.2.2.2.2 i hi
/-- signs are 0, 1, 2 for -1, 0, 1 -/
theorem sg1 {k : Nat} (h : k < 3) : ¬ (1 : Int32) < nI k - 1 := by
  rcases (by omega : k = 0 ∨ k = 1 ∨ k = 2) with rfl | rfl | rfl <;> decide
theorem sg2 {k : Nat} : nI k - 1 + 1 = nI (k + 1) - 1 := by rw [Int32.sub_add_cancel, nI_pred]
theorem sg3 {g k : Nat} : (3 : Int32) * nI g + 1 + (nI k - 1) = nI (3 * g + k) := by
  rw [Int32.add_assoc, Int32.add_comm 1, Int32.sub_add_cancel]
  show nI 3 * nI g + nI k = _
  rw [pk_mul, nI_add]
theorem sg0 {k : Nat} (h : k < 3) : nI k - 1 = 0 ↔ k = 1 := by
  rcases (by omega : k = 0 ∨ k = 1 ∨ k = 2) with rfl | rfl | rfl <;> decide
theorem sp_fr {X : Nat → Prop} {hx g r D : Nat} {st st2 : HSt} {z : Nat → Int32} (w : Wf st) (h : Sh hx st) (hg : g < 7) (S : SpR st (hx + 33 + 10 * g) r z) (V : VOk D z) (F : Fr X st st2) (hX : ∀ b, X b → Wq hx g b) : SpR st2 (hx + 33 + 10 * g) r z :=
  S.fr V F (fun q => wq_sp (i := g) (j := 0) (Nat.le_refl _) hg (by omega) (hX _ q)) (fun q => wq_sp (i := g) (j := 7) (Nat.le_refl _) hg (by omega) (hX _ q)) (fun q => wq_sp (i := g) (j := 8) (Nat.le_refl _) hg (by omega) (hX _ q)) (fun q => wq_sp (i := g) (j := 9) (Nat.le_refl _) hg (by omega) (hX _ q)) (fun j hj q => wq_riv w h S.2.1.1 hj (hX _ q))
/-- one row more that leaves the RUINS -/
theorem h_tally {hx n e R : Nat} {st : HSt} {ql qr : Option Nat} {l u : Option Ru} {v0 : Nat → Int32} {sn E : Nat → Nat} (Q : IqR hx st n e ql qr l u v0) (hn : n ≤ 4) (hs : ∀ i, i < 2 * n → sn i < 3 ∧ gA st (hx + 107) i = nI (sn i) - 1) (hR : gI st 200 (hx + 106) = nI R) (hE : ∀ i, i < 8 → gA st (hx + 109) i = nI (E i)) : ∃ st2, fh_X2_tally (hx + 106) st = some st2 ∧ IqR hx st2 n e ql qr l u v0 ∧ Fr (fun b => b = hx + 106 ∨ b = hx + 109) st st2 ∧ gI st2 200 (hx + 106) = nI (R + 1) ∧ ∀ i, i < 8 → gA st2 (hx + 109) i = nI (E i + if i < 2 * n ∧ sn i ≠ 1 then 1 else 0) := by
  have Q1 : IqR hx (sI st 200 (hx + 106) (nI (R + 1))) n e ql qr l u v0 := Q.s200
  have F1 : Fr (fun b => b = hx + 106 ∨ b = hx + 109) st (sI st 200 (hx + 106) (nI (R + 1))) := Fr.sI (Or.inl rfl)
  obtain ⟨y, ey, Q2, F2, g2, E2⟩ : ∃ y : Int32 × HSt, iter (fun x : (Int32 × HSt) => fh_X2_tally_s12 (hx + 106) x.1 x.2) mFuel ((0 : Int32), sI st 200 (hx + 106) (nI (R + 1))) = some (.inr y) ∧ IqR hx y.2 n e ql qr l u v0 ∧ Fr (fun b => b = hx + 106 ∨ b = hx + 109) st y.2 ∧ gI y.2 200 (hx + 106) = nI (R + 1) ∧ ∀ i, i < 8 → gA y.2 (hx + 109) i = nI (E i + if i < 2 * n ∧ sn i ≠ 1 then 1 else 0) := by
    refine iter_n (fun j (x : Int32 × HSt) => x.1 = nI j ∧ IqR hx x.2 n e ql qr l u v0 ∧ Fr (fun b => b = hx + 106 ∨ b = hx + 109) st x.2 ∧ gI x.2 200 (hx + 106) = nI (R + 1) ∧ ∀ i, i < 8 → gA x.2 (hx + 109) i = nI (E i + if i < j ∧ sn i ≠ 1 then 1 else 0)) (2 * n) _ ?_ ?_ ⟨rfl, Q1, F1, gI_sI _ _ _ _, fun i hi => ?_⟩ (by omega)
    · rintro j ⟨i, s⟩ hj ⟨hi, Qs, F, g, Es⟩
      simp only at hi Qs F g Es
      subst hi
      obtain ⟨w, h, -, -, ⟨a1, -⟩, -⟩ := id Qs
      have k106 : gK s (hx + 106) = 3 := h.k (by omega) rfl
      obtain ⟨r201, r202, r203, l107, r204, l108, r205, l109⟩ := h.2.2.2.2.2.2
      have s107 : gA s (hx + 107) j = nI (sn j) - 1 := by rw [F.A (by omega)]; exact (hs j hj).2
      have e2n : (2 : Int32) * nI n = nI (2 * n) := by show nI 2 * nI n = _; rw [pk_mul]
      have head : fh_X2_tally_s12 (hx + 106) (nI j) s = (if nI (sn j) - 1 = 0 then some (.inr (.inl (nI (j + 1), s))) else some (.inr (.inl (nI (j + 1), sA s (hx + 109) j (gA s (hx + 109) j + 1))))) := by
        unfold fh_X2_tally_s12
        rw [chk_t (isk_t k106), a1, e2n, if_neg (nI_ge hj (by omega)), r203, dr_of (h.k (j := 107) (c := 22) (by omega) rfl), bs_, l107, chk_t (inb_n (by omega) (by omega)), nI_clamp (by omega), s107, r205, dr_of (h.k (j := 109) (c := 22) (by omega) rfl), bs_, l109, chk_t (inb_n (by omega) (by omega)), chk_t (inb_n (by omega) (by omega)), bs_, nI_1]
      show (∃ y, fh_X2_tally_s12 (hx + 106) (nI j) s = _ ∧ _)
      rw [head]
      by_cases q : sn j = 1
      · refine ⟨(nI (j + 1), s), by rw [if_pos ((sg0 (hs j hj).1).mpr q)], rfl, Qs, F, g, fun i hi => ?_⟩
        show gA s (hx + 109) i = _
        rw [Es i hi]
        by_cases z : i < j ∧ sn i ≠ 1
        · rw [if_pos z, if_pos ⟨by omega, z.2⟩]
        · rw [if_neg z, if_neg (fun zz => by by_cases ij : i = j; · rw [ij] at zz; exact zz.2 q
                                             · exact z ⟨by omega, zz.2⟩)]
      · refine ⟨(nI (j + 1), sA s (hx + 109) j (gA s (hx + 109) j + 1)), by rw [if_neg (fun z => q ((sg0 (hs j hj).1).mp z))], rfl, Qs.fr (g := 0) (X := fun b => b = hx + 109) (Fr.sA rfl) (fun b hb => by unfold Wq; omega) (by omega), F.tr (Fr.sA (Or.inr rfl)), g, fun i hi => ?_⟩
        show gA (sA s (hx + 109) j (gA s (hx + 109) j + 1)) (hx + 109) i = _
        rw [gA_sA]
        by_cases ij : i = j
        · subst ij
          rw [pk_us, Es i hi, if_neg (fun z => by have := z.1; omega), if_pos ⟨by omega, q⟩, nI_1]
        · rw [pk_un ij, Es i hi]
          by_cases z : i < j ∧ sn i ≠ 1
          · rw [if_pos z, if_pos ⟨by omega, z.2⟩]
          · rw [if_neg z, if_neg (fun zz => z ⟨by omega, zz.2⟩)]
    · rintro ⟨i, s⟩ ⟨hi, Qs, F, g, Es⟩
      simp only at hi Qs F g Es
      subst hi
      refine ⟨(nI (2 * n), s), ?_, Qs, F, g, Es⟩
      obtain ⟨w, h, -, -, ⟨a1, -⟩, -⟩ := id Qs
      have e2n : (2 : Int32) * nI n = nI (2 * n) := by show nI 2 * nI n = _; rw [pk_mul]
      show fh_X2_tally_s12 (hx + 106) (nI (2 * n)) s = _
      unfold fh_X2_tally_s12
      rw [chk_t (isk_t (h.k (j := 106) (c := 3) (by omega) rfl)), a1, e2n, if_pos (nI_le (Nat.le_refl _) (by omega))]
    · rw [if_neg (fun z => by have := z.1; omega)]
      exact hE i hi
  refine ⟨y.2, ?_, Q2, F2, g2, E2⟩
  unfold fh_X2_tally
  rw [chk_t (isk_t (Q.2.1.k (j := 106) (c := 3) (by omega) rfl)), hR, nI_1, ey]
  rfl
/-- a day on the next spare -/
theorem h_goDayI {hx g r D e a b : Nat} {st : HSt} {z : Nat → Int32} {l u : Option Ru} (w : Wf st) (h : Sh hx st) (hg : g < 6) (S : SpR st (hx + 33 + 10 * g) r z) (V : VOk D z) : ∃ st2, fh_X2_goDay (hx + 106) (some (hx + 33 + 10 * g)) (some (hx + 33 + 10 * (g + 1))) (pPlan z l 0 (sg a e)) (pPlan z u 1 (sg b e)) st = some st2 ∧ SpR st2 (hx + 33 + 10 * (g + 1)) r (pSt l u e z a b) ∧ Fr (Sx (hx + 33 + 10 * (g + 1))) st st2 := by
  have kg : gK st (hx + 33 + 10 * (g + 1)) = 10 := sp_k h (by omega)
  obtain ⟨s1, e1, S1, F1⟩ := h_become (a := hx + 33 + 10 * (g + 1)) (b := hx + 33 + 10 * g) w kg S V (by omega)
  have w1 := F1.Wf w
  unfold fh_X2_goDay pSt
  rw [dr_of kg, bs_, e1, bs_, chk_t (isk_t S1.2.2.1), h_met w1 S1, bs_]
  dsimp only
  by_cases hm : pGap z = 0
  · rw [if_pos hm, if_neg (show ¬ (1 : Int32) = 0 by decide), if_pos hm]
    exact ⟨s1, rfl, S1, F1⟩
  · rw [if_neg hm, if_pos rfl, if_neg hm, chk_t (isk_t S1.2.2.1)]
    obtain ⟨s2, e2, S2, F2⟩ := h_act (s := 0) (x := 0) (p := pPlan z l 0 (sg a e)) w1 S1 V rfl (by omega)
    obtain ⟨s3, e3, S3, F3⟩ := h_act (s := 1) (x := 1) (p := pPlan z u 1 (sg b e)) (F2.Wf w1) S2 (V.act (by omega) (plan_ok V)) rfl (by omega)
    obtain ⟨s4, e4, S4, F4⟩ := h_endDay (F3.Wf (F2.Wf w1)) S3 ((V.act (by omega) (plan_ok V)).act (by omega) (plan_ok V))
    rw [e2, bs_, chk_t (isk_t S2.2.2.1), e3, bs_, chk_t (isk_t S3.2.2.1), e4, bs_]
    exact ⟨s4, rfl, S4, ((F1.tr F2).tr F3).tr F4⟩
