/-! do the yards leave the told RUINS: both sides -/
def allB (P : Nat → Bool) : Nat → Bool
  | 0 => true
  | k + 1 => allB P k && P k
theorem allB_iff {P : Nat → Bool} : ∀ n, allB P n = true ↔ ∀ k, k < n → P k = true
  | 0 => ⟨fun _ k hk => absurd hk (Nat.not_lt_zero _), fun _ => rfl⟩
  | n + 1 => by
    unfold allB
    rw [Bool.and_eq_true, allB_iff n]
    constructor
    · rintro ⟨h1, h2⟩ k hk
      rcases Nat.lt_or_ge k n with q | q
      · exact h1 k q
      · rw [show k = n by omega]; exact h2
    · intro h; exact ⟨fun k hk => h k (by omega), h n (by omega)⟩
def okR (z : Nat → Int32) (s p : Nat) : Bool := decide (z (46 + 40 * s + p) = 99999) || (decide (p < yN z s) && decide (pAt z s (p + 1) 0 = z (46 + 40 * s + p)))
def ruB (z : Nat → Int32) : Bool := allB (fun k => okR z (k / 40) (k % 40)) 80
theorem ruB_iff {z : Nat → Int32} : ruB z = true ↔ ∀ s p, s < 2 → p < 40 → okR z s p = true := by
  unfold ruB
  rw [allB_iff]
  constructor
  · intro h s p hs hp
    have := h (40 * s + p) (by omega)
    rw [show (40 * s + p) / 40 = s by omega, show (40 * s + p) % 40 = p by omega] at this
    exact this
  · intro h k hk; exact h (k / 40) (k % 40) (by omega) (by omega)
theorem ruB_f {z : Nat → Int32} {s p : Nat} (hs : s < 2) (hp : p < 40) (h : okR z s p = false) : ruB z = false := by
  cases e : ruB z with
  | false => rfl
  | true => rw [ruB_iff.mp e s p hs hp] at h; cases h
theorem m_ruins {ms : MSt} {z : Nat → Int32} {D : Nat} (hv : ms.2.1 26 = z) (V : VOk D z) : fm_areRuins ms = some (ms, if ruB z = true then 1 else 0) := by
  obtain ⟨w0, y, d, sp, fl, h0, h6, h1, h2, h4, hw0, hy, -⟩ := V
  have hys : ∀ s, s < 2 → y s ≤ 40 := fun s hs => by rcases (by omega : s = 0 ∨ s = 1) with rfl | rfl <;> omega
  have inner : ∀ s, s < 2 → (∃ o, iter (fun x : (Int32 × MSt) => fm_areRuins_s9 (nI s) x.1 x.2) mFuel ((0 : Int32), ms) = some (.inl o) ∧ (o = (ms, 0) ∧ ∃ p, p < 40 ∧ okR z s p = false)) ∨ (∃ q, iter (fun x : (Int32 × MSt) => fm_areRuins_s9 (nI s) x.1 x.2) mFuel ((0 : Int32), ms) = some (.inr q) ∧ (q.2 = ms ∧ ∀ p, p < 40 → okR z s p = true)) := fun s hs => by
    refine iter_m (fun k (x : Int32 × MSt) => x.1 = nI k ∧ x.2 = ms ∧ ∀ p, p < k → okR z s p = true) 40 _ _ ?_ ⟨rfl, rfl, fun _ q => absurd q (Nat.not_lt_zero _)⟩ (by omega)
    rintro k ⟨i, m⟩ hk ⟨hi, hm, hok⟩
    simp only at hi hm
    subst hi; subst hm
    have e46 : (46 : Int32) + 40 * nI s + nI k = nI (46 + 40 * s + k) := by show nI 46 + nI 40 * nI s + _ = _; rw [pk_mul, nI_add, nI_add]
    rcases Nat.lt_or_ge k 40 with hlt | hge
    · have head : fm_areRuins_s9 (nI s) (nI k) m = (if z (46 + 40 * s + k) = 99999 then some (.inr (.inl (nI (k + 1), m))) else (if nI (y s) ≤ nI k then some (.inl (m, (0 : Int32))) else (if pAt z s (k + 1) 0 = z (46 + 40 * s + k) then some (.inr (.inl (nI (k + 1), m))) else some (.inl (m, (0 : Int32)))))) := by
        unfold fm_areRuins_s9
        rw [if_neg (show ¬ (40 : Int32) ≤ nI k from nI_ge (b := 40) hlt (by omega)), e46, chk_t (inb_n (by omega) (by omega)), nI_clamp (by omega), n6, chk_t (inb_n (by omega) (by omega)), nI_clamp (by omega), hv, h6 s hs, m_yardOf (k := k + 1) (w := 0) (y := 0) hv rfl hs (by rw [nI_pred]) (by omega) rfl (by omega), bs_, nI_1]
      show (∃ o, fm_areRuins_s9 (nI s) (nI k) m = _ ∧ _) ∨ (∃ y, fm_areRuins_s9 (nI s) (nI k) m = _ ∧ _) ∨ (∃ y, fm_areRuins_s9 (nI s) (nI k) m = _ ∧ _)
      rw [head]
      have nxt : okR z s k = true → ∀ p, p < k + 1 → okR z s p = true := fun h p hp => by
        rcases Nat.lt_or_ge p k with q | q
        · exact hok p q
        · rw [show p = k by omega]; exact h
      by_cases q1 : z (46 + 40 * s + k) = 99999
      · right; left
        refine ⟨(nI (k + 1), m), by rw [if_pos q1], ⟨rfl, rfl, nxt (by unfold okR; rw [decide_eq_true q1]; rfl)⟩, hlt⟩
      · rw [if_neg q1]
        by_cases q2 : k < y s
        · rw [if_neg (nI_ge q2 (by have := hys s hs; omega))]
          by_cases q3 : pAt z s (k + 1) 0 = z (46 + 40 * s + k)
          · right; left
            refine ⟨(nI (k + 1), m), by rw [if_pos q3], ⟨rfl, rfl, nxt (by unfold okR; rw [decide_eq_true q3, decide_eq_true (show k < yN z s by rw [yN_e (h6 s hs) (hys s hs)]; exact q2), Bool.and_self, Bool.or_true])⟩, hlt⟩
          · left
            refine ⟨(m, 0), by rw [if_neg q3], rfl, k, hlt, ?_⟩
            unfold okR; rw [decide_eq_false q1, decide_eq_false q3, Bool.and_false]; rfl
        · left
          refine ⟨(m, 0), by rw [if_pos (nI_le (by omega) (by omega))], rfl, k, hlt, ?_⟩
          unfold okR; rw [decide_eq_false q1, decide_eq_false (show ¬ k < yN z s by rw [yN_e (h6 s hs) (hys s hs)]; exact q2)]; rfl
    · have e : k = 40 := by omega
      subst e
      right; right
      refine ⟨(nI 40, m), ?_, rfl, hok⟩
      show fm_areRuins_s9 (nI s) (nI 40) m = _
      unfold fm_areRuins_s9
      rw [if_pos (by decide)]
  have outer : (∃ o, iter (fun x : (Int32 × MSt) => fm_areRuins_s2 x.1 x.2) mFuel ((0 : Int32), ms) = some (.inl o) ∧ (o = (ms, 0) ∧ ruB z = false)) ∨ (∃ q, iter (fun x : (Int32 × MSt) => fm_areRuins_s2 x.1 x.2) mFuel ((0 : Int32), ms) = some (.inr q) ∧ (q.2 = ms ∧ ruB z = true)) := by
    refine iter_m (fun s (x : Int32 × MSt) => x.1 = nI s ∧ x.2 = ms ∧ ∀ s2 p, s2 < s → p < 40 → okR z s2 p = true) 2 _ _ ?_ ⟨rfl, rfl, fun _ _ q => absurd q (Nat.not_lt_zero _)⟩ (by omega)
    rintro s ⟨i, m⟩ hs ⟨hi, hm, hok⟩
    simp only at hi hm
    subst hi; subst hm
    rcases Nat.lt_or_ge s 2 with hlt | hge
    · show (∃ o, fm_areRuins_s2 (nI s) m = _ ∧ _) ∨ (∃ y, fm_areRuins_s2 (nI s) m = _ ∧ _) ∨ (∃ y, fm_areRuins_s2 (nI s) m = _ ∧ _)
      unfold fm_areRuins_s2
      rw [if_neg (show ¬ (2 : Int32) ≤ nI s from nI_ge (b := 2) hlt (by omega))]
      rcases inner s hlt with ⟨o, e, rfl, p, hp, hb⟩ | ⟨q, e, hq, hb⟩
      · rw [e]
        exact Or.inl ⟨(m, 0), rfl, rfl, ruB_f hlt hp hb⟩
      · rw [e]
        refine Or.inr (Or.inl ⟨(nI s + 1, q.2), rfl, ⟨by rw [nI_1], hq, fun s2 p h2 hp => ?_⟩, hlt⟩)
        rcases Nat.lt_or_ge s2 s with z | z
        · exact hok s2 p z hp
        · rw [show s2 = s by omega]; exact hb p hp
    · have e : s = 2 := by omega
      subst e
      right; right
      refine ⟨(nI 2, m), ?_, rfl, ruB_iff.mpr hok⟩
      show fm_areRuins_s2 (nI 2) m = _
      unfold fm_areRuins_s2
      rw [if_pos (by decide)]
  unfold fm_areRuins
  rcases outer with ⟨o, e, rfl, hb⟩ | ⟨q, e, hq, hb⟩
  · rw [e, hb, if_neg (by decide)]; rfl
  · rw [e, hb, if_pos rfl]
    show fm_areRuins_j74 q.2 = _
    rw [hq]; rfl
theorem cntH_mono {g : Nat → Int32} {i : Nat} : ∀ n, i ≤ n → cntH g i ≤ cntH g n
  | 0, h => by rw [show i = 0 by omega]; exact Nat.le_refl _
  | n + 1, h => by
    rcases Nat.lt_or_ge i (n + 1) with q | q
    · have := cntH_mono (g := g) (i := i) n (by omega)
      have e : cntH g (n + 1) = cntH g n + if g n = 100000 then 0 else 1 := rfl
      omega
    · rw [show i = n + 1 by omega]; exact Nat.le_refl _
theorem cntH_none {g : Nat → Int32} {i j n : Nat} (h : cntH g n ≤ cntH g i) (h1 : i ≤ j) (h2 : j < n) : g j = 100000 := by
  have a := cntH_mono (g := g) (i := i) j h1
  have b := cntH_mono (g := g) (i := j + 1) n h2
  have e : cntH g (j + 1) = cntH g j + if g j = 100000 then 0 else 1 := rfl
  by_cases q : g j = 100000
  · exact q
  · rw [if_neg q] at e; omega
theorem cntH_n {g : Nat → Int32} : ∀ n, cntH g n ≤ n
  | 0 => Nat.le_refl _
  | n + 1 => by
    have := cntH_n (g := g) n
    have e : cntH g (n + 1) = cntH g n + if g n = 100000 then 0 else 1 := rfl
    by_cases q : g n = 100000
    · rw [if_pos q] at e; omega
    · rw [if_neg q] at e; omega
theorem h_hasLine {st : HSt} {a r D s p : Nat} {z : Nat → Int32} {x : Int32} (w : Wf st) (S : SpR st a r z) (V : VOk D z) (hs : s < 2) (hp : p < 40) : fh_X9_hasLine a (nI s) (nI p) x st = some (st, if p < yN z s ∧ pAt z s (p + 1) 0 = x then 1 else 0) := by
  obtain ⟨w0, y, d, sp, fl, h0, h6, h1, h2, h4, hw0, hy, -⟩ := V
  have hys : y s ≤ 40 := by rcases (by omega : s = 0 ∨ s = 1) with rfl | rfl <;> omega
  have k10 := S.2.2.1
  obtain ⟨-, K, R2, L2, -⟩ := w.1 a k10
  have hy7 : gA st (a + 7) s = nI (y s) := (S.2.2.2.2.1 s hs).trans (h6 s hs)
  have ey : yN z s = y s := yN_e (h6 s hs) hys
  unfold fh_X9_hasLine
  rw [chk_t (isk_t k10), R2, dr_of (K 7 (by omega) (by omega)), bs_, L2, chk_t (inb_n hs (by omega)), nI_clamp (by omega), hy7, ey]
  by_cases q : p < y s
  · rw [if_neg (nI_ge q (by omega)), h_lineAt (k := p + 1) w S rfl hs (h6 s hs) hys (by rw [nI_pred]) (by omega), bs_]
    dsimp only
    by_cases q2 : pAt z s (p + 1) 0 = x
    · rw [if_pos q2, if_pos ⟨q, q2⟩]
    · rw [if_neg q2, if_neg (fun e => q2 e.2)]
  · rw [if_pos (nI_le (by omega) (by omega)), if_neg (fun e => q e.1)]
theorem h_ruins {st : HSt} {S a r D : Nat} {z : Nat → Int32} (w : Wf st) (k9 : gK st S = 9) (Rn : RnR st S z) (hz : z 0 ≠ 0) (Sp : SpR st a r z) (V : VOk D z) : fh_X8_areRuinsOf S (some a) st = some (st, if ruB z = true then 1 else 0) := by
  obtain ⟨-, -, k12, -, -, -, R804, L12⟩ := w.2.2.2 S k9
  obtain ⟨r1, r2, r3⟩ := Rn.2 hz
  have key : (∃ o, iter (fun x : (Int32 × Int32 × HSt) => fh_X8_areRuinsOf_s4 S (some a) x.1 x.2.1 x.2.2) mFuel ((0 : Int32), (0 : Int32), st) = some (.inl o) ∧ (o = (st, 0) ∧ ruB z = false)) ∨ (∃ q, iter (fun x : (Int32 × Int32 × HSt) => fh_X8_areRuinsOf_s4 S (some a) x.1 x.2.1 x.2.2) mFuel ((0 : Int32), (0 : Int32), st) = some (.inr q) ∧ (q.2.2 = st ∧ ruB z = true)) := by
    refine iter_m (fun i (x : Int32 × Int32 × HSt) => x.1 = nI (cntH (gA st (S + 12)) i) ∧ x.2.1 = nI i ∧ x.2.2 = st ∧ ∀ j, j < i → okR z (j % 2) (j / 2) = true) 80 _ _ ?_ ⟨rfl, rfl, rfl, fun _ q => absurd q (Nat.not_lt_zero _)⟩ (by omega)
    rintro i ⟨c, j, s⟩ hi ⟨hc, hj, hs, hok⟩
    simp only at hc hj hs
    subst hc; subst hj; subst hs
    have cl := cntH_n (g := gA s (S + 12)) i
    have c80 := cntH_n (g := gA s (S + 12)) 80
    have fin_ : (∀ j, j < 80 → okR z (j % 2) (j / 2) = true) → ruB z = true := fun h => ruB_iff.mpr (fun s2 p hs hp => by
      have := h (2 * p + s2) (by omega)
      rw [show (2 * p + s2) % 2 = s2 by omega, show (2 * p + s2) / 2 = p by omega] at this
      exact this)
    show (∃ o, fh_X8_areRuinsOf_s4 S (some a) (nI (cntH (gA s (S + 12)) i)) (nI i) s = _ ∧ _) ∨ (∃ y, fh_X8_areRuinsOf_s4 S (some a) (nI (cntH (gA s (S + 12)) i)) (nI i) s = _ ∧ _) ∨ (∃ y, fh_X8_areRuinsOf_s4 S (some a) (nI (cntH (gA s (S + 12)) i)) (nI i) s = _ ∧ _)
    unfold fh_X8_areRuinsOf_s4
    rw [chk_t (isk_t k9), R804, dr_of k12, bs_, L12, r1, ← r2]
    rcases Nat.lt_or_ge i 80 with hlt | hge
    · have em : nI i - nI i / 2 * 2 = nI (i % 2) := pk_rem (d := 2) (by omega) (by omega) (by omega)
      have ed : nI i / 2 = nI (i / 2) := pk_div (d := 2) (by omega) (by omega) (by omega)
      have rr := r3 (i % 2) (i / 2) (by omega) (by omega)
      rw [show 2 * (i / 2) + i % 2 = i by omega] at rr
      rw [if_neg (nI_ge hlt (by omega))]
      by_cases q0 : cntH (gA s (S + 12)) 80 ≤ cntH (gA s (S + 12)) i
      · rw [if_pos (nI_le q0 (by omega))]
        right; right
        refine ⟨_, rfl, rfl, fin_ (fun j hj => ?_)⟩
        rcases Nat.lt_or_ge j i with z1 | z1
        · exact hok j z1
        · have g1 := cntH_none q0 z1 hj
          have rj := r3 (j % 2) (j / 2) (by omega) (by omega)
          rw [show 2 * (j / 2) + j % 2 = j by omega] at rj
          rcases rj with ⟨b1, -⟩ | ⟨-, b2, -⟩
          · unfold okR; rw [decide_eq_true b1]; rfl
          · exact absurd g1 b2
      · rw [if_neg (nI_ge (by omega) (by omega)), chk_t (inb_n hlt (by omega)), chk_t (inb_n hlt (by omega)), nI_clamp (by omega)]
        have ec : cntH (gA s (S + 12)) (i + 1) = cntH (gA s (S + 12)) i + if gA s (S + 12) i = 100000 then 0 else 1 := rfl
        have nxt : okR z (i % 2) (i / 2) = true → ∀ j, j < i + 1 → okR z (j % 2) (j / 2) = true := fun h j hj => by
          rcases Nat.lt_or_ge j i with q | q
          · exact hok j q
          · rw [show j = i by omega]; exact h
        by_cases q1 : gA s (S + 12) i = 100000
        · rw [if_pos q1]
          right; left
          refine ⟨_, rfl, ⟨?_, by rw [← nI_1], rfl, nxt ?_⟩, hlt⟩
          · show nI (cntH (gA s (S + 12)) i) = nI (cntH (gA s (S + 12)) (i + 1)); rw [ec, if_pos q1]; exact congrArg nI (Nat.add_zero _).symm
          · rcases rr with ⟨b1, -⟩ | ⟨-, b2, -⟩
            · unfold okR; rw [decide_eq_true b1]; rfl
            · exact absurd q1 b2
        · rw [if_neg q1, dr_of Sp.2.2.1, bs_, em, ed, h_hasLine w Sp V (by omega) (by omega), bs_]
          dsimp only
          rcases rr with ⟨-, b1⟩ | ⟨b1, b2, b3⟩
          · exact absurd b1 q1
          · by_cases q2 : i / 2 < yN z (i % 2) ∧ pAt z (i % 2) (i / 2 + 1) 0 = gA s (S + 12) i
            · rw [if_pos q2, if_neg (show ¬ (1 : Int32) = 0 by decide)]
              right; left
              refine ⟨_, rfl, ⟨?_, by rw [← nI_1], rfl, nxt ?_⟩, hlt⟩
              · show nI (cntH (gA s (S + 12)) i) + 1 = nI (cntH (gA s (S + 12)) (i + 1)); rw [ec, if_neg q1, nI_1]
              · unfold okR; rw [b1, decide_eq_true q2.1, decide_eq_true q2.2, Bool.and_self, Bool.or_true]
            · rw [if_neg q2, if_pos rfl]
              left
              refine ⟨(s, 0), rfl, rfl, ruB_f (s := i % 2) (p := i / 2) (by omega) (by omega) ?_⟩
              unfold okR
              rw [decide_eq_false b3, b1]
              by_cases q3 : i / 2 < yN z (i % 2)
              · rw [decide_eq_false (fun e => q2 ⟨q3, e⟩), Bool.and_false]; rfl
              · rw [decide_eq_false q3]; rfl
    · have e : i = 80 := by omega
      subst e
      right; right
      refine ⟨_, by rw [if_pos (by decide)], rfl, fin_ hok⟩
  unfold fh_X8_areRuinsOf
  rcases key with ⟨o, e, rfl, hb⟩ | ⟨q, e, hq, hb⟩
  · rw [e, hb, if_neg (by decide)]; rfl
  · rw [e, hb, if_pos rfl]
    show fh_X8_areRuinsOf_j62 S q.2.2 = _
    rw [hq]; rfl
