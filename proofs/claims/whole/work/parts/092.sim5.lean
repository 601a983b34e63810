/-! mend, ruin -/
def pRch (v : Nat → Int32) (a b : Nat) : Int32 := v 2 * (pGap v + nI a + nI b + 1)
def pMt (v : Nat → Int32) (a b y0 y1 w : Nat) : Int32 := pAbs (pAt v 0 (y0 - a) w - pAt v 1 (y1 - b) w)
def pMeet (v : Nat → Int32) (a b y0 y1 : Nat) : Int32 := if y0 < a then 0 else if y1 < b then 0 else if pRch v a b < pMt v a b y0 y1 0 then 0 else if pRch v a b < pMt v a b y0 y1 1 then 0 else 1
theorem nI_lt2 {a b : Nat} (ha : a < 2 ^ 31) (hb : b < 2 ^ 31) {α : Type} {x y : α} : (if nI a < nI b then x else y) = if a < b then x else y := by
  by_cases h : a < b
  · rw [if_pos h, if_pos (nI_lt h hb)]
  · rw [if_neg h, if_neg (fun q => h ((nI_ltI ha hb).mp q))]
theorem sub2 {y a : Nat} (h : a ≤ y) : nI y - nI a - 1 = nI (y - a) - 1 := by rw [pk_sub h]
theorem h_meet {st : HSt} {q r D a b y0 y1 : Nat} {v : Nat → Int32} (w : Wf st) (S : SpR st q r v) (V : VOk D v) (h6 : v 6 = nI y0) (h7 : v 7 = nI y1) (hy0 : y0 ≤ 40) (hy1 : y1 ≤ 40) (ha : a ≤ 80) (hb : b ≤ 80) : fh_X9_canMeetWithout q (nI a) (nI b) st = some (st, pMeet v a b y0 y1) := by
  have k10 := S.2.2.1
  obtain ⟨-, K, R2, L2, -⟩ := w.1 q k10
  have s0 : gA st (q + 7) 0 = nI y0 := (S.2.2.2.2.1 0 (by omega)).trans h6
  have s1 : gA st (q + 7) 1 = nI y1 := (S.2.2.2.2.1 1 (by omega)).trans h7
  unfold fh_X9_canMeetWithout pMeet
  rw [chk_t (isk_t k10), R2, dr_of (K 7 (by omega) (by omega)), bs_, L2, chk_t (by decide), cln0, s0, chk_t (by decide), cln1, s1]
  by_cases h1 : y0 < a
  · rw [if_pos (nI_lt h1 (by omega)), if_pos h1]
  · rw [if_neg (nI_nlt (by omega) (by omega)), if_neg h1]
    by_cases h2 : y1 < b
    · rw [if_neg (nI_ge h2 (by omega)), if_pos h2]
    · rw [if_pos (nI_le (by omega) (by omega)), if_neg h2, st_riv S, bs_, h_gap w S, bs_]
      dsimp only
      rw [chk_t (isk_t k10), R2, dr_of (K 7 (by omega) (by omega)), bs_, L2, chk_t (by decide), chk_t (by decide), s0, s1, sub2 (by omega), sub2 (by omega), h_lineAt (s := 0) (x := 0) (k := y0 - a) w S rfl (by omega) h6 hy0 rfl (by omega), bs_]
      dsimp only
      rw [chk_t (isk_t k10), h_lineAt (s := 1) (x := 1) (k := y1 - b) w S rfl (by omega) h7 hy1 rfl (by omega), bs_]
      dsimp only
      rw [S.2.1.2.2.1, show v 2 * (pGap v + nI a + nI b + 1) = pRch v a b from rfl, show (if 0 ≤ pAt v 0 (y0 - a) 0 - pAt v 1 (y1 - b) 0 then pAt v 0 (y0 - a) 0 - pAt v 1 (y1 - b) 0 else 0 - (pAt v 0 (y0 - a) 0 - pAt v 1 (y1 - b) 0)) = pMt v a b y0 y1 0 from rfl]
      by_cases h3 : pRch v a b < pMt v a b y0 y1 0
      · rw [if_pos h3, if_pos h3]
      · rw [if_neg h3, if_neg h3, chk_t (isk_t k10), h_heightAt (s := 0) (x := 0) (k := y0 - a) w S rfl (by omega) h6 hy0 rfl (by omega), bs_]
        dsimp only
        rw [chk_t (isk_t k10), h_heightAt (s := 1) (x := 1) (k := y1 - b) w S rfl (by omega) h7 hy1 rfl (by omega), bs_]
        dsimp only
        rw [show (if 0 ≤ pAt v 0 (y0 - a) 1 - pAt v 1 (y1 - b) 1 then pAt v 0 (y0 - a) 1 - pAt v 1 (y1 - b) 1 else 0 - (pAt v 0 (y0 - a) 1 - pAt v 1 (y1 - b) 1)) = pMt v a b y0 y1 1 from rfl]
        split <;> rfl
theorem sub3 {y a : Nat} (h : a ≤ y) : nI y - 1 - nI a = nI (y - a) - 1 := by
  rw [← pk_sub h, Int32.sub_sub, Int32.sub_sub, Int32.add_comm]
theorem m_meet {ms : MSt} {D a b y0 y1 : Nat} {v : Nat → Int32} (hv : ms.2.1 26 = v) (h6 : v 6 = nI y0) (h7 : v 7 = nI y1) (hy0 : y0 ≤ 40) (hy1 : y1 ≤ 40) (ha : a ≤ y0) (hb : b ≤ y1) : fm_canMeet (nI a) (nI b) ms = some (ms, pMeet v a b y0 y1) := by
  have st : ∀ w, w < 2 → fm_canMeet_s21 (nI a) (nI b) (pRch v a b) (nI w) ms = if pRch v a b < pMt v a b y0 y1 w then some (.inl (ms, 0)) else some (.inr (.inl (nI (w + 1), ms))) := fun w hw => by
    unfold fm_canMeet_s21
    rw [if_neg (show ¬ (2 : Int32) ≤ nI w from nI_ge (b := 2) hw (by omega)), chk_t (by decide), hv, cln6, h6, sub3 ha, m_yardOf (s := 0) (x := 0) (k := y0 - a) (w := w) hv rfl (by omega) rfl (by omega) rfl hw, bs_]
    dsimp only
    rw [chk_t (by decide), hv, cln7, h7, sub3 hb, m_yardOf (s := 1) (x := 1) (k := y1 - b) (w := w) hv rfl (by omega) rfl (by omega) rfl hw, bs_]
    dsimp only
    rw [m_plain, bs_, show pAbs (pAt v 0 (y0 - a) w - pAt v 1 (y1 - b) w) = pMt v a b y0 y1 w from rfl, nI_1]
    by_cases h : pRch v a b < pMt v a b y0 y1 w
    · rw [if_pos h, if_neg (fun q => Int32.lt_irrefl (Int32.lt_of_lt_of_le h q))]
    · rw [if_neg h, if_pos (Int32.not_lt.mp h)]
  obtain ⟨n, hn⟩ := mF2
  unfold fm_canMeet pMeet
  rw [chk_t (by decide), m_gap hv, bs_]
  dsimp only
  rw [hv, cln2, show v 2 * (pGap v + nI a + nI b + 1) = pRch v a b from rfl, if_neg (by omega), if_neg (by omega), hn]
  show (iter (fun x : (Int32 × MSt) => fm_canMeet_s21 (nI a) (nI b) (pRch v a b) x.1 x.2) (n + 3) (nI 0, ms)).bind _ = _
  by_cases h0 : pRch v a b < pMt v a b y0 y1 0
  · have e0 := st 0 (by omega)
    rw [if_pos h0] at e0
    rw [if_pos h0]
    unfold iter
    dsimp only
    rw [e0]; rfl
  · have e0 := st 0 (by omega)
    rw [if_neg h0] at e0
    rw [if_neg h0, iter_c e0]
    have e1 := st 1 (by omega)
    by_cases h1 : pRch v a b < pMt v a b y0 y1 1
    · rw [if_pos h1] at e1
      rw [if_pos h1]
      unfold iter
      dsimp only
      rw [e1]; rfl
    · rw [if_neg h1] at e1
      rw [if_neg h1, iter_c e1, iter_x (show fm_canMeet_s21 (nI a) (nI b) (pRch v a b) (nI 2) ms = some (.inr (.inr (nI 2, ms))) by unfold fm_canMeet_s21; rw [if_pos (by decide)])]
      rfl
theorem sim_mend : Sim1 Rel fh_X11_mend fm_mend := sim1_of (fun hx st ms a R => by
  have R0 := R
  obtain ⟨t, nr, r, w, hi, h, p, T, U, I, V, J⟩ := R
  obtain ⟨w0, y, d, sp, fl, h0, h6, h1, h2, h4, hw0, hy, hd, hsp, -⟩ := id V
  have k9 : gK st (hx + 3) = 9 := h.k (by omega) rfl
  have k10 := I.1.2.2.1
  have R800 : gR st 800 (hx + 3) = some (hx + 3 + 1) := (w.2.2.2 _ k9).2.2.2.1
  have y0 := h6 0 (by omega)
  have y1 := h6 1 (by omega)
  unfold fh_X11_mend fm_mend
  rw [chk_t (st_k h), h_hasR w h I.1, bs_, m_river rfl, bs_]
  dsimp only
  by_cases hr : ms.2.1 26 0 ≤ 0
  · rw [if_pos hr]
    exact ⟨(st, -1), (ms, -1), rfl, rfl, rfl, R0⟩
  · rw [if_neg hr, if_neg (show ¬ (1 : Int32) = 0 by decide), if_neg (show ¬ (1 : Int32) = 0 by decide), h_in (L := 0) (U := 1) (by decide) (by decide), bs_, m_in (L := 0) (U := 1) (by decide) (by decide), bs_]
    dsimp only
    rcases wI_c a 0 1 with ⟨e1, l1⟩ | ⟨e1, l1, l2⟩
    · rw [e1]
      exact ⟨(st, -1), (ms, -1), rfl, rfl, rfl, R0⟩
    · rw [e1, if_neg (show ¬ (1 : Int32) = 0 by decide), if_neg (show ¬ (1 : Int32) = 0 by decide), chk_t (st_k h), st_site h, bs_, st_span w k9, bs_, h_yardsOf (s := 0) (x := 0) w I.1 rfl (by omega), bs_]
      dsimp only
      rw [chk_t (isk_t k10), h_yardsOf (s := 1) (x := 1) w I.1 rfl (by omega), bs_]
      dsimp only
      rw [y0, y1, nI_add, R800]

      have inner : ∀ all, all ≤ y 0 + y 1 → (∃ o q, iter (fun x : (Int32 × HSt) => fh_X11_mend_s50 hx a (some (hx + 3 + 1)) (nI (y 0 + y 1)) (nI all) x.1 x.2) mFuel ((0 : Int32), st) = some (.inl o) ∧ iter (fun x : (Int32 × MSt) => fm_mend_s42 a (nI all) x.1 x.2) mFuel ((0 : Int32), ms) = some (.inl q) ∧ o.1 = st ∧ q.1 = ms ∧ o.2 = q.2) ∨ (∃ o q, iter (fun x : (Int32 × HSt) => fh_X11_mend_s50 hx a (some (hx + 3 + 1)) (nI (y 0 + y 1)) (nI all) x.1 x.2) mFuel ((0 : Int32), st) = some (.inr o) ∧ iter (fun x : (Int32 × MSt) => fm_mend_s42 a (nI all) x.1 x.2) mFuel ((0 : Int32), ms) = some (.inr q) ∧ o.2 = st ∧ q.2 = ms) := fun all hall => by
        rw [mFuel_eq]
        refine iter_rel (fun (x : Int32 × HSt) (z : Int32 × MSt) => ∃ k, k ≤ all + 1 ∧ x = (nI k, st) ∧ z = (nI k, ms)) (fun x => all + 1 - x.1.toNatClampNeg) (fun (o : HSt × Int32) (q : MSt × Int32) => o.1 = st ∧ q.1 = ms ∧ o.2 = q.2) (fun (o : Int32 × HSt) (q : Int32 × MSt) => o.2 = st ∧ q.2 = ms) ?_ 1000000 _ _ ⟨0, by omega, rfl, rfl⟩ (by show all + 1 - (nI 0).toNatClampNeg < _; rw [nI_clamp (by omega)]; omega)
        rintro x z ⟨k, hk, rfl, rfl⟩
        dsimp only
        unfold fh_X11_mend_s50 fm_mend_s42
        by_cases hka : all < k
        · rw [if_pos (nI_lt hka (by omega)), if_pos (nI_lt hka (by omega))]
          exact Or.inr (Or.inr ⟨_, _, rfl, rfl, rfl, rfl⟩)
        · rw [if_neg (nI_nlt (by omega) (by omega)), if_neg (nI_nlt (by omega) (by omega)), dr_of k10, bs_, pk_sub (by omega), h_meet w I.1 V y0 y1 (by omega) (by omega) (by omega) (by omega), bs_, chk_t (by decide), cln6, y0, chk_t (by decide), cln7, y1, nI_1]
          dsimp only
          have next : ∀ (X : Option ((HSt × Int32) ⊕ ((Int32 × HSt) ⊕ (Int32 × HSt)))) (Y : Option ((MSt × Int32) ⊕ ((Int32 × MSt) ⊕ (Int32 × MSt)))), X = some (Sum.inr (Sum.inl (nI (k + 1), st))) → Y = some (Sum.inr (Sum.inl (nI (k + 1), ms))) → (∃ o q, X = some (Sum.inl o) ∧ Y = some (Sum.inl q) ∧ o.1 = st ∧ q.1 = ms ∧ o.2 = q.2) ∨ (∃ x2 y2, X = some (Sum.inr (Sum.inl x2)) ∧ Y = some (Sum.inr (Sum.inl y2)) ∧ (∃ k, k ≤ all + 1 ∧ x2 = (nI k, st) ∧ y2 = (nI k, ms)) ∧ all + 1 - x2.1.toNatClampNeg < all + 1 - (nI k).toNatClampNeg) ∨ (∃ x2 y2, X = some (Sum.inr (Sum.inr x2)) ∧ Y = some (Sum.inr (Sum.inr y2)) ∧ x2.2 = st ∧ y2.2 = ms) := fun X Y hX hY => Or.inr (Or.inl ⟨_, _, hX, hY, ⟨k + 1, by omega, rfl, rfl⟩, by rw [nI_clamp (by omega), nI_clamp (by omega)]; omega⟩)
          by_cases q1 : y 0 < k
          · rw [if_pos (nI_lt q1 (by omega))]
            refine next _ _ ?_ rfl
            unfold pMeet; rw [if_pos q1, if_pos rfl]
          · rw [if_neg (nI_nlt (by omega) (by omega))]
            by_cases q2 : y 1 < all - k
            · rw [if_pos (nI_lt q2 (by omega))]
              refine next _ _ ?_ rfl
              unfold pMeet; rw [if_neg q1, if_pos q2, if_pos rfl]
            · rw [if_neg (nI_nlt (by omega) (by omega)), m_meet (D := 0) rfl y0 y1 (by omega) (by omega) (by omega) (by omega), bs_]
              dsimp only
              by_cases q3 : pMeet (ms.2.1 26) k (all - k) (y 0) (y 1) = 0
              · rw [if_pos q3, if_pos q3]
                exact next _ _ rfl rfl
              · rw [if_neg q3, if_neg q3]
                left
                by_cases q4 : a = 0
                · rw [if_pos q4, if_pos q4]; exact ⟨_, _, rfl, rfl, rfl, rfl, rfl⟩
                · rw [if_neg q4, if_neg q4]; exact ⟨_, _, rfl, rfl, rfl, rfl, rfl⟩
      have outer : (∃ o q, iter (fun x : (Int32 × HSt) => fh_X11_mend_s41 hx a (some (hx + 3 + 1)) (nI (y 0 + y 1)) x.1 x.2) mFuel ((0 : Int32), st) = some (.inl o) ∧ iter (fun x : (Int32 × MSt) => fm_mend_s21 a x.1 x.2) mFuel ((0 : Int32), ms) = some (.inl q) ∧ o.1 = st ∧ q.1 = ms ∧ o.2 = q.2) ∨ (∃ o q, iter (fun x : (Int32 × HSt) => fh_X11_mend_s41 hx a (some (hx + 3 + 1)) (nI (y 0 + y 1)) x.1 x.2) mFuel ((0 : Int32), st) = some (.inr o) ∧ iter (fun x : (Int32 × MSt) => fm_mend_s21 a x.1 x.2) mFuel ((0 : Int32), ms) = some (.inr q) ∧ o.2 = st ∧ q.2 = ms) := by
        have key := iter_rel (s1 := fun x : (Int32 × HSt) => fh_X11_mend_s41 hx a (some (hx + 3 + 1)) (nI (y 0 + y 1)) x.1 x.2) (s2 := fun x : (Int32 × MSt) => fm_mend_s21 a x.1 x.2) (fun (x : Int32 × HSt) (z : Int32 × MSt) => ∃ k, k ≤ y 0 + y 1 + 1 ∧ x = (nI k, st) ∧ z = (nI k, ms)) (fun x => y 0 + y 1 + 1 - x.1.toNatClampNeg) (fun (o : HSt × Int32) (q : MSt × Int32) => o.1 = st ∧ q.1 = ms ∧ o.2 = q.2) (fun (o : Int32 × HSt) (q : Int32 × MSt) => o.2 = st ∧ q.2 = ms) ?_ 1000000 ((0 : Int32), st) ((0 : Int32), ms) ⟨0, by omega, rfl, rfl⟩ (by show y 0 + y 1 + 1 - (nI 0).toNatClampNeg < _; rw [nI_clamp (by omega)]; omega)
        · rw [mFuel_eq]; exact key
        · rintro x z ⟨k, hk, rfl, rfl⟩
          dsimp only
          unfold fh_X11_mend_s41 fm_mend_s21
          rw [chk_t (by decide), chk_t (by decide), cln6, cln7, y0, y1, nI_add]
          by_cases hka : y 0 + y 1 < k
          · rw [if_pos (nI_lt hka (by omega)), if_pos (nI_lt hka (by omega))]
            exact Or.inr (Or.inr ⟨_, _, rfl, rfl, rfl, rfl⟩)
          · rw [if_neg (nI_nlt (by omega) (by omega)), if_neg (nI_nlt (by omega) (by omega))]
            rcases inner k (by omega) with ⟨o, q, e2, e3, g1, g2, g3⟩ | ⟨o, q, e2, e3, g1, g2⟩
            · rw [e2, e3]
              exact Or.inl ⟨o, q, rfl, rfl, g1, g2, g3⟩
            · rw [e2, e3]
              refine Or.inr (Or.inl ⟨(nI k + 1, o.2), (nI k + 1, q.2), rfl, rfl, ⟨k + 1, by omega, ?_, ?_⟩, ?_⟩)
              · rw [g1, nI_1]
              · rw [g2, nI_1]
              · dsimp only; rw [nI_1, nI_clamp (by omega), nI_clamp (by omega)]; omega
      rcases outer with ⟨o, q, e2, e3, g1, g2, g3⟩ | ⟨o, q, e2, e3, g1, g2⟩
      · rw [e2, e3]
        exact ⟨o, q, rfl, rfl, g3, by rw [g1, g2]; exact R0⟩
      · rw [e2, e3]
        exact ⟨(o.2, -2), (q.2, -2), rfl, rfl, rfl, by dsimp only; rw [g1, g2]; exact R0⟩)
