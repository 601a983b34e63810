/-! ruin -/
theorem h_fill {st : HSt} {b n : Nat} {x : Int32} (k : gK st b = 22) (hL : gL st b = n) (hn : n ≤ 1000) : ∃ st2, fh_J7_fill_53178 (some b) x st = some st2 ∧ Fr (fun c => c = b) st st2 ∧ ∀ i, i < n → gA st2 b i = x := by
  obtain ⟨z, e, F, g⟩ : ∃ z : Int32 × HSt, iter (fun y : (Int32 × HSt) => fh_J7_fill_53178_s5 (some b) x (nI n) y.1 y.2) mFuel ((0 : Int32), st) = some (.inr z) ∧ Fr (fun c => c = b) st z.2 ∧ ∀ i, i < n → gA z.2 b i = x := by
    refine iter_n (fun j (y : Int32 × HSt) => y.1 = nI j ∧ Fr (fun c => c = b) st y.2 ∧ ∀ i, i < j → gA y.2 b i = x) n _ ?_ ?_ ⟨rfl, Fr.rf, fun _ q => absurd q (Nat.not_lt_zero _)⟩ (by omega)
    · rintro j ⟨q, s⟩ hj ⟨hq, F, g⟩
      simp only at hq F g
      subst hq
      refine ⟨(nI (j + 1), sA s b j x), ?_, rfl, F.tr (Fr.sA rfl), fun i hi => ?_⟩
      · show fh_J7_fill_53178_s5 (some b) x (nI n) (nI j) s = _
        unfold fh_J7_fill_53178_s5
        rw [if_neg (nI_ge hj (by omega)), dr_of ((F.K b).trans k), bs_, (F.L b).trans hL, chk_t (inb_n hj (by omega)), nI_clamp (by omega), nI_1]
      · show gA (sA s b j x) b i = x
        rw [gA_sA]
        by_cases h : i = j
        · rw [h, pk_us]
        · rw [pk_un h]; exact g i (by omega)
    · rintro ⟨q, s⟩ ⟨hq, F, g⟩
      simp only at hq F g
      subst hq
      refine ⟨(nI n, s), ?_, F, g⟩
      show fh_J7_fill_53178_s5 (some b) x (nI n) (nI n) s = _
      unfold fh_J7_fill_53178_s5
      rw [if_pos (nI_le (Nat.le_refl _) (by omega))]
  refine ⟨z.2, ?_, F, g⟩
  unfold fh_J7_fill_53178
  rw [dr_of k, bs_, hL, e]; rfl
theorem cntM_0 {v : Nat → Int32} : ∀ n, (∀ k, k < n → v (46 + k) = 99999) → cntM v n = 0
  | 0, _ => rfl
  | n + 1, h => by unfold cntM; rw [cntM_0 n (fun k hk => h k (by omega)), h n (by omega), if_pos rfl]
theorem cntH_0 {g : Nat → Int32} : ∀ n, (∀ k, k < n → g k = 100000) → cntH g n = 0
  | 0, _ => rfl
  | n + 1, h => by unfold cntH; rw [cntH_0 n (fun k hk => h k (by omega)), h n (by omega), if_pos rfl]
theorem cntM_u {v : Nat → Int32} {j : Nat} {x : Int32} (hx : x ≠ 99999) : ∀ n, cntM (upd v (46 + j) x) n = cntM v n + if j < n ∧ v (46 + j) = 99999 then 1 else 0
  | 0 => rfl
  | n + 1 => by
    unfold cntM
    rw [cntM_u hx n]
    rcases Nat.lt_trichotomy n j with h | h | h
    · have a1 : ¬ (j < n ∧ v (46 + j) = 99999) := fun z => by have := z.1; omega
      have a2 : ¬ (j < n + 1 ∧ v (46 + j) = 99999) := fun z => by have := z.1; omega
      rw [pk_un (by omega), if_neg a1, if_neg a2, Nat.add_zero, Nat.add_zero]
    · subst h
      have a1 : ¬ (n < n ∧ v (46 + n) = 99999) := fun z => by have := z.1; omega
      rw [pk_us, if_neg hx, if_neg a1]
      by_cases q : v (46 + n) = 99999
      · have a2 : n < n + 1 ∧ v (46 + n) = 99999 := ⟨by omega, q⟩
        rw [if_pos q, if_pos a2]
      · have a2 : ¬ (n < n + 1 ∧ v (46 + n) = 99999) := fun z => q z.2
        rw [if_neg q, if_neg a2]
    · rw [pk_un (by omega)]
      by_cases q : v (46 + j) = 99999
      · have a1 : j < n ∧ v (46 + j) = 99999 := ⟨h, q⟩
        have a2 : j < n + 1 ∧ v (46 + j) = 99999 := ⟨by omega, q⟩
        rw [if_pos a1, if_pos a2]; omega
      · have a1 : ¬ (j < n ∧ v (46 + j) = 99999) := fun z => q z.2
        have a2 : ¬ (j < n + 1 ∧ v (46 + j) = 99999) := fun z => q z.2
        rw [if_neg a1, if_neg a2]; omega
theorem cntH_u {g : Nat → Int32} {j : Nat} {x : Int32} (hx : x ≠ 100000) : ∀ n, cntH (upd g j x) n = cntH g n + if j < n ∧ g j = 100000 then 1 else 0
  | 0 => rfl
  | n + 1 => by
    unfold cntH
    rw [cntH_u hx n]
    rcases Nat.lt_trichotomy n j with h | h | h
    · have a1 : ¬ (j < n ∧ g j = 100000) := fun z => by have := z.1; omega
      have a2 : ¬ (j < n + 1 ∧ g j = 100000) := fun z => by have := z.1; omega
      rw [pk_un (by omega), if_neg a1, if_neg a2, Nat.add_zero, Nat.add_zero]
    · subst h
      have a1 : ¬ (n < n ∧ g n = 100000) := fun z => by have := z.1; omega
      rw [pk_us, if_neg hx, if_neg a1]
      by_cases q : g n = 100000
      · have a2 : n < n + 1 ∧ g n = 100000 := ⟨by omega, q⟩
        rw [if_pos q, if_pos a2]
      · have a2 : ¬ (n < n + 1 ∧ g n = 100000) := fun z => q z.2
        rw [if_neg q, if_neg a2]
    · rw [pk_un (by omega)]
      by_cases q : g j = 100000
      · have a1 : j < n ∧ g j = 100000 := ⟨h, q⟩
        have a2 : j < n + 1 ∧ g j = 100000 := ⟨by omega, q⟩
        rw [if_pos a1, if_pos a2]; omega
      · have a1 : ¬ (j < n ∧ g j = 100000) := fun z => q z.2
        have a2 : ¬ (j < n + 1 ∧ g j = 100000) := fun z => q z.2
        rw [if_neg a1, if_neg a2]; omega
/-- the RUINS cleared: both sides -/
theorem h_clear {st : HSt} {S : Nat} (w : Wf st) (k : gK st S = 9) : ∃ st2, fh_X8_clearRuins S st = some st2 ∧ Fr (fun b => b = S ∨ b = S + 12) st st2 ∧ gI st2 802 S = 0 ∧ (∀ f, f ≠ 802 → gI st2 f S = gI st f S) ∧ ∀ i, i < 80 → gA st2 (S + 12) i = 100000 := by
  obtain ⟨-, -, k12, -, -, -, R804, L12⟩ := w.2.2.2 S k
  obtain ⟨s1, e1, F1, g1⟩ := h_fill (x := 100000) k12 L12 (by omega)
  have k9 : gK s1 S = 9 := (F1.K S).trans k
  refine ⟨sI s1 802 S 0, ?_, (F1.mo (fun _ e => Or.inr e)).tr (Fr.sI (Or.inl rfl)), gI_sI _ _ _ _, fun f hf => ?_, g1⟩
  · unfold fh_X8_clearRuins
    rw [chk_t (isk_t k), R804, e1, bs_, chk_t (isk_t k9)]
  · rw [gI_sI_ne (Or.inl hf)]; exact F1.I f (by omega)
theorem m_clear {ms : MSt} : ∃ ms2, (iter (fun x : (Int32 × MSt) => fm_ruin_s55 x.1 x.2) mFuel ((0 : Int32), ms)).bind (Sum.elim (fun o : MSt × Int32 => (some o : Option (MSt × Int32))) (fun x : (Int32 × MSt) => fm_ruin_j80 x.2)) = some (ms2, 1) ∧ MF (fun k => k == 26) ms ms2 ∧ (∀ k, k < 80 → ms2.2.1 26 (46 + k) = 99999) ∧ ∀ i, (i < 46 ∨ 126 ≤ i) → ms2.2.1 26 i = ms.2.1 26 i := by
  obtain ⟨z, e, F, g, g2⟩ : ∃ z : Int32 × MSt, iter (fun x : (Int32 × MSt) => fm_ruin_s55 x.1 x.2) mFuel ((0 : Int32), ms) = some (.inr z) ∧ MF (fun k => k == 26) ms z.2 ∧ (∀ k, k < 80 → z.2.2.1 26 (46 + k) = 99999) ∧ ∀ i, (i < 46 ∨ 126 ≤ i) → z.2.2.1 26 i = ms.2.1 26 i := by
    refine iter_n (fun j (y : Int32 × MSt) => y.1 = nI j ∧ MF (fun k => k == 26) ms y.2 ∧ (∀ k, k < j → y.2.2.1 26 (46 + k) = 99999) ∧ ∀ i, (i < 46 ∨ 126 ≤ i) → y.2.2.1 26 i = ms.2.1 26 i) 80 _ ?_ ?_ ⟨rfl, MF.rf, fun _ q => absurd q (Nat.not_lt_zero _), fun _ _ => rfl⟩ (by omega)
    · rintro j ⟨q, s⟩ hj ⟨hq, F, g, g2⟩
      simp only at hq F g g2
      subst hq
      have e46 : (46 : Int32) + nI j = nI (46 + j) := by show nI 46 + _ = _; rw [nI_add]
      refine ⟨(nI (j + 1), msa s 26 (46 + j) 99999), ?_, rfl, F.tr (MF.msa rfl), fun i hi => ?_, fun i hi => ?_⟩
      · show fm_ruin_s55 (nI j) s = _
        unfold fm_ruin_s55
        rw [if_neg (show ¬ (80 : Int32) ≤ nI j from nI_ge (b := 80) hj (by omega)), e46, chk_t (inb_n (by omega) (by omega)), nI_clamp (by omega), nI_1]
      · show (msa s 26 (46 + j) 99999).2.1 26 (46 + i) = _
        rw [msa_s]
        by_cases h : i = j
        · rw [h, pk_us]
        · rw [pk_un (by omega)]; exact g i (by omega)
      · show (msa s 26 (46 + j) 99999).2.1 26 i = _
        rw [msa_s, pk_un (by omega)]; exact g2 i hi
    · rintro ⟨q, s⟩ ⟨hq, F, g, g2⟩
      simp only at hq F g g2
      subst hq
      refine ⟨(nI 80, s), ?_, F, g, g2⟩
      show fm_ruin_s55 (nI 80) s = _
      unfold fm_ruin_s55
      rw [if_pos (by decide)]
  refine ⟨z.2, ?_, F, g, g2⟩
  rw [e]; rfl
theorem sim_ruin : Sim3 Rel fh_X11_ruin fm_ruin := sim3_of (fun hx st ms a b c R => by
  have R0 := R
  obtain ⟨t, nr, r, w, hi, h, p, T, U, I, V, J⟩ := R
  have k9 : gK st (hx + 3) = 9 := h.k (by omega) rfl
  unfold fh_X11_ruin fm_ruin
  rw [chk_t (st_k h), h_hasR w h I.1, bs_, m_river rfl, bs_]
  dsimp only
  by_cases hr : ms.2.1 26 0 ≤ 0
  · rw [if_pos hr]
    exact ⟨(st, 0), (ms, 0), rfl, rfl, rfl, R0⟩
  · have hr0 : ms.2.1 26 0 ≠ 0 := fun q => hr (by rw [q]; decide)
    rw [if_neg hr, if_neg (show ¬ (1 : Int32) = 0 by decide), if_neg (show ¬ (1 : Int32) = 0 by decide), h_side, bs_, m_side, bs_]
    dsimp only
    rcases sd_c a with e | ⟨e, s, hs, rfl⟩
    · rw [e]
      exact ⟨(st, 0), (ms, 0), rfl, rfl, rfl, R0⟩
    · rw [e, if_neg (show ¬ (1 : Int32) = 0 by decide), if_neg (show ¬ (1 : Int32) = 0 by decide), m_in (L := -1) (U := 39) (by decide) (by decide), bs_]
      obtain ⟨i1, i2, i3, i4, i5⟩ := I
      by_cases hb : b = -1
      · subst hb
        rw [if_pos rfl, show wI (-1) (-1) 39 = 1 by decide, if_neg (show ¬ (1 : Int32) = 0 by decide), if_pos (show (-1 : Int32) < 0 by decide), chk_t (st_k h), st_site h, bs_]
        unfold fm_ruin_j48
        rw [if_neg (show ¬ (0 : Int32) ≤ -1 by decide)]
        obtain ⟨s1, e1, F1, g1, g2, g3⟩ := h_clear w k9
        obtain ⟨m1, e2, F2, q1, q2⟩ := m_clear (ms := ms)
        rw [e1, e2, bs_]
        have F1' : Fr (fun b => b = hx + 3 ∨ b = hx + 14 ∨ b = hx + 15) st s1 := F1.mo (fun b e => by omega)
        have A2 : Ag2 (ms.2.1 26) (m1.2.1 26) := fun i _ _ hi => q2 i (by omega)
        refine ⟨_, _, rfl, rfl, rfl, R0.si (r := r) (F1.mo (fun b q => by unfold Si; omega)) (F2.mo (fun k hk => by rw [beq_iff_eq] at hk; subst hk; rfl)) ⟨(sp_si w h i1 V F1').ag2 A2 V, ⟨(F1.K _).trans i2.1, fun s2 k hs2 hk => ?_⟩, ?_, ?_, fun q => ?_, fun q => ?_⟩ (V.ag2 A2 (fun s2 k hs2 hk => by rw [q2 _ (by omega)]; exact V.er s2 k hs2 hk))⟩
        · rw [F1.A (by omega), q2 _ (by omega)]; exact i2.2 s2 k hs2 hk
        · rw [g2 801 (by omega), q2 _ (by omega)]; exact i3
        · rw [q2 _ (by omega)]; exact i4
        · rw [q2 _ (by omega)] at q; exact absurd q hr0
        · rw [cntM_0 80 q1, cntH_0 80 g3]
          refine ⟨g1, rfl, fun s2 k hs2 hk => Or.inl ⟨?_, g3 _ (by omega)⟩⟩
          rw [show 46 + 40 * s2 + k = 46 + (40 * s2 + k) by omega]; exact q1 _ (by omega)
      · rw [if_neg hb, h_in (L := 0) (U := 39) (by decide) (by decide), bs_]
        dsimp only
        have hm1 : b.toInt ≠ -1 := fun q => hb (i32_of (q.trans (by decide)))
        rcases wI_c b 0 39 with ⟨e1, l1⟩ | ⟨e1, l1, l2⟩
        · have e2 : wI b (-1) 39 = 0 := by
            rcases wI_c b (-1) 39 with ⟨q, -⟩ | ⟨-, q1, q2⟩
            · exact q
            · omega
          rw [e1, e2]
          exact ⟨(st, 0), (ms, 0), rfl, rfl, rfl, R0⟩
        · have e2 : wI b (-1) 39 = 1 := by
            rcases wI_c b (-1) 39 with ⟨-, q⟩ | ⟨q, -⟩
            · omega
            · exact q
          obtain ⟨n, hn, rfl⟩ := n_of (U := 39) l1 l2
          rw [e1, e2, if_neg (show ¬ (1 : Int32) = 0 by decide), if_neg (show ¬ (1 : Int32) = 0 by decide), if_neg (nI_pos (by omega)), h_in (L := -9999) (U := 9999) (by decide) (by decide), bs_, m_in (L := -9999) (U := 9999) (by decide) (by decide), bs_]
          dsimp only
          rcases wI_c c (-9999) 9999 with ⟨e3, l3⟩ | ⟨e3, l3, l4⟩
          · rw [e3]
            exact ⟨(st, 0), (ms, 0), rfl, rfl, rfl, R0⟩
          · rw [e3, if_neg (show ¬ (1 : Int32) = 0 by decide), if_neg (show ¬ (1 : Int32) = 0 by decide), chk_t (st_k h), st_site h, bs_]
            have c1 : c ≠ 99999 := fun q => by rw [q, show (99999 : Int32).toInt = 99999 by decide] at l4; omega
            have c2 : c ≠ 100000 := fun q => by rw [q, show (100000 : Int32).toInt = 100000 by decide] at l4; omega
            have e46 : (46 : Int32) + 40 * nI s + nI n = nI (46 + (40 * s + n)) := by show nI 46 + nI 40 * nI s + _ = _; rw [pk_mul, nI_add, nI_add]; exact congrArg nI (by omega)
            have e2n : (2 : Int32) * nI n + nI s = nI (2 * n + s) := by show nI 2 * nI n + _ = _; rw [pk_mul, nI_add]
            obtain ⟨-, -, k12, -, -, -, R804, L12⟩ := w.2.2.2 (hx + 3) k9
            obtain ⟨-, r2⟩ := i5
            obtain ⟨r3, r4, r5⟩ := r2 hr0
            let st2 := sA (sI st 802 (hx + 3) (nI (cntM (upd (ms.2.1 26) (46 + (40 * s + n)) c) 80))) (hx + 3 + 12) (2 * n + s) c
            have tell : fh_X8_tellRuin (hx + 3) (nI s) (nI n) c st = some st2 := by
              have jj : ∀ x y : Int32, fh_X8_tellRuin_j44 (hx + 3) c (nI (2 * n + s)) x y (hx + 3) st = some (sA (sI st 802 (hx + 3) (y + x)) (hx + 3 + 12) (2 * n + s) c) := fun x y => by
                unfold fh_X8_tellRuin_j44
                rw [chk_t (isk_t k9), chk_t (isk_t k9), gR_sI, R804, dr_of k12, bs_, gL_sI, L12, chk_t (inb_n (by omega) (by omega)), nI_clamp (by omega)]
              unfold fh_X8_tellRuin
              rw [e2n, if_neg (nI_pos (by omega)), chk_t (isk_t k9), R804, dr_of k12, bs_, L12, if_neg (nI_ge (by omega) (by omega)), chk_t (inb_n (by omega) (by omega)), nI_clamp (by omega), jj, jj, r3]
              have := r5 s n hs (by omega)
              rw [show 46 + 40 * s + n = 46 + (40 * s + n) by omega] at this
              show _ = some (sA (sI st 802 (hx + 3) (nI (cntM (upd (ms.2.1 26) (46 + (40 * s + n)) c) 80))) (hx + 3 + 12) (2 * n + s) c)
              rw [cntM_u c1]
              rcases this with ⟨q1, q2⟩ | ⟨q1, q2, q3⟩
              · rw [if_pos q2, if_pos ⟨by omega, q1⟩, nI_1]
              · rw [if_neg q2, if_neg (fun z => q3 z.2), Int32.add_zero, show cntM (ms.2.1 26) 80 + 0 = cntM (ms.2.1 26) 80 from Nat.add_zero _]
            rw [tell, bs_]
            unfold fm_ruin_j48
            rw [if_pos (nI_pos' (by omega)), e46, chk_t (inb_n (by omega) (by omega)), nI_clamp (by omega)]
            have F : Fr (fun b => b = hx + 3 ∨ b = hx + 14 ∨ b = hx + 15) st st2 := (Fr.sI (Or.inl rfl)).tr (Fr.sA (Or.inr (Or.inr (by omega))))
            have ez : ∀ i, i ≠ 46 + (40 * s + n) → (msa ms 26 (46 + (40 * s + n)) c).2.1 26 i = ms.2.1 26 i := fun i hi => by rw [msa_s, pk_un hi]
            have es : (msa ms 26 (46 + (40 * s + n)) c).2.1 26 (46 + (40 * s + n)) = c := by rw [msa_s, pk_us]
            have A2 : Ag2 (ms.2.1 26) ((msa ms 26 (46 + (40 * s + n)) c).2.1 26) := fun i _ _ _ => ez i (by omega)
            have gA2 : gA st2 (hx + 3 + 12) = upd (gA st (hx + 3 + 12)) (2 * n + s) c := by
              show gA (sA (sI st 802 (hx + 3) (nI (cntM (upd (ms.2.1 26) (46 + (40 * s + n)) c) 80))) (hx + 3 + 12) (2 * n + s) c) (hx + 3 + 12) = _
              rw [gA_sA, gA_sI]
            refine ⟨_, _, rfl, rfl, rfl, R0.si (r := r) (F.mo (fun b q => by unfold Si; omega)) (MF.msa rfl) ⟨(sp_si w h i1 V F).ag2 A2 V, ⟨i2.1, fun s2 k hs2 hk => ?_⟩, ?_, ?_, fun q => ?_, fun q => ?_⟩ (V.ag2 A2 (fun s2 k hs2 hk => by rw [ez _ (by omega)]; exact V.er s2 k hs2 hk))⟩
            · dsimp only
              rw [ez _ (by omega)]
              show gA (sA (sI st 802 (hx + 3) (nI (cntM (upd (ms.2.1 26) (46 + (40 * s + n)) c) 80))) (hx + 3 + 12) (2 * n + s) c) (hx + 3 + 11) (8 * s2 + k) = _
              rw [gA_sA_ne (by omega), gA_sI]; exact i2.2 s2 k hs2 hk
            · dsimp only
              rw [ez _ (by omega)]
              show gI (sI st 802 (hx + 3) (nI (cntM (upd (ms.2.1 26) (46 + (40 * s + n)) c) 80))) 801 (hx + 3) = _
              rw [gI_sI_ne (Or.inl (by omega))]; exact i3
            · rw [ez _ (by omega)]; exact i4
            · rw [ez _ (by omega)] at q; exact absurd q hr0
            · dsimp only
              rw [gA2, cntH_u c2, r4, msa_s, cntM_u c1]
              have := r5 s n hs (by omega)
              rw [show 46 + 40 * s + n = 46 + (40 * s + n) by omega] at this
              refine ⟨?_, ?_, fun s2 k hs2 hk => ?_⟩
              · show gI (sI st 802 (hx + 3) (nI (cntM (upd (ms.2.1 26) (46 + (40 * s + n)) c) 80))) 802 (hx + 3) = _
                rw [gI_sI, cntM_u c1]
              · rcases this with ⟨q1, q2⟩ | ⟨q1, q2, q3⟩
                · rw [if_pos ⟨by omega, q2⟩, if_pos ⟨by omega, q1⟩]
                · rw [if_neg (fun z => q2 z.2), if_neg (fun z => q3 z.2)]
              · by_cases q : s2 = s ∧ k = n
                · obtain ⟨rfl, rfl⟩ := q
                  rw [pk_us, show 46 + 40 * s2 + k = 46 + (40 * s2 + k) by omega, pk_us]
                  exact Or.inr ⟨rfl, c2, c1⟩
                · rw [pk_un (by omega), pk_un (by omega)]; exact r5 s2 k hs2 hk)
