/-! err, miss, yard, tip, count -/
theorem n_ne {a : Int32} {k : Nat} {L U : Int} (h : ¬ (L ≤ a.toInt ∧ a.toInt ≤ U)) (hk : L ≤ (k : Int) ∧ (k : Int) ≤ U) (h31 : k < 2 ^ 31) {z : Int32} (hz : z = nI k) : ¬ a = z := fun e => by
  rw [e, hz, nI_toInt h31] at h; exact h hk
theorem sim_miss : Sim1 Rel fh_X11_miss fm_miss := sim1_of (fun hx st ms a R => by
  have R0 := R
  obtain ⟨t, nr, r, w, hi, h, p, T, U, I, V, J⟩ := R
  obtain ⟨w0, y, d, sp, fl, h0, h6, h1, h2, h4, hw0, hy, hd, hsp, -⟩ := id V
  have k9 : gK st (hx + 3) = 9 := h.k (by omega) rfl
  unfold fh_X11_miss fm_miss
  rw [chk_t (st_k h), h_hasR w h I.1, bs_, m_river rfl, bs_]
  dsimp only
  by_cases hr : ms.2.1 26 0 ≤ 0
  · rw [if_pos hr]
    exact ⟨(st, -1), (ms, -1), rfl, rfl, rfl, R0⟩
  · rw [if_neg hr, if_neg (show ¬ (1 : Int32) = 0 by decide), if_neg (show ¬ (1 : Int32) = 0 by decide), chk_t (st_k h), st_site h, bs_, m_in (L := 0) (U := 3) (by decide) (by decide), bs_, st_span w k9]
    simp only [bs_]
    rcases wI_c a 0 3 with ⟨e1, l1⟩ | ⟨e1, l1, l2⟩
    · rw [e1, if_pos rfl, if_neg (n_ne (k := 0) (z := 0) l1 (by omega) (by omega) rfl), if_neg (n_ne (k := 1) (z := 1) l1 (by omega) (by omega) rfl), if_neg (n_ne (k := 2) (z := 2) l1 (by omega) (by omega) rfl), if_neg (n_ne (k := 3) (z := 3) l1 (by omega) (by omega) rfl)]
      exact ⟨(st, -1), (ms, -1), rfl, rfl, rfl, R0⟩
    · rw [e1, if_neg (show ¬ (1 : Int32) = 0 by decide), h_missL w I.1 V, h_missH w I.1 V, h_met w I.1, h_time w I.1 V, m_met rfl, m_time' rfl V]
      simp only [bs_]
      obtain ⟨n, hn, rfl⟩ := n_of (U := 3) l1 l2
      rcases (by omega : n = 0 ∨ n = 1 ∨ n = 2 ∨ n = 3) with rfl | rfl | rfl | rfl
      · rw [m_miss (w := 0) rfl (h6 0 (by omega)) (h6 1 (by omega)) (by omega) (by omega) rfl (by omega)]
        exact ⟨(st, _), (ms, _), rfl, rfl, rfl, R0⟩
      · rw [m_miss (w := 1) rfl (h6 0 (by omega)) (h6 1 (by omega)) (by omega) (by omega) rfl (by omega)]
        exact ⟨(st, _), (ms, _), rfl, rfl, rfl, R0⟩
      · refine ⟨(st, if (if pGap (ms.2.1 26) = 0 then (1 : Int32) else 0) = 0 then 0 else 1), (ms, if (if pGap (ms.2.1 26) = 0 then (1 : Int32) else 0) = 0 then 0 else 1), ?_, ?_, rfl, R0⟩
        · show (if (if pGap (ms.2.1 26) = 0 then (1 : Int32) else 0) = 0 then some (st, (0 : Int32)) else some (st, (1 : Int32))) = _
          split <;> rfl
        · show (if (if pGap (ms.2.1 26) = 0 then (1 : Int32) else 0) = 0 then some (ms, (0 : Int32)) else some (ms, (1 : Int32))) = _
          split <;> rfl
      · refine ⟨(st, if pTm (ms.2.1 26) = 0 then 0 else 1), (ms, if pTm (ms.2.1 26) = 0 then 0 else 1), ?_, ?_, rfl, R0⟩
        · show (if pTm (ms.2.1 26) = 0 then some (st, (0 : Int32)) else some (st, (1 : Int32))) = _
          split <;> rfl
        · show (if pTm (ms.2.1 26) = 0 then some (ms, (0 : Int32)) else some (ms, (1 : Int32))) = _
          split <;> rfl)
theorem sim_err : Sim3 Rel fh_X11_err fm_err := sim3_of (fun hx st ms a b c R => by
  have R0 := R
  obtain ⟨t, nr, r, w, hi, h, p, T, U, I, V, J⟩ := R
  have k9 : gK st (hx + 3) = 9 := h.k (by omega) rfl
  unfold fh_X11_err fm_err
  rw [chk_t (st_k h), h_hasR w h I.1, bs_, m_river rfl, bs_]
  dsimp only
  by_cases hr : ms.2.1 26 0 ≤ 0
  · rw [if_pos hr]
    exact ⟨(st, -100000), (ms, -100000), rfl, rfl, rfl, R0⟩
  · rw [if_neg hr, if_neg (show ¬ (1 : Int32) = 0 by decide), if_neg (show ¬ (1 : Int32) = 0 by decide), h_side, bs_, m_side, bs_]
    dsimp only
    rcases sd_c a with e | ⟨e, s, hs, rfl⟩
    · rw [e]
      exact ⟨(st, -100000), (ms, -100000), rfl, rfl, rfl, R0⟩
    · rw [e, if_neg (show ¬ (1 : Int32) = 0 by decide), if_neg (show ¬ (1 : Int32) = 0 by decide), h_in (L := 0) (U := 7) (by decide) (by decide), bs_, m_in (L := 0) (U := 7) (by decide) (by decide), bs_]
      dsimp only
      rcases wI_c b 0 7 with ⟨e1, l1⟩ | ⟨e1, l1, l2⟩
      · rw [e1]
        exact ⟨(st, -100000), (ms, -100000), rfl, rfl, rfl, R0⟩
      · rw [e1, if_neg (show ¬ (1 : Int32) = 0 by decide), if_neg (show ¬ (1 : Int32) = 0 by decide), h_in (L := -9) (U := 9) (by decide) (by decide), bs_, m_in (L := -9) (U := 9) (by decide) (by decide), bs_]
        dsimp only
        rcases wI_c c (-9) 9 with ⟨e2, l3⟩ | ⟨e2, l3, l4⟩
        · rw [e2]
          exact ⟨(st, -100000), (ms, -100000), rfl, rfl, rfl, R0⟩
        · obtain ⟨n, hn, rfl⟩ := n_of (U := 7) l1 l2
          have e30 : (30 : Int32) + 8 * nI s + nI n = nI (30 + 8 * s + n) := by show nI 30 + nI 8 * nI s + _ = _; rw [pk_mul, nI_add, nI_add]
          obtain ⟨-, K11, -, -, R803, L11, -⟩ := w.2.2.2 (hx + 3) k9
          have fm : fh_J9_floorMod_7cf53 (nI n) 8 st = some (st, nI n) := by
            unfold fh_J9_floorMod_7cf53
            rw [chk_t (by decide), if_pos (xor_pos (nI_pos' (by omega)) (by decide))]
            have : nI n - nI n / 8 * 8 = nI (n % 8) := pk_rem (d := 8) (by omega) (by omega) (by omega)
            rw [this, show n % 8 = n by omega]
          have e8 : nI s * 8 + nI n = nI (8 * s + n) := by
            show nI s * nI 8 + _ = _
            rw [pk_mul, nI_add, Nat.mul_comm]
          rw [e2, if_neg (show ¬ (1 : Int32) = 0 by decide), if_neg (show ¬ (1 : Int32) = 0 by decide), e30, chk_t (inb_n (by omega) (by omega)), chk_t (inb_n (by omega) (by omega)), nI_clamp (n := 30 + 8 * s + n) (by omega), chk_t (st_k h), st_site h, bs_]
          unfold fh_X8_tellError
          rw [chk_t (isk_t k9), h_errorOn (s := s) (d := n) w I.2.1 rfl hs rfl (by omega), bs_]
          dsimp only
          rw [chk_t (isk_t k9), fm, bs_]
          dsimp only
          rw [R803, dr_of K11, bs_, L11, e8, chk_t (inb_n (by omega) (by omega)), nI_clamp (by omega), bs_, show n % 8 = n by omega]
          have F : Fr (fun b => b = hx + 3 ∨ b = hx + 14 ∨ b = hx + 15) st (sA st (hx + 3 + 11) (8 * s + n) c) := Fr.sA (Or.inr (Or.inl (by omega)))
          have ez : ∀ i, i ≠ 30 + 8 * s + n → (msa ms 26 (30 + 8 * s + n) c).2.1 26 i = ms.2.1 26 i := fun i hi => by rw [msa_s, pk_un hi]
          have es : (msa ms 26 (30 + 8 * s + n) c).2.1 26 (30 + 8 * s + n) = c := by rw [msa_s, pk_us]
          have A2 : Ag2 (ms.2.1 26) ((msa ms 26 (30 + 8 * s + n) c).2.1 26) := fun i _ h5 h6 => ez i (by omega)
          obtain ⟨i1, i2, i3, i4, i5⟩ := I
          refine ⟨_, _, rfl, rfl, rfl, R0.si (r := r) (F.mo (fun b q => by unfold Si; omega)) (MF.msa rfl) ⟨(sp_si w h i1 V F).ag2 A2 V, ⟨i2.1, fun s2 k hs2 hk => ?_⟩, ?_, ?_, ?_⟩ (V.ag2 A2 (fun s2 k hs2 hk => ?_))⟩
          · dsimp only
            rw [gA_sA]
            by_cases q : s2 = s ∧ k = n
            · obtain ⟨rfl, rfl⟩ := q
              rw [pk_us, es]
            · rw [pk_un (by omega), ez _ (by omega)]; exact i2.2 s2 k hs2 hk
          · rw [ez _ (by omega)]; exact i3
          · rw [ez _ (by omega)]; exact i4
          · refine RnR.ag5 (ez 0 (by omega)) (fun k _ => ez (46 + k) (by omega)) ?_
            unfold RnR at *
            dsimp only
            rw [gA_sA_ne (by omega), gI_sA]; exact i5
          · by_cases q : s2 = s ∧ k = n
            · obtain ⟨rfl, rfl⟩ := q
              rw [es]; exact ⟨l3, l4⟩
            · rw [ez _ (by omega)]; exact V.er s2 k hs2 hk)
theorem sim_yard : Sim3 Rel fh_X11_yard fm_yard := sim3_of (fun hx st ms a b c R => by
  have R0 := R
  obtain ⟨t, nr, r, w, hi, h, p, T, U, I, V, J⟩ := R
  obtain ⟨w0, y, d, sp, fl, h0, h6, h1, h2, h4, hw0, hy, hd, hsp, -⟩ := id V
  have k9 : gK st (hx + 3) = 9 := h.k (by omega) rfl
  have k10 := I.1.2.2.1
  unfold fh_X11_yard fm_yard
  rw [chk_t (st_k h), st_site h, bs_, h_side, bs_, m_river rfl, bs_, m_side, bs_]
  dsimp only
  rcases sd_c a with e | ⟨e, s, hs, rfl⟩
  · rw [e, if_pos rfl, if_pos rfl]
    refine ⟨(st, -100000), (ms, -100000), rfl, ?_, rfl, R0⟩
    split <;> rfl
  · have hys : y s ≤ 40 := by rcases (by omega : s = 0 ∨ s = 1) with rfl | rfl <;> omega
    rw [e, if_neg (show ¬ (1 : Int32) = 0 by decide), if_neg (show ¬ (1 : Int32) = 0 by decide)]
    by_cases hb : b < 0
    · rw [if_pos hb, if_pos hb]
      refine ⟨(st, -100000), (ms, -100000), rfl, ?_, rfl, R0⟩
      split <;> rfl
    · rw [if_neg hb, if_neg hb, st_span w k9, bs_, h_yardsOf w I.1 rfl hs, bs_, n6, chk_t (inb_n (by omega) (by omega)), nI_clamp (by omega)]
      dsimp only
      obtain ⟨n, hn, rfl⟩ := nI_of hb
      rw [h6 s hs]
      by_cases hny : n < y s
      · have hr : ¬ ms.2.1 26 0 ≤ 0 := by
          intro q
          rw [h0] at q
          have := (nI_leI (a := w0) (b := 0) (by omega) (by omega)).mp q
          have : y s = 0 := by rcases (by omega : s = 0 ∨ s = 1) with rfl | rfl <;> omega
          omega
        rw [if_pos (nI_lt hny (by omega)), if_neg (nI_ge hny (by omega)), if_neg hr, if_neg (show ¬ (1 : Int32) = 0 by decide), m_in (L := 0) (U := 3) (by decide) (by decide), bs_, chk_t (isk_t k10), chk_t (isk_t k10), chk_t (isk_t k10), chk_t (isk_t k10), h_lineAt (k := n + 1) w I.1 rfl hs (h6 s hs) hys (by rw [nI_pred]) (by omega), h_heightAt (k := n + 1) w I.1 rfl hs (h6 s hs) hys (by rw [nI_pred]) (by omega), bs_, bs_, bs_, bs_]
        dsimp only
        rw [chk_t (isk_t k10), chk_t (isk_t k10), h_lineAt (k := n) w I.1 rfl hs (h6 s hs) hys rfl (by omega), h_heightAt (k := n) w I.1 rfl hs (h6 s hs) hys rfl (by omega), bs_, bs_]
        rcases wI_c c 0 3 with ⟨e1, l1⟩ | ⟨e1, l1, l2⟩
        · rw [e1, if_pos rfl, if_neg (n_ne (k := 0) (z := 0) l1 (by omega) (by omega) rfl), if_neg (n_ne (k := 1) (z := 1) l1 (by omega) (by omega) rfl), if_neg (n_ne (k := 2) (z := 2) l1 (by omega) (by omega) rfl), if_neg (n_ne (k := 3) (z := 3) l1 (by omega) (by omega) rfl)]
          exact ⟨(st, -100000), (ms, -100000), rfl, rfl, rfl, R0⟩
        · rw [e1, if_neg (show ¬ (1 : Int32) = 0 by decide)]
          obtain ⟨m, hm, rfl⟩ := n_of (U := 3) l1 l2
          rcases (by omega : m = 0 ∨ m = 1 ∨ m = 2 ∨ m = 3) with rfl | rfl | rfl | rfl
          · rw [if_neg (show ¬ (2 : Int32) ≤ nI 0 by decide), m_yardOf (k := n + 1) (w := 0) rfl rfl hs (by rw [nI_pred]) (by omega) rfl (by omega)]
            exact ⟨(st, _), (ms, _), rfl, rfl, rfl, R0⟩
          · rw [if_neg (show ¬ (2 : Int32) ≤ nI 1 by decide), m_yardOf (k := n + 1) (w := 1) rfl rfl hs (by rw [nI_pred]) (by omega) rfl (by omega)]
            exact ⟨(st, _), (ms, _), rfl, rfl, rfl, R0⟩
          · rw [if_pos (show (2 : Int32) ≤ nI 2 by decide), m_moreOf (k := n) (w := 0) rfl rfl hs rfl (by omega) (show nI 2 - 2 = nI 0 by decide) (by omega)]
            exact ⟨(st, _), (ms, _), rfl, rfl, rfl, R0⟩
          · rw [if_pos (show (2 : Int32) ≤ nI 3 by decide), m_moreOf (k := n) (w := 1) rfl rfl hs rfl (by omega) (show nI 3 - 2 = nI 1 by decide) (by omega)]
            exact ⟨(st, _), (ms, _), rfl, rfl, rfl, R0⟩
      · rw [if_neg (nI_nlt (by omega) hn), if_pos (nI_le (by omega) hn)]
        refine ⟨(st, -100000), (ms, -100000), rfl, ?_, rfl, R0⟩
        split <;> rfl)
