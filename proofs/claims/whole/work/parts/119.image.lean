/-! back, image -/
theorem si_k {st : HSt} {S i : Nat} (w : Wf st) (k : gK st S = 9) (h0 : 0 < i) (h : i ≤ 12) : gK st (S + i) ≠ 9 ∧ gK st (S + i) ≠ 0 := by
  obtain ⟨k1, k11, k12, -⟩ := w.2.2.2 S k
  obtain ⟨k2, K, -⟩ := w.1 (S + 1) k1
  rcases (by omega : i = 1 ∨ i = 2 ∨ i = 11 ∨ i = 12 ∨ (3 ≤ i ∧ i ≤ 10)) with e | e | e | e | e
  · rw [e, k1]; omega
  · rw [e, show S + 2 = S + 1 + 1 from rfl, k2]; omega
  · rw [e, k11]; omega
  · rw [e, k12]; omega
  · have := K (i - 1) (by omega) (by omega)
    rw [show S + 1 + (i - 1) = S + i by omega] at this
    rw [this]; omega
theorem si_ne {st : HSt} {S S2 : Nat} (w : Wf st) (k : gK st S = 9) (k2 : gK st S2 = 9) (h : S ≠ S2) : S + 12 < S2 ∨ S2 + 12 < S := by
  rcases (by omega : S + 12 < S2 ∨ S2 + 12 < S ∨ (S < S2 ∧ S2 ≤ S + 12) ∨ (S2 < S ∧ S ≤ S2 + 12)) with q | q | q | q
  · exact Or.inl q
  · exact Or.inr q
  · have := (si_k (i := S2 - S) w k (by omega) (by omega)).1
    rw [show S + (S2 - S) = S2 by omega, k2] at this; exact absurd rfl this
  · have := (si_k (i := S - S2) w k2 (by omega) (by omega)).1
    rw [show S2 + (S - S2) = S by omega, k] at this; exact absurd rfl this
def Sb (S b : Nat) : Prop := b = S ∨ Sx (S + 1) b ∨ b = S + 11 ∨ b = S + 12
theorem sb_in {S b : Nat} (h : Sb S b) : S ≤ b ∧ b ≤ S + 12 ∧ (b ≤ S + 1 ∨ S + 8 ≤ b) := by unfold Sb Sx at h; omega
theorem cntH_c {g g2 : Nat → Int32} : ∀ n, (∀ i, i < n → g i = g2 i) → cntH g n = cntH g2 n
  | 0, _ => rfl
  | n + 1, h => by unfold cntH; rw [cntH_c n (fun i hi => h i (by omega)), h n (by omega)]
theorem sb_riv {st : HSt} {S r j : Nat} (w : Wf st) (k : gK st S = 9) (kr : gK st r = 5) (hj : j < 6) : ¬ Sb S (r + j) := fun z => by
  have kS1 := (w.2.2.2 S k).1
  rcases z with z | z | z | z
  · rcases Nat.eq_zero_or_pos j with e | e
    · subst e; have z' : r = S := z; rw [z', k] at kr; cases kr
    · have := (w.2.1 r kr).1 j e hj; rw [z, k] at this; cases this
  · exact rv_out w kS1 kr hj z
  · have hS : ∀ i, 0 < i → i ≤ 12 → i ≠ 2 → r ≠ S + i := fun i h0 hi h2 e => by
      obtain ⟨k1, k11, k12, -⟩ := w.2.2.2 S k
      obtain ⟨-, K, -⟩ := w.1 (S + 1) k1
      rcases (by omega : i = 1 ∨ i = 11 ∨ i = 12 ∨ (3 ≤ i ∧ i ≤ 10)) with q | q | q | q
      · rw [e, q, k1] at kr; cases kr
      · rw [e, q, k11] at kr; cases kr
      · rw [e, q, k12] at kr; cases kr
      · have := K (i - 1) (by omega) (by omega)
        rw [show S + 1 + (i - 1) = r by omega, kr] at this; cases this
    exact hS (11 - j) (by omega) (by omega) (by omega) (by omega)
  · have hS : ∀ i, 0 < i → i ≤ 12 → i ≠ 2 → r ≠ S + i := fun i h0 hi h2 e => by
      obtain ⟨k1, k11, k12, -⟩ := w.2.2.2 S k
      obtain ⟨-, K, -⟩ := w.1 (S + 1) k1
      rcases (by omega : i = 1 ∨ i = 11 ∨ i = 12 ∨ (3 ≤ i ∧ i ≤ 10)) with q | q | q | q
      · rw [e, q, k1] at kr; cases kr
      · rw [e, q, k11] at kr; cases kr
      · rw [e, q, k12] at kr; cases kr
      · have := K (i - 1) (by omega) (by omega)
        rw [show S + 1 + (i - 1) = r by omega, kr] at this; cases this
    exact hS (12 - j) (by omega) (by omega) (by omega) (by omega)
/-- a Site takes all of another -/
theorem h_sbecome {st : HSt} {S S2 r D : Nat} {v : Nat → Int32} (w : Wf st) (k : gK st S = 9) (I : ImR st S2 r v) (V : VOk D v) (hne : S ≠ S2) : ∃ st2, fh_X8_become S (some S2) st = some st2 ∧ ImR st2 S r v ∧ Fr (Sb S) st st2 := by
  obtain ⟨i1, i2, i3, i4, i5⟩ := I
  have k2 := i2.1
  have far := si_ne w k k2 hne
  obtain ⟨k1, k11, k12, r800', r803, l11, r804, l12⟩ := w.2.2.2 S k
  obtain ⟨k1b, k11b, k12b, r800b, r803b, l11b, r804b, l12b⟩ := w.2.2.2 S2 k2
  obtain ⟨s1, e1, S1, F1⟩ := h_become (a := S + 1) (b := S2 + 1) w k1 i1 V (by omega)
  have nx : ∀ j, j ≤ 12 → ¬ Sx (S + 1) (S2 + j) := fun j hj z => by unfold Sx at z; omega
  have nS : ∀ j, j = 0 ∨ j = 11 ∨ j = 12 → ¬ Sx (S + 1) (S + j) := fun j hj z => by unfold Sx at z; omega
  let s2 := sI (sI s1 801 S (gI s1 801 S2)) 802 S (gI (sI s1 801 S (gI s1 801 S2)) 802 S2)
  have F2 : Fr (fun b => b = S) s1 s2 := Fr.tr (b := sI s1 801 S (gI s1 801 S2)) (Fr.sI rfl) (Fr.sI rfl)
  have g11 : gA s2 (S2 + 11) = gA st (S2 + 11) := (F2.A (by omega)).trans (F1.A (nx 11 (by omega)))
  let s3 := sAf s2 (S + 11) (va_cpy (gA s2 (S2 + 11)) (gA s2 (S + 11)) 0 0 16)
  let s4 := sAf s3 (S + 12) (va_cpy (gA s3 (S2 + 12)) (gA s3 (S + 12)) 0 0 80)
  have F3 : Fr (fun b => b = S + 11) s2 s3 := Fr.sAf rfl
  have F4 : Fr (fun b => b = S + 12) s3 s4 := Fr.sAf rfl
  have g12 : gA s3 (S2 + 12) = gA st (S2 + 12) := ((F3.A (by omega)).trans (F2.A (by omega))).trans (F1.A (nx 12 (by omega)))
  have FA : Fr (Sb S) st s4 := (((F1.mo (fun b z => Or.inr (Or.inl z))).tr (F2.mo (fun b z => Or.inl z))).tr (F3.mo (fun b z => Or.inr (Or.inr (Or.inl z))))).tr (F4.mo (fun b z => Or.inr (Or.inr (Or.inr z))))
  have Fr24 : Fr (fun b => b = S ∨ b = S + 11 ∨ b = S + 12) s1 s4 := ((F2.mo (fun b z => Or.inl z)).tr (F3.mo (fun b z => Or.inr (Or.inl z)))).tr (F4.mo (fun b z => Or.inr (Or.inr z)))
  have w1 := F1.Wf w
  have kS1 : gK s1 S = 9 := (F1.K S).trans k
  have S4 : SpR s4 (S + 1) r v := S1.fr V Fr24 (by omega) (by omega) (by omega) (by omega) (fun j hj z => sb_riv w1 kS1 S1.2.1.1 hj (by rcases z with z | z | z; exact Or.inl z; exact Or.inr (Or.inr (Or.inl z)); exact Or.inr (Or.inr (Or.inr z))))
  have i801 : gI s2 801 S = v 5 := by
    show gI (sI (sI s1 801 S (gI s1 801 S2)) 802 S (gI (sI s1 801 S (gI s1 801 S2)) 802 S2)) 801 S = _
    rw [gI_sI_ne (Or.inl (by omega)), gI_sI, F1.I 801 (q := S2) (nx 0 (by omega))]; exact i3
  have i802 : gI s2 802 S = gI st 802 S2 := by
    show gI (sI (sI s1 801 S (gI s1 801 S2)) 802 S (gI (sI s1 801 S (gI s1 801 S2)) 802 S2)) 802 S = _
    rw [gI_sI, gI_sI_ne (Or.inl (by omega)), F1.I 802 (q := S2) (nx 0 (by omega))]
  have a11 : ∀ i, i < 16 → gA s4 (S + 11) i = gA st (S2 + 11) i := fun i hi => by
    rw [F4.A (by omega), show gA s3 (S + 11) = va_cpy (gA s2 (S2 + 11)) (gA s2 (S + 11)) 0 0 16 from gA_self, pk_cpy_in (by omega) (by omega), g11]
    exact congrArg _ (by omega)
  have a12 : ∀ i, i < 80 → gA s4 (S + 12) i = gA st (S2 + 12) i := fun i hi => by
    rw [show gA s4 (S + 12) = va_cpy (gA s3 (S2 + 12)) (gA s3 (S + 12)) 0 0 80 from gA_self, pk_cpy_in (by omega) (by omega), g12]
    exact congrArg _ (by omega)
  refine ⟨s4, ?_, ⟨S4, ⟨(FA.K S).trans k, fun s j hs hj => by rw [a11 _ (by omega)]; exact i2.2 s j hs hj⟩, ?_, i4, ?_, fun z => ?_⟩, FA⟩
  · have ck : ∀ m, m < 1000 → cpyok (0 : Int32) (0 : Int32) (nI m) m m = true := fun m hm => by
      unfold cpyok
      rw [nI_clamp (by omega), cln0]
      exact decide_eq_true ⟨by decide, by decide, nI_pos (by omega), by omega, by omega⟩
    unfold fh_X8_become
    rw [chk_t (isk_t k), dr_of k2, bs_, r800', dr_of k1, bs_, r800b, e1, bs_, chk_t (isk_t ((F1.K _).trans k2)), chk_t (isk_t kS1), bs_]
    show ((dr s2 (gR s2 803 S) 22).bind _) = _
    have hR : ∀ f q, fin f = true → gR s2 f q = gR st f q := fun f q hf => (F2.R (f := f) q hf).trans (F1.R (f := f) q hf)
    have hK : ∀ q, gK s2 q = gK st q := fun q => (F2.K q).trans (F1.K q)
    have hL : ∀ q, gL s2 q = gL st q := fun q => (F2.L q).trans (F1.L q)
    rw [hR 803 S rfl, r803, dr_of ((hK _).trans k11), bs_, hR 803 S2 rfl, r803b, dr_of ((hK _).trans k11b), bs_, hL, l11, hL, l11b, chk_t (ck 16 (by omega)), bs_, cln0, nI_clamp (by omega)]
    show ((dr s3 (gR s3 804 S) 22).bind _) = _
    rw [(F3.R (f := 804) S rfl).trans (hR 804 S rfl), r804, dr_of ((F3.K _).trans ((hK _).trans k12)), bs_, (F3.R (f := 804) S2 rfl).trans (hR 804 S2 rfl), r804b, dr_of ((F3.K _).trans ((hK _).trans k12b)), bs_, (F3.L _).trans (hL _), l12, (F3.L _).trans (hL _), l12b, chk_t (ck 80 (by omega)), bs_, nI_clamp (by omega)]
  · exact ((F4.I 801 (by omega)).trans (F3.I 801 (by omega))).trans i801
  · intro z; rw [((F4.I 802 (by omega)).trans (F3.I 802 (by omega))).trans i802]; exact i5.1 z
  · obtain ⟨b1, b2, b3⟩ := i5.2 z
    refine ⟨(((F4.I 802 (by omega)).trans (F3.I 802 (by omega))).trans i802).trans b1, (cntH_c 80 a12).trans b2, fun s p hs hp => ?_⟩
    rw [a12 _ (by omega)]; exact b3 s p hs hp
theorem m_backL {ms : MSt} {k : Nat} (hk : k < 4) : ∃ ms2, (iter (fun x : (Int32 × MSt) => fm_back_s25 (nI k) x.1 x.2) mFuel ((0 : Int32), ms)).bind (Sum.elim (fun o : MSt × Int32 => (some o : Option (MSt × Int32))) (fun x : (Int32 × MSt) => fm_back_j56 x.2)) = some (ms2, ms2.2.1 26 1) ∧ (∀ i, i < 286 → ms2.2.1 26 i = imV ms k i) ∧ MF (fun k => k == 26) ms ms2 := by
  obtain ⟨y, e, h1, F⟩ : ∃ y : Int32 × MSt, iter (fun a : (Int32 × MSt) => fm_back_s25 (nI k) a.1 a.2) mFuel ((0 : Int32), ms) = some (.inr y) ∧ (∀ i, i < 286 → y.2.2.1 26 i = imV ms k i) ∧ MF (fun k => k == 26) ms y.2 := by
    refine iter_n (fun j (a : Int32 × MSt) => a.1 = nI j ∧ (∀ i, i < j → a.2.2.1 26 i = imV ms k i) ∧ MF (fun k => k == 26) ms a.2) 286 _ ?_ ?_ ⟨rfl, fun _ q => absurd q (Nat.not_lt_zero _), MF.rf⟩ (by omega)
    · rintro j ⟨i, s⟩ hj ⟨hi, h, F⟩
      simp only at hi h F
      subst hi
      refine ⟨(nI (j + 1), msa s 26 j (s.2.1 40 (286 * k + j))), ?_, rfl, fun i hi => ?_, F.tr (MF.msa rfl)⟩
      · show fm_back_s25 (nI k) (nI j) s = _
        unfold fm_back_s25
        rw [if_neg (show ¬ (286 : Int32) ≤ nI j from nI_ge (b := 286) hj (by omega)), n286, chk_t (inb_n (by omega) (by omega)), chk_t (inb_n hj (by omega)), nI_clamp (by omega), nI_clamp (by omega), nI_1]
      · show (msa s 26 j (s.2.1 40 (286 * k + j))).2.1 26 i = _
        rw [msa_s, F.A 40 rfl]
        by_cases q : i = j
        · rw [q, pk_us]; rfl
        · rw [pk_un q]; exact h i (by omega)
    · rintro ⟨i, s⟩ ⟨hi, h, F⟩
      simp only at hi h F
      subst hi
      refine ⟨(nI 286, s), ?_, h, F⟩
      show fm_back_s25 (nI k) (nI 286) s = _
      unfold fm_back_s25
      rw [if_pos (by decide)]
  refine ⟨y.2, ?_, h1, F⟩
  rw [e]
  show fm_back_j56 y.2 = _
  unfold fm_back_j56
  rw [chk_t (by decide), cln1]
theorem sim_back : Sim1 Rel fh_X11_back fm_back := sim1_of (fun hx st ms a R => by
  have R0 := R
  obtain ⟨t, nr, r, w, hi, h, p, T, U, I, V, J⟩ := R
  unfold fh_X11_back fm_back
  rw [h_in (L := 0) (U := 3) (by decide) (by decide), bs_, m_in (L := 0) (U := 3) (by decide) (by decide), bs_]
  dsimp only
  rcases wI_c a 0 3 with ⟨e1, l1⟩ | ⟨e1, l1, l2⟩
  · rw [e1]
    exact ⟨(st, -1), (ms, -1), rfl, rfl, rfl, R0⟩
  obtain ⟨k, hk, rfl⟩ := n_of (a := a) (U := 3) l1 l2
  have k16 : gK st (hx + 16) = 26 := h.k (by omega) rfl
  rw [e1, if_neg (show ¬ (1 : Int32) = 0 by decide), if_neg (show ¬ (1 : Int32) = 0 by decide), chk_t (st_k h), h.2.1.2.2.2.2.2.1, dr_of k16, bs_, h.2.1.2.2.2.2.2.2.1, chk_t (inb_n (by omega) (by omega)), chk_t (inb_n (by omega) (by omega)), chk_t (inb_n (by omega) (by omega)), nI_clamp (by omega)]
  rcases J.1 k (by omega) with ⟨j1, j2⟩ | ⟨S, rS, j1, j2, IS, VS, hS⟩
  · rw [j1, if_pos rfl, j2, if_pos rfl]
    exact ⟨(st, -1), (ms, -1), rfl, rfl, rfl, R0⟩
  · rw [j1, if_neg (by intro z; cases z), j2, if_neg (show ¬ (1 : Int32) = 0 by decide), bs_, st_site h, bs_]
    obtain ⟨s2, e2, I2, F2⟩ := h_sbecome w (k3 h) IS VS (fun z => hS z.symm)
    obtain ⟨m2, g2, G2, M2⟩ := m_backL (ms := ms) (k := k) (by omega)
    have h2 := h.fr F2
    have w2 := F2.Wf w
    have A : Ag (imV ms k) (m2.2.1 26) := G2
    rw [e2, bs_, g2, chk_t (st_k h2), st_site h2, bs_, st_span w2 (k3 h2), bs_]
    refine ⟨_, _, rfl, rfl, ?_, R0.si (r := rS) (F2.mo (fun b z => ?_)) (M2.mo mX26_q) (I2.ag A VS) (VS.ag A)⟩
    · dsimp only
      rw [I2.1.2.2.2.1, G2 1 (by omega)]
    · have := sb_in z; unfold Sb Sx at z; unfold Si; omega)
