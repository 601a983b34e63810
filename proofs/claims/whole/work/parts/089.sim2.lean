/-! more reads of a Span (class); the first methods: leap, seed, end, feed, pull, build, err, miss, yard, tip -/
section SPANQ
variable {st : HSt} {a r D : Nat} {v : Nat → Int32}
theorem h_missL (w : Wf st) (h : SpR st a r v) (V : VOk D v) : fh_X9_missOfLines a st = some (st, pMiss v 0) := by
  obtain ⟨w0, y, d, sp, fl, h0, h6, h1, h2, h4, hw0, hy, -⟩ := V
  unfold fh_X9_missOfLines
  rw [chk_t (isk_t h.2.2.1), h_tipL (s := 0) (x := 0) w h rfl (by omega) (h6 0 (by omega)) (by omega), bs_]
  dsimp only
  rw [chk_t (isk_t h.2.2.1), h_tipL (s := 1) (x := 1) w h rfl (by omega) (h6 1 (by omega)) (by omega), bs_]
  rfl
theorem h_missH (w : Wf st) (h : SpR st a r v) (V : VOk D v) : fh_X9_missOfHeights a st = some (st, pMiss v 1) := by
  obtain ⟨w0, y, d, sp, fl, h0, h6, h1, h2, h4, hw0, hy, -⟩ := V
  unfold fh_X9_missOfHeights
  rw [chk_t (isk_t h.2.2.1), h_tipH (s := 0) (x := 0) w h rfl (by omega) (h6 0 (by omega)) (by omega), bs_]
  dsimp only
  rw [chk_t (isk_t h.2.2.1), h_tipH (s := 1) (x := 1) w h rfl (by omega) (h6 1 (by omega)) (by omega), bs_]
  rfl
def pTm (v : Nat → Int32) : Int32 := if pGap v = 0 then (if v 3 < pMiss v 0 then 0 else if v 3 < pMiss v 1 then 0 else 1) else 0
theorem h_time (w : Wf st) (h : SpR st a r v) (V : VOk D v) : fh_X9_isInTime a st = some (st, pTm v) := by
  unfold fh_X9_isInTime pTm
  rw [chk_t (isk_t h.2.2.1), h_met w h, bs_]
  dsimp only
  by_cases hg : pGap v = 0
  · rw [if_pos hg, if_pos hg, if_neg (by decide), chk_t (isk_t h.2.2.1), h_missL w h V, bs_]
    dsimp only
    rw [chk_t (isk_t h.2.2.1), st_riv h, bs_, h.2.1.2.2.2.1]
    by_cases hm : v 3 < pMiss v 0
    · rw [if_pos hm, if_pos hm]
    · rw [if_neg hm, if_neg hm, h_missH w h V, bs_]
      dsimp only
      rw [chk_t (isk_t h.2.2.1), st_riv h, bs_, h.2.1.2.2.2.1]
      split <;> rfl
  · rw [if_neg hg, if_neg hg, if_pos rfl]
theorem h_crook {s y : Nat} {x : Int32} (w : Wf st) (h : SpR st a r v) (hx : x = nI s) (hs : s < 2) (hv : v (6 + s) = nI y) (hy40 : y ≤ 40) : fh_X9_crookedness a x st = some (st, pCrk v s y) := by
  subst hx
  have k10 := h.2.2.1
  obtain ⟨-, K, R2, L2, -⟩ := w.1 a k10
  have hy7 := h.2.2.2.2.1 s hs
  obtain ⟨z, e, h1, h2⟩ : ∃ z : Int32 × Int32 × HSt, iter (fun x : (Int32 × Int32 × HSt) => fh_X9_crookedness_s4 a (nI s) x.1 x.2.1 x.2.2) mFuel ((0 : Int32), (0 : Int32), st) = some (.inr z) ∧ z.1 = pCrk v s y ∧ z.2.2 = st := by
    refine iter_n (fun k (x : Int32 × Int32 × HSt) => x.1 = pCrk v s k ∧ x.2.1 = nI k ∧ x.2.2 = st) y _ ?_ ?_ ⟨rfl, rfl, rfl⟩ (by omega)
    · rintro k ⟨q, i, m⟩ hk ⟨hq, hi, hm⟩
      simp only at hq hi hm
      subst hq; subst hi; subst hm
      refine ⟨(pCrk v s (k + 1), nI (k + 1), m), ?_, rfl, rfl, rfl⟩
      show fh_X9_crookedness_s4 a (nI s) (pCrk v s k) (nI k) m = _
      unfold fh_X9_crookedness_s4
      rw [chk_t (isk_t k10), R2, dr_of (K 7 (by omega) (by omega)), bs_, L2, chk_t (inb_n hs (by omega)), nI_clamp (by omega), hy7, hv, if_neg (nI_ge hk (by omega)), h_lineAt (k := k + 1) w h rfl hs hv hy40 (by rw [nI_pred]) (by omega), bs_]
      dsimp only
      rw [chk_t (isk_t k10), h_lineAt (k := k) w h rfl hs hv hy40 rfl (by omega), bs_]
      dsimp only
      rw [chk_t (isk_t k10), h_heightAt (k := k + 1) w h rfl hs hv hy40 (by rw [nI_pred]) (by omega), bs_]
      dsimp only
      rw [chk_t (isk_t k10), h_heightAt (k := k) w h rfl hs hv hy40 rfl (by omega), bs_, nI_1]
      rfl
    · rintro ⟨q, i, m⟩ ⟨hq, hi, hm⟩
      simp only at hq hi hm
      subst hq; subst hi; subst hm
      refine ⟨(pCrk v s y, nI y, m), ?_, rfl, rfl⟩
      show fh_X9_crookedness_s4 a (nI s) (pCrk v s y) (nI y) m = _
      unfold fh_X9_crookedness_s4
      rw [chk_t (isk_t k10), R2, dr_of (K 7 (by omega) (by omega)), bs_, L2, chk_t (inb_n hs (by omega)), nI_clamp (by omega), hy7, hv, if_pos (nI_le (Nat.le_refl _) (by omega))]
  unfold fh_X9_crookedness
  rw [e]
  show fh_X9_crookedness_j62 a z.1 z.2.2 = _
  rw [h1, h2]; rfl
end SPANQ
theorem m_time' {ms : MSt} {v : Nat → Int32} {D : Nat} (hv : ms.2.1 26 = v) (V : VOk D v) : fm_isInTime ms = some (ms, pTm v) := m_time hv V
/-! states that differ where a Span does not look -/
def Ag2 (v u : Nat → Int32) : Prop := ∀ i, i < 286 → i ≠ 5 → (i < 30 ∨ 126 ≤ i) → u i = v i
theorem pAt_ag2 {v u : Nat → Int32} {s k w : Nat} (h : Ag2 v u) (hs : s < 2) (hk : k ≤ 40) (hw : w < 2) : pAt u s k w = pAt v s k w := by
  unfold pAt; rw [h (8 + 2 * s + w) (by omega) (by omega) (by omega), h (126 + 80 * w + 40 * s + (k - 1)) (by omega) (by omega) (by omega)]
theorem SpR.ag2 {st : HSt} {a r D : Nat} {v u : Nat → Int32} (h : Ag2 v u) (S : SpR st a r v) (V : VOk D v) : SpR st a r u := by
  obtain ⟨w0, y, d, sp, fl, h0, h6, h1, h2, h4, hw0, hy, hd, hsp, hfl, -⟩ := V
  obtain ⟨hr, ⟨k5, i0, i2, i3, i4, hb, hf⟩, ⟨k10, i1, hyy, hl⟩⟩ := S
  have q : ∀ i, i < 30 → i ≠ 5 → u i = v i := fun i hi h5 => h i (by omega) h5 (by omega)
  refine ⟨hr, ⟨k5, by rw [q 0 (by omega) (by omega)]; exact i0, by rw [q 2 (by omega) (by omega)]; exact i2, by rw [q 3 (by omega) (by omega)]; exact i3, by rw [q 4 (by omega) (by omega)]; exact i4, fun s hs => ?_, fun f hf2 => ?_⟩, ⟨k10, by rw [q 1 (by omega) (by omega)]; exact i1, fun s hs => ?_, fun s k hs hk => ?_⟩⟩
  · rw [q (8 + 2 * s) (by omega) (by omega), q (8 + 2 * s + 1) (by omega) (by omega), q (12 + s) (by omega) (by omega)]; exact hb s hs
  · rw [q 4 (by omega) (by omega)] at hf2
    have : f < 8 := by rw [h4, nI_clamp (by omega)] at hf2; omega
    rw [q (14 + 2 * f) (by omega) (by omega), q (14 + 2 * f + 1) (by omega) (by omega)]; exact hf f hf2
  · rw [q (6 + s) (by omega) (by omega)]; exact hyy s hs
  · have hyk : k < yN v s := by unfold yN at hk ⊢; rw [q (6 + s) (by omega) (by omega)] at hk; exact hk
    have : yN v s ≤ 40 := by rw [yN_e (h6 s hs) (by rcases (by omega : s = 0 ∨ s = 1) with rfl | rfl <;> omega)]; rcases (by omega : s = 0 ∨ s = 1) with rfl | rfl <;> omega
    rw [h (126 + 40 * s + k) (by omega) (by omega) (by omega), h (206 + 40 * s + k) (by omega) (by omega) (by omega)]; exact hl s k hs hyk
theorem VOk.ag2 {D : Nat} {v u : Nat → Int32} (h : Ag2 v u) (V : VOk D v) (hu : ∀ s k, s < 2 → k < 8 → sm9 (u (30 + 8 * s + k))) : VOk D u := by
  obtain ⟨w0, y, d, sp, fl, h0, h6, h1, h2, h4, hw0, hy, hd, hsp, hfl, he, hf, her, ht⟩ := V
  have q : ∀ i, i < 30 → i ≠ 5 → u i = v i := fun i hi h5 => h i (by omega) h5 (by omega)
  refine ⟨w0, y, d, sp, fl, by rw [q 0 (by omega) (by omega)]; exact h0, fun s hs => by rw [q (6 + s) (by omega) (by omega)]; exact h6 s hs, by rw [q 1 (by omega) (by omega)]; exact h1, by rw [q 2 (by omega) (by omega)]; exact h2, by rw [q 4 (by omega) (by omega)]; exact h4, hw0, hy, hd, hsp, hfl, fun s hs => by rw [q (12 + s) (by omega) (by omega)]; exact he s hs, fun f hf2 => by rw [q (14 + 2 * f + 1) (by omega) (by omega)]; exact hf f hf2, hu, fun s k w hs hk hw => ?_⟩
  have : y s ≤ 40 := by rcases (by omega : s = 0 ∨ s = 1) with rfl | rfl <;> omega
  rw [pAt_ag2 h hs (by omega) hw, pAt_ag2 h hs (by omega) hw]; exact ht s k w hs hk hw
theorem VOk.er {D : Nat} {v : Nat → Int32} (V : VOk D v) : ∀ s k, s < 2 → k < 8 → sm9 (v (30 + 8 * s + k)) := by
  obtain ⟨w0, y, d, sp, fl, h0, h6, h1, h2, h4, hw0, hy, hd, hsp, hfl, he, hf, her, ht⟩ := V
  exact her
theorem cntM_kp {v u : Nat → Int32} (h : KpR v u) : ∀ k, k ≤ 80 → cntM u k = cntM v k
  | 0, _ => rfl
  | k + 1, hk => by unfold cntM; rw [cntM_kp h k (by omega), h (46 + k) (by omega) (by omega) (by omega) (by omega)]
theorem RnR.kp {st : HSt} {S : Nat} {v u : Nat → Int32} (h : KpR v u) (R : RnR st S v) : RnR st S u := by
  obtain ⟨r1, r2⟩ := R
  have h0 := h 0 (by omega) (by omega) (by omega) (by omega)
  refine ⟨fun q => r1 (by rw [h0] at q; exact q), fun q => ?_⟩
  obtain ⟨a, b, c⟩ := r2 (by rw [h0] at q; exact q)
  refine ⟨by rw [cntM_kp h 80 (by omega)]; exact a, by rw [cntM_kp h 80 (by omega)]; exact b, fun s p hs hp => ?_⟩
  rw [h (46 + 40 * s + p) (by omega) (by omega) (by omega) (by omega)]; exact c s p hs hp
/-- the Span of a Site goes on -/
theorem ImR.go {X : Nat → Prop} {st st2 : HSt} {S r r2 : Nat} {v u : Nat → Int32} (I : ImR st S r v) (Sp : SpR st2 (S + 1) r2 u) (F : Fr X st st2) (h0 : ¬ X S) (h11 : ¬ X (S + 11)) (h12 : ¬ X (S + 12)) (K : KpR v u) : ImR st2 S r2 u := by
  obtain ⟨i1, i2, i3, i4, i5⟩ := I
  have h5 := K 5 (by omega) (by omega) (by omega) (by omega)
  refine ⟨Sp, i2.fr F h11 K, by rw [h5]; exact (F.I 801 h0).trans i3, by rw [h5]; exact i4, ?_⟩
  have : RnR st2 S v := by unfold RnR at *; rw [F.I 802 h0, F.A h12]; exact i5
  exact this.kp K
theorem six_out {hx : Nat} : (∀ b, Sx (hx + 3 + 1) b → Si hx b) ∧ ¬ Sx (hx + 3 + 1) (hx + 3) ∧ ¬ Sx (hx + 3 + 1) (hx + 3 + 11) ∧ ¬ Sx (hx + 3 + 1) (hx + 3 + 12) ∧ ¬ Sx (hx + 3 + 1) (hx + 27) := by
  refine ⟨fun b e => ?_, ?_, ?_, ?_, ?_⟩
  · unfold Sx at e; unfold Si; omega
  all_goals intro e; unfold Sx at e; omega
theorem SpR.fr {X : Nat → Prop} {st st2 : HSt} {a r D : Nat} {v : Nat → Int32} (S : SpR st a r v) (V : VOk D v) (F : Fr X st st2) (h0 : ¬ X a) (h7 : ¬ X (a + 7)) (h8 : ¬ X (a + 8)) (h9 : ¬ X (a + 9)) (hr : ∀ j, j < 6 → ¬ X (r + j)) : SpR st2 a r v := by
  obtain ⟨w0, y, d, sp, fl, -, -, -, -, hv4, -, -, -, -, hfl, -⟩ := V
  exact ⟨(F.R' 900 h0).trans S.1, S.2.1.fr F hr KpR.rf (by rw [hv4, nI_clamp (by omega)]; exact hfl), S.2.2.fr F h0 h7 h8 h9⟩
/-- the Span of the Site is not touched by what is written into the Site's own cells -/
theorem sp_si {hx r D : Nat} {st st2 : HSt} {v : Nat → Int32} (w : Wf st) (h : Sh hx st) (S : SpR st (hx + 3 + 1) r v) (V : VOk D v) (F : Fr (fun b => b = hx + 3 ∨ b = hx + 14 ∨ b = hx + 15) st st2) : SpR st2 (hx + 3 + 1) r v :=
  S.fr V F (by omega) (by omega) (by omega) (by omega) (fun j hj => by rcases blk5 w h S.2.1.1 with q | q | q | ⟨i, hi, q⟩ <;> omega)
theorem Rel.si {hx : Nat} {st st2 : HSt} {ms ms2 : MSt} {r : Nat} (R : Rel hx st ms) (F : Fr (Si hx) st st2) (G : MF mXq ms ms2) (I : ImR st2 (hx + 3) r (ms2.2.1 26)) (V : VOk 9999 (ms2.2.1 26)) : Rel hx st2 ms2 := by
  have p : PkR hx st := by obtain ⟨t, nr, r, w, hi, h, p, -⟩ := R; exact p
  exact R.site (F.mo (fun _ e => Or.inl e)) (p.fr F (by unfold Si; omega)) G I V
theorem RnR.ag5 {st : HSt} {S : Nat} {v u : Nat → Int32} (h0 : u 0 = v 0) (h : ∀ k, k < 80 → u (46 + k) = v (46 + k)) (R : RnR st S v) : RnR st S u := by
  obtain ⟨r1, r2⟩ := R
  have ec : ∀ k, k ≤ 80 → cntM u k = cntM v k := fun k => by
    induction k with
    | zero => intro _; rfl
    | succ k ih => intro hk; unfold cntM; rw [ih (by omega), h k (by omega)]
  refine ⟨fun q => r1 (by rw [h0] at q; exact q), fun q => ?_⟩
  obtain ⟨a1, a2, a3⟩ := r2 (by rw [h0] at q; exact q)
  refine ⟨by rw [ec 80 (by omega)]; exact a1, by rw [ec 80 (by omega)]; exact a2, fun s q hs hq => ?_⟩
  have := h (40 * s + q) (by omega)
  rw [show 46 + (40 * s + q) = 46 + 40 * s + q by omega] at this
  rw [this]; exact a3 s q hs hq
theorem sim_leap : Sim1 Rel fh_X11_leap fm_leap := Sim_leap Rel (fun _ _ _ _ R hn => R.setN hn)
theorem sim_seed : Sim1 Rel fh_X11_seed fm_seed := sim1_of (fun hx st ms a R => by
  have R0 := R
  obtain ⟨t, nr, r, w, hi, h, p, T, U, I, V, J⟩ := R
  unfold fh_X11_seed fm_seed
  by_cases ha : 0 ≤ a
  · rw [if_pos ha, if_pos ha, chk_t (st_k h), st_site h, bs_, chk_t (by decide), chk_t (by decide), cln5]
    have F : Fr (fun b => b = hx + 3 ∨ b = hx + 14 ∨ b = hx + 15) st (sI st 801 (hx + 3) a) := Fr.sI (Or.inl rfl)
    have e : ∀ i, i ≠ 5 → (msa ms 26 5 a).2.1 26 i = ms.2.1 26 i := fun i hi => by rw [msa_s, pk_un hi]
    have e5 : (msa ms 26 5 a).2.1 26 5 = a := by rw [msa_s, pk_us]
    have A2 : Ag2 (ms.2.1 26) ((msa ms 26 5 a).2.1 26) := fun i _ h5 _ => e i h5
    obtain ⟨i1, i2, i3, i4, i5⟩ := I
    refine ⟨_, _, rfl, rfl, i3, R0.si (r := r) (F.mo (fun b q => by unfold Si; omega)) (MF.msa rfl) ⟨(sp_si w h i1 V F).ag2 A2 V, ⟨i2.1, fun s k hs hk => by rw [e _ (by omega)]; exact i2.2 s k hs hk⟩, ?_, ?_, ?_⟩ (V.ag2 A2 (fun s k hs hk => by rw [e _ (by omega)]; exact V.er s k hs hk))⟩
    · rw [e5]; exact gI_sI _ _ _ _
    · rw [e5]; exact ha
    · refine RnR.ag5 (e 0 (by omega)) (fun k _ => e (46 + k) (by omega)) ?_
      unfold RnR at *
      rw [gI_sI_ne (Or.inl (by omega))]; exact i5
  · rw [if_neg ha, if_neg ha]
    exact ⟨_, _, rfl, rfl, rfl, R0⟩)
/-- the tape's cells alone -/
theorem Rel.tape {hx t : Nat} {st st2 : HSt} {ms ms2 : MSt} (R : Rel hx st ms) (F : Fr (fun b => b = hx ∨ b = hx + 1) st st2) (T : TpR hx st2 ms2 t) (h1103 : gI st2 1103 hx = gI st 1103 hx) (G : MF (fun k => k == 0 || k == 1) ms ms2) : Rel hx st2 ms2 := by
  have R0 := R
  obtain ⟨t0, nr, r, w, hi, h, p, T0, U, I, V, J⟩ := R
  have e26 : ms2.2.1 26 = ms.2.1 26 := G.A 26 rfl
  refine R0.any (r := r) (F.mo (fun b q => ?_)) (p.fr F (by omega)) T h1103 (G.mo (fun k hk => ?_)) ?_ (by rw [e26]; exact V)
  · rcases q with q | q
    · exact Or.inl q
    · exact Or.inr (Or.inl q)
  · unfold mXa; simp only [Bool.or_eq_true, beq_iff_eq] at hk ⊢; exact Or.inl hk
  · rw [e26]
    exact I.fr V F (by omega) (by omega) (by omega) (by omega) (by omega) (by omega) (by omega) (fun j hj => by rcases blk5 w h I.1.2.1.1 with q | q | q | ⟨i, hi, q⟩ <;> omega)
theorem sim_end : Sim1 Rel fh_X11_end fm_end := sim1_of (fun hx st ms a R => by
  have R0 := R
  obtain ⟨t, nr, r, w, hi, h, p, T, U, I, V, J⟩ := R
  obtain ⟨t1, t2, t3, t4, t5, t6, t7, t8⟩ := T
  unfold fh_X11_end fm_end
  by_cases ha : a < 0
  · rw [if_pos ha, if_pos ha]
    exact ⟨_, _, rfl, rfl, rfl, R0⟩
  · rw [if_neg ha, if_neg ha, chk_t (st_k h), t5, t6]
    by_cases hb : a ≤ nI t
    · rw [if_pos hb, if_pos hb]
      obtain ⟨n, hn, e⟩ := nI_of ha
      subst e
      have hnt : n ≤ t := (nI_leI hn (by omega)).mp hb
      refine ⟨_, _, rfl, rfl, rfl, R0.tape (t := n) (Fr.sI (Or.inl rfl)) ⟨t1, t2, t3, t4, gI_sI _ _ _ _, msi_s _ _ _, by omega, fun i hi => t8 i (by omega)⟩ (gI_sI_ne (Or.inl (by omega))) (MF.msi rfl)⟩
    · rw [if_neg hb, if_neg hb]
      exact ⟨_, _, rfl, rfl, rfl, R0⟩)
theorem mT4_0 (ms : MSt) (t : Nat) (g : Nat → Int32) : (mT4 ms t g).2.1 0 = g := by
  show va_up ms.2.1 0 g 0 = g
  exact va_up_self _ _ _
/-- four bytes more on both tapes -/
theorem feed4 {hx t : Nat} {st : HSt} {ms : MSt} (a : Int32) (R : Rel hx st ms) (T : TpR hx st ms t) (ht : t + 4 ≤ 400) : ∃ st2 ms2, fh_X11_putOnTape hx a st = some st2 ∧ fm_four a ms = some ms2 ∧ Rel hx st2 ms2 ∧ TpR hx st2 ms2 (t + 4) := by
  obtain ⟨t1, t2, t3, t4, t5, t6, t7, t8⟩ := T
  obtain ⟨st2, e1, -, e2⟩ := pt_all a ⟨t1, t2, t3, t4, t5⟩ ht
  have e3 := m4_all (ms := ms) a t6 ht
  have gA1 : gA st2 (hx + 1) = upd (upd (upd (upd (gA st (hx + 1)) t (tpw a 24)) (t + 1) (tpw a 16)) (t + 2) (tpw a 8)) (t + 3) (tpw a 0) := by rw [e2, gA_sI]; exact gA_self
  have T2 : TpR hx st2 (mT4 ms (t + 4) (upd (upd (upd (upd (ms.2.1 0) t (tpw a 24)) (t + 1) (tpw a 16)) (t + 2) (tpw a 8)) (t + 3) (tpw a 0))) (t + 4) := by
    refine ⟨by rw [e2]; exact t1, by rw [e2]; exact t2, by rw [e2]; exact t3, by rw [e2]; exact t4, by rw [e2]; exact gI_sI _ _ _ _, ?_, ht, fun i hi => ?_⟩
    · show upd ms.1 1 _ 1 = _; exact pk_us
    · rw [gA1, mT4_0]
      unfold upd
      by_cases h3 : i = t + 3
      · rw [if_pos h3, if_pos h3]; exact ⟨rfl, tpw_b _ _⟩
      · rw [if_neg h3, if_neg h3]
        by_cases h2 : i = t + 2
        · rw [if_pos h2, if_pos h2]; exact ⟨rfl, tpw_b _ _⟩
        · rw [if_neg h2, if_neg h2]
          by_cases h1 : i = t + 1
          · rw [if_pos h1, if_pos h1]; exact ⟨rfl, tpw_b _ _⟩
          · rw [if_neg h1, if_neg h1]
            by_cases h0 : i = t
            · rw [if_pos h0, if_pos h0]; exact ⟨rfl, tpw_b _ _⟩
            · rw [if_neg h0, if_neg h0]; exact t8 i (by omega)
  refine ⟨st2, _, e1, e3, R.tape (by rw [e2]; exact (Fr.sAf (Or.inr rfl)).tr (Fr.sI (Or.inl rfl))) T2 (by rw [e2]; exact gI_sI_ne (Or.inl (by omega))) (fun k hk => ⟨?_, ?_, rfl⟩), T2⟩
  · show upd ms.1 1 _ k = _
    exact pk_un (fun e => by rw [e] at hk; cases hk)
  · show va_up ms.2.1 0 _ k = _
    exact va_up_ne _ _ (fun e => by rw [e] at hk; cases hk)
theorem sim_feed : Sim5 Rel fh_X11_feed fm_feed := sim5_of (fun hx st ms a b c d e R => by
  have R0 := R
  obtain ⟨t, nr, r, w, hi, h, p, T, U, I, V, J⟩ := R
  have T0 := T
  obtain ⟨t1, t2, t3, t4, t5, t6, t7, t8⟩ := T
  unfold fh_X11_feed fm_feed
  rw [chk_t (st_k h), t5, t6, na t 20 (x := 20) rfl]
  by_cases hb : nI (t + 20) ≤ 400
  · rw [if_pos hb, if_pos hb]
    have ht : t + 20 ≤ 400 := (nI_leI (b := 400) (by omega) (by omega)).mp hb
    obtain ⟨s1, m1, a1, b1, R1, T1⟩ := feed4 a R0 T0 (by omega)
    obtain ⟨s2, m2, a2, b2, R2, T2⟩ := feed4 b R1 T1 (by omega)
    obtain ⟨s3, m3, a3, b3, R3, T3⟩ := feed4 c R2 T2 (by omega)
    obtain ⟨s4, m4, a4, b4, R4, T4⟩ := feed4 d R3 T3 (by omega)
    obtain ⟨s5, m5, a5, b5, R5, T5⟩ := feed4 e R4 T4 (by omega)
    refine ⟨(s5, nI (t + 20)), (m5, nI (t + 20)), ?_, ?_, rfl, R5⟩
    · rw [a1, bs_, chk_t (isk_t T1.1), a2, bs_, chk_t (isk_t T2.1), a3, bs_, chk_t (isk_t T3.1), a4, bs_, chk_t (isk_t T4.1), a5, bs_, chk_t (isk_t T5.1), T5.2.2.2.2.1]
    · rw [b1, bs_, b2, bs_, b3, bs_, b4, bs_, b5, bs_, T5.2.2.2.2.2.1]
  · rw [if_neg hb, if_neg hb]
    exact ⟨_, _, rfl, rfl, rfl, R0⟩)
theorem sim_pull : Sim1 Rel fh_X11_pull fm_pull := sim1_of (fun hx st ms a R => by
  have R0 := R
  obtain ⟨t, nr, r, w, hi, h, p, T, U, I, V, J⟩ := R
  obtain ⟨w0, y, d, sp, fl, h0, h6, -, -, -, hw0, hy, -⟩ := id V
  have k9 : gK st (hx + 3) = 9 := h.k (by omega) rfl
  unfold fh_X11_pull fm_pull
  rw [h_side, bs_, m_river rfl, bs_, m_side, bs_]
  rcases sd_c a with e | ⟨e, s, hs, rfl⟩
  · rw [e]
    refine ⟨(st, 0), (ms, 0), rfl, ?_, rfl, R0⟩
    dsimp only
    split <;> rfl
  · rw [e]
    dsimp only
    rw [if_neg (by decide), chk_t (st_k h), st_site h, bs_, st_span w k9, bs_, h_yardsOf w I.1 rfl hs, bs_]
    dsimp only
    rw [if_neg (show ¬ (1 : Int32) = 0 by decide), n6, chk_t (inb_n (by omega) (by omega)), nI_clamp (by omega)]
    by_cases hz : ms.2.1 26 (6 + s) = 0
    · rw [if_pos hz, if_pos hz]
      refine ⟨(st, 0), (ms, 0), rfl, ?_, rfl, R0⟩
      split <;> rfl
    · have hr : ¬ ms.2.1 26 0 ≤ 0 := by
        intro q
        apply hz
        rw [h6 s hs]
        have : w0 = 0 := by
          rw [h0] at q
          have := (nI_leI (a := w0) (b := 0) (by omega) (by omega)).mp q
          omega
        have : y s = 0 := by rcases (by omega : s = 0 ∨ s = 1) with rfl | rfl <;> omega
        rw [this]; rfl
      rw [if_neg hz, if_neg hz, if_neg hr, if_neg (show ¬ (1 : Int32) = 0 by decide), chk_t (st_k h), st_site h, bs_, st_span w k9, bs_, m_takes rfl rfl hs, bs_]
      obtain ⟨st2, e2, S2, F2⟩ := h_take (s := s) (x := nI s) (c := 1) (n := 1) w I.1 V rfl hs rfl (by omega)
      rw [e2, bs_]
      refine ⟨_, _, rfl, rfl, rfl, R0.si (r := r) (F2.mo six_out.1) (MF.setV rfl) ?_ ?_⟩
      · rw [setV_said]
        exact I.go S2 F2 six_out.2.1 six_out.2.2.1 six_out.2.2.2.1 (Kp_take hs)
      · rw [setV_said]; exact V.take (c := 1) hs (by omega))
theorem wI_neg {a : Int32} {n : Nat} (h : n < 2 ^ 31) : fm_in a.toInt64 (-nI n).toInt64 (nI n).toInt64 = some (wI a (-(n : Int)) n) := m_in (by rw [l64, nI_neg_toInt h]) (by rw [l64, nI_toInt h])
theorem sim_build : Sim3 Rel fh_X11_build fm_build := sim3_of (fun hx st ms a b c R => by
  have R0 := R
  obtain ⟨t, nr, r, w, hi, h, p, T, U, I, V, J⟩ := R
  obtain ⟨w0, y, d, sp, fl, h0, h6, h1, h2, h4, hw0, hy, hd, hsp, -⟩ := id V
  have k9 : gK st (hx + 3) = 9 := h.k (by omega) rfl
  have i401 : gI st 401 r = nI sp := I.1.2.1.2.2.1.trans h2
  unfold fh_X11_build fm_build
  rw [chk_t (st_k h), st_site h, bs_, st_span w k9, bs_, st_riv I.1, bs_, h_hasR w h I.1, bs_, m_river rfl, bs_]
  dsimp only
  by_cases hr : ms.2.1 26 0 ≤ 0
  · rw [if_pos hr]
    exact ⟨(st, 0), (ms, 0), rfl, rfl, rfl, R0⟩
  · rw [if_neg hr, if_neg (show ¬ (1 : Int32) = 0 by decide), if_neg (show ¬ (1 : Int32) = 0 by decide), h_side, bs_, m_side, bs_]
    dsimp only
    rcases sd_c a with e | ⟨e, s, hs, rfl⟩
    · rw [e]
      exact ⟨(st, 0), (ms, 0), rfl, rfl, rfl, R0⟩
    · rw [e, if_neg (show ¬ (1 : Int32) = 0 by decide), if_neg (show ¬ (1 : Int32) = 0 by decide), m_gap rfl, bs_, i401, h_in (nI_neg_toInt (by omega)) (nI_toInt (by omega)), bs_]
      dsimp only
      rw [cln2, h2, chk_t (by decide), chk_t (by decide), wI_neg (by omega), bs_]
      have gp : pGap (ms.2.1 26) = 0 ↔ pGap (ms.2.1 26) ≤ 0 := by
        rw [pGap_n h0 (h6 0 (by omega)) (h6 1 (by omega)) hy]
        constructor
        · intro q; rw [q]; decide
        · intro q
          have := (nI_leI (a := w0 - y 0 - y 1) (b := 0) (by omega) (by omega)).mp q
          rw [show w0 - y 0 - y 1 = 0 by omega]; rfl
      obtain ⟨A1, A2⟩ := h_add (s := s) (x := nI s) (t := b) (z := c) w I.1 V rfl hs
      rcases wI_c b (-(sp : Int)) sp with ⟨e1, -⟩ | ⟨e1, l1, l2⟩
      · rw [e1, if_pos rfl]
        refine ⟨(st, 0), (ms, 0), rfl, ?_, rfl, R0⟩
        split <;> rfl
      · rw [e1, if_neg (show ¬ (1 : Int32) = 0 by decide), if_neg (show ¬ (1 : Int32) = 0 by decide), h_in (nI_neg_toInt (by omega)) (nI_toInt (by omega)), bs_, chk_t (show inb 2 286 = true by decide), chk_t (show inb 2 286 = true by decide), wI_neg (by omega), bs_]
        dsimp only
        rcases wI_c c (-(sp : Int)) sp with ⟨e2, -⟩ | ⟨e2, l3, l4⟩
        · rw [e2, if_pos rfl, if_pos rfl]
          refine ⟨(st, 0), (ms, 0), rfl, ?_, rfl, R0⟩
          split <;> rfl
        · rw [e2, if_neg (show ¬ (1 : Int32) = 0 by decide), if_neg (show ¬ (1 : Int32) = 0 by decide), chk_t (st_k h), st_site h, bs_, st_span w k9, bs_]
          by_cases hg : pGap (ms.2.1 26) = 0
          · rw [if_pos hg, A1 (gp.mp hg), bs_]
            exact ⟨(st, 0), (ms, 0), rfl, rfl, rfl, R0⟩
          · have hg2 : ¬ pGap (ms.2.1 26) ≤ 0 := fun q => hg (gp.mpr q)
            obtain ⟨st2, e3, S2, F2⟩ := A2 hg2
            have hyw : y 0 + y 1 < w0 := by
              rcases Nat.lt_or_ge (y 0 + y 1) w0 with q | q
              · exact q
              · exfalso; apply hg2; rw [pGap_n h0 (h6 0 (by omega)) (h6 1 (by omega)) hy, show w0 - y 0 - y 1 = 0 by omega]; decide
            have hys : y s < 40 := by rcases (by omega : s = 0 ∨ s = 1) with rfl | rfl <;> omega
            rw [if_neg hg, e3, bs_, m_builds rfl rfl hs (h6 s hs) hys, bs_]
            refine ⟨(st2, 1), _, rfl, rfl, rfl, R0.si (r := r) (F2.mo six_out.1) (MF.setV rfl) ?_ ?_⟩
            · rw [setV_said]
              exact I.go S2 F2 six_out.2.1 six_out.2.2.1 six_out.2.2.2.1 (Kp_build hs)
            · rw [setV_said]; exact V.build hs hg2 ⟨by omega, by omega⟩ ⟨by omega, by omega⟩)
