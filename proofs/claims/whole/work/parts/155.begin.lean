/-! a RIVER told: the class's Site begins at it -/
theorem cntM_99 {v : Nat → Int32} : ∀ n, (∀ j, j < n → v (46 + j) = 99999) → cntM v n = 0
  | 0, _ => rfl
  | n + 1, h => by unfold cntM; rw [cntM_99 n (fun j hj => h j (by omega)), if_pos (h n (by omega))]
theorem cntH_99 {g : Nat → Int32} : ∀ n, (∀ j, j < n → g j = 100000) → cntH g n = 0
  | 0, _ => rfl
  | n + 1, h => by unfold cntH; rw [cntH_99 n (fun j hj => h j (by omega)), if_pos (h n (by omega))]
theorem h_begin {st : HSt} {S r : Nat} {v : Nat → Int32} (w : Wf st) (k : gK st S = 9) (V : RvR st r v) (h4 : (v 4).toNatClampNeg ≤ 8) (v1 : v 1 = 0) (v6 : v 6 = 0) (v7 : v 7 = 0) (v5 : gI st 801 S = v 5) (p5 : 0 ≤ v 5) (v0 : v 0 ≠ 0) (vE : ∀ j, j < 16 → v (30 + j) = 0) (vR : ∀ j, j < 80 → v (46 + j) = 99999) : ∃ st2, fh_X8_beginAt S (some r) st = some st2 ∧ Fr (Sb S) st st2 ∧ ImR st2 S r v := by
  obtain ⟨k1, k11, k12, R800, R803, L11, R804, L12⟩ := w.2.2.2 S k
  obtain ⟨-, K, R902, L7, -⟩ := w.1 (S + 1) k1
  have K7 := K 7 (by omega) (by omega)
  -- the Span
  let s1 := sI (sR st 900 (S + 1) (some r)) 901 (S + 1) 0
  let s2 := sA (sA s1 (S + 1 + 7) 0 0) (S + 1 + 7) 1 0
  have B1 : fh_X9_beginAt (S + 1) (some r) st = some s2 := by
    unfold fh_X9_beginAt
    rw [chk_t (isk_t k1), show gR (sI (sR st 900 (S + 1) (some r)) 901 (S + 1) 0) 902 (S + 1) = some (S + 1 + 7) by
      rw [gR_sI]; exact (sR_R_ne (Or.inr (by omega))).trans R902, dr_of K7, bs_]
    rw [show gL (sI (sR st 900 (S + 1) (some r)) 901 (S + 1) 0) (S + 1 + 7) = 2 from L7, chk_t (show inb (0 : Int32) 2 = true by decide), bs_]
    rw [show gR (sA (sI (sR st 900 (S + 1) (some r)) 901 (S + 1) 0) (S + 1 + 7) (0 : Int32).toNatClampNeg 0) 902 (S + 1) = some (S + 1 + 7) by
      rw [gR_sA, gR_sI]; exact (sR_R_ne (Or.inr (by omega))).trans R902, show dr (sA (sI (sR st 900 (S + 1) (some r)) 901 (S + 1) 0) (S + 1 + 7) (0 : Int32).toNatClampNeg 0) (some (S + 1 + 7)) 22 = some (S + 1 + 7) from dr_of K7, bs_]
    rw [show gL (sA (sI (sR st 900 (S + 1) (some r)) 901 (S + 1) 0) (S + 1 + 7) (0 : Int32).toNatClampNeg 0) (S + 1 + 7) = 2 from L7, chk_t (show inb (1 : Int32) 2 = true by decide)]
    rfl
  have F2 : Fr (fun b => b = S + 1 ∨ b = S + 1 + 7) st s2 := (((Fr.sR (Or.inl rfl) rfl).tr (Fr.sI (Or.inl rfl))).tr (Fr.sA (Or.inr rfl))).tr (Fr.sA (Or.inr rfl))
  obtain ⟨s3, e3, F3, g3⟩ := h_fill (st := s2) (b := S + 11) (n := 16) (x := 0) ((F2.K _).trans k11) ((F2.L _).trans L11) (by omega)
  obtain ⟨s4, e4, F4, g4⟩ := h_fill (st := s3) (b := S + 12) (n := 80) (x := 100000) (((F3.K _).trans (F2.K _)).trans k12) (((F3.L _).trans (F2.L _)).trans L12) (by omega)
  have F23 : Fr (Sb S) st s3 := (F2.mo (fun b z => by unfold Sb Sx; omega)).tr (F3.mo (fun b z => by unfold Sb; omega))
  have F24 : Fr (Sb S) st s4 := F23.tr (F4.mo (fun b z => by unfold Sb; omega))
  have kk : ∀ {q}, Fr (Sb S) st q → gK q S = 9 := fun F => (F.K _).trans k
  refine ⟨sI s4 802 S 0, ?_, F24.tr (Fr.sI (Or.inl rfl)), ?_⟩
  · unfold fh_X8_beginAt
    rw [chk_t (isk_t k), R800, dr_of k1, bs_, B1, bs_, chk_t (isk_t ((F2.K _).trans k)), F2.R (f := 803) S rfl, R803, e3, bs_, chk_t (isk_t (kk F23))]
    unfold fh_X8_clearRuins
    rw [chk_t (isk_t (kk F23)), F23.R (f := 804) S rfl, R804, e4, bs_, chk_t (isk_t (kk F24)), bs_]
  · have F5 : Fr (Sb S) st (sI s4 802 S 0) := F24.tr (Fr.sI (Or.inl rfl))
    have nr : ∀ j, j < 6 → ¬ Sb S (r + j) := fun j hj => sb_riv w k V.1 hj
    have a7 : gA (sI s4 802 S 0) (S + 1 + 7) = gA s2 (S + 1 + 7) := by rw [gA_sI, F4.A (by omega), F3.A (by omega)]
    have y0 : yN v 0 = 0 := by unfold yN; rw [v6]; rfl
    have y1 : yN v 1 = 0 := by unfold yN; rw [v7]; rfl
    have cm := cntM_99 80 vR
    have a12 : gA (sI s4 802 S 0) (S + 12) = gA s4 (S + 12) := rfl
    refine ⟨⟨?_, V.fr F5 nr KpR.rf h4, (F5.K _).trans k1, ?_, fun s hs => ?_, fun s j hs hj => ?_⟩, ⟨(F5.K _).trans k, fun s j hs hj => ?_⟩, ?_, p5, fun z => absurd z v0, fun _ => ⟨?_, ?_, fun s p hs hp => ?_⟩⟩
    · rw [gR_sI, F4.R' 900 (by omega), F3.R' 900 (by omega)]
      show gR (sR st 900 (S + 1) (some r)) 900 (S + 1) = _
      exact sR_R
    · rw [gI_sI_ne (Or.inl (by omega)), F4.I 901 (by omega), F3.I 901 (by omega), v1]
      show gI (sI (sR st 900 (S + 1) (some r)) 901 (S + 1) 0) 901 (S + 1) = 0
      exact gI_sI _ _ _ _
    · rw [a7]
      show gA (sA (sA s1 (S + 1 + 7) 0 0) (S + 1 + 7) 1 0) (S + 1 + 7) s = _
      rw [gA_sA, gA_sA]
      rcases (by omega : s = 0 ∨ s = 1) with z | z
      · rw [z, pk_un (by omega), pk_us, v6]
      · rw [z, pk_us, v7]
    · rcases (by omega : s = 0 ∨ s = 1) with z | z
      · rw [z, y0] at hj; omega
      · rw [z, y1] at hj; omega
    · rw [gA_sI, F4.A (by omega), g3 _ (by omega), Nat.add_assoc 30, vE (8 * s + j) (by omega)]
    · rw [gI_sI_ne (Or.inl (by omega)), F4.I 801 (by omega), F3.I 801 (by omega), F2.I 801 (by omega)]; exact v5
    · rw [gI_sI, cm]; rfl
    · rw [a12, cm]; exact cntH_99 80 (fun j hj => g4 j hj)
    · left
      rw [Nat.add_assoc 46, vR (40 * s + p) (by omega), a12]
      exact ⟨rfl, g4 _ (by omega)⟩
