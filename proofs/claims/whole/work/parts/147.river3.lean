/-! reading a RIVER: BANK and FLOOD, both sides -/
theorem j_bank {st : HSt} {ms ms0 : MSt} {H n M i p r w k : Nat} (E : RvE st H r) (J : Jt2 st ms H n M i p) (V : RvJ st ms H r w k) (hw : 2 ≤ w) (e0 : fm_passWord ms0 = some ms) : ∃ st2 ms2 rr, fh_X5_readBank (H + 4) (some r) st = some st2 ∧ fm_isBankHere ms0 = some (ms2, rr) ∧ RvO (ms.2.1 0) H n M r st st2 ms ms2 rr := by
  have hr := E.1
  obtain ⟨s1, m1, v1, r1, a1, b1, F1, E1, G1, V1, c1⟩ := j_num (L := 0) (U := 1) E J V (by omega) (by omega)
  have b1' : fm_numberHere (0 : Int32) (1 : Int32) ms = some (m1, r1) := b1
  unfold fm_isBankHere
  rw [e0, bs_, b1', bs_]
  dsimp only
  rcases c1 with ⟨x1, N1, q1, y1, y2, y3, y4, J1⟩ | ⟨x1, y1, f, y2, y3, T1⟩
  · subst x1; subst y3
    rw [if_neg (show ¬ (1 : Int32) = 0 by decide), y4]
    obtain ⟨s2, m2, v2, r2, a2, b2, F2, E2, G2, V2, c2⟩ := j_num (L := 0) (U := 99) E1 J1 V1 (by omega) (by omega)
    have b2' : fm_numberHere (0 : Int32) (99 : Int32) m1 = some (m2, r2) := b2
    obtain ⟨nf, hnf⟩ := mFuel_5
    rcases c2 with ⟨x2, N2, q2, z1, z2, z3, z4, J2⟩ | ⟨x2, z1, f, z2, z3, T2⟩
    · subst x2; subst z3
      have st1 : fm_isBankHere_s22 (nI N1) 0 m1 = some (.inr (.inl (1, msa m2 11 (2 * N1) (nI N2)))) := by
        unfold fm_isBankHere_s22
        rw [if_neg (show ¬ (2 : Int32) ≤ 0 by decide), b2', bs_]
        dsimp only
        rw [if_neg (show ¬ (1 : Int32) = 0 by decide), show (2 : Int32) * nI N1 + 0 = nI (2 * N1) by show nI 2 * nI N1 + nI 0 = _; rw [pk_mul, nI_add]; rfl, chk_t (inb_n (show 2 * N1 < 4 by omega) (by omega)), nI_clamp (by omega), z4]
        rfl
      have G2' : MF mRv m2 (msa m2 11 (2 * N1) (nI N2)) := MF.msa rfl
      have J2' : Jt2 (sA s2 (r + 1) N1 (nI N2)) (msa m2 11 (2 * N1) (nI N2)) H n M (i + 1 + 1) q2 := (J2.w (by omega)).frm (Y := fun k => k == 11) (MF.msa rfl) rfl rfl rfl rfl
      have V2' : RvJ (sA s2 (r + 1) N1 (nI N2)) (msa m2 11 (2 * N1) (nI N2)) H r w k := by
        obtain ⟨g1, g2, g3, g4, g5, g6⟩ := V2
        refine ⟨g1, ?_, ?_, ?_, g5, g6⟩
        · intro s hs
          rw [gA_sA, gA_sA_ne (by omega), msa_s, pk_un (show 2 * s + 1 ≠ 2 * N1 by omega)]
          refine ⟨?_, (g2 s hs).2⟩
          by_cases z : s = N1
          · rw [z, pk_us, pk_us]
          · rw [pk_un z, pk_un (by omega)]; exact (g2 s hs).1
        · intro s hs
          rw [gA_sA_ne (by omega), msa_n (by omega)]; exact g3 s hs
        · obtain ⟨k1, k2, k3, k4⟩ := g4
          refine ⟨k1, k2, k3, fun f hf => ?_⟩
          rw [gA_sA_ne (by omega), gA_sA_ne (by omega), msa_n (by omega)]; exact k4 f hf
      obtain ⟨s3, m3, v3, r3, a3, b3, F3, E3, G3, V3, c3⟩ := j_num (L := 0) (U := 99) (E2.w (b := r + 1) (j := N1) (v := nI N2)) J2' V2' (by omega) (by omega)
      have b3' : fm_numberHere (0 : Int32) (99 : Int32) (msa m2 11 (2 * N1) (nI N2)) = some (m3, r3) := b3
      have hh := h_bank E (show N1 < 2 by omega) a1 a2 a3 E1 E2 E3
      have FF : Fr (RvX H r) st (sA s3 (r + 2) N1 v3) := ((((Frw F1).tr (Frw F2)).tr (Fra (j := 1) (by omega))).tr (Frw F3)).tr (Fra (by omega))
      rcases c3 with ⟨x3, N3, q3, t1, t2, t3, t4, J3⟩ | ⟨x3, t1, f, t2, t3, T3⟩
      · subst x3; subst t3
        have st2 : fm_isBankHere_s22 (nI N1) 1 (msa m2 11 (2 * N1) (nI N2)) = some (.inr (.inl (2, msa m3 11 (2 * N1 + 1) (nI N3)))) := by
          unfold fm_isBankHere_s22
          rw [if_neg (show ¬ (2 : Int32) ≤ 1 by decide), b3', bs_]
          dsimp only
          rw [if_neg (show ¬ (1 : Int32) = 0 by decide), show (2 : Int32) * nI N1 + 1 = nI (2 * N1 + 1) by show nI 2 * nI N1 + nI 1 = _; rw [pk_mul, nI_add], chk_t (inb_n (show 2 * N1 + 1 < 4 by omega) (by omega)), nI_clamp (by omega), t4]
          rfl
        have st3 : fm_isBankHere_s22 (nI N1) 2 (msa m3 11 (2 * N1 + 1) (nI N3)) = some (.inr (.inr (2, msa m3 11 (2 * N1 + 1) (nI N3)))) := by
          unfold fm_isBankHere_s22
          rw [if_pos (show (2 : Int32) ≤ 2 by decide)]
        rw [hnf, iter_c (s1 := fun x : (Int32 × MSt) => fm_isBankHere_s22 (nI N1) x.1 x.2) st1, iter_c (s1 := fun x : (Int32 × MSt) => fm_isBankHere_s22 (nI N1) x.1 x.2) st2, iter_x (s1 := fun x : (Int32 × MSt) => fm_isBankHere_s22 (nI N1) x.1 x.2) st3]
        refine ⟨_, msa m3 11 (2 * N1 + 1) (nI N3), 1, hh, rfl, FF, (((G1.y3.tr G2.y3).tr G2').tr G3.y3).tr (MF.msa rfl), Or.inl ⟨rfl, _, _, w, k, hw, (J3.w (by omega)).frm (Y := fun k => k == 11) (MF.msa rfl) rfl rfl rfl rfl, ?_⟩⟩
        obtain ⟨g1, g2, g3, g4, g5, g6⟩ := V3
        refine ⟨g1, ?_, ?_, ?_, g5, g6⟩
        · intro s hs
          rw [gA_sA, gA_sA_ne (by omega), msa_s, pk_un (show 2 * s ≠ 2 * N1 + 1 by omega)]
          refine ⟨(g2 s hs).1, ?_⟩
          by_cases z : s = N1
          · rw [z, pk_us, pk_us]
          · rw [pk_un z, pk_un (by omega)]; exact (g2 s hs).2
        · intro s hs
          rw [gA_sA_ne (by omega), msa_n (by omega)]; exact g3 s hs
        · obtain ⟨k1, k2, k3, k4⟩ := g4
          refine ⟨k1, k2, k3, fun f hf => ?_⟩
          rw [gA_sA_ne (by omega), gA_sA_ne (by omega), msa_n (by omega)]; exact k4 f hf
      · subst x3
        have st2 : fm_isBankHere_s22 (nI N1) 1 (msa m2 11 (2 * N1) (nI N2)) = some (.inl (m3, 0)) := by
          unfold fm_isBankHere_s22
          rw [if_neg (show ¬ (2 : Int32) ≤ 1 by decide), b3', bs_]
          dsimp only
          rw [if_pos rfl]
        rw [hnf, iter_c (s1 := fun x : (Int32 × MSt) => fm_isBankHere_s22 (nI N1) x.1 x.2) st1, it_o (s1 := fun x : (Int32 × MSt) => fm_isBankHere_s22 (nI N1) x.1 x.2) st2]
        refine ⟨_, m3, 0, hh, rfl, FF, ((G1.y3.tr G2.y3).tr G2').tr G3.y3, Or.inr ⟨rfl, i + 1 + 1, f, t2, t3, ?_⟩⟩
        rw [msa_n (by omega), G2.A 0 rfl, G1.A 0 rfl] at T3
        exact T3.w (by omega)
    · subst x2
      have st1 : fm_isBankHere_s22 (nI N1) 0 m1 = some (.inl (m2, 0)) := by
        unfold fm_isBankHere_s22
        rw [if_neg (show ¬ (2 : Int32) ≤ 0 by decide), b2', bs_]
        dsimp only
        rw [if_pos rfl]
      rw [hnf, it_o (s1 := fun x : (Int32 × MSt) => fm_isBankHere_s22 (nI N1) x.1 x.2) st1]
      rw [G1.A 0 rfl] at T2
      obtain ⟨s3, a3, F3, -, T3⟩ := h_numD (L := 0) (U := 99) (E2.w (b := r + 1) (j := N1) (v := v2)).2.1 E2.2.2.1 (T2.w (b := r + 1) (j := N1) (v := v2) (by omega)) z2 (by omega) (by omega)
      have hh := h_bank E (show N1 < 2 by omega) a1 a2 a3 E1 E2 ((E2.w (b := r + 1) (j := N1) (v := v2)).fr F3)
      exact ⟨_, m2, 0, hh, rfl, ((((Frw F1).tr (Frw F2)).tr (Fra (j := 1) (by omega))).tr (Frw F3)).tr (Fra (by omega)), G1.y3.tr G2.y3, Or.inr ⟨rfl, i + 1, f, z2, z3, T3.w (by omega)⟩⟩
  · subst x1; subst y1
    rw [if_pos rfl]
    obtain ⟨s2, a2, F2, -, T2⟩ := h_numD (L := 0) (U := 99) E1.2.1 E1.2.2.1 T1 y2 (by omega) (by omega)
    have E2 := E1.fr F2
    obtain ⟨s3, a3, F3, -, T3⟩ := h_numD (L := 0) (U := 99) (E2.w (b := r + 1) (j := 0) (v := nI 0)).2.1 E2.2.2.1 (T2.w (b := r + 1) (j := 0) (v := nI 0) (by omega)) y2 (by omega) (by omega)
    have hh := h_bank E (show 0 < 2 by omega) a1 a2 a3 E1 E2 ((E2.w (b := r + 1) (j := 0) (v := nI 0)).fr F3)
    exact ⟨_, m1, 0, hh, rfl, ((((Frw F1).tr (Frw F2)).tr (Fra (j := 1) (by omega))).tr (Frw F3)).tr (Fra (by omega)), G1.y3, Or.inr ⟨rfl, i, f, y2, y3, T3.w (by omega)⟩⟩
/-- FLOOD -/
theorem j_flood {st : HSt} {ms ms0 : MSt} {H n M i p r w k : Nat} {at_ : Int32} (E : RvE st H r) (J : Jt2 st ms H n M i p) (V : RvJ st ms H r w k) (hw : 2 ≤ w) (hk : k < 8) (e0 : fm_passWord ms0 = some ms) (h10 : ms0.1 10 = nI k) : ∃ st2 ms2 rr, fh_X5_readFlood (H + 4) (some r) st = some st2 ∧ fm_isFloodHere at_ ms0 = some (ms2, rr) ∧ RvO (ms.2.1 0) H n M r st st2 ms ms2 rr := by
  have hr := E.1
  obtain ⟨s1, m1, v1, r1, a1, b1, F1, E1, G1, V1, c1⟩ := j_num (L := 0) (U := 399) E J V (by omega) (by omega)
  have b1' : fm_numberHere (0 : Int32) (399 : Int32) ms = some (m1, r1) := b1
  have n8 : ¬ nI k = (8 : Int32) := fun z => by have := (nI_eq (b := 8) (by omega) (by omega)).mp z; omega
  unfold fm_isFloodHere
  rw [h10, if_neg n8, e0, bs_, b1', bs_]
  dsimp only
  rcases c1 with ⟨x1, N1, q1, y1, y2, y3, y4, J1⟩ | ⟨x1, y1, f, y2, y3, T1⟩
  · subst x1; subst y3
    have k10 : m1.1 10 = nI k := V1.2.2.2.1.2.1
    rw [if_neg (show ¬ (1 : Int32) = 0 by decide), k10, y4, show (2 : Int32) * nI k = nI (2 * k) from pk_mul 2 k, chk_t (inb_n (show 2 * k < 16 by omega) (by omega)), nI_clamp (by omega)]
    have J1' : Jt2 s1 (msa m1 13 (2 * k) (nI N1)) H n M (i + 1) q1 := J1.frm (Y := fun k => k == 13) (MF.msa rfl) rfl rfl rfl rfl
    have V1' : RvJ s1 (msa m1 13 (2 * k) (nI N1)) H r w k := by
      obtain ⟨g1, g2, g3, ⟨k1, k2, k3, k4⟩, g5, g6⟩ := V1
      refine ⟨g1, ?_, ?_, ⟨k1, k2, k3, fun f hf => ?_⟩, g5, g6⟩
      · intro s hs; rw [msa_n (by omega)]; exact g2 s hs
      · intro s hs; rw [msa_n (by omega)]; exact g3 s hs
      · rw [msa_s, pk_un (show 2 * f ≠ 2 * k by omega), pk_un (show 2 * f + 1 ≠ 2 * k by omega)]; exact k4 f hf
    obtain ⟨s2, m2, v2, r2, a2, b2, F2, E2, G2, V2, c2⟩ := j_num (L := 1) (U := 9) E1 J1' V1' (by omega) (by omega)
    have b2' : fm_numberHere (1 : Int32) (9 : Int32) (msa m1 13 (2 * k) (nI N1)) = some (m2, r2) := b2
    have hh := h_flood E V.2.2.2.1.2.2.1 a1 a2 E1 E2 V2.2.2.2.1.1
    rw [if_pos hk] at hh
    rw [b2', bs_]
    dsimp only
    have FF : Fr (RvX H r) st (sI (sA (sA s2 (r + 4) k (nI N1)) (r + 5) k v2) 403 r (nI (k + 1))) := ((((Frw F1).tr (Frw F2)).tr (Fra (j := 4) (by omega))).tr (Fra (j := 5) (by omega))).tr (Fr.sI (Or.inr (Or.inr ⟨by omega, by omega⟩)))
    have GG : MF mRv ms m2 := (G1.y3.tr (MF.msa rfl)).tr G2.y3
    have Fx : Fr (fun b => b = r ∨ b = r + 4 ∨ b = r + 5) s2 (sI (sA (sA s2 (r + 4) k (nI N1)) (r + 5) k v2) 403 r (nI (k + 1))) := ((Fr.sA (Or.inr (Or.inl rfl))).tr (Fr.sA (Or.inr (Or.inr rfl)))).tr (Fr.sI (Or.inl rfl))
    rcases c2 with ⟨x2, N2, q2, z1, z2, z3, z4, J2⟩ | ⟨x2, z1, f, z2, z3, T2⟩
    · subst x2; subst z3
      have k10' : m2.1 10 = nI k := V2.2.2.2.1.2.1
      rw [if_neg (show ¬ (1 : Int32) = 0 by decide), k10', show (2 : Int32) * nI k + 1 = nI (2 * k + 1) by rw [show (2 : Int32) * nI k = nI (2 * k) from pk_mul 2 k, nI_1], chk_t (inb_n (show 2 * k + 1 < 16 by omega) (by omega)), nI_clamp (by omega), z4, msa_I, k10', nI_1]
      have Gx : MF (fun k => k == 13 || k == 10) m2 (msi (msa m2 13 (2 * k + 1) (nI N2)) 10 (nI (k + 1))) := (MF.msa rfl).tr (MF.msi rfl)
      refine ⟨_, _, _, hh, rfl, FF, (GG.tr (MF.msa rfl)).tr (MF.msi rfl), Or.inl ⟨rfl, _, _, w, k + 1, hw, (J2.frh Fx (by omega) (by omega) (by omega) (by omega)).frm Gx rfl rfl rfl rfl, ?_⟩⟩
      have t13 : (msi (msa m2 13 (2 * k + 1) (nI N2)) 10 (nI (k + 1))).2.1 13 = upd (m2.2.1 13) (2 * k + 1) (nI N2) := msa_s _ _ _ _
      have old : m2.2.1 13 (2 * k) = nI N1 := by rw [G2.A 13 rfl, msa_s, pk_us]
      obtain ⟨⟨w1, w2, w3⟩, g2, g3, ⟨k1, k2, k3, k4⟩, g5, g6⟩ := V2
      refine ⟨⟨?_, ?_, w3⟩, ?_, ?_, ⟨gI_sI _ _ _ _, msi_s _ _ _, by omega, fun f hf => ?_⟩, ?_, ?_⟩
      · rw [gI_sI_ne (Or.inl (by omega))]; exact w1
      · rw [msi_n (by omega), msa_I]; exact w2
      · intro s hs; rw [Fx.A (by omega), Fx.A (by omega), Gx.A 11 rfl]; exact g2 s hs
      · intro s hs; rw [Fx.A (by omega), Gx.A 12 rfl]; exact g3 s hs
      · rw [t13, gA_sI, gA_sI, gA_sA_ne (by omega), gA_sA, gA_sA, gA_sA_ne (by omega)]
        rw [pk_un (show 2 * f ≠ 2 * k + 1 by omega)]
        by_cases z : f = k
        · rw [z, pk_us, pk_us, pk_us]; exact ⟨old.symm, rfl, N2, by omega, rfl⟩
        · rw [pk_un z, pk_un z, pk_un (show 2 * f + 1 ≠ 2 * k + 1 by omega)]; exact k4 f (by omega)
      · unfold RvS; rw [gI_sI_ne (Or.inl (by omega)), gI_sI_ne (Or.inl (by omega)), Gx.I 8 rfl]; exact g5
      · unfold RvN; rw [gI_sI_ne (Or.inl (by omega)), gI_sI_ne (Or.inl (by omega)), Gx.I 9 rfl]; exact g6
    · subst x2
      rw [if_pos rfl]
      refine ⟨_, _, _, hh, rfl, FF, GG, Or.inr ⟨rfl, i + 1, f, z2, z3, ?_⟩⟩
      rw [msa_n (by omega), G1.A 0 rfl] at T2
      exact T2.fr Fx (by omega) (by omega) (by omega) (by omega)
  · subst x1; subst y1
    rw [if_pos rfl]
    obtain ⟨s2, a2, F2, -, T2⟩ := h_numD (L := 1) (U := 9) E1.2.1 E1.2.2.1 T1 y2 (by omega) (by omega)
    have k403 : gI s2 403 r = nI k := by rw [F2.I 403 (by omega)]; exact V1.2.2.2.1.1
    have hh := h_flood E V.2.2.2.1.2.2.1 a1 a2 E1 (E1.fr F2) k403
    rw [if_pos hk] at hh
    have Fx : Fr (fun b => b = r ∨ b = r + 4 ∨ b = r + 5) s2 (sI (sA (sA s2 (r + 4) k (nI 0)) (r + 5) k (nI 1)) 403 r (nI (k + 1))) := ((Fr.sA (Or.inr (Or.inl rfl))).tr (Fr.sA (Or.inr (Or.inr rfl)))).tr (Fr.sI (Or.inl rfl))
    exact ⟨_, _, _, hh, rfl, ((Frw F1).tr (Frw F2)).tr (Fx.mo (fun q hq => Or.inr (Or.inr (by omega)))), G1.y3, Or.inr ⟨rfl, _, f, y2, y3, T2.fr Fx (by omega) (by omega) (by omega) (by omega)⟩⟩
