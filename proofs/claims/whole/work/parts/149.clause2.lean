/-! reading a RIVER: WIDE, STEP, INCHES, both sides -/
theorem j_wide {st : HSt} {ms ms0 : MSt} {H n M i p r k : Nat} {at_ : Int32} (E : RvE st H r) (J : Jt2 st ms H n M i p) (V : RvJ st ms H r 0 k) (e0 : fm_passWord ms0 = some ms) (h7 : ms0.1 7 = 0) : ∃ s1 v ms2 rr, fh_X5_number (H + 4) 2 40 st = some (s1, v) ∧ gK s1 r = 5 ∧ fm_isWideHere at_ ms0 = some (ms2, rr) ∧ RvO (ms.2.1 0) H n M r st (sI (sI s1 400 r v) 401 r 1) ms ms2 rr := by
  have hr := E.1
  obtain ⟨s1, m1, v1, r1, a1, b1, F1, E1, G1, V1, c1⟩ := j_num (L := 2) (U := 40) E J V (by omega) (by omega)
  have b1' : fm_numberHere (2 : Int32) (40 : Int32) ms = some (m1, r1) := b1
  have Fx : Fr (fun b => b = r) s1 (sI (sI s1 400 r v1) 401 r 1) := (Fr.sI (X := fun b => b = r) rfl).tr (Fr.sI rfl)
  have FF : Fr (RvX H r) st (sI (sI s1 400 r v1) 401 r 1) := (Frw F1).tr (Fx.mo (fun q hq => Or.inr (Or.inr (by omega))))
  unfold fm_isWideHere
  rw [h7, if_pos (show (0 : Int32) ≤ 0 by decide), e0, bs_, b1', bs_]
  dsimp only
  refine ⟨s1, v1, ?_⟩
  rcases c1 with ⟨x1, N1, q1, y1, y2, y3, y4, J1⟩ | ⟨x1, y1, f, y2, y3, T1⟩
  · subst x1; subst y3
    rw [if_neg (show ¬ (1 : Int32) = 0 by decide), y4]
    have Gx : MF (fun k => k == 7) m1 (msi m1 7 (nI N1)) := MF.msi rfl
    refine ⟨_, _, a1, E1.2.2.2.1, rfl, FF, G1.y3.tr (MF.msi rfl), Or.inl ⟨rfl, _, _, N1, k, y1, (J1.frh Fx (by omega) (by omega) (by omega) (by omega)).frm Gx rfl rfl rfl rfl, ?_⟩⟩
    obtain ⟨⟨w1, w2, w3⟩, g2, g3, g4, g5, g6⟩ := V1
    refine ⟨⟨?_, msi_s _ _ _, by omega⟩, ?_, ?_, ?_, ?_, ?_⟩
    · rw [gI_sI_ne (Or.inl (by omega)), gI_sI]
    · intro s hs; exact g2 s hs
    · intro s hs; exact g3 s hs
    · obtain ⟨k1, k2, k3, k4⟩ := g4
      refine ⟨?_, by rw [Gx.I 10 rfl]; exact k2, k3, k4⟩
      rw [gI_sI_ne (Or.inl (by omega)), gI_sI_ne (Or.inl (by omega))]; exact k1
    · rcases g5 with ⟨u1, u2, -⟩ | ⟨-, u2, -⟩
      · refine Or.inl ⟨?_, by rw [Gx.I 8 rfl]; exact u2, fun _ => gI_sI _ _ _ _⟩
        rw [gI_sI_ne (Or.inl (by omega)), gI_sI_ne (Or.inl (by omega))]; exact u1
      · exact absurd rfl u2
    · unfold RvN
      rw [gI_sI_ne (Or.inl (by omega)), gI_sI_ne (Or.inl (by omega)), gI_sI_ne (Or.inl (by omega)), gI_sI_ne (Or.inl (by omega)), Gx.I 9 rfl]; exact g6
  · subst x1
    rw [if_pos rfl]
    exact ⟨_, _, a1, E1.2.2.2.1, rfl, FF, G1.y3, Or.inr ⟨rfl, _, f, y2, y3, T1.fr Fx (by omega) (by omega) (by omega) (by omega)⟩⟩
theorem j_step {st : HSt} {ms ms0 : MSt} {H n M i p r w k : Nat} {at_ : Int32} (E : RvE st H r) (J : Jt2 st ms H n M i p) (V : RvJ st ms H r w k) (hw : 2 ≤ w) (e0 : fm_passWord ms0 = some ms) (h8 : ms0.1 8 = -1) : ∃ s1 v ms2 rr, fh_X5_number (H + 4) 1 20 st = some (s1, v) ∧ gK s1 r = 5 ∧ gK s1 (H + 4) = 6 ∧ fm_isStepHere at_ ms0 = some (ms2, rr) ∧ RvO (ms.2.1 0) H n M r st (sI (sI s1 401 r v) 501 (H + 4) 1) ms ms2 rr := by
  have hr := E.1
  obtain ⟨s1, m1, v1, r1, a1, b1, F1, E1, G1, V1, c1⟩ := j_num (L := 1) (U := 20) E J V (by omega) (by omega)
  have b1' : fm_numberHere (1 : Int32) (20 : Int32) ms = some (m1, r1) := b1
  have Fx : Fr (fun b => b = r ∨ b = H + 4) s1 (sI (sI s1 401 r v1) 501 (H + 4) 1) := (Fr.sI (Or.inl rfl)).tr (Fr.sI (Or.inr rfl))
  have FF : Fr (RvX H r) st (sI (sI s1 401 r v1) 501 (H + 4) 1) := (Frw F1).tr (Fx.mo (fun q hq => by rcases hq with z | z; exact Or.inr (Or.inr (by omega)); exact Or.inr (Or.inl z)))
  unfold fm_isStepHere
  rw [h8, if_pos (show (-1 : Int32) < 0 by decide), e0, bs_, b1', bs_]
  dsimp only
  refine ⟨s1, v1, ?_⟩
  rcases c1 with ⟨x1, N1, q1, y1, y2, y3, y4, J1⟩ | ⟨x1, y1, f, y2, y3, T1⟩
  · subst x1; subst y3
    rw [if_neg (show ¬ (1 : Int32) = 0 by decide), y4]
    have Gx : MF (fun k => k == 8) m1 (msi m1 8 (nI N1)) := MF.msi rfl
    refine ⟨_, _, a1, E1.2.2.2.1, E1.2.1, rfl, FF, G1.y3.tr (MF.msi rfl), Or.inl ⟨rfl, _, _, w, k, hw, (J1.frh Fx (by omega) (by omega) (by omega) (by omega)).frm Gx rfl rfl rfl rfl, ?_⟩⟩
    obtain ⟨⟨w1, w2, w3⟩, g2, g3, g4, g5, g6⟩ := V1
    refine ⟨⟨?_, by rw [Gx.I 7 rfl]; exact w2, w3⟩, ?_, ?_, ?_, ?_, ?_⟩
    · rw [gI_sI_ne (Or.inl (by omega)), gI_sI_ne (Or.inl (by omega))]; exact w1
    · intro s hs; exact g2 s hs
    · intro s hs; exact g3 s hs
    · obtain ⟨k1, k2, k3, k4⟩ := g4
      refine ⟨?_, by rw [Gx.I 10 rfl]; exact k2, k3, k4⟩
      rw [gI_sI_ne (Or.inl (by omega)), gI_sI_ne (Or.inl (by omega))]; exact k1
    · refine Or.inr ⟨gI_sI _ _ _ _, by omega, N1, y1, y2, msi_s _ _ _, ?_⟩
      rw [gI_sI_ne (Or.inl (by omega)), gI_sI]
    · unfold RvN
      rw [gI_sI_ne (Or.inl (by omega)), gI_sI_ne (Or.inl (by omega)), gI_sI_ne (Or.inl (by omega)), gI_sI_ne (Or.inl (by omega)), Gx.I 9 rfl]; exact g6
  · subst x1
    rw [if_pos rfl]
    exact ⟨_, _, a1, E1.2.2.2.1, E1.2.1, rfl, FF, G1.y3, Or.inr ⟨rfl, _, f, y2, y3, T1.fr Fx (by omega) (by omega) (by omega) (by omega)⟩⟩
theorem j_inch {st : HSt} {ms ms0 : MSt} {H n M i p r w k : Nat} {at_ : Int32} (E : RvE st H r) (J : Jt2 st ms H n M i p) (V : RvJ st ms H r w k) (hw : 2 ≤ w) (e0 : fm_passWord ms0 = some ms) (h9 : ms0.1 9 = -1) : ∃ s1 v ms2 rr, fh_X5_number (H + 4) 0 99 st = some (s1, v) ∧ gK s1 r = 5 ∧ gK s1 (H + 4) = 6 ∧ fm_areInchesHere at_ ms0 = some (ms2, rr) ∧ RvO (ms.2.1 0) H n M r st (sI (sI s1 402 r v) 502 (H + 4) 1) ms ms2 rr := by
  have hr := E.1
  obtain ⟨s1, m1, v1, r1, a1, b1, F1, E1, G1, V1, c1⟩ := j_num (L := 0) (U := 99) E J V (by omega) (by omega)
  have b1' : fm_numberHere (0 : Int32) (99 : Int32) ms = some (m1, r1) := b1
  have Fx : Fr (fun b => b = r ∨ b = H + 4) s1 (sI (sI s1 402 r v1) 502 (H + 4) 1) := (Fr.sI (Or.inl rfl)).tr (Fr.sI (Or.inr rfl))
  have FF : Fr (RvX H r) st (sI (sI s1 402 r v1) 502 (H + 4) 1) := (Frw F1).tr (Fx.mo (fun q hq => by rcases hq with z | z; exact Or.inr (Or.inr (by omega)); exact Or.inr (Or.inl z)))
  unfold fm_areInchesHere
  rw [h9, if_pos (show (-1 : Int32) < 0 by decide), e0, bs_, b1', bs_]
  dsimp only
  refine ⟨s1, v1, ?_⟩
  rcases c1 with ⟨x1, N1, q1, y1, y2, y3, y4, J1⟩ | ⟨x1, y1, f, y2, y3, T1⟩
  · subst x1; subst y3
    rw [if_neg (show ¬ (1 : Int32) = 0 by decide), y4]
    have Gx : MF (fun k => k == 9) m1 (msi m1 9 (nI N1)) := MF.msi rfl
    refine ⟨_, _, a1, E1.2.2.2.1, E1.2.1, rfl, FF, G1.y3.tr (MF.msi rfl), Or.inl ⟨rfl, _, _, w, k, hw, (J1.frh Fx (by omega) (by omega) (by omega) (by omega)).frm Gx rfl rfl rfl rfl, ?_⟩⟩
    obtain ⟨⟨w1, w2, w3⟩, g2, g3, g4, g5, g6⟩ := V1
    refine ⟨⟨?_, by rw [Gx.I 7 rfl]; exact w2, w3⟩, ?_, ?_, ?_, ?_, ?_⟩
    · rw [gI_sI_ne (Or.inl (by omega)), gI_sI_ne (Or.inl (by omega))]; exact w1
    · intro s hs; exact g2 s hs
    · intro s hs; exact g3 s hs
    · obtain ⟨k1, k2, k3, k4⟩ := g4
      refine ⟨?_, by rw [Gx.I 10 rfl]; exact k2, k3, k4⟩
      rw [gI_sI_ne (Or.inl (by omega)), gI_sI_ne (Or.inl (by omega))]; exact k1
    · unfold RvS
      rw [gI_sI_ne (Or.inl (by omega)), gI_sI_ne (Or.inl (by omega)), gI_sI_ne (Or.inl (by omega)), gI_sI_ne (Or.inl (by omega)), Gx.I 8 rfl]; exact g5
    · refine Or.inr ⟨gI_sI _ _ _ _, N1, y2, msi_s _ _ _, ?_⟩
      rw [gI_sI_ne (Or.inl (by omega)), gI_sI]
  · subst x1
    rw [if_pos rfl]
    exact ⟨_, _, a1, E1.2.2.2.1, E1.2.1, rfl, FF, G1.y3, Or.inr ⟨rfl, _, f, y2, y3, T1.fr Fx (by omega) (by omega) (by omega) (by omega)⟩⟩
/-- a clause too many: the class's question -/
def tmB (c k kind : Nat) (s i : Int32) : Prop := (c = 0 ∧ kind ≠ 256) ∨ (c ≠ 0 ∧ kind = 256) ∨ (kind = 259 ∧ s = 1) ∨ (kind = 260 ∧ i = 1) ∨ (kind = 261 ∧ k = 8)
theorem h_many {st : HSt} {H r c k kind : Nat} (E : RvE st H r) (hc : c ≤ 24) (hk : k ≤ 8) (h9 : kind < 279) (e3 : gI st 403 r = nI k) (e1 : gI st 501 (H + 4) = 0 ∨ gI st 501 (H + 4) = 1) (e2 : gI st 502 (H + 4) = 0 ∨ gI st 502 (H + 4) = 1) : ∃ x, fh_X5_isClauseTooMany (H + 4) (some r) (nI c) (nI kind) st = some (st, x) ∧ ((x = 0 ∧ ¬ tmB c k kind (gI st 501 (H + 4)) (gI st 502 (H + 4))) ∨ (x = 1 ∧ tmB c k kind (gI st 501 (H + 4)) (gI st 502 (H + 4)))) := by
  obtain ⟨-, k6, -, k5, -⟩ := E
  have q : ∀ a, a < 279 → (nI kind = nI a ↔ kind = a) := fun a ha => nI_eq (by omega) (by omega)
  have q0 : nI c = 0 ↔ c = 0 := nI_eq (b := 0) (by omega) (by omega)
  have q6 : nI kind = (256 : Int32) ↔ kind = 256 := q 256 (by omega)
  have q9 : nI kind = (259 : Int32) ↔ kind = 259 := q 259 (by omega)
  have q10 : nI kind = (260 : Int32) ↔ kind = 260 := q 260 (by omega)
  have q11 : nI kind = (261 : Int32) ↔ kind = 261 := q 261 (by omega)
  have rest : ∀ t0 : Int32, (c = 0 ↔ kind = 256) → ∃ x, fh_X5_isClauseTooMany_j21 (H + 4) (some r) (nI kind) t0 t0 st = some (st, x) ∧ ((x = 0 ∧ ¬ tmB c k kind (gI st 501 (H + 4)) (gI st 502 (H + 4))) ∨ (x = 1 ∧ tmB c k kind (gI st 501 (H + 4)) (gI st 502 (H + 4)))) := by
    intro t0 hh
    unfold fh_X5_isClauseTooMany_j21
    rw [if_pos rfl]
    by_cases z9 : kind = 259
    · rw [if_pos (q9.mpr z9), chk_t (isk_t k6)]
      rcases e1 with e | e
      · refine ⟨0, by rw [e]; rfl, Or.inl ⟨rfl, fun y => ?_⟩⟩
        rw [e] at y
        rcases y with y | y | y | y | y
        · omega
        · omega
        · exact absurd y.2 (by decide)
        · omega
        · omega
      · exact ⟨1, by rw [e]; rfl, Or.inr ⟨rfl, Or.inr (Or.inr (Or.inl ⟨z9, e⟩))⟩⟩
    rw [if_neg (fun y => z9 (q9.mp y))]
    by_cases z10 : kind = 260
    · rw [if_pos (q10.mpr z10), chk_t (isk_t k6)]
      rcases e2 with e | e
      · refine ⟨0, by rw [e]; rfl, Or.inl ⟨rfl, fun y => ?_⟩⟩
        rw [e] at y
        rcases y with y | y | y | y | y
        · omega
        · omega
        · omega
        · exact absurd y.2 (by decide)
        · omega
      · exact ⟨1, by rw [e]; rfl, Or.inr ⟨rfl, Or.inr (Or.inr (Or.inr (Or.inl ⟨z10, e⟩)))⟩⟩
    rw [if_neg (fun y => z10 (q10.mp y))]
    by_cases z11 : kind = 261
    · rw [if_pos (q11.mpr z11), dr_of k5, bs_, e3]
      rcases Nat.lt_or_ge k 8 with u | u
      · rw [if_pos (show nI k < (8 : Int32) from nI_lt (b := 8) u (by omega))]
        refine ⟨0, rfl, Or.inl ⟨rfl, fun y => ?_⟩⟩
        rcases y with y | y | y | y | y <;> omega
      · rw [if_neg (show ¬ nI k < (8 : Int32) from nI_nlt (a := k) (b := 8) u (by omega))]
        exact ⟨1, rfl, Or.inr ⟨rfl, Or.inr (Or.inr (Or.inr (Or.inr ⟨z11, by omega⟩)))⟩⟩
    rw [if_neg (fun y => z11 (q11.mp y))]
    refine ⟨0, rfl, Or.inl ⟨rfl, fun y => ?_⟩⟩
    rcases y with y | y | y | y | y <;> omega
  have bad : ∀ t0 t1 : Int32, t1 ≠ t0 → (c = 0 ∧ kind ≠ 256) ∨ (c ≠ 0 ∧ kind = 256) → ∃ x, fh_X5_isClauseTooMany_j21 (H + 4) (some r) (nI kind) t0 t1 st = some (st, x) ∧ ((x = 0 ∧ ¬ tmB c k kind (gI st 501 (H + 4)) (gI st 502 (H + 4))) ∨ (x = 1 ∧ tmB c k kind (gI st 501 (H + 4)) (gI st 502 (H + 4)))) := by
    intro t0 t1 hn hh
    unfold fh_X5_isClauseTooMany_j21
    rw [if_neg hn]
    refine ⟨1, rfl, Or.inr ⟨rfl, ?_⟩⟩
    rcases hh with z | z
    · exact Or.inl z
    · exact Or.inr (Or.inl z)
  unfold fh_X5_isClauseTooMany fh_X5_isClauseTooMany_j9
  by_cases a : c = 0
  · rw [if_pos (q0.mpr a)]
    by_cases b : kind = 256
    · rw [if_pos (q6.mpr b)]; exact rest 1 ⟨fun _ => b, fun _ => a⟩
    · rw [if_neg (fun y => b (q6.mp y))]; exact bad 0 1 (by decide) (Or.inl ⟨a, b⟩)
  · rw [if_neg (fun y => a (q0.mp y))]
    by_cases b : kind = 256
    · rw [if_pos (q6.mpr b)]; exact bad 1 0 (by decide) (Or.inr ⟨a, b⟩)
    · rw [if_neg (fun y => b (q6.mp y))]; exact rest 0 ⟨fun y => absurd y a, fun y => absurd y b⟩
