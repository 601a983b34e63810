/-! reading: all clauses; the reference's loop, and the RIVER's on both sides -/
noncomputable def rRest (G : Nat) (ms : MSt) : Option (MSt × Int32) := (fm_clauseHere ms).bind fun x2 => (iter (fun x : (Int32 × MSt) => fm_readsAll_s35 x.1 x.2) G (x2.2, x2.1)).bind (Sum.elim (fun o : MSt × Int32 => (some o : Option (MSt × Int32))) (fun x : (Int32 × MSt) => fm_readsAll_j66 x.1 x.2))
theorem j_see3 {st : HSt} {ms : MSt} {H n M i p : Nat} (J : Jt2 st ms H n M i p) : fm_see (msi ms 14 (nI (ps (ms.2.1 0) n i))) = some (msi ms 14 (nI (ps (ms.2.1 0) n i)), sv (ms.2.1 0) n (ps (ms.2.1 0) n i)) := by
  have := j_see2 J.seen
  rw [msi_msi] at this
  exact this
theorem j88_0 {m : MSt} (h : m.1 15 = 0) : fm_readsAll_j88 m = some (msi m 1 0, 1) := by
  unfold fm_readsAll_j88
  rw [if_pos (show (msi m 1 0).1 15 = 0 by rw [msi_n (by omega)]; exact h)]
theorem j88_1 {m : MSt} (h : m.1 15 ≠ 0) : fm_readsAll_j88 m = some (msi m 1 0, 0) := by
  unfold fm_readsAll_j88
  rw [if_neg (show ¬ (msi m 1 0).1 15 = 0 by rw [msi_n (by omega)]; exact h)]
theorem rr_dead {ms m1 : MSt} {G : Nat} (e : fm_clauseHere ms = some (m1, 0)) (h : m1.1 15 ≠ 0) : rRest (G + 1) ms = some (msi m1 1 0, 0) := by
  unfold rRest
  rw [e, bs_]
  dsimp only
  have s1 : fm_readsAll_s35 0 m1 = some (.inr (.inr (0, m1))) := by
    unfold fm_readsAll_s35
    rw [if_pos rfl]
  rw [iter_x (s1 := fun x : (Int32 × MSt) => fm_readsAll_s35 x.1 x.2) s1]
  show fm_readsAll_j66 0 m1 = _
  unfold fm_readsAll_j66
  rw [if_pos rfl, j88_1 h]
theorem rr_stop {st : HSt} {ms m1 : MSt} {H n M i q G : Nat} (e : fm_clauseHere ms = some (m1, 1)) (J : Jt2 st m1 H n M i q) (B : B8 (m1.2.1 0) n) (h : ¬ gA st (H + 1) i = 59) : rRest (G + 1) ms = fm_readsAll_j66 1 (msi m1 14 (nI (ps (m1.2.1 0) n i))) := by
  unfold rRest
  rw [e, bs_]
  dsimp only
  have s1 : fm_readsAll_s35 1 m1 = some (.inr (.inr (1, msi m1 14 (nI (ps (m1.2.1 0) n i))))) := by
    unfold fm_readsAll_s35
    rw [if_neg (show ¬ (1 : Int32) = 0 by decide), j_see2 J, bs_]
    dsimp only
    rw [if_neg (fun z => h ((see_sign J B (by decide) (by decide) (by decide)).mp z))]
  rw [iter_x (s1 := fun x : (Int32 × MSt) => fm_readsAll_s35 x.1 x.2) s1]
  rfl
theorem rr_end {st : HSt} {ms m1 : MSt} {H n M i q G : Nat} (e : fm_clauseHere ms = some (m1, 1)) (J : Jt2 st m1 H n M i q) (B : B8 (m1.2.1 0) n) (h : gA st (H + 1) i = 0) : rRest (G + 1) ms = some (msi (msi m1 14 (nI (ps (m1.2.1 0) n i))) 1 0, 1) := by
  rw [rr_stop e J B (by rw [h]; decide)]
  have J1 := J.seen
  unfold fm_readsAll_j66
  rw [if_neg (show ¬ (1 : Int32) = 0 by decide), j_see3 J, bs_]
  dsimp only
  rw [if_pos ((see_end J B).mpr h)]
  exact j88_0 J1.2.2.1
theorem rr_bad {st : HSt} {ms m1 : MSt} {H n M i q G : Nat} (e : fm_clauseHere ms = some (m1, 1)) (J : Jt2 st m1 H n M i q) (B : B8 (m1.2.1 0) n) (h : ¬ gA st (H + 1) i = 0) (h59 : ¬ gA st (H + 1) i = 59) : rRest (G + 1) ms = some (msi (msi (msi m1 14 (nI (ps (m1.2.1 0) n i))) 15 (nI (1 + 8 * ps (m1.2.1 0) n i + 0))) 1 0, 0) := by
  rw [rr_stop e J B h59]
  have J1 := J.seen
  have hps : ps (m1.2.1 0) n i ≤ 400 := Nat.le_trans (ps_le i) J.2.1.2.1
  unfold fm_readsAll_j66
  rw [if_neg (show ¬ (1 : Int32) = 0 by decide), j_see3 J, bs_]
  dsimp only
  rw [if_neg (fun z => h ((see_end J B).mp z)), show (msi m1 14 (nI (ps (m1.2.1 0) n i))).1 14 = nI (ps (m1.2.1 0) n i) from msi_s _ _ _, show fm_fails (0 : Int32) (nI (ps (m1.2.1 0) n i)) (msi m1 14 (nI (ps (m1.2.1 0) n i))) = some (msi (msi m1 14 (nI (ps (m1.2.1 0) n i))) 15 (nI (1 + 8 * ps (m1.2.1 0) n i + 0)), 0) from m_fails (a := 0) J1.2.2.1, bs_]
  refine j88_1 ?_
  rw [msi_s]
  intro z
  have := (nI_eq (b := 0) (by omega) (by omega)).mp z
  omega
theorem rr_next {st : HSt} {ms m1 : MSt} {H n M i q G : Nat} (e : fm_clauseHere ms = some (m1, 1)) (J : Jt2 st m1 H n M i q) (B : B8 (m1.2.1 0) n) (h : gA st (H + 1) i = 59) : rRest (G + 1) ms = rRest G (msi m1 14 (nI (ps (m1.2.1 0) n i + 1))) := by
  unfold rRest
  rw [e, bs_]
  dsimp only
  have s1 : fm_readsAll_s35 1 m1 = (fm_clauseHere (msi m1 14 (nI (ps (m1.2.1 0) n i + 1)))).bind fun x15 => some (.inr (.inl (x15.2, x15.1))) := by
    unfold fm_readsAll_s35
    rw [if_neg (show ¬ (1 : Int32) = 0 by decide), j_see2 J, bs_]
    dsimp only
    rw [if_pos ((see_sign J B (by decide) (by decide) (by decide)).mpr h), msi_s, nI_1, msi_msi]
  rw [iter]
  show ((fm_readsAll_s35 1 m1).bind _).bind _ = _
  rw [s1]
  cases hh : fm_clauseHere (msi m1 14 (nI (ps (m1.2.1 0) n i + 1))) with
  | none => rfl
  | some x => rfl
/-! the RIVER -/
def mRz (k : Nat) : Bool := mRw k || k == 1
theorem mRw_z : ∀ k, mRw k = true → mRz k = true := fun k h => by unfold mRz; rw [h]; rfl
theorem rv_loop {H n M r : Nat} : ∀ (d c : Nat), c + d = 24 → ∀ (st : HSt) (ms : MSt) (F G i p w k : Nat), RvE st H r → Jt2 st ms H n M i p → RvJ st ms H r w k → ((c = 0 ∧ w = 0) ∨ (c ≠ 0 ∧ 2 ≤ w)) → ms.1 17 = 6 → ms.1 20 = nI c → B8 (ms.2.1 0) n → d < F → d < G →
    ∃ st2 o ms2 rr, iter (fun x : (Int32 × HSt) => fh_X5_read_s20 (H + 4) r x.1 x.2) F (nI c, st) = some (.inl (st2, o)) ∧ rRest G ms = some (ms2, rr) ∧ Fr (RvX H r) st st2 ∧ MF mRz ms ms2 ∧ ms2.1 1 = 0 ∧ ((o = some r ∧ rr = 1 ∧ ∃ w k, 2 ≤ w ∧ RvJ st2 ms2 H r w k) ∨ (o = none ∧ rr = 0 ∧ gI st2 1005 H = ms2.1 15)) := by
  intro d
  induction d with
  | zero => 
    intro c hcd st ms F G i p w k E J V hw h17 h20 B hF hG
    obtain ⟨F, rfl⟩ : ∃ F', F = F' + 1 := ⟨F - 1, by omega⟩
    obtain ⟨G, rfl⟩ : ∃ G', G = G' + 1 := ⟨G - 1, by omega⟩
    obtain ⟨s1, m1, rr, a1, a2, F1, G1, c1⟩ := j_rclause E J V hw (by omega) h17 h20
    rcases c1 with ⟨-, z, -⟩ | ⟨x1, i1, f, y1, y2, T1⟩
    · omega
    · subst x1
      have E1 := E.fr F1
      obtain ⟨s2, b1, F2, -, T2, -⟩ := h_fail (a := 0) T1
      have b1' : fh_X10_fail H (0 : Int32) s1 = some s2 := b1
      have st1 : fh_X5_read_s20 (H + 4) r (nI c) st = some (.inl (s2, none)) := by
        unfold fh_X5_read_s20
        rw [if_neg (show ¬ (24 : Int32) < nI c from nI_nlt (b := c) (a := 24) (by omega) (by omega)), chk_t (isk_t E.2.1), a1, bs_]
        rw [chk_t (isk_t E1.2.1), E1.2.2.1, dr_of T1.1.1, bs_, h_kind T1, if_neg y1, bs_]
        dsimp only
        rw [if_neg (show ¬ (1 : Int32) = 0 by decide), chk_t (isk_t E1.2.1), E1.2.2.1, dr_of T1.1.1, bs_, h_kind T1, if_neg y1, bs_]
        dsimp only
        rw [if_neg (show ¬ (1 : Int32) = 59 by decide), chk_t (isk_t E1.2.1), E1.2.2.1, dr_of T1.1.1, bs_, b1', bs_]
      rw [if_neg y1] at T2
      refine ⟨s2, none, _, _, it_o (s1 := fun x : (Int32 × HSt) => fh_X5_read_s20 (H + 4) r x.1 x.2) (x := (nI c, st)) st1, rr_dead a2 (by rw [y2]; exact y1), F1.tr (Frw F2), (G1.mo mRw_z).tr (MF.msi rfl), msi_s _ _ _, Or.inr ⟨rfl, rfl, ?_⟩⟩
      rw [msi_n (by omega), y2]; exact T2.2.2.2.2.1.2.2
  | succ d ih =>
    intro c hcd st ms F G i p w k E J V hw h17 h20 B hF hG
    obtain ⟨F, rfl⟩ : ∃ F', F = F' + 1 := ⟨F - 1, by omega⟩
    obtain ⟨G, rfl⟩ : ∃ G', G = G' + 1 := ⟨G - 1, by omega⟩
    obtain ⟨s1, m1, rr, a1, a2, F1, G1, c1⟩ := j_rclause E J V hw (by omega) h17 h20
    have E1 := E.fr F1
    have hr := E.1
    have g24 : ¬ (24 : Int32) < nI c := nI_nlt (b := c) (a := 24) (by omega) (by omega)
    rcases c1 with ⟨x1, hc4, u20, i1, q1, w1, k1, hw1, J1, V1⟩ | ⟨x1, i1, f, y1, y2, T1⟩
    · subst x1
      have T1 := J1.1
      have t1 : m1.2.1 0 = ms.2.1 0 := G1.A 0 rfl
      have B1 : B8 (m1.2.1 0) n := by rw [t1]; exact B
      have Jn := J1.seen
      generalize hmn : msi m1 14 (nI (ps (m1.2.1 0) n i1)) = mn at Jn
      have tn : mn.2.1 0 = m1.2.1 0 := by rw [← hmn]; rfl
      have head : fh_X5_read_s20 (H + 4) r (nI c) st = (if gA s1 (H + 1) i1 = 0 then some (.inl (s1, (some r))) else (if gA s1 (H + 1) i1 = (59 : Int32) then (fh_X10_next H s1).bind fun x31 => some (.inr (.inl ((nI c + 1), x31))) else (fh_X10_fail H (0 : Int32) s1).bind fun x38 => some (.inl (x38, (none : Option Nat))))) := by
        unfold fh_X5_read_s20
        rw [if_neg g24, chk_t (isk_t E.2.1), a1, bs_]
        rw [chk_t (isk_t E1.2.1), E1.2.2.1, dr_of T1.1.1, bs_, h_kind T1, if_pos rfl, bs_]
        dsimp only
        rw [chk_t (isk_t E1.2.1), E1.2.2.1, dr_of T1.1.1, bs_, h_kind T1, if_pos rfl, bs_]
        dsimp only
        rw [chk_t (isk_t E1.2.1), E1.2.2.1, dr_of T1.1.1, bs_, chk_t (isk_t E1.2.1), bs_]
      by_cases z0 : gA s1 (H + 1) i1 = 0
      · rw [if_pos z0] at head
        refine ⟨s1, some r, _, _, it_o (s1 := fun x : (Int32 × HSt) => fh_X5_read_s20 (H + 4) r x.1 x.2) (x := (nI c, st)) head, rr_end a2 J1 B1 z0, F1, ((G1.mo mRw_z).tr (MF.msi rfl)).tr (MF.msi rfl), msi_s _ _ _, Or.inl ⟨rfl, rfl, w1, k1, hw1, ?_⟩⟩
        exact V1.frm (Y := fun k => k == 14 || k == 1) ((MF.msi rfl).tr (MF.msi rfl)) (fun j h1 h2 => by
          rcases (by omega : j = 7 ∨ j = 8 ∨ j = 9 ∨ j = 10 ∨ j = 11 ∨ j = 12 ∨ j = 13) with z | z | z | z | z | z | z <;> rw [z] <;> rfl)
      rw [if_neg z0] at head
      by_cases z9 : gA s1 (H + 1) i1 = 59
      · rw [← tn] at Jn
        obtain ⟨s2, b1, F2, -, -, J2⟩ := j_passS Jn (c0 := 59) (by decide) z9
        have hm2 : msi mn 14 (nI (ps (mn.2.1 0) n i1 + 1)) = msi m1 14 (nI (ps (m1.2.1 0) n i1 + 1)) := by rw [tn, ← hmn, msi_msi]
        rw [hm2] at J2
        have Gk : MF (fun k => k == 14) m1 (msi m1 14 (nI (ps (m1.2.1 0) n i1 + 1))) := MF.msi rfl
        rw [if_pos z9, b1, bs_, nI_1] at head
        obtain ⟨st2, o, ms2, rr2, d1, d2, d3, d4, d5, d6⟩ := ih (c + 1) (by omega) s2 _ F G _ _ w1 k1 (E1.fr F2) J2 ((V1.frh F2 (by omega) (fun j hj => by omega)).frm Gk (fun j h1 h2 => by
          rcases (by omega : j = 7 ∨ j = 8 ∨ j = 9 ∨ j = 10 ∨ j = 11 ∨ j = 12 ∨ j = 13) with z | z | z | z | z | z | z <;> rw [z] <;> rfl)) (Or.inr ⟨by omega, hw1⟩) (by rw [Gk.I 17 rfl, G1.I 17 rfl]; exact h17) (by rw [Gk.I 20 rfl]; exact u20) B1 (by omega) (by omega)
        refine ⟨st2, o, ms2, rr2, ?_, ?_, (F1.tr (Frw F2)).tr d3, ((G1.mo mRw_z).tr (MF.msi rfl)).tr d4, d5, d6⟩
        · rw [iter_c (s1 := fun x : (Int32 × HSt) => fh_X5_read_s20 (H + 4) r x.1 x.2) (x := (nI c, st)) (y := (nI (c + 1), s2)) head]; exact d1
        · rw [rr_next a2 J1 B1 z9]; exact d2
      rw [if_neg z9] at head
      obtain ⟨s2, b1, F2, -, T2, -⟩ := h_fail (a := 0) T1
      have b1' : fh_X10_fail H (0 : Int32) s1 = some s2 := b1
      rw [b1', bs_] at head
      rw [if_pos rfl] at T2
      refine ⟨s2, none, _, _, it_o (s1 := fun x : (Int32 × HSt) => fh_X5_read_s20 (H + 4) r x.1 x.2) (x := (nI c, st)) head, rr_bad a2 J1 B1 z0 z9, F1.tr (Frw F2), (((G1.mo mRw_z).tr (MF.msi rfl)).tr (MF.msi rfl)).tr (MF.msi rfl), msi_s _ _ _, Or.inr ⟨rfl, rfl, ?_⟩⟩
      rw [msi_n (by omega), msi_s]; exact T2.2.2.2.2.1.2.2
    · subst x1
      obtain ⟨s2, b1, F2, -, T2, -⟩ := h_fail (a := 0) T1
      have b1' : fh_X10_fail H (0 : Int32) s1 = some s2 := b1
      have st1 : fh_X5_read_s20 (H + 4) r (nI c) st = some (.inl (s2, none)) := by
        unfold fh_X5_read_s20
        rw [if_neg g24, chk_t (isk_t E.2.1), a1, bs_]
        rw [chk_t (isk_t E1.2.1), E1.2.2.1, dr_of T1.1.1, bs_, h_kind T1, if_neg y1, bs_]
        dsimp only
        rw [if_neg (show ¬ (1 : Int32) = 0 by decide), chk_t (isk_t E1.2.1), E1.2.2.1, dr_of T1.1.1, bs_, h_kind T1, if_neg y1, bs_]
        dsimp only
        rw [if_neg (show ¬ (1 : Int32) = 59 by decide), chk_t (isk_t E1.2.1), E1.2.2.1, dr_of T1.1.1, bs_, b1', bs_]
      rw [if_neg y1] at T2
      refine ⟨s2, none, _, _, it_o (s1 := fun x : (Int32 × HSt) => fh_X5_read_s20 (H + 4) r x.1 x.2) (x := (nI c, st)) st1, rr_dead a2 (by rw [y2]; exact y1), F1.tr (Frw F2), (G1.mo mRw_z).tr (MF.msi rfl), msi_s _ _ _, Or.inr ⟨rfl, rfl, ?_⟩⟩
      rw [msi_n (by omega), y2]; exact T2.2.2.2.2.1.2.2
