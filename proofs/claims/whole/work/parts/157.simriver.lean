/-! river: the two agree -/
theorem told_V {m : MSt} {v : Nat → Int32} {w k : Nat} {sp ic : Int32} {s : Nat} (T : ToldV m v w k sp ic) (hw : w ≤ 40) (hk : k ≤ 8) (hs : sp = nI s) (hs2 : s ≤ 20) (he : ∀ j, j < 2 → ∃ e, e ≤ 9 ∧ m.2.1 12 j = nI e) (hf : ∀ f, f < k → ∃ e, e ≤ 9 ∧ m.2.1 13 (2 * f + 1) = nI e) : VOk 9999 v := by
  obtain ⟨t0, t1, t2, t3, t4, t5, t6, t7, tb, te, tf, ter, tru⟩ := T
  refine ⟨w, fun _ => 0, 0, s, k, t0, fun s hs => ?_, t1, t2.trans hs, t4, hw, Nat.zero_le _, Nat.zero_le _, hs2, hk, fun s hs => ?_, fun f hf2 => ?_, fun s j hs hj => ?_, fun s j _ _ hj _ => absurd hj (Nat.not_lt_zero _)⟩
  · rcases (by omega : s = 0 ∨ s = 1) with z | z
    · rw [z]; exact t6
    · rw [z]; exact t7
  · obtain ⟨e, e1, e2⟩ := he s hs
    exact ⟨e, (te s hs).trans e2, e1⟩
  · obtain ⟨e, e1, e2⟩ := hf f hf2
    exact ⟨e, by rw [Nat.add_assoc, tf (2 * f + 1) (by omega)]; exact e2, e1⟩
  · rw [Nat.add_assoc, ter (8 * s + j) (by omega)]
    unfold sm9; decide
theorem sim_river : Sim0 Rel fh_X11_river fm_river := sim0_of (fun hx st ms R => by
  have hk12 := Rel_k R
  obtain ⟨s2, n, M, e2, R2, T2, h1n, hn, B, -⟩ := rd_tape R
  obtain ⟨mA, eA, GA, q1, q17, q7, q8, q9, q10, q20, q14, q15, q11, q12⟩ := m_river0 ms
  have R2' := R2
  obtain ⟨_, _, _, w2, hi2, h2, p2, -⟩ := R2'
  -- the reader's own fields
  have K21 : gK s2 (hx + 17 + 4) = 6 := h2.k (j := 21) (by omega) rfl
  let s3 := sI (sI s2 501 (hx + 17 + 4) 0) 502 (hx + 17 + 4) 0
  have F3 : Fr (fun b => b = hx + 17 + 4) s2 s3 := (Fr.sI (X := fun b => b = hx + 17 + 4) rfl).tr (Fr.sI rfl)
  have R3 : Rel hx s3 (msi ms 1 0) := R2.sc (F3.mo (fun b hb => Or.inl (by omega))) (p2.f F3 (by omega)) MF.rf (fun _ _ => rfl)
  have R3' := R3
  obtain ⟨_, _, _, w3, hi3, h3, p3, -⟩ := R3'
  have T3 : Tk s3 (hx + 17) (ms.2.1 0) n M 0 0 := T2.fr F3 (by omega) (by omega) (by omega) (by omega)
  obtain ⟨s5, e5, w5, hi5, E5, n5, k5, W5, i5, a5⟩ := rv_new w3 hi3
  generalize hr : gN s3 = r at *
  have lo : ∀ j, j < 110 → hx + j < r := fun j hj => by rw [← hr]; exact h3.lt hi3 hj
  have lo109 := lo 109 (by omega)
  have O5 : ∀ j, j < 110 → Old s3 s5 (hx + j) := fun j hj => E5 _ (by rw [hr]; exact lo j hj)
  have T5 : Tk s5 (hx + 17) (ms.2.1 0) n M 0 0 := T3.old (fun j hj => by rw [Nat.add_assoc]; exact O5 (17 + j) (by omega))
  have RE5 : RvE s5 (hx + 17) r := ⟨by omega, (O5 21 (by omega)).1.trans ((F3.K _).trans K21), ((O5 21 (by omega)).2.2.2.2.2.2 500).trans h3.2.2.1.2.2.2.2.2.2, k5, W5⟩
  have tA : mA.2.1 0 = ms.2.1 0 := GA.A 0 rfl
  have J5 : Jt2 s5 mA (hx + 17) n M 0 0 := ⟨by rw [tA]; exact T5, ⟨q1.trans h1n, hn, q14, by omega⟩, q15, rfl⟩
  have i21 : ∀ f, gI s5 f (hx + 17 + 4) = gI s3 f (hx + 17 + 4) := (O5 21 (by omega)).2.2.2.2.2.1
  have V5 : RvJ s5 mA (hx + 17) r 0 0 := by
    refine ⟨⟨i5 400, q7, by omega⟩, fun s hs => ?_, fun s hs => ?_, ⟨i5 403, q10, by omega, fun f hf => by omega⟩, Or.inl ⟨?_, q8, fun z => absurd rfl z⟩, Or.inl ⟨?_, q9, i5 402⟩⟩
    · rw [a5 1 (by omega) (by omega), a5 2 (by omega) (by omega), q11 _ (by omega), q11 _ (by omega)]; exact ⟨rfl, rfl⟩
    · rw [a5 3 (by omega) (by omega), q12 _ (by omega)]; exact ⟨rfl, 0, by omega, rfl⟩
    · rw [i21]; exact (gI_sI_ne (Or.inl (by omega))).trans (gI_sI _ _ _ _)
    · rw [i21]; exact gI_sI _ _ _ _
  obtain ⟨s6, o, m6, rr, e6, em, F6, G6, z1, c6⟩ := rv_loop (H := hx + 17) (n := n) (M := M) (r := r) 24 0 (by omega) s5 mA mFuel mFuel 0 0 0 0 RE5 J5 V5 (Or.inl ⟨rfl, rfl⟩) q17 q20 (by rw [tA]; exact B) (by rw [mFuel_eq]; omega) (by rw [mFuel_eq]; omega)
  have nx27 : ¬ RvX (hx + 17) r (hx + 27) := by unfold RvX; omega
  have p6 : PkR hx s6 := by
    have p5 : PkR hx s5 := by
      have o27 := O5 27 (by omega)
      rcases p3 with z | ⟨P, z, zk, zl⟩
      · exact Or.inl ((o27.2.2.2.2.2.2 10).trans z)
      · have oP := E5 P (by rw [hr]; exact (by rw [← hr]; exact hi3.lt (by rw [zk]; omega)))
        exact Or.inr ⟨P, (o27.2.2.2.2.2.2 10).trans z, oP.1.trans zk, oP.2.1.trans zl⟩
    exact p5.f F6 nx27
  have R6 : Rel hx s6 (msi ms 1 0) := by
    refine R3.extS (F6.Wf w5) (hi5.fr F6) p6 (fun b hb => ?_) (fun b hb hs => ?_)
    · have o := E5 b (by rw [hr]; rw [hr] at hb; exact hb)
      exact ⟨(F6.K _).trans o.1, (F6.L _).trans o.2.1, by rw [F6.Q]; exact o.2.2.2.2.1, fun f hf => (F6.R b hf).trans (o.2.2.2.2.2.2 f)⟩
    · rw [hr] at hb
      have o := E5 b (by rw [hr]; exact hb)
      have nb : ¬ RvX (hx + 17) r b := by
        rintro (z | z | z)
        · exact hs (Or.inl (by omega))
        · exact hs (Or.inl (by omega))
        · omega
      exact ⟨fun f => (F6.I f nb).trans (o.2.2.2.2.2.1 f), fun f => (F6.R' f nb).trans (o.2.2.2.2.2.2 f), (F6.A nb).trans o.2.2.1, (F6.J nb).trans o.2.2.2.1⟩
  have GG : MF mRa ms m6 := GA.tr (G6.mo mRz_a)
  have R7 : Rel hx s6 m6 := R6.mw (by rw [z1, msi_s]) (by rw [GG.I 2 rfl, msi_n (by omega)]) (fun k hk => (GG.A k (mKp_a k hk)).trans rfl)
  have R7' := R7
  obtain ⟨_, _, r0, w7, hi7, h7, p7, -, -, I7, V7, -⟩ := R7'
  have read : fh_X5_read (hx + 21) s2 = some (s6, o) := by
    show fh_X5_read (hx + 17 + 4) s2 = some (s6, o)
    unfold fh_X5_read
    rw [chk_t (isk_t K21), bs_]
    show (fh_X4_init (gN s3) (nO s3 5 0)).bind (fun x4 => (iter (fun x : (Int32 × HSt) => fh_X5_read_s20 (hx + 17 + 4) (gN s3) x.1 x.2) mFuel ((0 : Int32), x4)).bind (Sum.elim (fun o : HSt × Option Nat => (some o : Option (HSt × Option Nat))) (fun x : (Int32 × HSt) => fh_X5_read_j79 (hx + 17 + 4) x.2))) = _
    rw [hr, e5, bs_, show iter (fun x : (Int32 × HSt) => fh_X5_read_s20 (hx + 17 + 4) r x.1 x.2) mFuel ((0 : Int32), s5) = some (.inl (s6, o)) from e6]
    rfl
  unfold fh_X11_river
  rw [chk_t (isk_t hk12), e2, bs_, chk_t (st_k h2), h2.2.1.2.2.2.2.2.2.2.2.1, dr_of (h2.k (j := 21) (c := 6) (by omega) rfl), bs_, read, bs_, eA, em, bs_]
  dsimp only
  rcases c6 with ⟨y1, y2, w, k, hw, V6⟩ | ⟨y1, y2, y3⟩
  · subst y1; subst y2
    rw [if_neg (show ¬ (some r = (none : Option Nat)) by intro z; cases z), if_neg (show ¬ (1 : Int32) = 0 by decide), bs_, chk_t (st_k h7), st_site h7, bs_]
    obtain ⟨⟨w1, w2', w3'⟩, gB, gY, ⟨k1, k2, k3', k4⟩, gS, gN'⟩ := V6
    obtain ⟨m8, e8, G8, D8⟩ := m_told w2' k2 k3'
    rw [e8]
    have D8' := D8
    obtain ⟨t0, t1, t2, t3, t4, t5, t6, t7, tb, te, tf, ter, tru⟩ := D8'
    -- STEP and INCHES
    have S8 : gI s6 401 r = (if 0 ≤ m6.1 8 then m6.1 8 else 1) ∧ ∃ s, s ≤ 20 ∧ (if 0 ≤ m6.1 8 then m6.1 8 else 1) = nI s := by
      rcases gS with ⟨-, u2, u3⟩ | ⟨-, -, s, u1, u2, u3, u4⟩
      · rw [u2, if_neg (by decide)]; exact ⟨u3 (by omega), 1, by omega, rfl⟩
      · rw [u3, if_pos (show (0 : Int32) ≤ nI s from nI_le (a := 0) (b := s) (by omega) (by omega))]; exact ⟨u4, s, u2, rfl⟩
    have N8 : gI s6 402 r = (if 0 ≤ m6.1 9 then m6.1 9 else 0) := by
      rcases gN' with ⟨-, u2, u3⟩ | ⟨-, s, u1, u2, u3⟩
      · rw [u2, if_neg (by decide)]; exact u3
      · rw [u2, if_pos (show (0 : Int32) ≤ nI s from nI_le (a := 0) (b := s) (by omega) (by omega))]; exact u3
    obtain ⟨S8a, s, hs20, hsp⟩ := S8
    have c4 : (m8.2.1 26 4).toNatClampNeg = k := by rw [t4]; exact nI_clamp (by omega)
    have V8 : RvR s6 r (m8.2.1 26) := by
      refine ⟨(F6.K _).trans k5, w1.trans t0.symm, S8a.trans t2.symm, N8.trans t3.symm, k1.trans t4.symm, fun s hs => ?_, fun f hf => ?_⟩
      · rw [tb (2 * s) (by omega), Nat.add_assoc, tb (2 * s + 1) (by omega), te s hs]
        exact ⟨(gB s hs).1, (gB s hs).2, (gY s hs).1⟩
      · rw [c4] at hf
        rw [tf (2 * f) (by omega), Nat.add_assoc, tf (2 * f + 1) (by omega)]
        exact ⟨(k4 f hf).1, (k4 f hf).2.1⟩
    have v0 : m8.2.1 26 0 ≠ 0 := by rw [t0]; intro z; have := (nI_eq (b := 0) (by omega) (by omega)).mp z; omega
    obtain ⟨s7, e7, F7, I8⟩ := h_begin w7 (k3 h7) V8 (by rw [c4]; exact k3') t1 t6 t7 (I7.2.2.1.trans t5.symm) (by rw [t5]; exact I7.2.2.2.1) v0 ter tru
    rw [e7, bs_, chk_t (isk_t (((F7.K _).trans (F6.K _)).trans k5))]
    have nb : ¬ Sb (hx + 3) r := by unfold Sb Sx; omega
    refine ⟨_, _, rfl, rfl, ?_, R7.si (r := r) (F7.mo (fun b z => ?_)) (G8.mo mX26_q) I8 (told_V D8 w3' k3' hsp hs20 (fun j hj => (gY j hj).2) (fun f hf => (k4 f hf).2.2))⟩
    · dsimp only
      rw [F7.I 400 nb, w1]
    · have := sb_in z; unfold Sb Sx at z; unfold Si; omega
  · subst y1; subst y2
    rw [if_pos rfl, if_pos rfl, chk_t (st_k h7), h7.2.1.2.2.2.2.2.2.2.1, dr_of (h7.k (j := 17) (c := 11) (by omega) rfl), bs_]
    refine ⟨_, _, rfl, rfl, ?_, R7⟩
    dsimp only
    rw [y3])
