/-! river: both sides -/
theorem PkR.f {X : Nat → Prop} {hx : Nat} {a b : HSt} (p : PkR hx a) (F : Fr X a b) (h : ¬ X (hx + 27)) : PkR hx b := by
  unfold PkR at *
  rw [F.R' 10 h]
  simp only [F.K, F.L]
  exact p
theorem Tk.old {st st2 : HSt} {H n M i : Nat} {t : Nat → Int32} {f : Int32} (h : Tk st H t n M i f) (E : ∀ j, j < 4 → Old st st2 (H + j)) : Tk st2 H t n M i f := by
  obtain ⟨a, b, c, d, ⟨e1, e2, e3⟩, g1, g2, g3⟩ := h
  obtain ⟨a0, ⟨x1, x2, x3⟩, ⟨y1, y2, y3⟩, ⟨z1, z2, z3⟩⟩ := a
  have E0 := E 0 (by omega)
  have E1 := E 1 (by omega)
  have E2 := E 2 (by omega)
  have E3 := E 3 (by omega)
  rw [Nat.add_zero] at E0
  refine ⟨⟨E0.1.trans a0, ⟨(E0.2.2.2.2.2.2 _).trans x1, E1.1.trans x2, E1.2.1.trans x3⟩, ⟨(E0.2.2.2.2.2.2 _).trans y1, E2.1.trans y2, E2.2.1.trans y3⟩, ⟨(E0.2.2.2.2.2.2 _).trans z1, E3.1.trans z2, E3.2.1.trans z3⟩⟩, b, c, d, ⟨(E0.2.2.2.2.2.1 _).trans e1, (E0.2.2.2.2.2.1 _).trans e2, (E0.2.2.2.2.2.1 _).trans e3⟩, by rw [E1.2.2.1]; exact g1, by rw [E2.2.2.1]; exact g2, fun j hj => ?_⟩
  rw [E1.2.2.1, E2.2.2.1, E3.2.2.1]; exact g3 j hj
/-- the tape is scanned, and empty then -/
theorem rd_tape {hx : Nat} {st : HSt} {ms : MSt} (R : Rel hx st ms) : ∃ s2 n M, fh_X11_scanTape hx st = some s2 ∧ Rel hx s2 (msi ms 1 0) ∧ Tk s2 (hx + 17) (ms.2.1 0) n M 0 0 ∧ ms.1 1 = nI n ∧ n ≤ 400 ∧ B8 (ms.2.1 0) n ∧ gI s2 1103 hx = gI st 1103 hx := by
  have R0 := R
  obtain ⟨n, nr, r, w, hi, h, p, T, U, I, V, J⟩ := R
  obtain ⟨s1, M, e1, F1, T1⟩ := tk_scan h T
  have n27 : ¬ TkX (hx + 17) (hx + 27) := by unfold TkX; omega
  have n0 : ¬ TkX (hx + 17) hx := by unfold TkX; omega
  have R1 : Rel hx s1 ms := R0.sc (F1.mo (fun b hb => by unfold TkX at hb; exact Or.inl (by omega))) (p.f F1 n27) MF.rf (fun _ _ => rfl)
  obtain ⟨t1, t2, t3, t4, t5, t6, t7, t8⟩ := T
  have h1 := h.fr F1
  have T2 : TpR hx (sI s1 1101 hx 0) (msi ms 1 0) 0 := ⟨(F1.K _).trans t1, (F1.R (f := 1100) _ rfl).trans t2, (F1.K _).trans t3, (F1.L _).trans t4, gI_sI _ _ _ _, msi_s _ _ _, by omega, fun i hi => by omega⟩
  refine ⟨sI s1 1101 hx 0, n, M, ?_, R1.tape (Fr.sI (Or.inl rfl)) T2 (gI_sI_ne (Or.inl (by omega))) (MF.msi rfl), ?_, t6, t7, fun j hj => (t8 j hj).2, ?_⟩
  · unfold fh_X11_scanTape
    rw [chk_t (st_k h), h.2.1.2.2.2.2.2.2.2.1, dr_of (h.k (j := 17) (c := 11) (by omega) rfl), bs_, t2, t5, e1, bs_, chk_t (st_k h1)]
  · exact T1.fr (X := fun b => b = hx) (Fr.sI rfl) (by omega) (by omega) (by omega) (by omega)
  · rw [gI_sI_ne (Or.inl (by omega)), F1.I 1103 n0]
def mRa (k : Nat) : Bool := k == 1 || k == 4 || k == 7 || k == 8 || k == 9 || k == 10 || k == 11 || k == 12 || k == 13 || k == 14 || k == 15 || k == 16 || k == 17 || k == 18 || k == 20
theorem mRz_a : ∀ k, mRz k = true → mRa k = true := fun k h => by
  unfold mRz mRw mRv at h
  rcases (by simpa using h : _ ) with h
  unfold mRa
  simp at h ⊢
  omega
theorem mKp_a : ∀ k, mKp k = true → mRa k = false := fun k h => by
  unfold mKp at h
  simp at h
  rcases (by omega : k = 0 ∨ k = 3 ∨ k = 5 ∨ k = 6 ∨ k = 26 ∨ k = 40 ∨ k = 41) with z | z | z | z | z | z | z <;> rw [z] <;> rfl
/-- the reference begins to read a RIVER -/
theorem m_river0 (ms : MSt) : ∃ mA, fm_river ms = (rRest mFuel mA).bind (fun x1 => if x1.2 = 0 then some (x1.1, (-2 : Int32) - x1.1.1 15) else rivT x1.1) ∧ MF mRa ms mA ∧ mA.1 1 = ms.1 1 ∧ mA.1 17 = 6 ∧ mA.1 7 = 0 ∧ mA.1 8 = -1 ∧ mA.1 9 = -1 ∧ mA.1 10 = 0 ∧ mA.1 20 = 0 ∧ mA.1 14 = 0 ∧ mA.1 15 = 0 ∧ (∀ j, j < 4 → mA.2.1 11 j = 0) ∧ (∀ j, j < 2 → mA.2.1 12 j = 0) := by
  let mB := msi (msi (msi (msi (msi ms 17 6) 7 0) 8 (-1)) 9 (-1)) 10 0
  have GB : MF mRa ms mB := ((((MF.msi rfl).tr (MF.msi rfl)).tr (MF.msi rfl)).tr (MF.msi rfl)).tr (MF.msi rfl)
  have b17 : mB.1 17 = 6 := by show (msi (msi (msi (msi (msi ms 17 6) 7 0) 8 (-1)) 9 (-1)) 10 0).1 17 = 6; rw [msi_n (by omega), msi_n (by omega), msi_n (by omega), msi_n (by omega), msi_s]
  have b7 : mB.1 7 = 0 := by show (msi (msi (msi (msi (msi ms 17 6) 7 0) 8 (-1)) 9 (-1)) 10 0).1 7 = 0; rw [msi_n (by omega), msi_n (by omega), msi_n (by omega), msi_s]
  have b8 : mB.1 8 = -1 := by show (msi (msi (msi (msi (msi ms 17 6) 7 0) 8 (-1)) 9 (-1)) 10 0).1 8 = -1; rw [msi_n (by omega), msi_n (by omega), msi_s]
  have b9 : mB.1 9 = -1 := by show (msi (msi (msi (msi (msi ms 17 6) 7 0) 8 (-1)) 9 (-1)) 10 0).1 9 = -1; rw [msi_n (by omega), msi_s]
  have b10 : mB.1 10 = 0 := by show (msi (msi (msi (msi (msi ms 17 6) 7 0) 8 (-1)) 9 (-1)) 10 0).1 10 = 0; rw [msi_s]
  have b1 : mB.1 1 = ms.1 1 := by show (msi (msi (msi (msi (msi ms 17 6) 7 0) 8 (-1)) 9 (-1)) 10 0).1 1 = ms.1 1; rw [msi_n (by omega), msi_n (by omega), msi_n (by omega), msi_n (by omega), msi_n (by omega)]
  obtain ⟨mC, eC, FC, iC, vC⟩ := cp_loop (A := 11) (n := 4) (b := 0) (g := fun _ => 0) (m := mB) (s1 := fun x : (Int32 × MSt) => fm_river_s28 x.1 x.2) (by omega) (fun j s hj G => by
    show fm_river_s28 (nI j) s = _
    unfold fm_river_s28
    rw [if_neg (show ¬ (4 : Int32) ≤ nI j from nI_ge (b := 4) hj (by omega)), chk_t (inb_n hj (by omega)), nI_clamp (by omega), nI_1, Nat.zero_add]) (fun s _ => by
    show fm_river_s28 (nI 4) s = _
    unfold fm_river_s28
    rw [if_pos (by decide)])
  obtain ⟨mD, eD, FD, iD, vD⟩ := cp_loop (A := 12) (n := 2) (b := 0) (g := fun _ => 0) (m := mC) (s1 := fun x : (Int32 × MSt) => fm_river_s48 x.1 x.2) (by omega) (fun j s hj G => by
    show fm_river_s48 (nI j) s = _
    unfold fm_river_s48
    rw [if_neg (show ¬ (2 : Int32) ≤ nI j from nI_ge (b := 2) hj (by omega)), chk_t (inb_n hj (by omega)), nI_clamp (by omega), nI_1, Nat.zero_add]) (fun s _ => by
    show fm_river_s48 (nI 2) s = _
    unfold fm_river_s48
    rw [if_pos (by decide)])
  have iDB : mD.1 = mB.1 := iD.trans iC
  have GD : MF mRa ms mD := (GB.tr (FC.mo (fun k h => by rw [of_decide_eq_true h]; rfl))).tr (FD.mo (fun k h => by rw [of_decide_eq_true h]; rfl))
  refine ⟨msi (msi (msi (msi (msa mD 4 6 0) 20 0) 14 0) 15 0) 18 0, ?_, ((((GD.tr (MF.msa rfl)).tr (MF.msi rfl)).tr (MF.msi rfl)).tr (MF.msi rfl)).tr (MF.msi rfl), ?_, ?_, ?_, ?_, ?_, ?_, ?_, ?_, ?_, fun j hj => ?_, fun j hj => ?_⟩
  · unfold fm_river
    rw [show iter (fun x : (Int32 × MSt) => fm_river_s28 x.1 x.2) mFuel ((0 : Int32), msi (msi (msi (msi (msi ms 17 (6 : Int32)) 7 (0 : Int32)) 8 (-1 : Int32)) 9 (-1 : Int32)) 10 (0 : Int32)) = some (.inr (nI 4, mC)) from eC, bs_]
    show fm_river_j46 mC = _
    unfold fm_river_j46
    rw [eD, bs_]
    show fm_river_j66 mD = _
    unfold fm_river_j66 fm_readsAll
    rw [show mD.1 17 = 6 by rw [iDB]; exact b17, chk_t (show inb (6 : Int32) 7 = true by decide)]
    rfl
  · rw [msi_n (by omega), msi_n (by omega), msi_n (by omega), msi_n (by omega), msa_I, iDB]; exact b1
  · rw [msi_n (by omega), msi_n (by omega), msi_n (by omega), msi_n (by omega), msa_I, iDB]; exact b17
  · rw [msi_n (by omega), msi_n (by omega), msi_n (by omega), msi_n (by omega), msa_I, iDB]; exact b7
  · rw [msi_n (by omega), msi_n (by omega), msi_n (by omega), msi_n (by omega), msa_I, iDB]; exact b8
  · rw [msi_n (by omega), msi_n (by omega), msi_n (by omega), msi_n (by omega), msa_I, iDB]; exact b9
  · rw [msi_n (by omega), msi_n (by omega), msi_n (by omega), msi_n (by omega), msa_I, iDB]; exact b10
  · rw [msi_n (by omega), msi_n (by omega), msi_n (by omega), msi_s]
  · rw [msi_n (by omega), msi_n (by omega), msi_s]
  · rw [msi_n (by omega), msi_s]
  · show (msa mD 4 6 0).2.1 11 j = 0
    rw [msa_n (by omega), FD.A 11 rfl, vC, if_pos (by omega)]
  · show (msa mD 4 6 0).2.1 12 j = 0
    rw [msa_n (by omega), vD, if_pos (by omega)]
