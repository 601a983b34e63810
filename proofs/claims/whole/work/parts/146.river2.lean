/-! reading a RIVER: both sides -/
def mRv (k : Nat) : Bool := k == 7 || k == 8 || k == 9 || k == 10 || k == 11 || k == 12 || k == 13 || k == 14 || k == 15 || k == 16
def RvW (st : HSt) (ms : MSt) (r w : Nat) : Prop := gI st 400 r = nI w ∧ ms.1 7 = nI w ∧ w ≤ 40
def RvB (st : HSt) (ms : MSt) (r : Nat) : Prop := ∀ s, s < 2 → gA st (r + 1) s = ms.2.1 11 (2 * s) ∧ gA st (r + 2) s = ms.2.1 11 (2 * s + 1)
def RvY (st : HSt) (ms : MSt) (r : Nat) : Prop := ∀ s, s < 2 → gA st (r + 3) s = ms.2.1 12 s ∧ ∃ e, e ≤ 9 ∧ ms.2.1 12 s = nI e
def RvF (st : HSt) (ms : MSt) (r k : Nat) : Prop := gI st 403 r = nI k ∧ ms.1 10 = nI k ∧ k ≤ 8 ∧ ∀ f, f < k → gA st (r + 4) f = ms.2.1 13 (2 * f) ∧ gA st (r + 5) f = ms.2.1 13 (2 * f + 1) ∧ ∃ e, e ≤ 9 ∧ ms.2.1 13 (2 * f + 1) = nI e
def RvS (st : HSt) (ms : MSt) (H r w : Nat) : Prop := (gI st 501 (H + 4) = 0 ∧ ms.1 8 = -1 ∧ (w ≠ 0 → gI st 401 r = 1)) ∨ (gI st 501 (H + 4) = 1 ∧ w ≠ 0 ∧ ∃ s, 1 ≤ s ∧ s ≤ 20 ∧ ms.1 8 = nI s ∧ gI st 401 r = nI s)
def RvN (st : HSt) (ms : MSt) (H r : Nat) : Prop := (gI st 502 (H + 4) = 0 ∧ ms.1 9 = -1 ∧ gI st 402 r = 0) ∨ (gI st 502 (H + 4) = 1 ∧ ∃ s, s ≤ 99 ∧ ms.1 9 = nI s ∧ gI st 402 r = nI s)
def RvJ (st : HSt) (ms : MSt) (H r w k : Nat) : Prop := RvW st ms r w ∧ RvB st ms r ∧ RvY st ms r ∧ RvF st ms r k ∧ RvS st ms H r w ∧ RvN st ms H r
theorem RvJ.frh {X : Nat → Prop} {st st2 : HSt} {ms : MSt} {H r w k : Nat} (h : RvJ st ms H r w k) (F : Fr X st st2) (h4 : ¬ X (H + 4)) (hr : ∀ j, j < 6 → ¬ X (r + j)) : RvJ st2 ms H r w k := by
  have h0 := hr 0 (by omega)
  rw [Nat.add_zero] at h0
  unfold RvJ RvW RvB RvY RvF RvS RvN at *
  rw [F.I 400 h0, F.I 401 h0, F.I 402 h0, F.I 403 h0, F.I 501 h4, F.I 502 h4, F.A (hr 1 (by omega)), F.A (hr 2 (by omega)), F.A (hr 3 (by omega)), F.A (hr 4 (by omega)), F.A (hr 5 (by omega))]
  exact h
theorem RvJ.frm {Y : Nat → Bool} {st : HSt} {ms ms2 : MSt} {H r w k : Nat} (h : RvJ st ms H r w k) (G : MF Y ms ms2) (hY : ∀ j, 7 ≤ j → j ≤ 13 → Y j = false) : RvJ st ms2 H r w k := by
  unfold RvJ RvW RvB RvY RvF RvS RvN at *
  rw [G.I 7 (hY 7 (by omega) (by omega)), G.I 8 (hY 8 (by omega) (by omega)), G.I 9 (hY 9 (by omega) (by omega)), G.I 10 (hY 10 (by omega) (by omega)), G.A 11 (hY 11 (by omega) (by omega)), G.A 12 (hY 12 (by omega) (by omega)), G.A 13 (hY 13 (by omega) (by omega))]
  exact h
def yN3 (k : Nat) : Bool := k == 14 || k == 15 || k == 16
theorem yN3_7 : ∀ j, 7 ≤ j → j ≤ 13 → yN3 j = false := fun j h1 h2 => by
  rcases (by omega : j = 7 ∨ j = 8 ∨ j = 9 ∨ j = 10 ∨ j = 11 ∨ j = 12 ∨ j = 13) with z | z | z | z | z | z | z <;> rw [z] <;> rfl
theorem yN3_r : ∀ k, yN3 k = true → mRv k = true := fun k h => by
  unfold yN3 at h
  rcases (by simpa using h : (k = 14 ∨ k = 15) ∨ k = 16) with (z | z) | z <;> rw [z] <;> rfl
/-- what a reader of a clause comes to -/
def RvO (t : Nat → Int32) (H n M r : Nat) (st st2 : HSt) (ms ms2 : MSt) (rr : Int32) : Prop := Fr (RvX H r) st st2 ∧ MF mRv ms ms2 ∧ ((rr = 1 ∧ ∃ i q w k, 2 ≤ w ∧ Jt2 st2 ms2 H n M i q ∧ RvJ st2 ms2 H r w k) ∨ (rr = 0 ∧ ∃ i f, f ≠ 0 ∧ ms2.1 15 = f ∧ Tk st2 H t n M i f))
/-- one number, both sides, with all that stays -/
theorem j_num {st : HSt} {ms : MSt} {H n M i p r w k L U : Nat} (E : RvE st H r) (J : Jt2 st ms H n M i p) (V : RvJ st ms H r w k) (hL : L < 2 ^ 30) (hU : U < 2 ^ 30) : ∃ st2 ms2 v rr, fh_X5_number (H + 4) (nI L) (nI U) st = some (st2, v) ∧ fm_numberHere (nI L) (nI U) ms = some (ms2, rr) ∧ Fr (fun b => b = H) st st2 ∧ RvE st2 H r ∧ MF yN3 ms ms2 ∧ RvJ st2 ms2 H r w k ∧
    ((rr = 1 ∧ ∃ N q, L ≤ N ∧ N ≤ U ∧ v = nI N ∧ ms2.1 16 = nI N ∧ Jt2 st2 ms2 H n M (i + 1) q) ∨ (rr = 0 ∧ v = nI L ∧ ∃ f, f ≠ 0 ∧ ms2.1 15 = f ∧ Tk st2 H (ms.2.1 0) n M i f)) := by
  obtain ⟨st2, v, ms2, rr, e1, e2, F, -, G, c⟩ := j_number E.2.1 E.2.2.1 J hL hU
  have hr := E.1
  exact ⟨st2, ms2, v, rr, e1, e2, F, E.fr F, G, (V.frh F (by omega) (fun j hj => by omega)).frm (Y := yN3) G yN3_7, c⟩
theorem it_o {σ ο : Type} {s1 : σ → Option (ο ⊕ (σ ⊕ σ))} {n : Nat} {x : σ} {o : ο} (e : s1 x = some (.inl o)) : iter s1 (n + 1) x = some (.inl o) := by rw [iter, e]; rfl
theorem Tk.w {st : HSt} {H n M i b j : Nat} {t : Nat → Int32} {f v : Int32} (h : Tk st H t n M i f) (hb : H + 4 ≤ b) : Tk (sA st b j v) H t n M i f := h.fr (X := fun q => q = b) (Fr.sA rfl) (by omega) (by omega) (by omega) (by omega)
theorem Jt2.w {st : HSt} {ms : MSt} {H n M i p b j : Nat} {v : Int32} (h : Jt2 st ms H n M i p) (hb : H + 4 ≤ b) : Jt2 (sA st b j v) ms H n M i p := ⟨h.1.w hb, h.2⟩
theorem RvE.w {st : HSt} {H r b j : Nat} {v : Int32} (h : RvE st H r) : RvE (sA st b j v) H r := h
theorem Frw {H r : Nat} {a b : HSt} (h : Fr (fun q => q = H) a b) : Fr (RvX H r) a b := h.mo (fun q hq => Or.inl hq)
theorem Fra {H r j i : Nat} {a : HSt} {v : Int32} (hj : j < 6) : Fr (RvX H r) a (sA a (r + j) i v) := Fr.sA (Or.inr (Or.inr ⟨by omega, by omega⟩))
theorem MF.y3 {a b : MSt} (h : MF yN3 a b) : MF mRv a b := h.mo yN3_r
/-- EYES -/
theorem j_eyes {st : HSt} {ms ms0 : MSt} {H n M i p r w k : Nat} (E : RvE st H r) (J : Jt2 st ms H n M i p) (V : RvJ st ms H r w k) (hw : 2 ≤ w) (e0 : fm_passWord ms0 = some ms) : ∃ st2 ms2 rr, fh_X5_readEyes (H + 4) (some r) st = some st2 ∧ fm_areEyesHere ms0 = some (ms2, rr) ∧ RvO (ms.2.1 0) H n M r st st2 ms ms2 rr := by
  have hr := E.1
  obtain ⟨s1, m1, v1, r1, a1, b1, F1, E1, G1, V1, c1⟩ := j_num (L := 0) (U := 1) E J V (by omega) (by omega)
  have b1' : fm_numberHere (0 : Int32) (1 : Int32) ms = some (m1, r1) := b1
  unfold fm_areEyesHere
  rw [e0, bs_, b1', bs_]
  dsimp only
  rcases c1 with ⟨x1, N1, q1, y1, y2, y3, y4, J1⟩ | ⟨x1, y1, f, y2, y3, T1⟩
  · subst x1; subst y3
    rw [if_neg (show ¬ (1 : Int32) = 0 by decide)]
    obtain ⟨s2, m2, v2, r2, a2, b2, F2, E2, G2, V2, c2⟩ := j_num (L := 0) (U := 9) E1 J1 V1 (by omega) (by omega)
    have b2' : fm_numberHere (0 : Int32) (9 : Int32) m1 = some (m2, r2) := b2
    have hh := h_eyes E (show N1 < 2 by omega) a1 a2 E1 E2
    rw [b2', bs_]
    dsimp only
    rcases c2 with ⟨x2, N2, q2, z1, z2, z3, z4, J2⟩ | ⟨x2, z1, f, z2, z3, T2⟩
    · subst x2; subst z3
      rw [if_neg (show ¬ (1 : Int32) = 0 by decide), y4, chk_t (inb_n (show N1 < 2 by omega) (by omega)), nI_clamp (by omega), z4]
      refine ⟨_, _, _, hh, rfl, ((Frw F1).tr (Frw F2)).tr (Fra (by omega)), (G1.y3.tr G2.y3).tr (MF.msa rfl), Or.inl ⟨rfl, _, _, w, k, hw, (J2.w (by omega)).frm (Y := fun k => k == 12) (MF.msa rfl) rfl rfl rfl rfl, ?_⟩⟩
      obtain ⟨g1, g2, g3, g4, g5, g6⟩ := V2
      refine ⟨g1, ?_, ?_, ?_, g5, g6⟩
      · intro s hs
        rw [gA_sA_ne (by omega), gA_sA_ne (by omega), msa_n (by omega)]; exact g2 s hs
      · intro s hs
        rw [gA_sA, msa_s]
        by_cases z : s = N1
        · rw [z, pk_us, pk_us]; exact ⟨rfl, N2, by omega, rfl⟩
        · rw [pk_un z, pk_un z]; exact g3 s hs
      · obtain ⟨k1, k2, k3, k4⟩ := g4
        refine ⟨k1, k2, k3, fun f hf => ?_⟩
        rw [gA_sA_ne (by omega), gA_sA_ne (by omega), msa_n (by omega)]; exact k4 f hf
    · subst x2
      rw [if_pos rfl]
      refine ⟨_, _, _, hh, rfl, ((Frw F1).tr (Frw F2)).tr (Fra (by omega)), G1.y3.tr G2.y3, Or.inr ⟨rfl, i + 1, f, z2, z3, ?_⟩⟩
      rw [G1.A 0 rfl] at T2
      exact T2.w (by omega)
  · subst x1; subst y1
    rw [if_pos rfl]
    obtain ⟨s2, a2, F2, -, T2⟩ := h_numD (L := 0) (U := 9) E1.2.1 E1.2.2.1 T1 y2 (by omega) (by omega)
    have hh := h_eyes E (show 0 < 2 by omega) a1 a2 E1 (E1.fr F2)
    exact ⟨_, _, _, hh, rfl, ((Frw F1).tr (Frw F2)).tr (Fra (by omega)), G1.y3, Or.inr ⟨rfl, _, f, y2, y3, T2.w (by omega)⟩⟩
