/-! reading a RIVER: its cells; numbers behind a fault; BANK, EYES, FLOOD of the class -/
theorem Jt2.frh {X : Nat → Prop} {st st2 : HSt} {ms : MSt} {H n M i p : Nat} (J : Jt2 st ms H n M i p) (F : Fr X st st2) (h0 : ¬ X H) (h1 : ¬ X (H + 1)) (h2 : ¬ X (H + 2)) (h3 : ¬ X (H + 3)) : Jt2 st2 ms H n M i p := ⟨J.1.fr F h0 h1 h2 h3, J.2⟩
theorem Jt2.frm {Y : Nat → Bool} {st : HSt} {ms ms2 : MSt} {H n M i p : Nat} (J : Jt2 st ms H n M i p) (G : MF Y ms ms2) (y0 : Y 0 = false) (y1 : Y 1 = false) (y14 : Y 14 = false) (y15 : Y 15 = false) : Jt2 st ms2 H n M i p := by
  obtain ⟨T, ⟨a1, a2, a3, a4⟩, h15, hs⟩ := J
  unfold Jt2 At
  rw [G.A 0 y0, G.I 1 y1, G.I 14 y14, G.I 15 y15]
  exact ⟨T, ⟨a1, a2, a3, a4⟩, h15, hs⟩
/-- the cells that the reading of a RIVER writes -/
def RvX (H r : Nat) (b : Nat) : Prop := b = H ∨ b = H + 4 ∨ (r ≤ b ∧ b < r + 6)
def RvE (st : HSt) (H r : Nat) : Prop := H + 10 ≤ r ∧ gK st (H + 4) = 6 ∧ gR st 500 (H + 4) = some H ∧ gK st r = 5 ∧ (∀ j, 0 < j → j < 6 → gK st (r + j) = 22) ∧ gR st 404 r = some (r + 1) ∧ gL st (r + 1) = 2 ∧ gR st 405 r = some (r + 2) ∧ gL st (r + 2) = 2 ∧ gR st 406 r = some (r + 3) ∧ gL st (r + 3) = 2 ∧ gR st 407 r = some (r + 4) ∧ gL st (r + 4) = 8 ∧ gR st 408 r = some (r + 5) ∧ gL st (r + 5) = 8
theorem RvE.fr {X : Nat → Prop} {st st2 : HSt} {H r : Nat} (h : RvE st H r) (F : Fr X st st2) : RvE st2 H r := by
  unfold RvE at *
  rw [F.R (f := 500) _ rfl, F.R (f := 404) _ rfl, F.R (f := 405) _ rfl, F.R (f := 406) _ rfl, F.R (f := 407) _ rfl, F.R (f := 408) _ rfl]
  simp only [F.K, F.L]
  exact h
theorem h_numD {st : HSt} {R H n M i L U : Nat} {t : Nat → Int32} {f : Int32} (kR : gK st R = 6) (r5 : gR st 500 R = some H) (h : Tk st H t n M i f) (hf : f ≠ 0) (hL : L < 2 ^ 30) (hU : U < 2 ^ 30) : ∃ st2, fh_X5_number R (nI L) (nI U) st = some (st2, nI L) ∧ Fr (fun b => b = H) st st2 ∧ gA st2 = gA st ∧ Tk st2 H t n M i f := by
  obtain ⟨st2, v, e, F, g, c⟩ := h_number (L := L) (U := U) kR r5 h hL hU
  rcases c with ⟨z, -⟩ | ⟨z, -⟩ | ⟨z, -⟩ | ⟨-, c1, c2⟩
  · exact absurd z hf
  · exact absurd z hf
  · exact absurd z hf
  · subst c1; exact ⟨st2, e, F, g, c2⟩
theorem h_bank {st s1 s2 s3 : HSt} {H r a : Nat} {v2 v3 : Int32} (E : RvE st H r) (ha : a < 2) (e1 : fh_X5_number (H + 4) 0 1 st = some (s1, nI a)) (e2 : fh_X5_number (H + 4) 0 99 s1 = some (s2, v2)) (e3 : fh_X5_number (H + 4) 0 99 (sA s2 (r + 1) a v2) = some (s3, v3)) (E1 : RvE s1 H r) (E2 : RvE s2 H r) (E3 : RvE s3 H r) : fh_X5_readBank (H + 4) (some r) st = some (sA s3 (r + 2) a v3) := by
  unfold fh_X5_readBank
  obtain ⟨-, k6, -⟩ := E
  obtain ⟨-, k61, -, k51, -, R41, -⟩ := E1
  obtain ⟨-, k62, -, k52, K2, -, L2, R52, -⟩ := E2
  obtain ⟨-, -, -, -, K3, -, -, -, L3, -⟩ := E3
  rw [chk_t (isk_t k6), e1, bs_]; dsimp only
  rw [dr_of k51, bs_, chk_t (isk_t k61), e2, bs_]; dsimp only
  rw [R41, dr_of (K2 1 (by omega) (by omega)), bs_, L2, chk_t (inb_n ha (by omega)), chk_t (isk_t k52), chk_t (isk_t k62), nI_clamp (by omega), e3, bs_]; dsimp only
  rw [show gR (sA s2 (r + 1) a v2) 405 r = some (r + 2) from R52, dr_of (K3 2 (by omega) (by omega)), bs_, L3, chk_t (inb_n ha (by omega))]
theorem h_eyes {st s1 s2 : HSt} {H r a : Nat} {v2 : Int32} (E : RvE st H r) (ha : a < 2) (e1 : fh_X5_number (H + 4) 0 1 st = some (s1, nI a)) (e2 : fh_X5_number (H + 4) 0 9 s1 = some (s2, v2)) (E1 : RvE s1 H r) (E2 : RvE s2 H r) : fh_X5_readEyes (H + 4) (some r) st = some (sA s2 (r + 3) a v2) := by
  unfold fh_X5_readEyes
  obtain ⟨-, k6, -⟩ := E
  obtain ⟨-, k61, -, k51, -, -, -, -, -, R61, -⟩ := E1
  obtain ⟨-, k62, -, k52, K2, -, -, -, -, -, L3, -⟩ := E2
  rw [chk_t (isk_t k6), e1, bs_]; dsimp only
  rw [dr_of k51, bs_, chk_t (isk_t k61), e2, bs_]; dsimp only
  rw [R61, dr_of (K2 3 (by omega) (by omega)), bs_, L3, chk_t (inb_n ha (by omega)), nI_clamp (by omega)]
theorem h_flood {st s1 s2 : HSt} {H r k : Nat} {v1 v2 : Int32} (E : RvE st H r) (hk : k ≤ 8) (e1 : fh_X5_number (H + 4) 0 399 st = some (s1, v1)) (e2 : fh_X5_number (H + 4) 1 9 s1 = some (s2, v2)) (E1 : RvE s1 H r) (E2 : RvE s2 H r) (ek : gI s2 403 r = nI k) : fh_X5_readFlood (H + 4) (some r) st = some (if k < 8 then sI (sA (sA s2 (r + 4) k v1) (r + 5) k v2) 403 r (nI (k + 1)) else s2) := by
  unfold fh_X5_readFlood
  obtain ⟨-, k6, -⟩ := E
  obtain ⟨-, k61, -⟩ := E1
  obtain ⟨-, k62, -, k52, K2, -, -, -, -, -, -, R7, L7, R8, L8⟩ := E2
  rw [chk_t (isk_t k6), e1, bs_]; dsimp only
  rw [chk_t (isk_t k61), e2, bs_]; dsimp only
  rw [dr_of k52, bs_, ek]
  rcases Nat.lt_or_ge k 8 with z | z
  · rw [if_neg (show ¬ (8 : Int32) ≤ nI k from nI_ge (b := 8) z (by omega)), if_pos z, R7, dr_of (K2 4 (by omega) (by omega)), bs_, L7, chk_t (inb_n z (by omega)), nI_clamp (by omega)]
    rw [show gR (sA s2 (r + 4) k v1) 408 r = some (r + 5) from R8, dr_of (K2 5 (by omega) (by omega)), bs_, show gI (sA s2 (r + 4) k v1) 403 r = nI k from ek, show gL (sA s2 (r + 4) k v1) (r + 5) = 8 from L8, chk_t (inb_n z (by omega)), bs_, nI_clamp (by omega), show gI (sA (sA s2 (r + 4) k v1) (r + 5) k v2) 403 r = nI k from ek, nI_1]
  · rw [if_pos (show (8 : Int32) ≤ nI k from nI_le (a := 8) z (by omega)), if_neg (by omega)]
