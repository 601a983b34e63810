/-! the relation between the two states -/
def kd (j : Nat) : Nat := if j = 0 then 12 else if j = 1 then 21 else if j = 2 then 25 else if j = 3 then 9 else if j = 4 then 10 else if j = 5 then 5 else if j < 16 then 22 else if j = 16 then 26 else if j = 17 then 11 else if j < 21 then 22 else if j = 21 then 6 else if j = 22 then 8 else if j < 27 then 22 else if j = 27 then 1 else if j = 28 then 4 else if j < 31 then 23 else if j = 31 then 27 else if j = 32 then 22 else if j < 103 then (if (j - 33) % 10 = 0 then 10 else if (j - 33) % 10 = 1 then 5 else 22) else if j = 103 then 2 else if j < 106 then 22 else if j = 106 then 3 else 22
theorem kd_9 : ∀ j, j < 110 → 4 ≤ j → kd j ≠ 9 := by decide
theorem kd_7 : ∀ j, j < 110 → kd j ≠ 7 := by decide
theorem kd_5 : ∀ j, j < 110 → 12 ≤ j → kd j = 5 → 34 ≤ j ∧ j < 103 ∧ (j - 34) % 10 = 0 := by decide
theorem kd_sp : ∀ i, i < 7 → kd (33 + 10 * i) = 10 := by decide
/-- the object's own cells: kinds, fields that never change, lengths -/
def Sh (hx : Nat) (st : HSt) : Prop := (∀ j, j < 110 → gK st (hx + j) = kd j) ∧
  (gR st 1100 hx = some (hx + 1) ∧ gL st (hx + 1) = 400 ∧ gR st 1102 hx = some (hx + 2) ∧ gL st (hx + 2) = 6 ∧ gR st 1104 hx = some (hx + 3) ∧ gR st 1105 hx = some (hx + 16) ∧ gL st (hx + 16) = 4 ∧ gR st 1106 hx = some (hx + 17) ∧ gR st 1107 hx = some (hx + 21) ∧ gR st 1108 hx = some (hx + 22) ∧ gR st 1109 hx = some (hx + 27)) ∧
  (gR st 1000 (hx + 17) = some (hx + 18) ∧ gL st (hx + 18) = 401 ∧ gR st 1001 (hx + 17) = some (hx + 19) ∧ gL st (hx + 19) = 401 ∧ gR st 1002 (hx + 17) = some (hx + 20) ∧ gL st (hx + 20) = 401 ∧ gR st 500 (hx + 21) = some (hx + 17)) ∧
  (gR st 700 (hx + 22) = some (hx + 17) ∧ gR st 701 (hx + 22) = some (hx + 23) ∧ gL st (hx + 23) = 12 ∧ gR st 702 (hx + 22) = some (hx + 24) ∧ gL st (hx + 24) = 13 ∧ gR st 703 (hx + 22) = some (hx + 25) ∧ gL st (hx + 25) = 12 ∧ gR st 704 (hx + 22) = some (hx + 26) ∧ gL st (hx + 26) = 400) ∧
  (gR st 0 (hx + 27) = some (hx + 28) ∧ gR st 300 (hx + 28) = some (hx + 29) ∧ gL st (hx + 29) = 9 ∧ gR st 301 (hx + 28) = some (hx + 30) ∧ gL st (hx + 30) = 64 ∧ gR st 6 (hx + 27) = some (hx + 31) ∧ gL st (hx + 31) = 7 ∧ gR st 7 (hx + 27) = some (hx + 32) ∧ gL st (hx + 32) = 3 ∧ gR st 1 (hx + 27) = some (hx + 103) ∧ gR st 2 (hx + 27) = some (hx + 106) ∧ ∀ i, i < 7 → gQ st (hx + 31) i = some (hx + 33 + 10 * i)) ∧
  (gR st 102 (hx + 103) = some (hx + 28) ∧ gR st 103 (hx + 103) = some (hx + 31) ∧ gR st 104 (hx + 103) = some (hx + 104) ∧ gL st (hx + 104) = 6 ∧ gR st 105 (hx + 103) = some (hx + 105) ∧ gL st (hx + 105) = 6) ∧
  (gR st 201 (hx + 106) = some (hx + 28) ∧ gR st 202 (hx + 106) = some (hx + 31) ∧ gR st 203 (hx + 106) = some (hx + 107) ∧ gL st (hx + 107) = 8 ∧ gR st 204 (hx + 106) = some (hx + 108) ∧ gL st (hx + 108) = 12 ∧ gR st 205 (hx + 106) = some (hx + 109) ∧ gL st (hx + 109) = 8)
theorem Sh.fr {X : Nat → Prop} {a b : HSt} {hx : Nat} (h : Sh hx a) (F : Fr X a b) : Sh hx b := by
  have R : ∀ f q, fin f = true → gR b f q = gR a f q := fun f q hf => F.R q hf
  unfold Sh at *
  rw [R 1100 _ rfl, R 1102 _ rfl, R 1104 _ rfl, R 1105 _ rfl, R 1106 _ rfl, R 1107 _ rfl, R 1108 _ rfl, R 1109 _ rfl, R 1000 _ rfl, R 1001 _ rfl, R 1002 _ rfl, R 500 _ rfl, R 700 _ rfl, R 701 _ rfl, R 702 _ rfl, R 703 _ rfl, R 704 _ rfl, R 0 _ rfl, R 300 _ rfl, R 301 _ rfl, R 6 _ rfl, R 7 _ rfl, R 1 _ rfl, R 2 _ rfl, R 102 _ rfl, R 103 _ rfl, R 104 _ rfl, R 105 _ rfl, R 201 _ rfl, R 202 _ rfl, R 203 _ rfl, R 204 _ rfl, R 205 _ rfl]
  simp only [F.K, F.Q, F.L]
  exact h
theorem Sh.k {hx : Nat} {st : HSt} (h : Sh hx st) {j c : Nat} (hj : j < 110) (hc : kd j = c) : gK st (hx + j) = c := (h.1 j hj).trans hc
theorem Sh.lk {hx : Nat} {st : HSt} (h : Sh hx st) : Lk st (hx + 28) := by
  obtain ⟨hk, -, -, -, ⟨-, r3, l3, r4, l4, -⟩, -⟩ := h
  exact ⟨(hk 28 (by omega)).trans rfl, r3, (hk 29 (by omega)).trans rfl, l3, r4, (hk 30 (by omega)).trans rfl, l4⟩
/-- cells that a call may use for itself -/
def Sc (hx : Nat) (st : HSt) (b : Nat) : Prop := (hx + 17 ≤ b ∧ b ≤ hx + 27) ∨ b = hx + 29 ∨ b = hx + 30 ∨ b = hx + 32 ∨ (∃ i, i < 7 ∧ Sx (hx + 33 + 10 * i) b) ∨ (hx + 103 ≤ b ∧ b ≤ hx + 109) ∨ gR st 10 (hx + 27) = some b
def PkR (hx : Nat) (st : HSt) : Prop := gR st 10 (hx + 27) = none ∨ ∃ P, gR st 10 (hx + 27) = some P ∧ gK st P = 23 ∧ gL st P = 2709
theorem sc_not {hx : Nat} {st : HSt} {b : Nat} (p : PkR hx st) (hk : gK st b ≠ 23) (h1 : b < hx + 17 ∨ hx + 110 ≤ b) : ¬ Sc hx st b := by
  rintro (h | h | h | h | ⟨i, hi, h⟩ | h | h)
  · omega
  · omega
  · omega
  · omega
  · rcases h with h | h | h | h <;> omega
  · omega
  · rcases p with p | ⟨P, p, k, -⟩
    · rw [p] at h; cases h
    · rw [p] at h; injection h with h; rw [← h] at hk; exact hk k
theorem at9 {hx : Nat} {st : HSt} {S : Nat} (h : Sh hx st) (k : gK st S = 9) : S ≤ hx + 3 ∨ hx + 110 ≤ S := by
  rcases (by omega : S ≤ hx + 3 ∨ hx + 110 ≤ S ∨ (hx + 4 ≤ S ∧ S < hx + 110)) with q | q | q
  · exact Or.inl q
  · exact Or.inr q
  · have := h.1 (S - hx) (by omega)
    rw [show hx + (S - hx) = S by omega, k] at this
    exact absurd this.symm (kd_9 _ (by omega) (by omega))
theorem sc_site {hx : Nat} {st : HSt} {S j : Nat} (h : Sh hx st) (p : PkR hx st) (k : gK st S = 9) (hj : j ≤ 12) (hk : gK st (S + j) ≠ 23) : ¬ Sc hx st (S + j) := by
  refine sc_not p hk ?_
  rcases at9 h k with q | q <;> omega
theorem sc_riv {hx : Nat} {st : HSt} {r j : Nat} (h : Sh hx st) (p : PkR hx st) (k : gK st r = 5) (hj : j ≤ 5) (hk : gK st (r + j) ≠ 23) : ¬ Sc hx st (r + j) := by
  rcases (by omega : r < hx + 12 ∨ hx + 110 ≤ r ∨ (hx + 12 ≤ r ∧ r < hx + 110)) with q | q | q
  · exact sc_not p hk (by omega)
  · exact sc_not p hk (by omega)
  · have := h.1 (r - hx) (by omega)
    rw [show hx + (r - hx) = r by omega, k] at this
    obtain ⟨c1, c2, c3⟩ := kd_5 _ (by omega) (by omega) this.symm
    rintro (z | z | z | z | ⟨i, hi, z⟩ | z | z)
    · omega
    · omega
    · omega
    · omega
    · rcases z with z | z | z | z <;> omega
    · omega
    · rcases p with p | ⟨P, p, k, -⟩
      · rw [p] at z; cases z
      · rw [p] at z; injection z with z; rw [← z] at hk; exact hk k
theorem sc_rule {hx : Nat} {st : HSt} {q j : Nat} (h : Sh hx st) (p : PkR hx st) (k : gK st q = 7) (hj : j < 5) (hk : gK st (q + j) ≠ 23) : ¬ Sc hx st (q + j) := by
  refine sc_not p hk ?_
  rcases (by omega : q < hx ∨ hx + 110 ≤ q ∨ (hx ≤ q ∧ q < hx + 110)) with z | z | z
  · omega
  · omega
  · have := h.1 (q - hx) (by omega)
    rw [show hx + (q - hx) = q by omega, k] at this
    exact absurd this.symm (kd_7 _ (by omega))
/-! RUINS -/
def cntM (v : Nat → Int32) : Nat → Nat
  | 0 => 0
  | k + 1 => cntM v k + if v (46 + k) = 99999 then 0 else 1
def cntH (g : Nat → Int32) : Nat → Nat
  | 0 => 0
  | k + 1 => cntH g k + if g k = 100000 then 0 else 1
def RnR (st : HSt) (S : Nat) (v : Nat → Int32) : Prop := (v 0 = 0 → gI st 802 S = 0) ∧ (v 0 ≠ 0 → gI st 802 S = nI (cntM v 80) ∧ cntH (gA st (S + 12)) 80 = cntM v 80 ∧ ∀ s p, s < 2 → p < 40 → (v (46 + 40 * s + p) = 99999 ∧ gA st (S + 12) (2 * p + s) = 100000) ∨ (v (46 + 40 * s + p) = gA st (S + 12) (2 * p + s) ∧ gA st (S + 12) (2 * p + s) ≠ 100000 ∧ v (46 + 40 * s + p) ≠ 99999))
/-- a Site at S, over a River at r, holds v -/
def ImR (st : HSt) (S r : Nat) (v : Nat → Int32) : Prop := SpR st (S + 1) r v ∧ ErR st S v ∧ gI st 801 S = v 5 ∧ 0 ≤ v 5 ∧ RnR st S v
def Ag (v u : Nat → Int32) : Prop := ∀ i, i < 286 → u i = v i
theorem cntM_ag {v u : Nat → Int32} (h : Ag v u) : ∀ k, k ≤ 80 → cntM u k = cntM v k
  | 0, _ => rfl
  | k + 1, hk => by unfold cntM; rw [cntM_ag h k (by omega), h (46 + k) (by omega)]
theorem pAt_ag {v u : Nat → Int32} {s k w : Nat} (h : Ag v u) (hs : s < 2) (hk : k ≤ 40) (hw : w < 2) : pAt u s k w = pAt v s k w := by
  unfold pAt; rw [h (8 + 2 * s + w) (by omega), h (126 + 80 * w + 40 * s + (k - 1)) (by omega)]
theorem SpR.ag {st : HSt} {a r D : Nat} {v u : Nat → Int32} (h : Ag v u) (S : SpR st a r v) (V : VOk D v) : SpR st a r u := by
  obtain ⟨w0, y, d, sp, fl, h0, h6, h1, h2, h4, hw0, hy, hd, hsp, hfl, -⟩ := V
  obtain ⟨hr, ⟨k5, i0, i2, i3, i4, hb, hf⟩, ⟨k10, i1, hyy, hl⟩⟩ := S
  refine ⟨hr, ⟨k5, by rw [h 0 (by omega)]; exact i0, by rw [h 2 (by omega)]; exact i2, by rw [h 3 (by omega)]; exact i3, by rw [h 4 (by omega)]; exact i4, fun s hs => ?_, fun f hf2 => ?_⟩, ⟨k10, by rw [h 1 (by omega)]; exact i1, fun s hs => ?_, fun s k hs hk => ?_⟩⟩
  · rw [h (8 + 2 * s) (by omega), h (8 + 2 * s + 1) (by omega), h (12 + s) (by omega)]; exact hb s hs
  · rw [h 4 (by omega)] at hf2
    have : f < 8 := by rw [h4, nI_clamp (by omega)] at hf2; omega
    rw [h (14 + 2 * f) (by omega), h (14 + 2 * f + 1) (by omega)]; exact hf f hf2
  · rw [h (6 + s) (by omega)]; exact hyy s hs
  · have hyk : k < yN v s := by unfold yN at hk ⊢; rw [h (6 + s) (by omega)] at hk; exact hk
    have : yN v s ≤ 40 := by rw [yN_e (h6 s hs) (by rcases (by omega : s = 0 ∨ s = 1) with rfl | rfl <;> omega)]; rcases (by omega : s = 0 ∨ s = 1) with rfl | rfl <;> omega
    rw [h (126 + 40 * s + k) (by omega), h (206 + 40 * s + k) (by omega)]; exact hl s k hs hyk
theorem VOk.ag {D : Nat} {v u : Nat → Int32} (h : Ag v u) (V : VOk D v) : VOk D u := by
  obtain ⟨w0, y, d, sp, fl, h0, h6, h1, h2, h4, hw0, hy, hd, hsp, hfl, he, hf, her, ht⟩ := V
  refine ⟨w0, y, d, sp, fl, by rw [h 0 (by omega)]; exact h0, fun s hs => by rw [h (6 + s) (by omega)]; exact h6 s hs, by rw [h 1 (by omega)]; exact h1, by rw [h 2 (by omega)]; exact h2, by rw [h 4 (by omega)]; exact h4, hw0, hy, hd, hsp, hfl, fun s hs => by rw [h (12 + s) (by omega)]; exact he s hs, fun f hf2 => by rw [h (14 + 2 * f + 1) (by omega)]; exact hf f hf2, fun s k hs hk => by rw [h (30 + 8 * s + k) (by omega)]; exact her s k hs hk, fun s k w hs hk hw => ?_⟩
  have : y s ≤ 40 := by rcases (by omega : s = 0 ∨ s = 1) with rfl | rfl <;> omega
  rw [pAt_ag h hs (by omega) hw, pAt_ag h hs (by omega) hw]; exact ht s k w hs hk hw
theorem RnR.ag {st : HSt} {S : Nat} {v u : Nat → Int32} (h : Ag v u) (R : RnR st S v) : RnR st S u := by
  obtain ⟨r1, r2⟩ := R
  refine ⟨fun q => r1 (by rw [h 0 (by omega)] at q; exact q), fun q => ?_⟩
  obtain ⟨a, b, c⟩ := r2 (by rw [h 0 (by omega)] at q; exact q)
  refine ⟨by rw [cntM_ag h 80 (by omega)]; exact a, by rw [cntM_ag h 80 (by omega)]; exact b, fun s p hs hp => ?_⟩
  rw [h (46 + 40 * s + p) (by omega)]; exact c s p hs hp
theorem ImR.ag {st : HSt} {S r D : Nat} {v u : Nat → Int32} (h : Ag v u) (I : ImR st S r v) (V : VOk D v) : ImR st S r u := by
  obtain ⟨i1, i2, i3, i4, i5⟩ := I
  exact ⟨i1.ag h V, ⟨i2.1, fun s k hs hk => by rw [h (30 + 8 * s + k) (by omega)]; exact i2.2 s k hs hk⟩, by rw [h 5 (by omega)]; exact i3, by rw [h 5 (by omega)]; exact i4, i5.ag h⟩
theorem ImR.fr {X : Nat → Prop} {st st2 : HSt} {S r D : Nat} {v : Nat → Int32} (I : ImR st S r v) (V : VOk D v) (F : Fr X st st2) (h0 : ¬ X S) (h1 : ¬ X (S + 1)) (h8 : ¬ X (S + 8)) (h9 : ¬ X (S + 9)) (h10 : ¬ X (S + 10)) (h11 : ¬ X (S + 11)) (h12 : ¬ X (S + 12)) (hr : ∀ j, j < 6 → ¬ X (r + j)) : ImR st2 S r v := by
  obtain ⟨i1, i2, i3, i4, i5⟩ := I
  obtain ⟨w0, y, d, sp, fl, -, -, -, -, hv4, -, -, -, -, hfl, -⟩ := V
  refine ⟨⟨(F.R' 900 h1).trans i1.1, i1.2.1.fr F hr KpR.rf (by rw [hv4, nI_clamp (by omega)]; exact hfl), i1.2.2.fr F h1 h8 h9 h10⟩, i2.fr F h11 KpR.rf, (F.I 801 h0).trans i3, i4, ?_⟩
  unfold RnR at *
  rw [F.I 802 h0, F.A h12]; exact i5
theorem site_k {st : HSt} {S : Nat} (w : Wf st) (k : gK st S = 9) : gK st (S + 1) = 10 ∧ gK st (S + 8) = 22 ∧ gK st (S + 9) = 22 ∧ gK st (S + 10) = 22 ∧ gK st (S + 11) = 22 ∧ gK st (S + 12) = 22 := by
  obtain ⟨k1, k11, k12, -⟩ := w.2.2.2 S k
  obtain ⟨-, K, -⟩ := w.1 (S + 1) k1
  exact ⟨k1, K 7 (by omega) (by omega), K 8 (by omega) (by omega), K 9 (by omega) (by omega), k11, k12⟩
/-- what a call does in its own cells leaves a Site as it is -/
theorem ImR.sc {hx : Nat} {st st2 : HSt} {S r D : Nat} {v : Nat → Int32} (I : ImR st S r v) (V : VOk D v) (w : Wf st) (h : Sh hx st) (p : PkR hx st) (F : Fr (Sc hx st) st st2) : ImR st2 S r v := by
  have kS := I.2.1.1
  have kr := I.1.2.1.1
  obtain ⟨k1, k8, k9, k10, k11, k12⟩ := site_k w kS
  obtain ⟨KR, -⟩ := w.2.1 r kr
  have s : ∀ j c, j ≤ 12 → gK st (S + j) = c → c ≠ 23 → ¬ Sc hx st (S + j) := fun j c hj hc hn => sc_site h p kS hj (by rw [hc]; exact hn)
  refine I.fr V F (s 0 9 (by omega) kS (by omega)) (s 1 10 (by omega) k1 (by omega)) (s 8 22 (by omega) k8 (by omega)) (s 9 22 (by omega) k9 (by omega)) (s 10 22 (by omega) k10 (by omega)) (s 11 22 (by omega) k11 (by omega)) (s 12 22 (by omega) k12 (by omega)) (fun j hj => sc_riv h p kr (by omega) ?_)
  rcases Nat.eq_zero_or_pos j with z | z
  · subst z; rw [Nat.add_zero, kr]; omega
  · rw [KR j z hj]; omega
/-! rules, images -/
def RuS (hx : Nat) (st : HSt) (ms : MSt) (nr : Nat) : Prop := gI st 1103 hx = nI nr ∧ ms.1 2 = nI nr ∧ nr ≤ 6 ∧ ∀ k, k < nr → ∃ q u N, gQ st (hx + 2) k = some q ∧ RuR st q u ∧ RuOk u ∧ MrR ms k u N
def imV (ms : MSt) (k i : Nat) : Int32 := ms.2.1 40 (286 * k + i)
def ImS (hx : Nat) (st : HSt) (ms : MSt) : Prop := (∀ k, k < 4 → (gQ st (hx + 16) k = none ∧ ms.2.1 41 k = 0) ∨ ∃ S r, gQ st (hx + 16) k = some S ∧ ms.2.1 41 k = 1 ∧ ImR st S r (imV ms k) ∧ VOk 9999 (imV ms k) ∧ S ≠ hx + 3) ∧ ∀ j k S, j < 4 → k < 4 → gQ st (hx + 16) j = some S → gQ st (hx + 16) k = some S → j = k
def Hi (st : HSt) : Prop := ∀ a, gN st ≤ a → gK st a = 0
def Rel (hx : Nat) (st : HSt) (ms : MSt) : Prop := ∃ t nr r, Wf st ∧ Hi st ∧ Sh hx st ∧ PkR hx st ∧ TpR hx st ms t ∧ RuS hx st ms nr ∧ ImR st (hx + 3) r (ms.2.1 26) ∧ VOk 9999 (ms.2.1 26) ∧ ImS hx st ms
theorem Rel.setN {hx n : Nat} {st : HSt} {ms : MSt} (h : Rel hx st ms) (hn : gN st ≤ n) : Rel hx (setN st n) ms := by
  obtain ⟨t, nr, r, h1, h2, h3⟩ := h
  exact ⟨t, nr, r, h1, fun a ha => h2 a (Nat.le_trans hn ha), h3⟩
theorem Rel_k {hx : Nat} {st : HSt} {ms : MSt} (h : Rel hx st ms) : gK st hx = 12 := by
  obtain ⟨t, nr, r, -, -, h3, -⟩ := h
  exact h3.k (j := 0) (by omega) rfl
def mXq (k : Nat) : Bool := decide (22 < k) && decide (k < 40)
theorem Hi.fr {X : Nat → Prop} {a b : HSt} (h : Hi a) (F : Fr X a b) : Hi b := fun q hq => by rw [F.K]; rw [F.N] at hq; exact h q hq
theorem RuS.fr {X : Nat → Prop} {Y : Nat → Bool} {hx nr : Nat} {st st2 : HSt} {ms ms2 : MSt} (h : RuS hx st ms nr) (F : Fr X st st2) (G : MF Y ms ms2) (h0 : ¬ X hx) (hX : ∀ q j, gK st q = 7 → j < 5 → ¬ X (q + j)) (y2 : Y 2 = false) (y3 : Y 3 = false) (y5 : Y 5 = false) (y6 : Y 6 = false) : RuS hx st2 ms2 nr := by
  obtain ⟨r1, r2, r3, r4⟩ := h
  refine ⟨(F.I 1103 h0).trans r1, (G.I 2 y2).trans r2, r3, fun k hk => ?_⟩
  obtain ⟨q, u, N, e, R, O, M⟩ := r4 k hk
  exact ⟨q, u, N, by rw [F.Q]; exact e, R.fr F (fun j hj => hX q j R.1 hj), O, M.fr G y3 y5 y6⟩
theorem ru_k {st : HSt} {q j : Nat} (w : Wf st) (k : gK st q = 7) (hj : j < 5) : gK st (q + j) ≠ 23 := by
  obtain ⟨K, -⟩ := w.2.2.1 q k
  rcases Nat.eq_zero_or_pos j with z | z
  · subst z; rw [Nat.add_zero, k]; omega
  · rw [K j z hj]; omega
theorem ImS.sc {hx : Nat} {st st2 : HSt} {ms ms2 : MSt} (I : ImS hx st ms) (w : Wf st) (h : Sh hx st) (p : PkR hx st) (F : Fr (Sc hx st) st st2) (e40 : ms2.2.1 40 = ms.2.1 40) (e41 : ms2.2.1 41 = ms.2.1 41) : ImS hx st2 ms2 := by
  obtain ⟨i1, i2⟩ := I
  have ev : ∀ k, imV ms2 k = imV ms k := fun k => by funext i; unfold imV; rw [e40]
  refine ⟨fun k hk => ?_, fun j k S hj hk a b => i2 j k S hj hk (by rw [F.Q] at a; exact a) (by rw [F.Q] at b; exact b)⟩
  rw [F.Q, e41, ev]
  rcases i1 k hk with q | ⟨S, r, a, b, c, V, d⟩
  · exact Or.inl q
  · exact Or.inr ⟨S, r, a, b, c.sc V w h p F, V, d⟩
/-- questions: both sides go back to what was -/
theorem Rel.sc {hx : Nat} {st st2 : HSt} {ms ms2 : MSt} (R : Rel hx st ms) (F : Fr (Sc hx st) st st2) (hp : PkR hx st2) (G : MF mXq ms ms2) (A : Ag (ms.2.1 26) (ms2.2.1 26)) : Rel hx st2 ms2 := by
  obtain ⟨t, nr, r, w, hi, h, p, T, U, I, V, J⟩ := R
  have n0 : ¬ Sc hx st hx := sc_not p (by rw [show gK st hx = 12 from h.k (j := 0) (by omega) rfl]; omega) (by omega)
  have n1 : ¬ Sc hx st (hx + 1) := sc_not p (by rw [h.k (j := 1) (by omega) (show kd 1 = 21 from rfl)]; omega) (by omega)
  refine ⟨t, nr, r, F.Wf w, hi.fr F, h.fr F, hp, ?_, U.fr F G n0 (fun q j hq hj => sc_rule h p hq hj (ru_k w hq hj)) rfl rfl rfl rfl, (I.sc V w h p F).ag A V, V.ag A, J.sc w h p F (G.A 40 rfl) (G.A 41 rfl)⟩
  obtain ⟨t1, t2, t3, t4, t5, t6, t7, t8⟩ := T
  exact ⟨(F.K _).trans t1, (F.R (f := 1100) _ rfl).trans t2, (F.K _).trans t3, (F.L _).trans t4, (F.I 1101 n0).trans t5, (G.I 1 rfl).trans t6, t7, fun i hi => by rw [F.A n1, G.A 0 rfl]; exact t8 i hi⟩
