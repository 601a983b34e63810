/-! reading: the class among its signs -/
/-- the class stands at the i-th of M signs (the M-th is the end), its fault being f -/
def Tk (st : HSt) (H : Nat) (t : Nat → Int32) (n M i : Nat) (f : Int32) : Prop := TkH st H ∧ M ≤ 400 ∧ i ≤ M ∧ ps t n M = n ∧ (gI st 1003 H = nI (M + 1) ∧ gI st 1004 H = nI i ∧ gI st 1005 H = f) ∧ gA st (H + 1) M = 0 ∧ gA st (H + 2) M = nI n ∧ ∀ j, j < M → ps t n j < n ∧ KdR t n (ps t n j) (gA st (H + 1) j) ∧ gA st (H + 2) j = nI (ps t n j) ∧ gA st (H + 3) j = tV t n (ps t n j)
theorem Tk.fr {X : Nat → Prop} {st st2 : HSt} {H n M i : Nat} {t : Nat → Int32} {f : Int32} (h : Tk st H t n M i f) (F : Fr X st st2) (h0 : ¬ X H) (h1 : ¬ X (H + 1)) (h2 : ¬ X (H + 2)) (h3 : ¬ X (H + 3)) : Tk st2 H t n M i f := by
  obtain ⟨a, b, c, d, ⟨e1, e2, e3⟩, g1, g2, g3⟩ := h
  refine ⟨a.fr F, b, c, d, ⟨(F.I 1003 h0).trans e1, (F.I 1004 h0).trans e2, (F.I 1005 h0).trans e3⟩, by rw [F.A h1]; exact g1, by rw [F.A h2]; exact g2, fun j hj => ?_⟩
  rw [F.A h1, F.A h2, F.A h3]; exact g3 j hj
theorem Tk.pl {st : HSt} {H n M i : Nat} {t : Nat → Int32} {f : Int32} (h : Tk st H t n M i f) : gA st (H + 2) i = nI (ps t n i) := by
  obtain ⟨a, b, c, d, -, g1, g2, g3⟩ := h
  rcases Nat.lt_or_ge i M with z | z
  · exact (g3 i z).2.2.1
  · have : i = M := by omega
    rw [this, g2, d]
theorem Tk.at_ {st : HSt} {H n M i : Nat} {t : Nat → Int32} {f : Int32} (h : Tk st H t n M i f) {k : Nat} (hk : k ≤ M) : Tk (sI st 1004 H (nI k)) H t n M k f := by
  obtain ⟨a, b, c, d, ⟨e1, e2, e3⟩, g⟩ := h
  exact ⟨a, b, hk, d, ⟨(gI_sI_ne (Or.inl (by omega))).trans e1, gI_sI _ _ _ _, (gI_sI_ne (Or.inl (by omega))).trans e3⟩, g⟩
theorem Tk.fault {st : HSt} {H n M i : Nat} {t : Nat → Int32} {f : Int32} (h : Tk st H t n M i f) (v : Int32) : Tk (sI st 1005 H v) H t n M i v := by
  obtain ⟨a, b, c, d, ⟨e1, e2, e3⟩, g⟩ := h
  exact ⟨a, b, c, d, ⟨(gI_sI_ne (Or.inl (by omega))).trans e1, (gI_sI_ne (Or.inl (by omega))).trans e2, gI_sI _ _ _ _⟩, g⟩
theorem h_kind {st : HSt} {H n M i : Nat} {t : Nat → Int32} {f : Int32} (h : Tk st H t n M i f) : fh_X10_kind H st = some (st, if f = 0 then gA st (H + 1) i else 1) := by
  obtain ⟨⟨a0, ⟨a1, a2, a3⟩, -, -⟩, b, c, d, ⟨e1, e2, e3⟩, -⟩ := h
  unfold fh_X10_kind
  rw [chk_t (isk_t a0), e3, e1, e2]
  by_cases z : f = 0
  · rw [if_pos z, if_pos z, if_neg (nI_ge (by omega) (by omega)), a1, dr_of a2, bs_, a3, chk_t (inb_n (by omega) (by omega)), nI_clamp (by omega)]
  · rw [if_neg z, if_neg z]
theorem h_value {st : HSt} {H n M i : Nat} {t : Nat → Int32} {f : Int32} (h : Tk st H t n M i f) : fh_X10_value H st = some (st, gA st (H + 3) i) := by
  obtain ⟨⟨a0, -, -, ⟨a1, a2, a3⟩⟩, b, c, d, ⟨e1, e2, e3⟩, -⟩ := h
  unfold fh_X10_value
  rw [chk_t (isk_t a0), e1, e2, if_neg (nI_ge (by omega) (by omega)), a1, dr_of a2, bs_, a3, chk_t (inb_n (by omega) (by omega)), nI_clamp (by omega)]
theorem h_next {st : HSt} {H n M i : Nat} {t : Nat → Int32} {f : Int32} (h : Tk st H t n M i f) : ∃ st2, fh_X10_next H st = some st2 ∧ Fr (fun b => b = H) st st2 ∧ (∀ g, g ≠ 1004 → gI st2 g H = gI st g H) ∧ Tk st2 H t n M (if i < M then i + 1 else i) f ∧ gA st2 = gA st := by
  have h0 := h
  obtain ⟨⟨a0, -⟩, b, c, d, ⟨e1, e2, e3⟩, -⟩ := h
  unfold fh_X10_next
  rw [chk_t (isk_t a0), e1, e2, nI_pred]
  rcases Nat.lt_or_ge i M with z | z
  · rw [if_neg (nI_ge z (by omega)), nI_1, if_pos z]
    exact ⟨_, rfl, Fr.sI rfl, fun g hg => gI_sI_ne (Or.inl hg), h0.at_ (by omega), rfl⟩
  · rw [if_pos (nI_le z (by omega)), if_neg (by omega)]
    exact ⟨st, rfl, Fr.rf, fun _ _ => rfl, h0, rfl⟩
theorem h_fail {st : HSt} {H n M i a : Nat} {t : Nat → Int32} {f : Int32} (h : Tk st H t n M i f) : ∃ st2, fh_X10_fail H (nI a) st = some st2 ∧ Fr (fun b => b = H) st st2 ∧ (∀ g, g ≠ 1005 → gI st2 g H = gI st g H) ∧ Tk st2 H t n M i (if f = 0 then nI (1 + 8 * ps t n i + a) else f) ∧ gA st2 = gA st := by
  have h0 := h
  have hp := h.pl
  obtain ⟨⟨a0, -, ⟨a1, a2, a3⟩, -⟩, b, c, d, ⟨e1, e2, e3⟩, -⟩ := h
  unfold fh_X10_fail
  rw [chk_t (isk_t a0), e3, e1, e2]
  by_cases z : f = 0
  · have ev : (1 : Int32) + 8 * nI (ps t n i) + nI a = nI (1 + 8 * ps t n i + a) := by
      show nI 1 + nI 8 * nI (ps t n i) + nI a = _
      rw [pk_mul, nI_add, nI_add]
    rw [if_pos z, if_pos z, if_neg (nI_ge (by omega) (by omega)), a1, dr_of a2, bs_, a3, chk_t (inb_n (by omega) (by omega)), nI_clamp (by omega), bs_, hp, ev]
    exact ⟨_, rfl, Fr.sI rfl, fun g hg => gI_sI_ne (Or.inl hg), h0.fault _, rfl⟩
  · rw [if_neg z, if_neg z]
    exact ⟨st, rfl, Fr.rf, fun _ _ => rfl, h0, rfl⟩
