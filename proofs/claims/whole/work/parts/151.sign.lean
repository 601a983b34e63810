/-! reading: signs of one place, both sides -/
def B8 (t : Nat → Int32) (n : Nat) : Prop := ∀ j, j < n → by8 (t j)
theorem tE_s {t : Nat → Int32} {n q : Nat} {c0 : Int32} (h0 : isS10 c0 = true) (h : t q = c0) (h60 : c0 ≠ 60) (h62 : c0 ≠ 62) : tE t n q = q + 1 := by
  obtain ⟨a, b⟩ := s10_not h0 h
  unfold tE
  rw [if_neg a, if_neg b, if_neg (fun z => by rcases z.1 with y | y; exact h60 (h.symm.trans y); exact h62 (h.symm.trans y))]
/-- the sign that the reference sees -/
def sv (t : Nat → Int32) (n q : Nat) : Int32 := if q = n then -1 else t q &&& 255
theorem see_sign {st : HSt} {ms : MSt} {H n M i p : Nat} {c0 : Int32} (J : Jt2 st ms H n M i p) (B : B8 (ms.2.1 0) n) (h0 : isS10 c0 = true) (h60 : c0 ≠ 60) (h62 : c0 ≠ 62) : sv (ms.2.1 0) n (ps (ms.2.1 0) n i) = c0 ↔ gA st (H + 1) i = c0 := by
  obtain ⟨k0, a1, a2, a3⟩ := s10_c h0
  obtain ⟨T, A, h15, hs⟩ := J
  have lt := T.ps_lt
  obtain ⟨a, b, c, d, -, g1, g2, g3⟩ := T
  unfold sv
  rcases Nat.lt_or_ge i M with z | z
  · obtain ⟨p1, p2, -⟩ := g3 i z
    rw [if_neg (by omega), p2.sign h0]
    have e : (ms.2.1 0 (ps (ms.2.1 0) n i) &&& 255 = c0) ↔ ms.2.1 0 (ps (ms.2.1 0) n i) = c0 := by rw [a3]; exact b255 (B _ p1) (by omega)
    rw [e]
    refine ⟨fun y => ⟨y, ?_⟩, fun y => y.1⟩
    rw [tE_s h0 y h60 h62]; omega
  · have e : i = M := by omega
    rw [e, d, if_pos rfl, g1]
    refine ⟨fun y => ?_, fun y => ?_⟩
    · rw [a3] at y
      have : (-1 : Int32).toInt = (nI k0).toInt := by rw [y]
      rw [nI_toInt (by omega)] at this
      have h1 : (-1 : Int32).toInt = -1 := by decide
      omega
    · rw [a3] at y
      have := (nI_eq (a := 0) (b := k0) (by omega) (by omega)).mp y
      omega
theorem see_end {st : HSt} {ms : MSt} {H n M i p : Nat} (J : Jt2 st ms H n M i p) (B : B8 (ms.2.1 0) n) : sv (ms.2.1 0) n (ps (ms.2.1 0) n i) = -1 ↔ gA st (H + 1) i = 0 := by
  rw [j_end J]
  unfold sv
  by_cases z : ps (ms.2.1 0) n i = n
  · rw [if_pos z]; exact ⟨fun _ => z, fun _ => rfl⟩
  · rw [if_neg z]
    refine ⟨fun y => ?_, fun y => absurd y z⟩
    exfalso
    have lt : ps (ms.2.1 0) n i < n := Nat.lt_of_le_of_ne (ps_le i) z
    have b := B _ lt
    generalize ms.2.1 0 (ps (ms.2.1 0) n i) = x at *
    obtain ⟨h1, h2⟩ := b
    by_cases q : 0 ≤ x.toInt
    · have e : x = nI x.toInt.toNat := i32_of (by rw [nI_toInt (by omega)]; omega)
      rw [e, b255p _ (by omega), ← e] at y
      have : x.toInt = (-1 : Int32).toInt := by rw [y]
      have h1 : (-1 : Int32).toInt = -1 := by decide
      omega
    · have e : x = nI (x.toInt + 128).toNat - 128 := i32_of (by
        have q : (nI (x.toInt + 128).toNat - 128).toInt = ((x.toInt + 128).toNat : Int) - 128 := pk_sub_toInt (b := 128) (by omega) (by omega)
        rw [q]; omega)
      rw [e, b255n _ (by omega)] at y
      have : (nI ((x.toInt + 128).toNat + 128)).toInt = (-1 : Int32).toInt := by rw [y]
      rw [nI_toInt (by omega)] at this
      have h1 : (-1 : Int32).toInt = -1 := by decide
      omega
theorem j_see2 {st : HSt} {ms : MSt} {H n M i p : Nat} (J : Jt2 st ms H n M i p) : fm_see ms = some (msi ms 14 (nI (ps (ms.2.1 0) n i)), sv (ms.2.1 0) n (ps (ms.2.1 0) n i)) := j_see J
/-- both pass a sign of one place -/
theorem j_passS {st : HSt} {ms : MSt} {H n M i : Nat} {c0 : Int32} (J : Jt2 st ms H n M i (ps (ms.2.1 0) n i)) (h0 : isS10 c0 = true) (hK : gA st (H + 1) i = c0) : ∃ st2, fh_X10_next H st = some st2 ∧ Fr (fun b => b = H) st st2 ∧ gA st2 = gA st ∧ i < M ∧ Jt2 st2 (msi ms 14 (nI (ps (ms.2.1 0) n i + 1))) H n M (i + 1) (ps (ms.2.1 0) n i + 1) := by
  obtain ⟨T, A, h15, hs⟩ := J
  obtain ⟨k0, a1, a2, a3⟩ := s10_c h0
  have hi : i < M := T.lt (hK.trans a3) (by omega) (by omega)
  have p1 : ps (ms.2.1 0) n i < n := T.ps_lt.mp hi
  have kk := ((T.2.2.2.2.2.2.2 i hi).2.1.sign h0).mp hK
  obtain ⟨nl, nd⟩ := s10_not h0 kk.1
  have te : tE (ms.2.1 0) n (ps (ms.2.1 0) n i) = ps (ms.2.1 0) n i + 1 := by
    have k2 := kk.2
    unfold tE at k2 ⊢
    rw [if_neg nl, if_neg nd] at k2 ⊢
    split
    · rename_i z
      rw [if_pos z] at k2
      exact absurd (show ps (ms.2.1 0) n i + 2 - ps (ms.2.1 0) n i = 2 by omega) k2
    · rfl
  obtain ⟨st2, e, F, -, T2, gA2⟩ := h_next T
  rw [if_pos hi] at T2
  refine ⟨st2, e, F, gA2, hi, T2, A.to (by omega), by rw [msi_n (by omega)]; exact h15, ?_⟩
  show sk (ms.2.1 0) n (ps (ms.2.1 0) n i + 1) = if ps (ms.2.1 0) n i < n then sk (ms.2.1 0) n (tE (ms.2.1 0) n (ps (ms.2.1 0) n i)) else n
  rw [if_pos p1, te]
