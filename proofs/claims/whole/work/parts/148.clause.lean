/-! reading: words by number; a clause of a RIVER -/
def wV (k : Nat) : Int64 := nL (wN k (wl k))
theorem wV_0 : (2003395685 : Int64) = wV 0 := by decide +kernel
theorem wV_1 : (1650552427 : Int64) = wV 1 := by decide +kernel
theorem wV_2 : (1702454643 : Int64) = wV 2 := by decide +kernel
theorem wV_3 : (1937007984 : Int64) = wV 3 := by decide +kernel
theorem wV_4 : (115922835105139 : Int64) = wV 4 := by decide +kernel
theorem wV_5 : (439905906532 : Int64) = wV 5 := by decide +kernel
theorem wV_6 : (1953854062 : Int64) = wV 6 := by decide +kernel
theorem wV_7 : (1919513445 : Int64) = wV 7 := by decide +kernel
theorem wV_8 : (2002872692 : Int64) = wV 8 := by decide +kernel
theorem wV_9 : (1886743660 : Int64) = wV 9 := by decide +kernel
theorem wV_10 : (26982 : Int64) = wV 10 := by decide +kernel
theorem wV_11 : (28530 : Int64) = wV 11 := by decide +kernel
theorem wV_12 : (6385252 : Int64) = wV 12 := by decide +kernel
theorem wV_13 : (7237492 : Int64) = wV 13 := by decide +kernel
theorem wV_14 : (1936286821 : Int64) = wV 14 := by decide +kernel
theorem wV_15 : (1818848869 : Int64) = wV 15 := by decide +kernel
theorem wV_16 : (114784769370228 : Int64) = wV 16 := by decide +kernel
theorem wV_17 : (478694368626 : Int64) = wV 17 := by decide +kernel
theorem wV_18 : (1952541804 : Int64) = wV 18 := by decide +kernel
theorem wV_19 : (6775152 : Int64) = wV 19 := by decide +kernel
theorem wV_20 : (6578553 : Int64) = wV 20 := by decide +kernel
theorem wV_21 : (521325929587 : Int64) = wV 21 := by decide +kernel
theorem wV_22 : (1818325876 : Int64) = wV 22 := by decide +kernel
theorem Tk.kn {st : HSt} {H n M i : Nat} {t : Nat → Int32} {f : Int32} (h : Tk st H t n M i f) : ∃ c, c < 279 ∧ gA st (H + 1) i = nI c := by
  obtain ⟨a, b, c, d, -, g1, g2, g3⟩ := h
  rcases Nat.lt_or_ge i M with z | z
  · rcases (g3 i z).2.1 with ⟨-, ⟨j, -, hj, -, e⟩ | ⟨e, -⟩⟩ | ⟨-, -, e⟩ | ⟨-, -, ⟨-, e⟩ | ⟨-, e⟩⟩
    · exact ⟨256 + j, by omega, e⟩
    · exact ⟨1, by omega, e⟩
    · exact ⟨2, by omega, e⟩
    · split at e
      · exact ⟨3, by omega, e⟩
      · exact ⟨4, by omega, e⟩
    · split at e
      · rename_i s
        obtain ⟨k, k1, k2, k3⟩ := s10_c s
        exact ⟨k, by omega, by rw [e, k3]⟩
      · exact ⟨1, by omega, e⟩
  · have : i = M := by omega
    exact ⟨0, by omega, by rw [this]; exact g1⟩
theorem Tk.lt {st : HSt} {H n M i c : Nat} {t : Nat → Int32} {f : Int32} (h : Tk st H t n M i f) (e : gA st (H + 1) i = nI c) (hc : 0 < c) (hc2 : c < 279) : i < M := by
  obtain ⟨a, b, c0, d, -, g1, g2, g3⟩ := h
  rcases Nat.lt_or_ge i M with z | z
  · exact z
  · have : i = M := by omega
    rw [this, g1] at e
    have := (nI_eq (a := 0) (b := c) (by omega) (by omega)).mp e
    omega
/-- both look at a word: where the reference has passed the blanks -/
theorem j_w {st : HSt} {ms : MSt} {H n M i k c : Nat} (J : Jt2 st ms H n M i (ps (ms.2.1 0) n i)) (hc : gA st (H + 1) i = nI c) (h9 : c < 279) (hk : k < 23) : fm_isWord (wV k) ms = some (ms, if c = 256 + k then 1 else 0) := by
  obtain ⟨r, e, h⟩ := j_word J hk (w := wV k) rfl
  rw [e, msi_id J.2.1.2.2.1]
  rcases h with ⟨r1, h1, -⟩ | ⟨r1, h1⟩
  · rw [hc] at h1
    rw [r1, if_pos ((nI_eq (by omega) (by omega)).mp h1)]
  · rw [hc] at h1
    rw [r1, if_neg (fun z => h1 (by rw [z]))]
theorem m_isRiverWord {st : HSt} {ms : MSt} {H n M i c : Nat} (J : Jt2 st ms H n M i (ps (ms.2.1 0) n i)) (hc : gA st (H + 1) i = nI c) (h9 : c < 279) : fm_isRiverWord ms = some (ms, if 256 ≤ c ∧ c ≤ 261 then 1 else 0) := by
  have W : ∀ k, k < 23 → fm_isWord (wV k) ms = some (ms, if c = 256 + k then 1 else 0) := fun k hk => j_w J hc h9 hk
  unfold fm_isRiverWord
  rw [wV_0, wV_1, wV_2, wV_3, wV_4, wV_5, W 0 (by omega), bs_]
  dsimp only
  by_cases z0 : c = 256 + 0
  · rw [if_pos z0, if_neg (show ¬ (1 : Int32) = 0 by decide), if_pos (by omega)]
  rw [if_neg z0, if_pos rfl, W 1 (by omega), bs_]
  dsimp only
  by_cases z1 : c = 256 + 1
  · rw [if_pos z1, if_neg (show ¬ (1 : Int32) = 0 by decide), if_pos (by omega)]
  rw [if_neg z1, if_pos rfl, W 2 (by omega), bs_]
  dsimp only
  by_cases z2 : c = 256 + 2
  · rw [if_pos z2, if_neg (show ¬ (1 : Int32) = 0 by decide), if_pos (by omega)]
  rw [if_neg z2, if_pos rfl, W 3 (by omega), bs_]
  dsimp only
  by_cases z3 : c = 256 + 3
  · rw [if_pos z3, if_neg (show ¬ (1 : Int32) = 0 by decide), if_pos (by omega)]
  rw [if_neg z3, if_pos rfl, W 4 (by omega), bs_]
  dsimp only
  by_cases z4 : c = 256 + 4
  · rw [if_pos z4, if_neg (show ¬ (1 : Int32) = 0 by decide), if_pos (by omega)]
  rw [if_neg z4, if_pos rfl, W 5 (by omega), bs_]
  dsimp only
  by_cases z5 : c = 256 + 5
  · rw [if_pos z5, if_neg (show ¬ (1 : Int32) = 0 by decide), if_pos (by omega)]
  rw [if_neg z5, if_pos rfl, if_neg (by omega)]
