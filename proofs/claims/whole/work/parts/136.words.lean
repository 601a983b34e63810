/-! reading: words as longs -/
def pkN (t : Nat → Int32) (q : Nat) : Nat → Nat
  | 0 => 0
  | k + 1 => pkN t q k * 256 + (t (q + k)).toInt.toNat
theorem shl_or {a c : Nat} (hc : c < 256) (ha : a < 2 ^ 48) : (nL a <<< ((8 : Int32).toInt64 &&& 63)) ||| nL c = nL (a * 256 + c) := by
  rw [show (8 : Int32).toInt64 &&& 63 = 8 by decide]
  apply Int64.toBitVec_inj.mp
  rw [Int64.toBitVec_or, Int64.toBitVec_shiftLeft]
  have e8 : (8 : Int64).toBitVec.smod 64#64 = 8#64 := by decide
  apply BitVec.eq_of_toNat_eq
  have t1 : (nL a).toBitVec.toNat = a := by show (BitVec.ofNat 64 a).toNat = a; rw [BitVec.toNat_ofNat]; exact Nat.mod_eq_of_lt (by omega)
  have t2 : (nL c).toBitVec.toNat = c := by show (BitVec.ofNat 64 c).toNat = c; rw [BitVec.toNat_ofNat]; exact Nat.mod_eq_of_lt (by omega)
  have t3 : (nL (a * 256 + c)).toBitVec.toNat = a * 256 + c := by show (BitVec.ofNat 64 (a * 256 + c)).toNat = _; rw [BitVec.toNat_ofNat]; exact Nat.mod_eq_of_lt (by omega)
  rw [t3, BitVec.toNat_or, t2]
  have t4 : ((nL a).toBitVec <<< ((8 : Int64).toBitVec.smod 64)).toNat = a <<< 8 := by
    rw [show ((8 : Int64).toBitVec.smod 64) = 8#64 from e8]
    show ((nL a).toBitVec <<< (8#64).toNat).toNat = _
    rw [BitVec.toNat_shiftLeft, t1]
    show a <<< 8 % 2 ^ 64 = a <<< 8
    refine Nat.mod_eq_of_lt ?_
    rw [Nat.shiftLeft_eq]; omega
  rw [t4, ← Nat.shiftLeft_add_eq_or_of_lt (by omega), Nat.shiftLeft_eq]
theorem isL_n {c : Int32} (h : isL c = true) : 97 ≤ c.toInt.toNat ∧ c.toInt.toNat ≤ 122 ∧ c = nI c.toInt.toNat := by
  unfold isL at h
  rw [Bool.and_eq_true] at h
  have a := of_decide_eq_true h.1
  have b := of_decide_eq_true h.2
  have a' : ¬ c.toInt < 97 := fun z => a (Int32.lt_iff_toInt_lt.mpr z)
  have b' : ¬ 122 < c.toInt := fun z => b (Int32.lt_iff_toInt_lt.mpr z)
  refine ⟨by omega, by omega, i32_of ?_⟩
  rw [nI_toInt (by omega)]; omega
theorem pkc_n {t : Nat → Int32} {q : Nat} : ∀ k, k ≤ 7 → (∀ j, j < k → fL t (q + j) = true) → pkc t q k = nL (pkN t q k) ∧ pkN t q k < 256 ^ k
  | 0, _, _ => ⟨rfl, Nat.zero_lt_one⟩
  | k + 1, hk, h => by
    obtain ⟨a, b⟩ := pkc_n k (by omega) (fun j hj => h j (by omega))
    obtain ⟨c1, c2, c3⟩ := isL_n (h k (by omega))
    have b2 : pkN t q k < 2 ^ 48 := Nat.lt_of_lt_of_le b (Nat.le_trans (Nat.pow_le_pow_right (n := 256) (by omega) (show k ≤ 6 by omega)) (by decide))
    refine ⟨?_, ?_⟩
    · show (pkc t q k <<< ((8 : Int32).toInt64 &&& 63)) ||| (t (q + k)).toInt64 = nL (pkN t q k * 256 + (t (q + k)).toInt.toNat)
      have e : (t (q + k)).toInt64 = nL (t (q + k)).toInt.toNat := by
        have := nI_L (n := (t (q + k)).toInt.toNat) (by omega)
        rw [← c3] at this; exact this
      rw [a, e]
      exact shl_or (by omega) b2
    · show pkN t q k * 256 + (t (q + k)).toInt.toNat < 256 ^ (k + 1)
      rw [Nat.pow_succ]; omega
/-- the words as numbers -/
def wN (i : Nat) : Nat → Nat
  | 0 => 0
  | k + 1 => wN i k * 256 + (wc i k).toInt.toNat
theorem pkN_0 {t : Nat → Int32} {q : Nat} : ∀ k, (∀ j, j < k → fL t (q + j) = true) → 0 < k → 0 < pkN t q k
  | 0, _, h => absurd h (Nat.lt_irrefl _)
  | k + 1, h, _ => by
    obtain ⟨c1, -, -⟩ := isL_n (h k (by omega))
    show 0 < pkN t q k * 256 + (t (q + k)).toInt.toNat
    omega
theorem wc_b : ∀ i, i < 23 → ∀ j, j < wl i → 97 ≤ (wc i j).toInt.toNat ∧ (wc i j).toInt.toNat ≤ 122 ∧ wc i j = nI (wc i j).toInt.toNat := by decide +kernel
theorem pk_inj {t : Nat → Int32} {q i : Nat} (hi : i < 23) : ∀ k m, (∀ j, j < k → fL t (q + j) = true) → m ≤ wl i → pkN t q k = wN i m → k = m ∧ ∀ j, j < k → t (q + j) = wc i j
  | 0, 0, _, _, _ => ⟨rfl, fun j hj => absurd hj (Nat.not_lt_zero _)⟩
  | 0, m + 1, _, hm, e => by
    obtain ⟨c1, -, -⟩ := wc_b i hi m (by omega)
    have : 0 = wN i m * 256 + (wc i m).toInt.toNat := e
    omega
  | k + 1, 0, h, _, e => by
    have := pkN_0 (k + 1) h (by omega)
    rw [e] at this; exact absurd this (Nat.lt_irrefl _)
  | k + 1, m + 1, h, hm, e => by
    obtain ⟨c1, c2, c3⟩ := isL_n (h k (by omega))
    obtain ⟨d1, d2, d3⟩ := wc_b i hi m (by omega)
    have e' : pkN t q k * 256 + (t (q + k)).toInt.toNat = wN i m * 256 + (wc i m).toInt.toNat := e
    obtain ⟨a, b⟩ := pk_inj hi k m (fun j hj => h j (by omega)) (by omega) (by omega)
    subst a
    refine ⟨rfl, fun j hj => ?_⟩
    by_cases z : j = k
    · rw [z, c3, d3, show (t (q + k)).toInt.toNat = (wc i k).toInt.toNat by omega]
    · exact b j (by omega)
theorem pkN_eq {t : Nat → Int32} {q i : Nat} : ∀ k, (∀ j, j < k → t (q + j) = wc i j) → pkN t q k = wN i k
  | 0, _ => rfl
  | k + 1, h => by
    show pkN t q k * 256 + (t (q + k)).toInt.toNat = wN i k * 256 + (wc i k).toInt.toNat
    rw [pkN_eq k (fun j hj => h j (by omega)), h k (by omega)]
/-- a word of the reference is a word of the class -/
theorem iW_iff {t : Nat → Int32} {n q i : Nat} {w : Int64} (hq : q < n) (hi : i < 23) (hw : w = nL (wN i (wl i))) (hb : wN i (wl i) < 2 ^ 62) : (iW t n q w = 1 ∧ fL t q = true ∧ Spl t q (tE t n q) i) ∨ (iW t n q w = 0 ∧ ¬ (fL t q = true ∧ Spl t q (tE t n q) i)) := by
  obtain ⟨r1, r2, r3, r4⟩ := rE_s (f := fL t) (n := n) (p := q) (by omega)
  obtain ⟨l1, l2, l3⟩ := wl_e i hi
  by_cases a : fL t q = true
  · have te : tE t n q = rE (fL t) n q := by unfold tE; rw [if_pos a]
    have b1 := (tE_b (t := t) hq).1
    rw [te] at b1 ⊢
    unfold iW
    generalize rE (fL t) n q = e at *
    rw [if_neg (by omega)]
    by_cases c : q + 8 ≤ e
    · rw [if_pos c]; exact Or.inr ⟨rfl, fun z => by have := z.2.1; omega⟩
    · rw [if_neg c]
      have al : ∀ j, j < e - q → fL t (q + j) = true := fun j hj => r3 (q + j) (by omega) (by omega)
      obtain ⟨p1, p2⟩ := pkc_n (e - q) (by omega) al
      have p3 : pkN t q (e - q) < 2 ^ 63 := Nat.lt_of_lt_of_le p2 (Nat.le_trans (Nat.pow_le_pow_right (n := 256) (by omega) (show e - q ≤ 7 by omega)) (by decide))
      by_cases d : pkc t q (e - q) = w
      · rw [if_pos d]
        rw [p1, hw] at d
        obtain ⟨x1, x2⟩ := pk_inj hi (e - q) (wl i) al (Nat.le_refl _) (nL_inj p3 (by omega) d)
        exact Or.inl ⟨rfl, a, x1, fun j hj => x2 j (by omega)⟩
      · rw [if_neg d]
        refine Or.inr ⟨rfl, fun z => d ?_⟩
        rw [p1, hw, z.2.1, pkN_eq (wl i) z.2.2]
  · right
    have e : rE (fL t) n q = q := Rn.uq (rE_s (by omega)) ⟨Nat.le_refl _, by omega, fun i h1 h2 => by omega, fun _ => by cases z : fL t q; rfl; exact absurd z a⟩
    unfold iW
    rw [e, if_pos (Nat.le_refl _)]
    exact ⟨rfl, fun z => a z.1⟩
theorem wN_all : ∀ i, i < 23 → wN i (wl i) < 2 ^ 62 := by decide +kernel
theorem wN_v : wN 0 4 = 2003395685 ∧ wN 1 4 = 1650552427 ∧ wN 2 4 = 1702454643 ∧ wN 3 4 = 1937007984 ∧ wN 4 6 = 115922835105139 ∧ wN 5 5 = 439905906532 ∧ wN 6 4 = 1953854062 ∧ wN 7 4 = 1919513445 ∧ wN 8 4 = 2002872692 ∧ wN 9 4 = 1886743660 ∧ wN 10 2 = 26982 ∧ wN 11 2 = 28530 ∧ wN 12 3 = 6385252 ∧ wN 13 3 = 7237492 ∧ wN 14 4 = 1936286821 ∧ wN 15 4 = 1818848869 ∧ wN 16 6 = 114784769370228 ∧ wN 17 5 = 478694368626 ∧ wN 18 4 = 1952541804 ∧ wN 19 3 = 6775152 ∧ wN 20 3 = 6578553 ∧ wN 21 5 = 521325929587 ∧ wN 22 4 = 1818325876 := by decide +kernel
