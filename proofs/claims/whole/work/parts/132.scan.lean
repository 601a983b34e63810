/-! reading: the class's scan -/
def tE (t : Nat → Int32) (n q : Nat) : Nat := if fL t q = true then rE (fL t) n q else if fD t q = true then rE (fD t) n q else if (t q = 60 ∨ t q = 62) ∧ q + 1 < n ∧ t (q + 1) = 61 then q + 2 else q + 1
theorem rE_1 {f : Nat → Bool} {n q : Nat} (hq : q < n) (h : f q = true) : rE f n (q + 1) = rE f n q := by
  obtain ⟨a, b, c, d⟩ := rE_s (f := f) (n := n) (p := q + 1) (by omega)
  refine Rn.uq (f := f) (n := n) (p := q) ⟨by omega, b, fun i h1 h2 => ?_, d⟩ (rE_s (by omega))
  by_cases e : i = q
  · rw [e]; exact h
  · exact c i (by omega) h2
theorem tE_b {t : Nat → Int32} {n q : Nat} (hq : q < n) : q < tE t n q ∧ tE t n q ≤ n := by
  unfold tE
  split
  · rename_i h
    obtain ⟨a, b, -⟩ := rE_s (f := fL t) (n := n) (p := q + 1) (by omega)
    rw [rE_1 hq h] at a b; omega
  · split
    · rename_i h
      obtain ⟨a, b, -⟩ := rE_s (f := fD t) (n := n) (p := q + 1) (by omega)
      rw [rE_1 hq h] at a b; omega
    · split
      · rename_i h; omega
      · omega
theorem h_isL (c : Int32) (st : HSt) : fh_X10_isLetter c st = some (st, if isL c = true then 1 else 0) := by
  unfold fh_X10_isLetter isL
  by_cases a : c < 97
  · rw [if_pos a, decide_eq_false (fun z => z a)]; rfl
  · rw [if_neg a, decide_eq_true a]
    by_cases b : 122 < c
    · rw [if_pos b, decide_eq_false (p := ¬ 122 < c) (fun z => z b)]; rfl
    · rw [if_neg b, decide_eq_true b]; rfl
theorem h_isD (c : Int32) (st : HSt) : fh_X10_isDigit c st = some (st, if isD c = true then 1 else 0) := by
  unfold fh_X10_isDigit isD
  by_cases a : c < 48
  · rw [if_pos a, decide_eq_false (fun z => z a)]; rfl
  · rw [if_neg a, decide_eq_true a]
    by_cases b : 57 < c
    · rw [if_pos b, decide_eq_false (p := ¬ 57 < c) (fun z => z b)]; rfl
    · rw [if_neg b, decide_eq_true b]; rfl
theorem h_runL {st : HSt} {T n q : Nat} (k : gK st T = 21) (l : gL st T = 400) (hn : n ≤ 400) (hq : q ≤ n) : ∃ y : Int32 × HSt, iter (fun x : (Int32 × HSt) => fh_X10_runEnd_s13 (some T) (nI n) x.1 x.2) mFuel (nI q, st) = some (.inr y) ∧ y = (nI (rE (fL (gA st T)) n q), st) := by
  obtain ⟨r1, r2, r3, r4⟩ := rE_s (f := fL (gA st T)) hq
  refine iter_w (ο := HSt × Int32) (fun j (x : Int32 × HSt) => x = (nI (q + j), st)) (rE (fL (gA st T)) n q - q) _ ?_ rfl (by omega)
  rintro j x hj rfl
  dsimp only
  rcases Nat.lt_or_ge (q + j) n with c | c
  · have head : fh_X10_runEnd_s13 (some T) (nI n) (nI (q + j)) st = (if fL (gA st T) (q + j) = true then some (.inr (.inl (nI (q + j + 1), st))) else some (.inr (.inr (nI (q + j), st)))) := by
      unfold fh_X10_runEnd_s13
      rw [if_neg (nI_ge c (by omega)), dr_of k, bs_, l, chk_t (inb_n (by omega) (by omega)), nI_clamp (by omega), h_isL, bs_]
      dsimp only
      unfold fL
      by_cases z : isL (gA st T (q + j)) = true
      · rw [if_pos z, if_pos z, if_neg (show ¬ (1 : Int32) = 0 by decide), nI_1]
      · rw [if_neg z, if_neg z, if_pos rfl]
    rcases Nat.lt_or_ge (q + j) (rE (fL (gA st T)) n q) with d | d
    · left; exact ⟨_, by rw [head, if_pos (r3 _ (by omega) d)]; rfl, rfl, by omega⟩
    · right
      have e : q + j = rE (fL (gA st T)) n q := by omega
      have := r4 (by omega)
      rw [← e] at this
      exact ⟨_, by rw [head, if_neg (by rw [this]; decide)], by rw [e]⟩
  · right
    have e : q + j = rE (fL (gA st T)) n q := by omega
    refine ⟨(nI (q + j), st), ?_, by rw [e]⟩
    unfold fh_X10_runEnd_s13
    rw [if_pos (nI_le c (by omega))]
theorem h_runD {st : HSt} {T n q : Nat} (k : gK st T = 21) (l : gL st T = 400) (hn : n ≤ 400) (hq : q ≤ n) : ∃ y : Int32 × HSt, iter (fun x : (Int32 × HSt) => fh_X10_runEnd_s42 (some T) (nI n) x.1 x.2) mFuel (nI q, st) = some (.inr y) ∧ y = (nI (rE (fD (gA st T)) n q), st) := by
  obtain ⟨r1, r2, r3, r4⟩ := rE_s (f := fD (gA st T)) hq
  refine iter_w (ο := HSt × Int32) (fun j (x : Int32 × HSt) => x = (nI (q + j), st)) (rE (fD (gA st T)) n q - q) _ ?_ rfl (by omega)
  rintro j x hj rfl
  dsimp only
  rcases Nat.lt_or_ge (q + j) n with c | c
  · have head : fh_X10_runEnd_s42 (some T) (nI n) (nI (q + j)) st = (if fD (gA st T) (q + j) = true then some (.inr (.inl (nI (q + j + 1), st))) else some (.inr (.inr (nI (q + j), st)))) := by
      unfold fh_X10_runEnd_s42
      rw [if_neg (nI_ge c (by omega)), dr_of k, bs_, l, chk_t (inb_n (by omega) (by omega)), nI_clamp (by omega), h_isD, bs_]
      dsimp only
      unfold fD
      by_cases z : isD (gA st T (q + j)) = true
      · rw [if_pos z, if_pos z, if_neg (show ¬ (1 : Int32) = 0 by decide), nI_1]
      · rw [if_neg z, if_neg z, if_pos rfl]
    rcases Nat.lt_or_ge (q + j) (rE (fD (gA st T)) n q) with d | d
    · left; exact ⟨_, by rw [head, if_pos (r3 _ (by omega) d)]; rfl, rfl, by omega⟩
    · right
      have e : q + j = rE (fD (gA st T)) n q := by omega
      have := r4 (by omega)
      rw [← e] at this
      exact ⟨_, by rw [head, if_neg (by rw [this]; decide)], by rw [e]⟩
  · right
    have e : q + j = rE (fD (gA st T)) n q := by omega
    refine ⟨(nI (q + j), st), ?_, by rw [e]⟩
    unfold fh_X10_runEnd_s42
    rw [if_pos (nI_le c (by omega))]
theorem h_runEnd {st : HSt} {T n q : Nat} (k : gK st T = 21) (l : gL st T = 400) (hn : n ≤ 400) (hq : q < n) : fh_X10_runEnd (some T) (nI q) (nI n) st = some (st, nI (tE (gA st T) n q)) := by
  have i0 : inb (nI q) 400 = true := inb_n (by omega) (by omega)
  have j78 : fh_X10_runEnd_j78 (some T) (nI n) (nI (q + 1)) st = some (st, if q + 1 < n ∧ gA st T (q + 1) = 61 then nI (q + 2) else nI (q + 1)) := by
    unfold fh_X10_runEnd_j78
    rcases Nat.lt_or_ge (q + 1) n with c | c
    · rw [if_neg (nI_ge c (by omega)), dr_of k, bs_, l, chk_t (inb_n (by omega) (by omega)), nI_clamp (by omega), nI_1]
      by_cases z : gA st T (q + 1) = 61
      · rw [if_pos z, if_pos ⟨c, z⟩]
      · rw [if_neg z, if_neg (fun y => z y.2)]
    · rw [if_pos (nI_le c (by omega)), if_neg (by omega)]
  unfold fh_X10_runEnd tE
  rw [dr_of k, bs_, l, chk_t i0, nI_clamp (by omega), h_isL, bs_]
  dsimp only
  rw [nI_1]
  by_cases a : fL (gA st T) q = true
  · rw [if_pos (show isL (gA st T q) = true from a), if_neg (show ¬ (1 : Int32) = 0 by decide), if_pos a]
    obtain ⟨y, e, rfl⟩ := h_runL (q := q + 1) k l hn (by omega)
    rw [e, ← rE_1 hq a]; rfl
  · rw [if_neg (show ¬ isL (gA st T q) = true from a), if_pos rfl, if_neg a, chk_t (isk_t k), l, chk_t i0, h_isD, bs_]
    dsimp only
    by_cases b : fD (gA st T) q = true
    · rw [if_pos (show isD (gA st T q) = true from b), if_neg (show ¬ (1 : Int32) = 0 by decide), if_pos b]
      obtain ⟨y, e, rfl⟩ := h_runD (q := q + 1) k l hn (by omega)
      rw [e, ← rE_1 hq b]; rfl
    · rw [if_neg (show ¬ isD (gA st T q) = true from b), if_pos rfl, if_neg b, chk_t (isk_t k), l, chk_t i0, j78]
      by_cases c : gA st T q = 60
      · rw [if_pos c]
        by_cases d : q + 1 < n ∧ gA st T (q + 1) = 61
        · rw [if_pos d, if_pos ⟨Or.inl c, d⟩]
        · rw [if_neg d, if_neg (fun z => d z.2)]
      · rw [if_neg c, chk_t i0]
        by_cases c2 : gA st T q = 62
        · rw [if_pos c2]
          by_cases d : q + 1 < n ∧ gA st T (q + 1) = 61
          · rw [if_pos d, if_pos ⟨Or.inr c2, d⟩]
          · rw [if_neg d, if_neg (fun z => d z.2)]
        · rw [if_neg c2, if_neg (fun z => by rcases z.1 with z | z; exact c z; exact c2 z)]
