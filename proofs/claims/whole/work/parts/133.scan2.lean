/-! reading: values and words (class) -/
def tV (t : Nat → Int32) (n q : Nat) : Int32 := if 5 < tE t n q - q then -1 else if fD t q = true then nI (numN t q (tE t n q - q)) else -1
theorem dg_not {t : Nat → Int32} {q : Nat} (h : fD t q = true) : ¬ fL t q = true := fun z => by
  obtain ⟨a, b⟩ := isD_n h
  unfold fL isL at z
  rw [Bool.and_eq_true] at z
  refine of_decide_eq_true z.1 ?_
  rw [b]
  exact nI_lt (b := 97) (by omega) (by omega)
theorem tE_d {t : Nat → Int32} {n q : Nat} (h : fD t q = true) : tE t n q = rE (fD t) n q := by
  unfold tE; rw [if_neg (dg_not h), if_pos h]
theorem h_valueOf {st : HSt} {T n q : Nat} (k : gK st T = 21) (l : gL st T = 400) (hn : n ≤ 400) (hq : q < n) : fh_X10_valueOf (some T) (nI q) (nI (tE (gA st T) n q)) st = some (st, tV (gA st T) n q) := by
  obtain ⟨b1, b2⟩ := tE_b (t := gA st T) hq
  generalize he : tE (gA st T) n q = e at *
  unfold fh_X10_valueOf tV
  rw [he, zsub (by omega) (by omega)]
  rcases Nat.lt_or_ge 5 (e - q) with c | c
  · rw [if_pos (show (5 : Int32) < nI (e - q) from nI_lt (a := 5) c (by omega)), if_pos c]
  · rw [if_neg (show ¬ (5 : Int32) < nI (e - q) from nI_nlt (a := 5) c (by omega)), if_neg (by omega), dr_of k, bs_, l, chk_t (inb_n (by omega) (by omega)), nI_clamp (by omega), h_isD, bs_]
    dsimp only
    by_cases d : fD (gA st T) q = true
    · rw [if_pos (show isD (gA st T q) = true from d), if_neg (show ¬ (1 : Int32) = 0 by decide), if_pos d]
      rw [tE_d d] at he
      obtain ⟨-, -, r3, -⟩ := rE_s (f := fD (gA st T)) (n := n) (p := q) (by omega)
      rw [he] at r3
      obtain ⟨y, ey, y1, y2⟩ : ∃ y : Int32 × Int32 × HSt, iter (fun x : (Int32 × Int32 × HSt) => fh_X10_valueOf_s23 (some T) (nI e) x.1 x.2.1 x.2.2) mFuel ((0 : Int32), nI q, st) = some (.inr y) ∧ y.1 = nI (numN (gA st T) q (e - q)) ∧ y.2.2 = st := by
        refine iter_n (ο := HSt × Int32) (fun j (x : Int32 × Int32 × HSt) => x.1 = nI (numN (gA st T) q j) ∧ x.2.1 = nI (q + j) ∧ x.2.2 = st) (e - q) _ ?_ ?_ ⟨rfl, rfl, rfl⟩ (by omega)
        · rintro j ⟨x1, x2, x3⟩ hj ⟨c1, c2, c3⟩
          simp only at c1 c2 c3
          subst c1; subst c2; subst c3
          refine ⟨(nI (numN (gA x3 T) q (j + 1)), nI (q + (j + 1)), x3), ?_, rfl, rfl, rfl⟩
          show fh_X10_valueOf_s23 (some T) (nI e) (nI (numN (gA x3 T) q j)) (nI (q + j)) x3 = _
          unfold fh_X10_valueOf_s23
          rw [if_neg (nI_ge (by omega) (by omega)), dr_of k, bs_, l, chk_t (inb_n (by omega) (by omega)), nI_clamp (by omega), nI_1, Int32.mul_comm, num_step (r3 (q + j) (by omega) (by omega))]
          rfl
        · rintro ⟨x1, x2, x3⟩ ⟨c1, c2, c3⟩
          simp only at c1 c2 c3
          subst c1; subst c2; subst c3
          refine ⟨(nI (numN (gA x3 T) q (e - q)), nI (q + (e - q)), x3), ?_, rfl, rfl⟩
          show fh_X10_valueOf_s23 (some T) (nI e) (nI (numN (gA x3 T) q (e - q))) (nI (q + (e - q))) x3 = _
          unfold fh_X10_valueOf_s23
          rw [if_pos (nI_le (by omega) (by omega))]
      rw [ey]
      show fh_X10_valueOf_j48 y.1 y.2.2 = _
      unfold fh_X10_valueOf_j48
      rw [y1, y2]
    · rw [if_neg (show ¬ isD (gA st T q) = true from d), if_pos rfl, if_neg d]
def wl (i : Nat) : Nat := sLen.getD i 0
def wc (i j : Nat) : Int32 := (sByt.getD i []).getD j 0
theorem wl_e : ∀ i, i < 23 → sLen.getD i 0 = wl i ∧ wl i ≤ 6 ∧ 0 < wl i := by decide
theorem wc_e : ∀ i, i < 23 → ∀ j, j < wl i → (((wc i j) &&& (255 : Int32)).toUInt32 % 65536).toInt32 = wc i j ∧ vp_nar .char (wc i j) = wc i j := by decide +kernel
theorem h_charAt {st : HSt} {i j : Nat} (hi : i < 23) (hj : j < wl i) : fh_J0_charAt_5068e i (nI j) st = some (st, wc i j) := by
  obtain ⟨a, b⟩ := wc_e i hi j hj
  obtain ⟨l1, l2, -⟩ := wl_e i hi
  have a' : ((((sByt.getD i []).getD j 0) &&& (255 : Int32)).toUInt32 % 65536).toInt32 = wc i j := a
  unfold fh_J0_charAt_5068e fh_J0_isLatin1_aae02
  rw [chk_t (decide_eq_true hi), if_neg (show ¬ (1 : Int32) = 0 by decide), chk_t (decide_eq_true hi), if_pos rfl, bs_]
  dsimp only
  rw [if_neg (show ¬ (1 : Int32) = 0 by decide)]
  unfold fh_J1_charAt_3b067 fh_J0_checkIndex_df160 fh_J3_checkIndex_8e157
  rw [chk_t (decide_eq_true hi), l1, if_neg (show ¬ nI j < 0 from nI_nlt (b := 0) (by omega) (by omega)), if_pos (nI_lt hj (by omega)), bs_, bs_, chk_t (inb_n hj (by omega)), nI_clamp (by omega), a', chk_t (decide_eq_true b), bs_]
  dsimp only
  rw [chk_t (decide_eq_true b)]
def Spl (t : Nat → Int32) (q e i : Nat) : Prop := e - q = wl i ∧ ∀ j, j < wl i → t (q + j) = wc i j
theorem h_spells {st : HSt} {T q e i : Nat} (k : gK st T = 21) (l : gL st T = 400) (he : e ≤ 400) (hq : q < e) (hi : i < 23) : ∃ r, fh_X10_spells (some T) (nI q) (nI e) i st = some (st, r) ∧ ((r = 1 ∧ Spl (gA st T) q e i) ∨ (r = 0 ∧ ¬ Spl (gA st T) q e i)) := by
  obtain ⟨l1, l2, l3⟩ := wl_e i hi
  have len : fh_J0_length_8abf5 i st = some (st, nI (wl i)) := by
    unfold fh_J0_length_8abf5 fh_J0_coder_7d493
    rw [chk_t (decide_eq_true hi), if_neg (show ¬ (1 : Int32) = 0 by decide), chk_t (decide_eq_true hi), chk_t (by decide), bs_, l1]
    dsimp only
    rw [show nI (wl i) >>> ((0 : Int32) &&& 31) = nI (wl i) by rw [show (0 : Int32) &&& 31 = 0 by decide]; exact Int32.shiftRight_zero]
  unfold fh_X10_spells
  rw [chk_t (decide_eq_true hi), len, bs_]
  dsimp only
  rw [zsub (by omega) (by omega)]
  by_cases c : e - q = wl i
  · rw [if_pos (by rw [c]), if_neg (show ¬ nI q < 0 from nI_nlt (b := 0) (by omega) (by omega)), dr_of k, bs_, l, if_pos (nI_le he (by omega))]
    have loop := iter_m (s1 := fun x : (Int32 × HSt) => fh_X10_spells_s25 (some T) (nI q) (nI e) i x.1 x.2) (fun j (x : Int32 × HSt) => x = (nI (q + j), st) ∧ ∀ m, m < j → gA st T (q + m) = wc i m) (wl i) (fun o : HSt × Int32 => o = (st, 0) ∧ ¬ Spl (gA st T) q e i) (fun y : Int32 × HSt => y.2 = st ∧ Spl (gA st T) q e i) (x := (nI q, st)) ?_ ⟨rfl, fun _ z => absurd z (Nat.not_lt_zero _)⟩ (by omega)
    · rcases loop with ⟨o, e1, rfl, n⟩ | ⟨y, e1, y2, s⟩
      · exact ⟨0, by rw [e1]; rfl, Or.inr ⟨rfl, n⟩⟩
      · refine ⟨1, ?_, Or.inl ⟨rfl, s⟩⟩
        rw [e1]
        show fh_X10_spells_j54 y.2 = _
        unfold fh_X10_spells_j54
        rw [y2]
    · rintro j x hj ⟨rfl, g⟩
      dsimp only
      rcases Nat.lt_or_ge j (wl i) with d | d
      · have head : fh_X10_spells_s25 (some T) (nI q) (nI e) i (nI (q + j)) st = (if gA st T (q + j) = wc i j then some (.inr (.inl (nI (q + j + 1), st))) else some (.inl (st, (0 : Int32)))) := by
          unfold fh_X10_spells_s25
          rw [if_neg (nI_ge (by omega) (by omega)), dr_of k, bs_, l, chk_t (inb_n (by omega) (by omega)), chk_t (decide_eq_true hi), zsub (by omega) (by omega), Nat.add_sub_cancel_left, h_charAt hi d, bs_]
          dsimp only
          rw [nI_clamp (by omega), nI_1]
        by_cases z : gA st T (q + j) = wc i j
        · right; left
          refine ⟨(nI (q + (j + 1)), st), by rw [head, if_pos z]; rfl, ⟨rfl, fun m hm => ?_⟩, d⟩
          rcases Nat.lt_or_ge m j with y | y
          · exact g m y
          · rw [show m = j by omega]; exact z
        · left
          exact ⟨(st, 0), by rw [head, if_neg z], rfl, fun s => z (s.2 j d)⟩
      · right; right
        have : j = wl i := by omega
        subst this
        refine ⟨(nI (q + wl i), st), ?_, rfl, c, g⟩
        unfold fh_X10_spells_s25
        rw [if_pos (nI_le (by omega) (by omega))]
  · rw [if_neg (fun z => c ((nI_eq (by omega) (by omega)).mp z))]
    exact ⟨0, rfl, Or.inr ⟨rfl, fun s => c s.1⟩⟩
