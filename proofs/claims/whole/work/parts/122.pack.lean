/-! zigzag: a day packed into nine longs -/
def nL (n : Nat) : Int64 := Int64.ofNat n
theorem nL_toInt {n : Nat} (h : n < 2 ^ 63) : (nL n).toInt = n := Int64.toInt_ofNat_of_lt h
theorem nL_inj {a b : Nat} (ha : a < 2 ^ 63) (hb : b < 2 ^ 63) (h : nL a = nL b) : a = b := by
  have := congrArg Int64.toInt h
  rw [nL_toInt ha, nL_toInt hb] at this; omega
theorem nL_add (a b : Nat) : nL a + nL b = nL (a + b) := (Int64.ofNat_add a b).symm
theorem nL_mul (a b : Nat) : nL a * nL b = nL (a * b) := (Int64.ofNat_mul a b).symm
theorem nI_L {n : Nat} (h : n < 2 ^ 31) : (nI n).toInt64 = nL n := by
  apply Int64.toInt_inj.mp
  rw [l64, nI_toInt h, nL_toInt (by omega)]
theorem i32_subc {x y c : Int32} (h : x - c = y - c) : x = y := by rw [← Int32.sub_add_cancel x c, h, Int32.sub_add_cancel]
def tn (x : Int32) : Nat := (x.toInt + 20).toNat
def dgt (v : Nat → Int32) (s k : Nat) : Nat := tn (pAt v s (k + 1) 0 - pAt v s k 0) * 41 + tn (pAt v s (k + 1) 1 - pAt v s k 1)
def dg2 (v : Nat → Int32) (t : Nat) : Nat := if t < yN v 0 then dgt v 0 t else dgt v 1 (t - yN v 0)
def Wd (g : Nat → Nat) : Nat → Nat → Nat
  | 0, _ => 0
  | t + 1, m => if m = t / 5 then Wd g t m * 1681 + g t else Wd g t m
def pkW (v : Nat → Int32) (i : Nat) : Int64 := if i = 0 then nL (yN v 0 * 41 + yN v 1) else nL (Wd (dg2 v) (yN v 0 + yN v 1) (i - 1))
theorem Wd_lt {g : Nat → Nat} (m : Nat) : ∀ t, (∀ j, j < t → g j < 1681) → Wd g t m < 1681 ^ (min t (5 * m + 5) - 5 * m)
  | 0, _ => by unfold Wd; exact Nat.pow_pos (by omega)
  | t + 1, h => by
    have ih := Wd_lt m t (fun j hj => h j (by omega))
    have ht := h t (by omega)
    unfold Wd
    split
    · rename_i e
      rw [show min (t + 1) (5 * m + 5) - 5 * m = (min t (5 * m + 5) - 5 * m) + 1 by omega, Nat.pow_succ]
      omega
    · rename_i e
      refine Nat.lt_of_lt_of_le ih (Nat.pow_le_pow_right (by omega) (by omega))
theorem Wd_63 {g : Nat → Nat} {t m : Nat} (h : ∀ j, j < t → g j < 1681) : Wd g t m < 2 ^ 62 := by
  refine Nat.lt_of_lt_of_le (Wd_lt m t h) ?_
  refine Nat.le_trans (Nat.pow_le_pow_right (n := 1681) (by omega) (show _ ≤ 5 by omega)) (by decide)
theorem Wd_inj {g g2 : Nat → Nat} : ∀ t, (∀ j, j < t → g j < 1681) → (∀ j, j < t → g2 j < 1681) → (∀ m, m < 8 → Wd g t m = Wd g2 t m) → t ≤ 40 → ∀ j, j < t → g j = g2 j
  | 0, _, _, _, _ => fun j hj => absurd hj (Nat.not_lt_zero _)
  | t + 1, h, h2, e, ht => by
    have a := h t (by omega)
    have b := h2 t (by omega)
    have e0 := e (t / 5) (by omega)
    unfold Wd at e0
    rw [if_pos rfl, if_pos rfl] at e0
    have q1 : g t = g2 t := by omega
    have q2 : Wd g t (t / 5) = Wd g2 t (t / 5) := by omega
    have ih := Wd_inj t (fun j hj => h j (by omega)) (fun j hj => h2 j (by omega)) (fun m hm => by
      by_cases z : m = t / 5
      · rw [z]; exact q2
      · have := e m hm
        unfold Wd at this
        rw [if_neg z, if_neg z] at this; exact this) (by omega)
    intro j hj
    by_cases z : j = t
    · rw [z]; exact q1
    · exact ih j (by omega)
theorem Wd_ext {g g2 : Nat → Nat} {m : Nat} : ∀ t, (∀ j, j < t → g j = g2 j) → Wd g t m = Wd g2 t m
  | 0, _ => rfl
  | t + 1, h => by
    unfold Wd
    rw [Wd_ext t (fun j hj => h j (by omega)), h t (by omega)]
/-- the same bridge -/
def Eb (a b : Nat → Int32) : Prop := yN a 0 = yN b 0 ∧ yN a 1 = yN b 1 ∧ ∀ s k w, s < 2 → k < yN a s → w < 2 → pAt a s (k + 1) w = pAt b s (k + 1) w
def VB (v : Nat → Int32) : Prop := yN v 0 + yN v 1 ≤ 40 ∧ ∀ s k w, s < 2 → k < yN v s → w < 2 → sm20 (pAt v s (k + 1) w - pAt v s k w)
theorem VOk.vb {D : Nat} {v : Nat → Int32} (V : VOk D v) : VB v := by
  obtain ⟨w0, y, d, sp, fl, h0, h6, h1, h2, h4, hw0, hy, hd, hsp, hfl, he, hf, her, ht⟩ := V
  have e0 : yN v 0 = y 0 := yN_e (h6 0 (by omega)) (by omega)
  have e1 : yN v 1 = y 1 := yN_e (h6 1 (by omega)) (by omega)
  refine ⟨by omega, fun s k w hs hk hw => ht s k w hs ?_ hw⟩
  rcases (by omega : s = 0 ∨ s = 1) with rfl | rfl <;> omega
theorem tn_lt {x : Int32} (h : sm20 x) : tn x < 41 := by obtain ⟨h1, h2⟩ := h; unfold tn; omega
theorem tn_inj {x y : Int32} (h : sm20 x) (h2 : sm20 y) (e : tn x = tn y) : x = y := by
  obtain ⟨a, b⟩ := h; obtain ⟨c, d⟩ := h2
  unfold tn at e
  exact i32_of (by omega)
theorem dgt_lt {v : Nat → Int32} {s k : Nat} (V : VB v) (hs : s < 2) (hk : k < yN v s) : dgt v s k < 1681 := by
  have a := tn_lt (V.2 s k 0 hs hk (by omega))
  have b := tn_lt (V.2 s k 1 hs hk (by omega))
  unfold dgt; omega
theorem dg2_lt {v : Nat → Int32} {t : Nat} (V : VB v) (ht : t < yN v 0 + yN v 1) : dg2 v t < 1681 := by
  unfold dg2
  split
  · exact dgt_lt V (by omega) (by assumption)
  · exact dgt_lt V (by omega) (by omega)
theorem eb_of {a b : Nat → Int32} (A : VB a) (B : VB b) (K : ∀ i, 8 ≤ i → i < 12 → a i = b i) (e0 : yN a 0 = yN b 0) (e1 : yN a 1 = yN b 1) (h : ∀ s k, s < 2 → k < yN a s → dgt a s k = dgt b s k) : Eb a b := by
  have es : ∀ s, s < 2 → yN a s = yN b s := fun s hs => by rcases (by omega : s = 0 ∨ s = 1) with rfl | rfl <;> assumption
  have key : ∀ s w, s < 2 → w < 2 → ∀ k, k ≤ yN a s → pAt a s k w = pAt b s k w := fun s w hs hw k => by
    induction k with
    | zero => intro _; unfold pAt; rw [if_pos rfl, if_pos rfl]; exact K _ (by omega) (by omega)
    | succ k ih =>
      intro hk
      have e := h s k hs (by omega)
      have hb : k < yN b s := by rw [← es s hs]; omega
      have a0 := A.2 s k 0 hs (by omega) (by omega)
      have a1 := A.2 s k 1 hs (by omega) (by omega)
      have b0 := B.2 s k 0 hs hb (by omega)
      have b1 := B.2 s k 1 hs hb (by omega)
      have t1 := tn_lt a1
      have t2 := tn_lt b1
      unfold dgt at e
      have q0 := tn_inj a0 b0 (by omega)
      have q1 := tn_inj a1 b1 (by omega)
      have i0 := ih (by omega)
      rcases (by omega : w = 0 ∨ w = 1) with rfl | rfl
      · rw [i0] at q0; exact i32_subc q0
      · rw [i0] at q1; exact i32_subc q1
  exact ⟨e0, e1, fun s k w hs hk hw => key s w hs hw (k + 1) hk⟩
theorem sm_iff {a b : Nat → Int32} (A : VB a) (B : VB b) (K : ∀ i, 8 ≤ i → i < 12 → a i = b i) : (∀ m, m < 9 → pkW a m = pkW b m) ↔ Eb a b := by
  constructor
  · intro h
    have q := h 0 (by omega)
    unfold pkW at q
    rw [if_pos rfl, if_pos rfl] at q
    have q := nL_inj (by have := A.1; omega) (by have := B.1; omega) q
    have a1 := A.1
    have b1 := B.1
    have e0 : yN a 0 = yN b 0 := by omega
    have e1 : yN a 1 = yN b 1 := by omega
    have w := Wd_inj (g := dg2 a) (g2 := dg2 b) (yN a 0 + yN a 1) (fun j hj => dg2_lt A hj) (fun j hj => dg2_lt B (by omega)) (fun m hm => by
      have := h (m + 1) (by omega)
      unfold pkW at this
      rw [if_neg (by omega), if_neg (by omega), Nat.add_sub_cancel, ← e0, ← e1] at this
      exact nL_inj (Nat.lt_trans (Wd_63 (fun j hj => dg2_lt A hj)) (by decide)) (Nat.lt_trans (Wd_63 (fun j hj => dg2_lt B (by omega))) (by decide)) this) (by omega)
    refine eb_of A B K e0 e1 (fun s k hs hk => ?_)
    rcases (by omega : s = 0 ∨ s = 1) with rfl | rfl
    · have := w k (by omega)
      unfold dg2 at this
      rw [if_pos hk, if_pos (by omega)] at this; exact this
    · have := w (yN a 0 + k) (by omega)
      unfold dg2 at this
      rw [if_neg (by omega), if_neg (by omega), ← e0, Nat.add_sub_cancel_left] at this; exact this
  · rintro ⟨e0, e1, h⟩ m hm
    unfold pkW
    rw [e0, e1]
    split
    · rfl
    · have ez : ∀ s k w, s < 2 → k ≤ yN a s → w < 2 → pAt a s k w = pAt b s k w := fun s k w hs hk hw => by
        rcases Nat.eq_zero_or_pos k with z | z
        · subst z; unfold pAt; rw [if_pos rfl, if_pos rfl]; exact K _ (by omega) (by omega)
        · have := h s (k - 1) w hs (by omega) hw
          rw [Nat.sub_add_cancel z] at this; exact this
      refine congrArg nL (Wd_ext _ (fun j hj => ?_))
      unfold dg2
      rw [e0]
      split
      · unfold dgt; rw [ez 0 (j + 1) 0 (by omega) (by omega) (by omega), ez 0 j 0 (by omega) (by omega) (by omega), ez 0 (j + 1) 1 (by omega) (by omega) (by omega), ez 0 j 1 (by omega) (by omega) (by omega)]
      · unfold dgt; rw [ez 1 (j - yN b 0 + 1) 0 (by omega) (by omega) (by omega), ez 1 (j - yN b 0) 0 (by omega) (by omega) (by omega), ez 1 (j - yN b 0 + 1) 1 (by omega) (by omega) (by omega), ez 1 (j - yN b 0) 1 (by omega) (by omega) (by omega)]
/-- the row of longs, with t yards packed at f -/
def Jt (J : Nat → Int64) (v : Nat → Int32) (f t : Nat) : Nat → Int64 := fun i => if i < f ∨ f + 9 ≤ i then J i else if i = f then nL (yN v 0 * 41 + yN v 1) else nL (Wd (dg2 v) t (i - f - 1))
theorem Jt_up {J : Nat → Int64} {v : Nat → Int32} {f t : Nat} (ht : t < 40) : vp_updL (Jt J v f t) (f + 1 + t / 5) (nL (Wd (dg2 v) t (t / 5) * 1681 + dg2 v t)) = Jt J v f (t + 1) := by
  funext i
  by_cases e : i = f + 1 + t / 5
  · rw [e, show ∀ (g : Nat → Int64) n z, vp_updL g n z n = z from fun g n z => if_pos rfl]
    unfold Jt
    rw [if_neg (by omega), if_neg (by omega), show f + 1 + t / 5 - f - 1 = t / 5 by omega]
    show _ = nL (if t / 5 = t / 5 then _ else _)
    rw [if_pos rfl]
  · rw [show ∀ (g : Nat → Int64) n z j, j ≠ n → vp_updL g n z j = g j from fun g n z j h => if_neg h]
    · unfold Jt
      split
      · rfl
      · split
        · rfl
        · show _ = nL (if i - f - 1 = t / 5 then _ else _)
          rw [if_neg (by omega)]
    · exact e
