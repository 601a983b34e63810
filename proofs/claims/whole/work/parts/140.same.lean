/-! reading: only the first n signs matter -/
def Sm (t u : Nat → Int32) (n : Nat) : Prop := ∀ i, i < n → t i = u i
theorem rE_x {f g : Nat → Bool} {n p : Nat} (h : ∀ i, i < n → f i = g i) (hp : p ≤ n) : rE f n p = rE g n p := by
  obtain ⟨a, b, c, d⟩ := rE_s (f := f) hp
  refine Rn.uq (f := g) ⟨a, b, fun i h1 h2 => ?_, fun z => ?_⟩ (rE_s hp)
  · rw [← h i (by omega)]; exact c i h1 h2
  · rw [← h _ z]; exact d z
theorem sk_x {t u : Nat → Int32} {n p : Nat} (h : Sm t u n) (hp : p ≤ n) : sk t n p = sk u n p := rE_x (fun i hi => by unfold fB; rw [h i hi]) hp
theorem sk_le {t : Nat → Int32} {n p : Nat} (hp : p ≤ n) : sk t n p ≤ n := (rE_s (f := fB t) hp).2.1
theorem tE_x {t u : Nat → Int32} {n q : Nat} (h : Sm t u n) (hq : q < n) : tE t n q = tE u n q := by
  unfold tE
  rw [rE_x (f := fL t) (g := fL u) (fun i hi => by unfold fL; rw [h i hi]) (by omega), rE_x (f := fD t) (g := fD u) (fun i hi => by unfold fD; rw [h i hi]) (by omega)]
  rw [show fL t q = fL u q by unfold fL; rw [h q hq], show fD t q = fD u q by unfold fD; rw [h q hq], h q hq]
  by_cases z : q + 1 < n
  · rw [h (q + 1) z]
  · rw [if_neg (c := (u q = 60 ∨ u q = 62) ∧ q + 1 < n ∧ t (q + 1) = 61) (fun y => z y.2.1), if_neg (c := (u q = 60 ∨ u q = 62) ∧ q + 1 < n ∧ u (q + 1) = 61) (fun y => z y.2.1)]
theorem ps_le {t : Nat → Int32} {n : Nat} : ∀ i, ps t n i ≤ n
  | 0 => sk_le (by omega)
  | i + 1 => by
    unfold ps
    split
    · rename_i z; exact sk_le (tE_b z).2
    · exact Nat.le_refl _
theorem ps_x {t u : Nat → Int32} {n : Nat} (h : Sm t u n) : ∀ i, ps t n i = ps u n i
  | 0 => sk_x h (by omega)
  | i + 1 => by
    unfold ps
    rw [ps_x h i]
    by_cases z : ps u n i < n
    · rw [if_pos z, if_pos z, tE_x h z, sk_x h (tE_b z).2]
    · rw [if_neg z, if_neg z]
theorem spl_x {t u : Nat → Int32} {n q e i : Nat} (h : Sm t u n) (he : e ≤ n) (s : Spl t q e i) : Spl u q e i := ⟨s.1, fun j hj => by rw [← h (q + j) (by have := s.1; omega)]; exact s.2 j hj⟩
theorem Sm.sy {t u : Nat → Int32} {n : Nat} (h : Sm t u n) : Sm u t n := fun i hi => (h i hi).symm
theorem numN_x {t u : Nat → Int32} {n q : Nat} (h : Sm t u n) : ∀ k, q + k ≤ n → numN t q k = numN u q k
  | 0, _ => rfl
  | k + 1, hk => by unfold numN; rw [numN_x h k (by omega), h (q + k) (by omega)]
theorem tV_x {t u : Nat → Int32} {n q : Nat} (h : Sm t u n) (hq : q < n) : tV t n q = tV u n q := by
  have b := (tE_b (t := u) hq).2
  unfold tV
  rw [tE_x h hq, show fD t q = fD u q by unfold fD; rw [h q hq], numN_x h _ (by have := (tE_b (t := u) hq).1; omega)]
theorem KdR.x {t u : Nat → Int32} {n q : Nat} {c : Int32} (h : Sm t u n) (hq : q < n) (k : KdR t n q c) : KdR u n q c := by
  have b := (tE_b (t := t) hq).2
  have el : fL t q = fL u q := by unfold fL; rw [h q hq]
  have ed : fD t q = fD u q := by unfold fD; rw [h q hq]
  unfold KdR at *
  rw [← tE_x h hq, ← el, ← ed, ← h q hq]
  rcases k with ⟨a, w⟩ | k | k
  · refine Or.inl ⟨a, ?_⟩
    rcases w with ⟨i, i1, i2, i3, i4⟩ | ⟨i1, i2⟩
    · exact Or.inl ⟨i, i1, i2, spl_x h b i3, i4⟩
    · exact Or.inr ⟨i1, fun i h1 h2 s => i2 i h1 h2 (spl_x h.sy b s)⟩
  · exact Or.inr (Or.inl k)
  · exact Or.inr (Or.inr k)
