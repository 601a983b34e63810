/-! reading: runs of signs; the reference's steps -/
def rn (f : Nat → Bool) (n : Nat) : Nat → Nat → Nat
  | 0, p => p
  | k + 1, p => if p < n ∧ f p = true then rn f n k (p + 1) else p
def rE (f : Nat → Bool) (n p : Nat) : Nat := rn f n (n - p) p
def Rn (f : Nat → Bool) (n p e : Nat) : Prop := p ≤ e ∧ e ≤ n ∧ (∀ i, p ≤ i → i < e → f i = true) ∧ (e < n → f e = false)
theorem rn_s {f : Nat → Bool} {n : Nat} : ∀ k p, p + k = n → Rn f n p (rn f n k p)
  | 0, p, h => ⟨Nat.le_refl _, by show p ≤ n; omega, fun i h1 h2 => by have : i < p := h2; omega, fun q => by have : p < n := q; omega⟩
  | k + 1, p, h => by
    unfold rn
    split
    · rename_i q
      obtain ⟨a, b, c, d⟩ := rn_s (f := f) (n := n) k (p + 1) (by omega)
      refine ⟨by omega, b, fun i h1 h2 => ?_, d⟩
      by_cases e : i = p
      · rw [e]; exact q.2
      · exact c i (by omega) h2
    · rename_i q
      refine ⟨Nat.le_refl _, by omega, fun i h1 h2 => by omega, fun z => ?_⟩
      cases e : f p
      · rfl
      · exact absurd ⟨z, e⟩ q
theorem rE_s {f : Nat → Bool} {n p : Nat} (h : p ≤ n) : Rn f n p (rE f n p) := rn_s _ _ (by omega)
theorem Rn.uq {f : Nat → Bool} {n p a b : Nat} (h : Rn f n p a) (g : Rn f n p b) : a = b := by
  obtain ⟨h1, h2, h3, h4⟩ := h
  obtain ⟨g1, g2, g3, g4⟩ := g
  rcases Nat.lt_trichotomy a b with q | q | q
  · have := g3 a h1 q
    rw [h4 (by omega)] at this; cases this
  · exact q
  · have := h3 b g1 q
    rw [g4 (by omega)] at this; cases this
def isL (c : Int32) : Bool := decide (¬ c < 97) && decide (¬ 122 < c)
def isD (c : Int32) : Bool := decide (¬ c < 48) && decide (¬ 57 < c)
def isB (c : Int32) : Bool := decide (c = 32)
def fL (t : Nat → Int32) (i : Nat) : Bool := isL (t i)
def fD (t : Nat → Int32) (i : Nat) : Bool := isD (t i)
def fB (t : Nat → Int32) (i : Nat) : Bool := isB (t i)
/-- blanks are passed -/
def sk (t : Nat → Int32) (n p : Nat) : Nat := rE (fB t) n p
theorem msi_id {ms : MSt} {k : Nat} {v : Int32} (h : ms.1 k = v) : msi ms k v = ms := by
  show (upd ms.1 k v, ms.2) = ms
  have : upd ms.1 k v = ms.1 := by
    funext i
    by_cases e : i = k
    · rw [e, pk_us, h]
    · rw [pk_un e]
  rw [this]
theorem msi_msi (ms : MSt) (k : Nat) (a b : Int32) : msi (msi ms k a) k b = msi ms k b := by
  show (upd (upd ms.1 k a) k b, ms.2) = (upd ms.1 k b, ms.2)
  have : upd (upd ms.1 k a) k b = upd ms.1 k b := by
    funext i
    by_cases e : i = k
    · rw [e, pk_us, pk_us]
    · rw [pk_un e, pk_un e, pk_un e]
  rw [this]
/-- the reference at place p of a text of n signs -/
def At (ms : MSt) (n p : Nat) : Prop := ms.1 1 = nI n ∧ n ≤ 400 ∧ ms.1 14 = nI p ∧ p ≤ n
theorem At.to {ms : MSt} {n p q : Nat} (h : At ms n p) (hq : q ≤ n) : At (msi ms 14 (nI q)) n q := ⟨by rw [msi_n (by omega)]; exact h.1, h.2.1, by rw [msi_s], hq⟩
theorem m_see {ms : MSt} {n p : Nat} (h : At ms n p) : fm_see ms = some (msi ms 14 (nI (sk (ms.2.1 0) n p)), if sk (ms.2.1 0) n p = n then -1 else ms.2.1 0 (sk (ms.2.1 0) n p) &&& 255) := by
  obtain ⟨h1, hn, h14, hp⟩ := id h
  obtain ⟨r1, r2, r3, r4⟩ := rE_s (f := fB (ms.2.1 0)) hp
  obtain ⟨y, e, y2⟩ : ∃ y : MSt, iter (fun x : MSt => fm_see_s0 x) mFuel ms = some (.inr y) ∧ y = msi ms 14 (nI (sk (ms.2.1 0) n p)) := by
    refine iter_w (ο := MSt × Int32) (fun k (x : MSt) => p + k ≤ sk (ms.2.1 0) n p ∧ x = msi ms 14 (nI (p + k))) (sk (ms.2.1 0) n p - p) _ ?_ ⟨r1, (msi_id h14).symm⟩ (by have : sk (ms.2.1 0) n p ≤ n := r2; omega)
    rintro k x hk ⟨q1, q2⟩
    subst q2
    have e1 : (msi ms 14 (nI (p + k))).1 1 = nI n := by rw [msi_n (by omega)]; exact h1
    have e14 : (msi ms 14 (nI (p + k))).1 14 = nI (p + k) := by rw [msi_s]
    have hle : sk (ms.2.1 0) n p ≤ n := r2
    rcases Nat.lt_or_ge (p + k) (sk (ms.2.1 0) n p) with hlt | hge
    · left
      refine ⟨msi ms 14 (nI (p + (k + 1))), ?_, ⟨by omega, rfl⟩, by omega⟩
      have b : (msi ms 14 (nI (p + k))).2.1 0 (p + k) = 32 := by
        have := r3 (p + k) (by omega) hlt
        unfold fB isB at this
        exact of_decide_eq_true this
      show fm_see_s0 (msi ms 14 (nI (p + k))) = _
      unfold fm_see_s0
      rw [e1, e14, if_neg (nI_ge (by omega) (by omega)), chk_t (inb_n (by omega) (by omega)), nI_clamp (by omega), if_pos b, nI_1, msi_msi]
      rfl
    · right
      have ek : p + k = sk (ms.2.1 0) n p := by omega
      refine ⟨msi ms 14 (nI (p + k)), ?_, by rw [ek]⟩
      show fm_see_s0 (msi ms 14 (nI (p + k))) = _
      unfold fm_see_s0
      rw [e1, e14]
      rcases Nat.lt_or_ge (p + k) n with c | c
      · have b : ¬ (msi ms 14 (nI (p + k))).2.1 0 (p + k) = 32 := by
          have := r4 (show rE (fB (ms.2.1 0)) n p < n by have : rE (fB (ms.2.1 0)) n p = p + k := ek.symm; omega)
          rw [show rE (fB (ms.2.1 0)) n p = p + k from ek.symm] at this
          unfold fB isB at this
          exact of_decide_eq_false this
        rw [if_neg (nI_ge c (by omega)), chk_t (inb_n (by omega) (by omega)), nI_clamp (by omega), if_neg b]
      · rw [if_pos (nI_le c (by omega))]
  unfold fm_see
  rw [e, y2]
  show fm_see_j38 (msi ms 14 (nI (sk (ms.2.1 0) n p))) = _
  have hle : sk (ms.2.1 0) n p ≤ n := r2
  unfold fm_see_j38
  rw [show (msi ms 14 (nI (sk (ms.2.1 0) n p))).1 1 = nI n by rw [msi_n (by omega)]; exact h1, msi_s]
  by_cases c : sk (ms.2.1 0) n p = n
  · rw [if_pos c, if_pos (by rw [c]; exact nI_le (Nat.le_refl _) (by omega))]
  · rw [if_neg c, if_neg (nI_ge (by omega) (by omega)), chk_t (inb_n (by omega) (by omega)), nI_clamp (by omega)]
    rfl
theorem m_isDigit {ms : MSt} {n i : Nat} (h1 : ms.1 1 = nI n) (hn : n ≤ 400) (hi : i < 2 ^ 31) : fm_isDigit (nI i) ms = some (ms, if i < n ∧ fD (ms.2.1 0) i = true then 1 else 0) := by
  unfold fm_isDigit
  rw [h1]
  rcases Nat.lt_or_ge i n with c | c
  · rw [if_neg (nI_ge c (by omega)), chk_t (inb_n (by omega) (by omega)), nI_clamp (by omega)]
    unfold fD isD
    by_cases a : ms.2.1 0 i < 48
    · rw [if_pos a, if_neg (by rw [decide_eq_false (fun z => z a)]; rintro ⟨-, z⟩; cases z)]
    · rw [if_neg a, chk_t (inb_n (by omega) (by omega))]
      by_cases b : 57 < ms.2.1 0 i
      · rw [if_pos b, if_neg (by rw [decide_eq_false (p := ¬ 57 < ms.2.1 0 i) (fun z => z b), Bool.and_false]; rintro ⟨-, z⟩; cases z)]
      · rw [if_neg b, if_pos ⟨c, by rw [decide_eq_true a, decide_eq_true b]; rfl⟩]
  · rw [if_pos (nI_le c (by omega)), if_neg (by omega)]
theorem m_isLetter {ms : MSt} {n i : Nat} (h1 : ms.1 1 = nI n) (hn : n ≤ 400) (hi : i < 2 ^ 31) : fm_isLetter (nI i) ms = some (ms, if i < n ∧ fL (ms.2.1 0) i = true then 1 else 0) := by
  unfold fm_isLetter
  rw [h1]
  rcases Nat.lt_or_ge i n with c | c
  · rw [if_neg (nI_ge c (by omega)), chk_t (inb_n (by omega) (by omega)), nI_clamp (by omega)]
    unfold fL isL
    by_cases a : ms.2.1 0 i < 97
    · rw [if_pos a, if_neg (by rw [decide_eq_false (fun z => z a)]; rintro ⟨-, z⟩; cases z)]
    · rw [if_neg a, chk_t (inb_n (by omega) (by omega))]
      by_cases b : 122 < ms.2.1 0 i
      · rw [if_pos b, if_neg (by rw [decide_eq_false (p := ¬ 122 < ms.2.1 0 i) (fun z => z b), Bool.and_false]; rintro ⟨-, z⟩; cases z)]
      · rw [if_neg b, if_pos ⟨c, by rw [decide_eq_true a, decide_eq_true b]; rfl⟩]
  · rw [if_pos (nI_le c (by omega)), if_neg (by omega)]
