/-! how the relation is kept; small helps for the methods -/
def Si (hx b : Nat) : Prop := b = hx + 3 ∨ b = hx + 4 ∨ (hx + 11 ≤ b ∧ b ≤ hx + 15)
theorem blk9 {hx : Nat} {st : HSt} {S : Nat} (w : Wf st) (h : Sh hx st) (k : gK st S = 9) : S = hx + 3 ∨ S + 12 < hx ∨ hx + 110 ≤ S := by
  rcases at9 h k with q | q
  · rcases (by omega : S = hx + 3 ∨ S + 12 < hx ∨ (S ≤ hx + 2 ∧ hx ≤ S) ∨ (S < hx ∧ hx ≤ S + 12)) with z | z | z | z
    · exact Or.inl z
    · exact Or.inr (Or.inl z)
    · have := h.1 (S - hx) (by omega)
      rw [show hx + (S - hx) = S by omega, k] at this
      rcases (by omega : S - hx = 0 ∨ S - hx = 1 ∨ S - hx = 2) with e | e | e <;> rw [e] at this <;> cases this
    · exfalso
      have h12 : gK st hx = 12 := h.k (j := 0) (by omega) rfl
      obtain ⟨k1, k11, k12, -⟩ := w.2.2.2 S k
      obtain ⟨k2, K, -⟩ := w.1 (S + 1) k1
      rcases (by omega : hx = S + 1 ∨ hx = S + 1 + 1 ∨ hx = S + 11 ∨ hx = S + 12 ∨ (S + 3 ≤ hx ∧ hx ≤ S + 10)) with e | e | e | e | e
      · rw [e, k1] at h12; cases h12
      · rw [e, k2] at h12; cases h12
      · rw [e, k11] at h12; cases h12
      · rw [e, k12] at h12; cases h12
      · have := K (hx - (S + 1)) (by omega) (by omega)
        rw [show S + 1 + (hx - (S + 1)) = hx by omega, h12] at this; cases this
  · exact Or.inr (Or.inr q)
theorem kd_5b : ∀ j, j < 110 → j < 12 → kd j = 5 → j = 5 := by decide
theorem blk5 {hx : Nat} {st : HSt} {r : Nat} (w : Wf st) (h : Sh hx st) (k : gK st r = 5) : r = hx + 5 ∨ r + 5 < hx ∨ hx + 110 ≤ r ∨ ∃ i, i < 7 ∧ r = hx + 34 + 10 * i := by
  rcases (by omega : r + 5 < hx ∨ hx + 110 ≤ r ∨ (r < hx ∧ hx ≤ r + 5) ∨ (hx ≤ r ∧ r < hx + 110)) with q | q | q | q
  · exact Or.inr (Or.inl q)
  · exact Or.inr (Or.inr (Or.inl q))
  · exfalso
    have h12 : gK st hx = 12 := h.k (j := 0) (by omega) rfl
    obtain ⟨KR, -⟩ := w.2.1 r k
    have := KR (hx - r) (by omega) (by omega)
    rw [show r + (hx - r) = hx by omega, h12] at this; cases this
  · have := h.1 (r - hx) (by omega)
    rw [show hx + (r - hx) = r by omega, k] at this
    rcases Nat.lt_or_ge (r - hx) 12 with z | z
    · have := kd_5b _ (by omega) z this.symm
      exact Or.inl (by omega)
    · obtain ⟨c1, c2, c3⟩ := kd_5 _ (by omega) z this.symm
      exact Or.inr (Or.inr (Or.inr ⟨(r - hx - 34) / 10, by omega, by omega⟩))
theorem blk7 {hx : Nat} {st : HSt} {q : Nat} (w : Wf st) (h : Sh hx st) (k : gK st q = 7) : q + 4 < hx ∨ hx + 110 ≤ q := by
  rcases (by omega : q + 4 < hx ∨ hx + 110 ≤ q ∨ (q < hx ∧ hx ≤ q + 4) ∨ (hx ≤ q ∧ q < hx + 110)) with z | z | z | z
  · exact Or.inl z
  · exact Or.inr z
  · exfalso
    have h12 : gK st hx = 12 := h.k (j := 0) (by omega) rfl
    obtain ⟨K, -⟩ := w.2.2.1 q k
    have := K (hx - q) (by omega) (by omega)
    rw [show q + (hx - q) = hx by omega, h12] at this; cases this
  · have := h.1 (q - hx) (by omega)
    rw [show hx + (q - hx) = q by omega, k] at this
    exact absurd this.symm (kd_7 _ (by omega))
theorem riv_k {st : HSt} {r j : Nat} (w : Wf st) (k : gK st r = 5) (hj : j < 6) : gK st (r + j) ≠ 23 := by
  obtain ⟨KR, -⟩ := w.2.1 r k
  rcases Nat.eq_zero_or_pos j with z | z
  · subst z; rw [Nat.add_zero, k]; omega
  · rw [KR j z hj]; omega
/-- what may change in any call without new cells -/
def Any (hx : Nat) (st : HSt) (b : Nat) : Prop := b = hx ∨ b = hx + 1 ∨ Si hx b ∨ Sc hx st b
theorem any_riv {hx : Nat} {st : HSt} {r j : Nat} (w : Wf st) (h : Sh hx st) (p : PkR hx st) (k : gK st r = 5) (hj : j < 6) : ¬ Any hx st (r + j) := by
  rintro (e | e | e | e)
  · rcases blk5 w h k with q | q | q | ⟨i, hi, q⟩ <;> omega
  · rcases blk5 w h k with q | q | q | ⟨i, hi, q⟩ <;> omega
  · unfold Si at e
    rcases blk5 w h k with q | q | q | ⟨i, hi, q⟩ <;> omega
  · exact sc_riv h p k (by omega) (riv_k w k hj) e
theorem any_rule {hx : Nat} {st : HSt} {q j : Nat} (w : Wf st) (h : Sh hx st) (p : PkR hx st) (k : gK st q = 7) (hj : j < 5) : ¬ Any hx st (q + j) := by
  rintro (e | e | e | e)
  · rcases blk7 w h k with z | z <;> omega
  · rcases blk7 w h k with z | z <;> omega
  · unfold Si at e
    rcases blk7 w h k with z | z <;> omega
  · exact sc_rule h p k hj (ru_k w k hj) e
theorem any_site {hx : Nat} {st : HSt} {S j : Nat} (w : Wf st) (h : Sh hx st) (p : PkR hx st) (k : gK st S = 9) (hS : S ≠ hx + 3) (hj : j ≤ 12) (hk : gK st (S + j) ≠ 23) : ¬ Any hx st (S + j) := by
  rintro (e | e | e | e)
  · rcases blk9 w h k with z | z | z <;> omega
  · rcases blk9 w h k with z | z | z <;> omega
  · unfold Si at e
    rcases blk9 w h k with z | z | z <;> omega
  · exact sc_site h p k hj hk e
theorem ImR.any {hx : Nat} {st st2 : HSt} {S r D : Nat} {v : Nat → Int32} (I : ImR st S r v) (V : VOk D v) (w : Wf st) (h : Sh hx st) (p : PkR hx st) (hS : S ≠ hx + 3) (F : Fr (Any hx st) st st2) : ImR st2 S r v := by
  have kS := I.2.1.1
  have kr := I.1.2.1.1
  obtain ⟨k1, k8, k9, k10, k11, k12⟩ := site_k w kS
  have s : ∀ j c, j ≤ 12 → gK st (S + j) = c → c ≠ 23 → ¬ Any hx st (S + j) := fun j c hj hc hn => any_site w h p kS hS hj (by rw [hc]; exact hn)
  exact I.fr V F (s 0 9 (by omega) kS (by omega)) (s 1 10 (by omega) k1 (by omega)) (s 8 22 (by omega) k8 (by omega)) (s 9 22 (by omega) k9 (by omega)) (s 10 22 (by omega) k10 (by omega)) (s 11 22 (by omega) k11 (by omega)) (s 12 22 (by omega) k12 (by omega)) (fun j hj => any_riv w h p kr hj)
theorem ImS.any {hx : Nat} {st st2 : HSt} {ms ms2 : MSt} (I : ImS hx st ms) (w : Wf st) (h : Sh hx st) (p : PkR hx st) (F : Fr (Any hx st) st st2) (e40 : ms2.2.1 40 = ms.2.1 40) (e41 : ms2.2.1 41 = ms.2.1 41) : ImS hx st2 ms2 := by
  obtain ⟨i1, i2⟩ := I
  have ev : ∀ k, imV ms2 k = imV ms k := fun k => by funext i; unfold imV; rw [e40]
  refine ⟨fun k hk => ?_, fun j k S hj hk a b => i2 j k S hj hk (by rw [F.Q] at a; exact a) (by rw [F.Q] at b; exact b)⟩
  rw [F.Q, e41, ev]
  rcases i1 k hk with q | ⟨S, r, a, b, c, V, d⟩
  · exact Or.inl q
  · exact Or.inr ⟨S, r, a, b, c.any V w h p d F, V, d⟩
def mXa (k : Nat) : Bool := k == 0 || k == 1 || (decide (22 < k) && decide (k < 40))
/-- any call without new cells -/
theorem Rel.any {hx t : Nat} {st st2 : HSt} {ms ms2 : MSt} {r : Nat} (R : Rel hx st ms) (F : Fr (Any hx st) st st2) (hp : PkR hx st2) (T : TpR hx st2 ms2 t) (h1103 : gI st2 1103 hx = gI st 1103 hx) (G : MF mXa ms ms2) (I : ImR st2 (hx + 3) r (ms2.2.1 26)) (V : VOk 9999 (ms2.2.1 26)) : Rel hx st2 ms2 := by
  obtain ⟨t0, nr, r0, w, hi, h, p, T0, U, I0, V0, J⟩ := R
  refine ⟨t, nr, r, F.Wf w, hi.fr F, h.fr F, hp, T, ?_, I, V, J.any w h p F (G.A 40 rfl) (G.A 41 rfl)⟩
  obtain ⟨r1, r2, r3, r4⟩ := U
  refine ⟨h1103.trans r1, (G.I 2 rfl).trans r2, r3, fun k hk => ?_⟩
  obtain ⟨q, u, N, e, R, O, M⟩ := r4 k hk
  exact ⟨q, u, N, by rw [F.Q]; exact e, R.fr F (fun j hj => any_rule w h p R.1 hj), O, M.fr G rfl rfl rfl⟩
/-- the site alone -/
theorem Rel.site {hx : Nat} {st st2 : HSt} {ms ms2 : MSt} {r : Nat} (R : Rel hx st ms) (F : Fr (fun b => Si hx b ∨ Sc hx st b) st st2) (hp : PkR hx st2) (G : MF mXq ms ms2) (I : ImR st2 (hx + 3) r (ms2.2.1 26)) (V : VOk 9999 (ms2.2.1 26)) : Rel hx st2 ms2 := by
  have R0 := R
  obtain ⟨t0, nr, r0, w, hi, h, p, T, U, I0, V0, J⟩ := R
  have n0 : ¬ (Si hx hx ∨ Sc hx st hx) := by
    rintro (e | e)
    · unfold Si at e; omega
    · exact sc_not p (by rw [show gK st hx = 12 from h.k (j := 0) (by omega) rfl]; omega) (by omega) e
  have n1 : ¬ (Si hx (hx + 1) ∨ Sc hx st (hx + 1)) := by
    rintro (e | e)
    · unfold Si at e; omega
    · exact sc_not p (by rw [h.k (j := 1) (by omega) (show kd 1 = 21 from rfl)]; omega) (by omega) e
  obtain ⟨t1, t2, t3, t4, t5, t6, t7, t8⟩ := T
  refine R0.any (t := t0) (F.mo (fun b e => Or.inr (Or.inr e))) hp ⟨(F.K _).trans t1, (F.R (f := 1100) _ rfl).trans t2, (F.K _).trans t3, (F.L _).trans t4, (F.I 1101 n0).trans t5, (G.I 1 rfl).trans t6, t7, fun i hi => by rw [F.A n1, G.A 0 rfl]; exact t8 i hi⟩ (F.I 1103 n0) (G.mo (fun k hk => ?_)) I V
  unfold mXq at hk; unfold mXa; rw [hk, Bool.or_true]
theorem PkR.fr {X : Nat → Prop} {hx : Nat} {a b : HSt} (p : PkR hx a) (F : Fr X a b) (h : ¬ X (hx + 27)) : PkR hx b := by
  unfold PkR at *
  rw [F.R' 10 h]
  rcases p with p | ⟨P, p1, p2, p3⟩
  · exact Or.inl p
  · exact Or.inr ⟨P, p1, (F.K _).trans p2, (F.L _).trans p3⟩
/-! ways into a call -/
theorem sim0_of {fh : Nat → HSt → Option (HSt × Int32)} {fm : MSt → Option (MSt × Int32)} (h : ∀ hx st ms, Rel hx st ms → ∃ x1 x2, fh hx st = some x1 ∧ fm ms = some x2 ∧ x1.2 = x2.2 ∧ Rel hx x1.1 x2.1) : Sim0 Rel fh fm := fun hx hst mst n R hn => h hx (setN hst n) mst (R.setN hn)
theorem sim1_of {fh : Nat → Int32 → HSt → Option (HSt × Int32)} {fm : Int32 → MSt → Option (MSt × Int32)} (h : ∀ hx st ms a, Rel hx st ms → ∃ x1 x2, fh hx a st = some x1 ∧ fm a ms = some x2 ∧ x1.2 = x2.2 ∧ Rel hx x1.1 x2.1) : Sim1 Rel fh fm := fun hx hst mst n a R hn => h hx (setN hst n) mst a (R.setN hn)
theorem sim2_of {fh : Nat → Int32 → Int32 → HSt → Option (HSt × Int32)} {fm : Int32 → Int32 → MSt → Option (MSt × Int32)} (h : ∀ hx st ms a b, Rel hx st ms → ∃ x1 x2, fh hx a b st = some x1 ∧ fm a b ms = some x2 ∧ x1.2 = x2.2 ∧ Rel hx x1.1 x2.1) : Sim2 Rel fh fm := fun hx hst mst n a b R hn => h hx (setN hst n) mst a b (R.setN hn)
theorem sim3_of {fh : Nat → Int32 → Int32 → Int32 → HSt → Option (HSt × Int32)} {fm : Int32 → Int32 → Int32 → MSt → Option (MSt × Int32)} (h : ∀ hx st ms a b c, Rel hx st ms → ∃ x1 x2, fh hx a b c st = some x1 ∧ fm a b c ms = some x2 ∧ x1.2 = x2.2 ∧ Rel hx x1.1 x2.1) : Sim3 Rel fh fm := fun hx hst mst n a b c R hn => h hx (setN hst n) mst a b c (R.setN hn)
theorem sim4_of {fh : Nat → Int32 → Int32 → Int32 → Int32 → HSt → Option (HSt × Int32)} {fm : Int32 → Int32 → Int32 → Int32 → MSt → Option (MSt × Int32)} (h : ∀ hx st ms a b c d, Rel hx st ms → ∃ x1 x2, fh hx a b c d st = some x1 ∧ fm a b c d ms = some x2 ∧ x1.2 = x2.2 ∧ Rel hx x1.1 x2.1) : Sim4 Rel fh fm := fun hx hst mst n a b c d R hn => h hx (setN hst n) mst a b c d (R.setN hn)
theorem sim5_of {fh : Nat → Int32 → Int32 → Int32 → Int32 → Int32 → HSt → Option (HSt × Int32)} {fm : Int32 → Int32 → Int32 → Int32 → Int32 → MSt → Option (MSt × Int32)} (h : ∀ hx st ms a b c d e, Rel hx st ms → ∃ x1 x2, fh hx a b c d e st = some x1 ∧ fm a b c d e ms = some x2 ∧ x1.2 = x2.2 ∧ Rel hx x1.1 x2.1) : Sim5 Rel fh fm := fun hx hst mst n a b c d e R hn => h hx (setN hst n) mst a b c d e (R.setN hn)
theorem sim6_of {fh : Nat → Int32 → Int32 → Int32 → Int32 → Int32 → Int32 → HSt → Option (HSt × Int32)} {fm : Int32 → Int32 → Int32 → Int32 → Int32 → Int32 → MSt → Option (MSt × Int32)} (h : ∀ hx st ms a b c d e f, Rel hx st ms → ∃ x1 x2, fh hx a b c d e f st = some x1 ∧ fm a b c d e f ms = some x2 ∧ x1.2 = x2.2 ∧ Rel hx x1.1 x2.1) : Sim6 Rel fh fm := fun hx hst mst n a b c d e f R hn => h hx (setN hst n) mst a b c d e f (R.setN hn)
def wI (a : Int32) (L U : Int) : Int32 := if a.toInt < L then 0 else if U < a.toInt then 0 else 1
theorem m_in {a : Int32} {l u : Int64} {L U : Int} (hl : l.toInt = L) (hu : u.toInt = U) : fm_in a.toInt64 l u = some (wI a L U) := by rw [fm_in_eq, hl, hu]; rfl
theorem h_in {a l u : Int32} {st : HSt} {L U : Int} (hl : l.toInt = L) (hu : u.toInt = U) : fh_X11_isWithin a l u st = some (st, wI a L U) := by rw [fh_within, hl, hu]; rfl
theorem wI_c (a : Int32) (L U : Int) : (wI a L U = 0 ∧ ¬ (L ≤ a.toInt ∧ a.toInt ≤ U)) ∨ (wI a L U = 1 ∧ L ≤ a.toInt ∧ a.toInt ≤ U) := by
  unfold wI
  by_cases h1 : a.toInt < L
  · left; rw [if_pos h1]; exact ⟨rfl, by omega⟩
  · rw [if_neg h1]
    by_cases h2 : U < a.toInt
    · left; rw [if_pos h2]; exact ⟨rfl, by omega⟩
    · right; rw [if_neg h2]; exact ⟨rfl, by omega, by omega⟩
theorem n_of {a : Int32} {U : Nat} (h0 : 0 ≤ a.toInt) (hU : a.toInt ≤ U) : ∃ n, n ≤ U ∧ a = nI n := by
  refine ⟨a.toInt.toNat, by omega, i32_of ?_⟩
  have h31 : a.toInt < 2147483648 := Int32.toInt_lt a
  rw [nI_toInt (by omega)]; omega
def sd (a : Int32) : Int32 := if a = 0 then 1 else if a = 1 then 1 else 0
theorem h_side {a : Int32} {st : HSt} : fh_X11_isSide a st = some (st, sd a) := by
  unfold fh_X11_isSide sd
  split
  · rfl
  · split <;> rfl
theorem m_side {a : Int32} : fm_isSide a = some (sd a) := by
  unfold fm_isSide sd
  split
  · rfl
  · split <;> rfl
theorem sd_c (a : Int32) : sd a = 0 ∨ (sd a = 1 ∧ ∃ s, s < 2 ∧ a = nI s) := by
  unfold sd
  by_cases h : a = 0
  · right; rw [if_pos h]; exact ⟨rfl, 0, by omega, h⟩
  · rw [if_neg h]
    by_cases h1 : a = 1
    · right; rw [if_pos h1]; exact ⟨rfl, 1, by omega, h1⟩
    · left; rw [if_neg h1]
section WAYS
variable {hx : Nat} {st : HSt}
theorem st_k (h : Sh hx st) : isk st hx 12 = true := isk_t (h.k (j := 0) (by omega) rfl)
theorem st_site (h : Sh hx st) : dr st (gR st 1104 hx) 9 = some (hx + 3) := by
  rw [h.2.1.2.2.2.2.1]; exact dr_of (h.k (by omega) rfl)
theorem st_span (w : Wf st) {S : Nat} (k : gK st S = 9) : dr st (gR st 800 S) 10 = some (S + 1) := by
  obtain ⟨k1, -, -, r, -⟩ := w.2.2.2 S k
  rw [r]; exact dr_of k1
theorem st_riv {a r : Nat} {v : Nat → Int32} (S : SpR st a r v) : dr st (gR st 900 a) 5 = some r := by
  rw [S.1]; exact dr_of S.2.1.1
theorem h_hasR {r : Nat} {v : Nat → Int32} (w : Wf st) (h : Sh hx st) (S : SpR st (hx + 3 + 1) r v) : fh_X11_hasRiver hx st = some (st, if v 0 ≤ 0 then 0 else 1) := by
  unfold fh_X11_hasRiver
  rw [chk_t (st_k h), st_site h, bs_, st_span w (h.k (by omega) rfl), bs_, st_riv S, bs_, S.2.1.2.1]
  split <;> rfl
end WAYS
