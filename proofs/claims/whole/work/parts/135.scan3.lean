/-! reading: the class's signs -/
def ps (t : Nat → Int32) (n : Nat) : Nat → Nat
  | 0 => sk t n 0
  | i + 1 => if ps t n i < n then sk t n (tE t n (ps t n i)) else n
theorem sk_b {t : Nat → Int32} {n c : Nat} (hc : c < n) (h : t c = 32) : sk t n c = sk t n (c + 1) := (rE_1 (f := fB t) hc (by unfold fB isB; exact decide_eq_true h)).symm
theorem sk_s {t : Nat → Int32} {n c : Nat} (hc : c < n) (h : ¬ t c = 32) : sk t n c = c := Rn.uq (rE_s (f := fB t) (n := n) (by omega)) ⟨Nat.le_refl _, by omega, fun i h1 h2 => by omega, fun _ => by unfold fB isB; exact decide_eq_false h⟩
theorem sk_n {t : Nat → Int32} {n : Nat} : sk t n n = n := by
  obtain ⟨a, b, -⟩ := rE_s (f := fB t) (n := n) (p := n) (Nat.le_refl _)
  show rE (fB t) n n = n
  omega
theorem tE_b32 {t : Nat → Int32} {n c : Nat} (h : t c = 32) : tE t n c = c + 1 := by
  unfold tE fL fD
  rw [h, if_neg (show ¬ isL 32 = true by decide), if_neg (show ¬ isD 32 = true by decide), if_neg (fun z => by rcases z.1 with z | z <;> exact absurd z (by decide))]
def TkX (H b : Nat) : Prop := b = H ∨ b = H + 1 ∨ b = H + 2 ∨ b = H + 3
def TkH (st : HSt) (H : Nat) : Prop := gK st H = 11 ∧ (gR st 1000 H = some (H + 1) ∧ gK st (H + 1) = 22 ∧ gL st (H + 1) = 401) ∧ (gR st 1001 H = some (H + 2) ∧ gK st (H + 2) = 22 ∧ gL st (H + 2) = 401) ∧ (gR st 1002 H = some (H + 3) ∧ gK st (H + 3) = 22 ∧ gL st (H + 3) = 401)
theorem TkH.fr {X : Nat → Prop} {a b : HSt} {H : Nat} (h : TkH a H) (F : Fr X a b) : TkH b H := by
  obtain ⟨h0, ⟨a1, a2, a3⟩, ⟨b1, b2, b3⟩, ⟨c1, c2, c3⟩⟩ := h
  exact ⟨(F.K _).trans h0, ⟨(F.R (f := 1000) _ rfl).trans a1, (F.K _).trans a2, (F.L _).trans a3⟩, ⟨(F.R (f := 1001) _ rfl).trans b1, (F.K _).trans b2, (F.L _).trans b3⟩, ⟨(F.R (f := 1002) _ rfl).trans c1, (F.K _).trans c2, (F.L _).trans c3⟩⟩
theorem h_put {st : HSt} {H m : Nat} {a b c : Int32} (h : TkH st H) (hm : gI st 1003 H = nI m) (hm2 : m < 401) : fh_X10_put H a b c st = some (sI (sA (sA (sA st (H + 1) m a) (H + 2) m b) (H + 3) m c) 1003 H (nI (m + 1))) := by
  obtain ⟨h0, ⟨a1, a2, a3⟩, ⟨b1, b2, b3⟩, ⟨c1, c2, c3⟩⟩ := h
  have hi : inb (nI m) 401 = true := inb_n hm2 (by omega)
  unfold fh_X10_put
  rw [chk_t (isk_t h0), a1, dr_of a2, bs_, a3, hm, if_neg (nI_ge hm2 (by omega)), chk_t hi, nI_clamp (by omega)]
  show ((dr st (gR st 1001 H) 22).bind fun b8 => chk (inb (gI st 1003 H) (gL st b8)) ((some (sA (sA st (H + 1) m a) b8 (gI st 1003 H).toNatClampNeg b)).bind fun x13 => (dr x13 (gR x13 1002 H) 22).bind fun b17 => chk (inb (gI x13 1003 H) (gL x13 b17)) ((some (sI (sA x13 b17 (gI x13 1003 H).toNatClampNeg c) 1003 H ((gI (sA x13 b17 (gI x13 1003 H).toNatClampNeg c) 1003 H) + (1 : Int32)))).bind fun x22 => some x22))) = _
  rw [b1, dr_of b2, bs_, b3, hm, chk_t hi, nI_clamp (by omega), bs_]
  show ((dr st (gR st 1002 H) 22).bind fun b17 => chk (inb (gI st 1003 H) (gL st b17)) ((some (sI (sA (sA (sA st (H + 1) m a) (H + 2) m b) b17 (gI st 1003 H).toNatClampNeg c) 1003 H (gI st 1003 H + (1 : Int32)))).bind fun x22 => some x22)) = _
  rw [c1, dr_of c2, bs_, c3, hm, chk_t hi, nI_clamp (by omega), bs_, nI_1]
/-- the first m signs stand in the rows -/
def TkS (st : HSt) (H : Nat) (t : Nat → Int32) (n m : Nat) : Prop := gI st 1003 H = nI m ∧ gI st 1004 H = 0 ∧ gI st 1005 H = 0 ∧ ∀ j, j < m → ps t n j < n ∧ KdR t n (ps t n j) (gA st (H + 1) j) ∧ gA st (H + 2) j = nI (ps t n j) ∧ gA st (H + 3) j = tV t n (ps t n j)
theorem put_gI {st : HSt} {H m : Nat} {a b c : Int32} : gI (sI (sA (sA (sA st (H + 1) m a) (H + 2) m b) (H + 3) m c) 1003 H (nI (m + 1))) 1003 H = nI (m + 1) := gI_sI _ _ _ _
theorem put_gI' {st : HSt} {H m f : Nat} {a b c : Int32} (hf : f ≠ 1003) : gI (sI (sA (sA (sA st (H + 1) m a) (H + 2) m b) (H + 3) m c) 1003 H (nI (m + 1))) f H = gI st f H := by rw [gI_sI_ne (Or.inl hf)]; rfl
theorem put_gA {st : HSt} {H m : Nat} {a b c : Int32} : gA (sI (sA (sA (sA st (H + 1) m a) (H + 2) m b) (H + 3) m c) 1003 H (nI (m + 1))) (H + 1) = upd (gA st (H + 1)) m a ∧ gA (sI (sA (sA (sA st (H + 1) m a) (H + 2) m b) (H + 3) m c) 1003 H (nI (m + 1))) (H + 2) = upd (gA st (H + 2)) m b ∧ gA (sI (sA (sA (sA st (H + 1) m a) (H + 2) m b) (H + 3) m c) 1003 H (nI (m + 1))) (H + 3) = upd (gA st (H + 3)) m c := by
  refine ⟨?_, ?_, ?_⟩
  · rw [gA_sI, gA_sA_ne (by omega), gA_sA_ne (by omega), gA_sA]
  · rw [gA_sI, gA_sA_ne (by omega), gA_sA, gA_sA_ne (by omega)]
  · rw [gA_sI, gA_sA, gA_sA_ne (by omega), gA_sA_ne (by omega)]
theorem put_fr {st : HSt} {H m : Nat} {a b c : Int32} : Fr (TkX H) st (sI (sA (sA (sA st (H + 1) m a) (H + 2) m b) (H + 3) m c) 1003 H (nI (m + 1))) := (((Fr.sA (X := TkX H) (Or.inr (Or.inl rfl))).tr (Fr.sA (X := TkX H) (Or.inr (Or.inr (Or.inl rfl))))).tr (Fr.sA (X := TkX H) (Or.inr (Or.inr (Or.inr rfl))))).tr (Fr.sI (X := TkX H) (Or.inl rfl))
theorem h_scan {st : HSt} {H T n : Nat} (h : TkH st H) (k : gK st T = 21) (l : gL st T = 400) (hn : n ≤ 400) (hT : ¬ TkX H T) : ∃ st2 M, fh_X10_scan H (some T) (nI n) st = some st2 ∧ Fr (TkX H) st st2 ∧ M ≤ 400 ∧ ps (gA st T) n M = n ∧ gI st2 1003 H = nI (M + 1) ∧ gI st2 1004 H = 0 ∧ gI st2 1005 H = 0 ∧ gA st2 (H + 1) M = 0 ∧ gA st2 (H + 2) M = nI n ∧ ∀ j, j < M → ps (gA st T) n j < n ∧ KdR (gA st T) n (ps (gA st T) n j) (gA st2 (H + 1) j) ∧ gA st2 (H + 2) j = nI (ps (gA st T) n j) ∧ gA st2 (H + 3) j = tV (gA st T) n (ps (gA st T) n j) := by
  let t := gA st T
  let s1 := sI (sI (sI st 1003 H 0) 1004 H 0) 1005 H 0
  have F1 : Fr (TkX H) st s1 := ((Fr.sI (X := TkX H) (Or.inl rfl)).tr (Fr.sI (X := TkX H) (Or.inl rfl))).tr (Fr.sI (X := TkX H) (Or.inl rfl))
  have k1 : gK s1 T = 21 := (F1.K T).trans k
  have l1 : gL s1 T = 400 := (F1.L T).trans l
  have en : (if nI (gL s1 T) < nI n then nI (gL s1 T) else nI n) = nI n := by
    rw [l1]
    by_cases c : n = 400
    · rw [c, if_neg (nI_nlt (Nat.le_refl _) (by omega))]
    · rw [if_neg (nI_nlt (by omega) (by omega))]
  have loop := iter_inv (s1 := fun x : (Int32 × HSt) => fh_X10_scan_s25 H (some T) (nI n) x.1 x.2) (fun x : Int32 × HSt => ∃ c m, c ≤ n ∧ m ≤ c ∧ x.1 = nI c ∧ Fr (TkX H) st x.2 ∧ TkS x.2 H t n m ∧ sk t n c = ps t n m) (fun x => n - x.1.toNatClampNeg) (fun _ : HSt => False) (fun y : Int32 × HSt => ∃ m, m ≤ n ∧ Fr (TkX H) st y.2 ∧ TkS y.2 H t n m ∧ ps t n m = n) ?_ 1000000 ((0 : Int32), s1) ⟨0, 0, by omega, by omega, rfl, F1, ⟨?_, ?_, gI_sI _ _ _ _, fun j hj => absurd hj (Nat.not_lt_zero _)⟩, rfl⟩ (by omega)
  · rcases loop with ⟨o, e, f⟩ | ⟨y, e, m, hm, Fy, ⟨q1, q2, q3, q4⟩, pm⟩
    · exact f.elim
    · have hy := h.fr Fy
      refine ⟨_, m, ?_, Fy.tr (put_fr (m := m) (a := 0) (b := nI n) (c := 0)), by omega, pm, put_gI, (put_gI' (by omega)).trans q2, (put_gI' (by omega)).trans q3, by rw [put_gA.1, pk_us], by rw [put_gA.2.1, pk_us], fun j hj => ?_⟩
      · unfold fh_X10_scan
        rw [chk_t (isk_t h.1), bs_]
        show ((dr s1 (some T) 21).bind fun b4 => (iter (fun x : (Int32 × HSt) => fh_X10_scan_s25 H (some T) (if (nI (gL s1 b4)) < nI n then (nI (gL s1 b4)) else nI n) x.1 x.2) mFuel ((0 : Int32), s1)).bind (Sum.elim (fun o : HSt => (some o : Option (HSt))) (fun x : (Int32 × HSt) => fh_X10_scan_j85 H (if (nI (gL s1 b4)) < nI n then (nI (gL s1 b4)) else nI n) x.2))) = _
        rw [dr_of k1, bs_, en, mFuel_eq, e]
        show fh_X10_scan_j85 H (nI n) y.2 = _
        unfold fh_X10_scan_j85
        rw [chk_t (isk_t hy.1), h_put hy q1 (by omega), bs_]
      · rw [put_gA.1, put_gA.2.1, put_gA.2.2, pk_un (by omega), pk_un (by omega), pk_un (by omega)]; exact q4 j hj
  · rintro ⟨x1, x⟩ ⟨c, m, hc, hmc, e1, Fx, ⟨q1, q2, q3, q4⟩, hs⟩
    simp only at e1 Fx q1 q2 q3 q4
    subst e1
    have kx : gK x T = 21 := (Fx.K T).trans k
    have lx : gL x T = 400 := (Fx.L T).trans l
    have tx : gA x T = t := Fx.A hT
    have hx := h.fr Fx
    rcases Nat.lt_or_ge c n with hlt | hge
    · right; left
      obtain ⟨b1, b2⟩ := tE_b (t := t) hlt
      have re : fh_X10_runEnd (some T) (nI c) (nI n) x = some (x, nI (tE t n c)) := by rw [h_runEnd kx lx hn hlt, tx]
      have mx : (if nI (tE t n c) < nI c + 1 then nI c + 1 else nI (tE t n c)) = nI (tE t n c) := by rw [nI_1, if_neg (nI_nlt (by omega) (by omega))]
      by_cases z : t c = 32
      · refine ⟨(nI (tE t n c), x), ?_, ⟨tE t n c, m, b2, by omega, rfl, Fx, ⟨q1, q2, q3, q4⟩, ?_⟩, ?_⟩
        · show fh_X10_scan_s25 H (some T) (nI n) (nI c) x = _
          unfold fh_X10_scan_s25
          rw [if_neg (nI_ge hlt (by omega)), re, bs_]
          dsimp only
          rw [dr_of kx, bs_, lx, chk_t (inb_n (by omega) (by omega)), nI_clamp (by omega), tx, if_pos z, mx]
        · rw [tE_b32 z, ← sk_b hlt z]; exact hs
        · dsimp only; rw [nI_clamp (by omega), nI_clamp (by omega)]; omega
      · have hcm : ps t n m = c := by rw [← hs]; exact sk_s hlt z
        obtain ⟨kc, fk, gk⟩ := h_kindOf kx lx hn hlt
        have fv := h_valueOf kx lx hn hlt
        rw [tx] at fk gk fv
        refine ⟨(nI (tE t n c), sI (sA (sA (sA x (H + 1) m kc) (H + 2) m (nI c)) (H + 3) m (tV t n c)) 1003 H (nI (m + 1))), ?_, ⟨tE t n c, m + 1, b2, by omega, rfl, Fx.tr put_fr, ⟨put_gI, (put_gI' (by omega)).trans q2, (put_gI' (by omega)).trans q3, fun j hj => ?_⟩, ?_⟩, ?_⟩
        · show fh_X10_scan_s25 H (some T) (nI n) (nI c) x = _
          unfold fh_X10_scan_s25
          rw [if_neg (nI_ge hlt (by omega)), re, bs_]
          dsimp only
          rw [dr_of kx, bs_, lx, chk_t (inb_n (by omega) (by omega)), nI_clamp (by omega), tx, if_neg z, mx, fk, bs_]
          dsimp only
          rw [fv, bs_]
          dsimp only
          rw [chk_t (isk_t hx.1), h_put hx q1 (by omega), bs_]
        · dsimp only
          rw [put_gA.1, put_gA.2.1, put_gA.2.2]
          by_cases jm : j = m
          · subst jm
            rw [pk_us, pk_us, pk_us, hcm]; exact ⟨hlt, gk, rfl, rfl⟩
          · rw [pk_un jm, pk_un jm, pk_un jm]; exact q4 j (by omega)
        · show sk t n (tE t n c) = if ps t n m < n then sk t n (tE t n (ps t n m)) else n
          rw [hcm, if_pos hlt]
        · dsimp only; rw [nI_clamp (by omega), nI_clamp (by omega)]; omega
    · right; right
      have : c = n := by omega
      subst this
      refine ⟨(nI c, x), ?_, m, by omega, Fx, ⟨q1, q2, q3, q4⟩, by rw [← hs]; exact sk_n⟩
      show fh_X10_scan_s25 H (some T) (nI c) (nI c) x = _
      unfold fh_X10_scan_s25
      rw [if_pos (nI_le (Nat.le_refl _) (by omega))]
  · show gI (sI (sI (sI st 1003 H 0) 1004 H 0) 1005 H 0) 1003 H = nI 0
    rw [gI_sI_ne (Or.inl (by omega)), gI_sI_ne (Or.inl (by omega)), gI_sI]; rfl
  · show gI (sI (sI (sI st 1003 H 0) 1004 H 0) 1005 H 0) 1004 H = 0
    rw [gI_sI_ne (Or.inl (by omega)), gI_sI]
