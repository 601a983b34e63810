/-! erred: the recursion of the class -/
def sumN (f : Nat → Nat) : Nat → Nat
  | 0 => 0
  | n + 1 => sumN f n + f n
def P2 (f : Nat → Nat → Nat) (k j : Nat) : Nat := sumN (fun a => sum3 (f a)) k + sumN (f k) j
theorem P2_3 (f : Nat → Nat → Nat) (k : Nat) : P2 f k 3 = P2 f (k + 1) 0 := by
  show sumN (fun a => sum3 (f a)) k + (0 + f k 0 + f k 1 + f k 2) = sumN (fun a => sum3 (f a)) k + (f k 0 + f k 1 + f k 2) + 0
  omega
theorem P2_e (f : Nat → Nat → Nat) : P2 f 3 0 = sum3 fun a => sum3 fun b => f a b := by
  show 0 + sum3 (f 0) + sum3 (f 1) + sum3 (f 2) + 0 = sum3 (f 0) + sum3 (f 1) + sum3 (f 2)
  omega
theorem P2_s (f : Nat → Nat → Nat) (k j : Nat) : P2 f k (j + 1) = P2 f k j + f k j := by
  show sumN (fun a => sum3 (f a)) k + (sumN (f k) j + f k j) = sumN (fun a => sum3 (f a)) k + sumN (f k) j + f k j
  omega
theorem cS_0 {l r : Option Ru} {e : Nat} : ∀ (m : Nat) {v : Nat → Int32} {j : Nat}, 2 * m ≤ j → cS l r e m v j = 0
  | 0, _, _, _ => rfl
  | m + 1, v, j, h => by
    unfold cS sum3
    simp only [if_neg (show ¬ j = 0 by omega), if_neg (show ¬ j = 1 by omega), cS_0 m (show 2 * m ≤ j - 2 by omega)]
/-- what is added to place i by all rows from here -/
def aE (l r : Option Ru) (e m : Nat) (z : Nat → Int32) (g : Nat) (sn : Nat → Nat) (i : Nat) : Nat := if i < 2 * g then (if sn i = 1 then 0 else cR l r e m z) else cS l r e m z (i - 2 * g)
def sn2 (sn : Nat → Nat) (g a b : Nat) (i : Nat) : Nat := if i = 2 * g then a else if i = 2 * g + 1 then b else sn i
theorem aE_sum {l r : Option Ru} {e m : Nat} {z : Nat → Int32} {g : Nat} {sn : Nat → Nat} {i : Nat} : (sum3 fun a => sum3 fun b => aE l r e m (pSt l r e z a b) (g + 1) (sn2 sn g a b) i) = aE l r e (m + 1) z g sn i := by
  by_cases h : i < 2 * g
  · have q : ∀ a b, aE l r e m (pSt l r e z a b) (g + 1) (sn2 sn g a b) i = if sn i = 1 then 0 else cR l r e m (pSt l r e z a b) := fun a b => by
      unfold aE sn2
      rw [if_pos (show i < 2 * (g + 1) by omega), if_neg (show ¬ i = 2 * g by omega), if_neg (show ¬ i = 2 * g + 1 by omega)]
    simp only [q]
    unfold aE
    rw [if_pos h]
    by_cases s : sn i = 1
    · simp only [if_pos s]; rfl
    · simp only [if_neg s]; rfl
  · have R : aE l r e (m + 1) z g sn i = sum3 fun a => sum3 fun b => if i - 2 * g = 0 then (if a = 1 then 0 else cR l r e m (pSt l r e z a b)) else if i - 2 * g = 1 then (if b = 1 then 0 else cR l r e m (pSt l r e z a b)) else cS l r e m (pSt l r e z a b) (i - 2 * g - 2) := by
      unfold aE; rw [if_neg h]; rfl
    rw [R]
    have q : ∀ a b, aE l r e m (pSt l r e z a b) (g + 1) (sn2 sn g a b) i = if i - 2 * g = 0 then (if a = 1 then 0 else cR l r e m (pSt l r e z a b)) else if i - 2 * g = 1 then (if b = 1 then 0 else cR l r e m (pSt l r e z a b)) else cS l r e m (pSt l r e z a b) (i - 2 * g - 2) := fun a b => by
      unfold aE sn2
      by_cases h0 : i = 2 * g
      · rw [if_pos (show i < 2 * (g + 1) by omega), if_pos h0, if_pos (show i - 2 * g = 0 by omega)]
      · by_cases h1 : i = 2 * g + 1
        · rw [if_pos (show i < 2 * (g + 1) by omega), if_neg h0, if_pos h1, if_neg (show ¬ i - 2 * g = 0 by omega), if_pos (show i - 2 * g = 1 by omega)]
        · rw [if_neg (show ¬ i < 2 * (g + 1) by omega), if_neg (show ¬ i - 2 * g = 0 by omega), if_neg (show ¬ i - 2 * g = 1 by omega), show i - 2 * (g + 1) = i - 2 * g - 2 by omega]
    simp only [q]
theorem m1_ : (-1 : Int32) = nI 0 - 1 := by decide
theorem h_deep {hx n e r : Nat} {ql qr : Option Nat} {l u : Option Ru} {v0 : Nat → Int32} (hn : n ≤ 4) (he : e ≤ 9) (hv0 : v0 0 ≠ 0) : ∀ (m g : Nat), g + m = n → ∀ (k D R : Nat) (sn E : Nat → Nat) (z : Nat → Int32) (st : HSt), D + m ≤ 20000 → IqR hx st n e ql qr l u v0 → SpR st (hx + 33 + 10 * g) r z → VOk D z → KpR v0 z → (∀ i, i < 2 * g → sn i < 3 ∧ gA st (hx + 107) i = nI (sn i) - 1) → gI st 200 (hx + 106) = nI R → (∀ i, i < 8 → gA st (hx + 109) i = nI (E i)) → ∃ st2, fh_X2_goDeeper (m + 1 + k) (hx + 106) (nI g) st = some st2 ∧ IqR hx st2 n e ql qr l u v0 ∧ Fr (Wq hx g) st st2 ∧ (∀ i, i < 2 * g → gA st2 (hx + 107) i = gA st (hx + 107) i) ∧ (∀ i, i < 3 * g → gA st2 (hx + 108) i = gA st (hx + 108) i) ∧ gI st2 200 (hx + 106) = nI (R + cR l u e m z) ∧ ∀ i, i < 8 → gA st2 (hx + 109) i = nI (E i + aE l u e m z g sn i) := by
  intro m
  induction m with
  | zero =>
    intro g hg k D R sn E z st hD Q S V K hs hR hE
    obtain ⟨w, h, Ql, Qr, ⟨a1, a2, a3, a4, a5⟩, Rn⟩ := id Q
    have k106 : gK st (hx + 106) = 3 := h.k (by omega) rfl
    have r202 : gR st 202 (hx + 106) = some (hx + 31) := h.2.2.2.2.2.2.2.1
    have ru := h_ruins w (k3 h) (Rn.kp K) (by rw [K 0 (by omega) (by omega) (by omega) (by omega)]; exact hv0) S V
    rw [show 0 + 1 + k = k + 1 by omega]
    show ∃ st2, fh_X2_goDeeperF (fh_X2_goDeeper k) (hx + 106) (nI g) st = some st2 ∧ _
    have head : fh_X2_goDeeperF (fh_X2_goDeeper k) (hx + 106) (nI g) st = (if (if ruB z = true then (1 : Int32) else 0) = 0 then some st else chk (isk st (hx + 106) 3) ((fh_X2_tally (hx + 106) st).bind fun x70 => some x70)) := by
      unfold fh_X2_goDeeperF
      rw [chk_t (isk_t k106), r202, dr_of (h.k (j := 31) (c := 27) (by omega) rfl), bs_, sp_L h, chk_t (inb_n (by omega) (by omega)), a1, if_neg (nI_nlt (by omega) (by omega)), a3, dr_of (k3 h), bs_, nI_clamp (by omega), sp_qi h (by omega), ru, bs_]
    rw [head]
    by_cases q : ruB z = true
    · obtain ⟨s2, e2, Q2, F2, g2, E2⟩ := h_tally Q hn (fun i hi => hs i (by omega)) hR hE
      rw [if_pos q, if_neg (show ¬ (1 : Int32) = 0 by decide), chk_t (isk_t k106), e2, bs_]
      refine ⟨s2, rfl, Q2, F2.mo (fun b hb => by unfold Wq; omega), fun i hi => by rw [F2.A (by omega)], fun i hi => by rw [F2.A (by omega)], ?_, fun i hi => ?_⟩
      · rw [g2]; unfold cR; rw [if_pos q]
      · rw [E2 i hi]
        unfold aE cR cS
        rw [if_pos q]
        by_cases z1 : i < 2 * g
        · rw [if_pos z1]
          by_cases z2 : sn i = 1
          · rw [if_pos z2, if_neg (fun zz => zz.2 z2)]
          · rw [if_neg z2, if_pos ⟨by omega, z2⟩]
        · rw [if_neg z1, if_neg (fun zz => by have := zz.1; omega)]
    · rw [if_neg q, if_pos rfl]
      refine ⟨st, rfl, Q, Fr.rf, fun _ _ => rfl, fun _ _ => rfl, ?_, fun i hi => ?_⟩
      · rw [hR]; unfold cR; rw [if_neg q]; rfl
      · rw [hE i hi]
        unfold aE cR cS
        rw [if_neg q]
        split
        · split <;> rfl
        · rfl
  | succ m ih =>
    intro g hg k D R sn E z st hD Q S V K hs hR hE
    obtain ⟨w, h, Ql, Qr, ⟨a1, a2, a3, a4, a5⟩, Rn⟩ := id Q
    have k106 : gK st (hx + 106) = 3 := h.k (by omega) rfl
    have r202 : gR st 202 (hx + 106) = some (hx + 31) := h.2.2.2.2.2.2.2.1
    let rc := fh_X2_goDeeper (m + 1 + k)
    rw [show m + 1 + 1 + k = (m + 1 + k) + 1 by omega]
    show ∃ st2, fh_X2_goDeeperF rc (hx + 106) (nI g) st = some st2 ∧ _
    have lxq : ∀ b, Lx (hx + 28) b → Wq hx g b := fun b q => by unfold Lx at q; unfold Wq; omega
    have lx106 : ¬ Lx (hx + 28) (hx + 106) := by unfold Lx; omega
    obtain ⟨y1, e1, Q1, F1, L1, B1, s1, R1, E1⟩ : ∃ y : Int32 × HSt, iter (fun x : (Int32 × HSt) => fh_X2_goDeeper_s33 rc (hx + 106) (nI g) (some (hx + 33 + 10 * g)) x.1 x.2) mFuel ((-1 : Int32), st) = some (.inr y) ∧ IqR hx y.2 n e ql qr l u v0 ∧ Fr (Wq hx g) st y.2 ∧ (∀ j, j < 3 → gA y.2 (hx + 108) (3 * g + j) = pPlan z u 1 (sg j e)) ∧ (∀ i, i < 3 * g → gA y.2 (hx + 108) i = gA st (hx + 108) i) ∧ (∀ i, i < 2 * g → gA y.2 (hx + 107) i = gA st (hx + 107) i) ∧ gI y.2 200 (hx + 106) = nI R ∧ (∀ i, i < 8 → gA y.2 (hx + 109) i = nI (E i)) := by
      refine iter_n (fun j (x : Int32 × HSt) => x.1 = nI j - 1 ∧ IqR hx x.2 n e ql qr l u v0 ∧ Fr (Wq hx g) st x.2 ∧ (∀ i, i < j → gA x.2 (hx + 108) (3 * g + i) = pPlan z u 1 (sg i e)) ∧ (∀ i, i < 3 * g → gA x.2 (hx + 108) i = gA st (hx + 108) i) ∧ (∀ i, i < 2 * g → gA x.2 (hx + 107) i = gA st (hx + 107) i) ∧ gI x.2 200 (hx + 106) = nI R ∧ (∀ i, i < 8 → gA x.2 (hx + 109) i = nI (E i))) 3 _ ?_ ?_ ⟨m1_, Q, Fr.rf, fun _ q => absurd q (Nat.not_lt_zero _), fun _ _ => rfl, fun _ _ => rfl, hR, hE⟩ (by omega)
      · rintro j ⟨i, s⟩ hj ⟨hi, Qs, F, Ls, Bs, ss, Rs, Es⟩
        simp only at hi Qs F Ls Bs ss Rs Es
        subst hi
        obtain ⟨w', h', Ql', Qr', ⟨c1, c2, c3, c4, c5⟩, Rn'⟩ := id Qs
        have S' := sp_fr w h (by omega) S V F (fun _ q => q)
        obtain ⟨s2, p2, F2⟩ := h_planOf (s := 1) (x := 1) (e := sg j e) w' h'.lk S' V rfl (by omega) Qr'
        have Q2 : IqR hx s2 n e ql qr l u v0 := Qs.fr (g := g) F2 lxq lx106
        have h2 := Q2.2.1
        have F3 : Fr (fun b => b = hx + 108) s2 (sA s2 (hx + 108) (3 * g + j) (pPlan z u 1 (sg j e))) := Fr.sA rfl
        refine ⟨(nI (j + 1) - 1, sA s2 (hx + 108) (3 * g + j) (pPlan z u 1 (sg j e))), ?_, rfl, Q2.fr (g := g) F3 (fun b q => by unfold Wq; omega) (by omega), (F.tr (F2.mo lxq)).tr (F3.mo (fun b q => by unfold Wq; omega)), fun i hi => ?_, fun i hi => ?_, fun i hi => ?_, ?_, fun i hi => ?_⟩
        · show fh_X2_goDeeper_s33 rc (hx + 106) (nI g) (some (hx + 33 + 10 * g)) (nI j - 1) s = _
          obtain ⟨r201, -, r203, l107, r204, l108, r205, l109⟩ := h'.2.2.2.2.2.2
          unfold fh_X2_goDeeper_s33
          rw [if_neg (sg1 hj), chk_t (isk_t (h'.k (j := 106) (c := 3) (by omega) rfl)), r201, dr_of h'.lk.1, bs_, c5, c2]
          show ((fh_X3_planOf (hx + 28) (some (hx + 33 + 10 * g)) qr 1 (sg j e) s).bind _) = _
          rw [p2, bs_]
          dsimp only
          rw [r204, dr_of (h2.k (j := 108) (c := 22) (by omega) rfl), bs_, (F2.L _).trans l108, sg3, chk_t (inb_n (by omega) (by omega)), nI_clamp (by omega), bs_, sg2]
        · show gA (sA s2 (hx + 108) (3 * g + j) _) (hx + 108) (3 * g + i) = _
          rw [gA_sA]
          by_cases ij : i = j
          · rw [ij, pk_us]
          · rw [pk_un (by omega), F2.A (by unfold Lx; omega)]; exact Ls i (by omega)
        · show gA (sA s2 (hx + 108) (3 * g + j) _) (hx + 108) i = _
          rw [gA_sA, pk_un (by omega), F2.A (by unfold Lx; omega)]; exact Bs i hi
        · show gA (sA s2 (hx + 108) (3 * g + j) _) (hx + 107) i = _
          rw [gA_sA_ne (by omega), F2.A (by unfold Lx; omega)]; exact ss i hi
        · show gI s2 200 (hx + 106) = _
          rw [F2.I 200 lx106]; exact Rs
        · show gA (sA s2 (hx + 108) (3 * g + j) _) (hx + 109) i = _
          rw [gA_sA_ne (by omega), F2.A (by unfold Lx; omega)]; exact Es i hi
      · rintro ⟨i, s⟩ ⟨hi, Qs, F, Ls, Bs, ss, Rs, Es⟩
        simp only at hi Qs F Ls Bs ss Rs Es
        subst hi
        refine ⟨(nI 3 - 1, s), ?_, Qs, F, Ls, Bs, ss, Rs, Es⟩
        show fh_X2_goDeeper_s33 rc (hx + 106) (nI g) (some (hx + 33 + 10 * g)) (nI 3 - 1) s = _
        unfold fh_X2_goDeeper_s33
        rw [if_pos (by decide)]
    have FA : ∀ a b, P2 (fun a b => cR l u e m (pSt l u e z a b)) a b = P2 (fun a b => cR l u e m (pSt l u e z a b)) a b := fun _ _ => rfl
    obtain ⟨y2, e2, Q2, F2, s2, B2, R2, E2⟩ : ∃ y : Int32 × HSt, iter (fun x : (Int32 × HSt) => fh_X2_goDeeper_s77 rc (hx + 106) (nI g) (some (hx + 33 + 10 * g)) x.1 x.2) mFuel ((-1 : Int32), y1.2) = some (.inr y) ∧ IqR hx y.2 n e ql qr l u v0 ∧ Fr (Wq hx g) st y.2 ∧ (∀ i, i < 2 * g → gA y.2 (hx + 107) i = gA st (hx + 107) i) ∧ (∀ i, i < 3 * g → gA y.2 (hx + 108) i = gA st (hx + 108) i) ∧ gI y.2 200 (hx + 106) = nI (R + P2 (fun a b => cR l u e m (pSt l u e z a b)) 3 0) ∧ (∀ i, i < 8 → gA y.2 (hx + 109) i = nI (E i + P2 (fun a b => aE l u e m (pSt l u e z a b) (g + 1) (sn2 sn g a b) i) 3 0)) := by
      refine iter_n (fun a (x : Int32 × HSt) => x.1 = nI a - 1 ∧ IqR hx x.2 n e ql qr l u v0 ∧ Fr (Wq hx g) st x.2 ∧ (∀ j, j < 3 → gA x.2 (hx + 108) (3 * g + j) = pPlan z u 1 (sg j e)) ∧ (∀ i, i < 2 * g → gA x.2 (hx + 107) i = gA st (hx + 107) i) ∧ (∀ i, i < 3 * g → gA x.2 (hx + 108) i = gA st (hx + 108) i) ∧ gI x.2 200 (hx + 106) = nI (R + P2 (fun a b => cR l u e m (pSt l u e z a b)) a 0) ∧ (∀ i, i < 8 → gA x.2 (hx + 109) i = nI (E i + P2 (fun a b => aE l u e m (pSt l u e z a b) (g + 1) (sn2 sn g a b) i) a 0))) 3 _ ?_ ?_ ⟨m1_, Q1, F1, L1, s1, B1, R1, E1⟩ (by omega)
      · rintro a ⟨i, s⟩ ha ⟨hi, Qs, F, Ls, ss, Bs, Rs, Es⟩
        simp only at hi Qs F Ls Bs ss Rs Es
        subst hi
        obtain ⟨w', h', Ql', Qr', ⟨c1, c2, c3, c4, c5⟩, Rn'⟩ := id Qs
        have S' := sp_fr w h (by omega) S V F (fun _ q => q)
        obtain ⟨t0, p0, G0⟩ := h_planOf (s := 0) (x := 0) (e := sg a e) w' h'.lk S' V rfl (by omega) Ql'
        have QT : IqR hx t0 n e ql qr l u v0 := Qs.fr (g := g) G0 lxq lx106
        obtain ⟨y3, e3, Q3, F3, L3, s3, B3, R3, E3⟩ : ∃ y : Int32 × HSt, iter (fun x : (Int32 × HSt) => fh_X2_goDeeper_s106 rc (hx + 106) (nI g) (some (hx + 33 + 10 * g)) (nI a - 1) (pPlan z l 0 (sg a e)) x.1 x.2) mFuel ((-1 : Int32), t0) = some (.inr y) ∧ IqR hx y.2 n e ql qr l u v0 ∧ Fr (Wq hx g) st y.2 ∧ (∀ j, j < 3 → gA y.2 (hx + 108) (3 * g + j) = pPlan z u 1 (sg j e)) ∧ (∀ i, i < 2 * g → gA y.2 (hx + 107) i = gA st (hx + 107) i) ∧ (∀ i, i < 3 * g → gA y.2 (hx + 108) i = gA st (hx + 108) i) ∧ gI y.2 200 (hx + 106) = nI (R + P2 (fun a b => cR l u e m (pSt l u e z a b)) a 3) ∧ (∀ i, i < 8 → gA y.2 (hx + 109) i = nI (E i + P2 (fun a b => aE l u e m (pSt l u e z a b) (g + 1) (sn2 sn g a b) i) a 3)) := by
          refine iter_n (fun b (x : Int32 × HSt) => x.1 = nI b - 1 ∧ IqR hx x.2 n e ql qr l u v0 ∧ Fr (Wq hx g) st x.2 ∧ (∀ j, j < 3 → gA x.2 (hx + 108) (3 * g + j) = pPlan z u 1 (sg j e)) ∧ (∀ i, i < 2 * g → gA x.2 (hx + 107) i = gA st (hx + 107) i) ∧ (∀ i, i < 3 * g → gA x.2 (hx + 108) i = gA st (hx + 108) i) ∧ gI x.2 200 (hx + 106) = nI (R + P2 (fun a b => cR l u e m (pSt l u e z a b)) a b) ∧ (∀ i, i < 8 → gA x.2 (hx + 109) i = nI (E i + P2 (fun a b => aE l u e m (pSt l u e z a b) (g + 1) (sn2 sn g a b) i) a b))) 3 _ ?_ ?_ ⟨m1_, QT, F.tr (G0.mo lxq), fun j hj => by rw [G0.A (by unfold Lx; omega)]; exact Ls j hj, fun i hi => by rw [G0.A (by unfold Lx; omega)]; exact ss i hi, fun i hi => by rw [G0.A (by unfold Lx; omega)]; exact Bs i hi, by rw [G0.I 200 lx106]; exact Rs, fun i hi => by rw [G0.A (by unfold Lx; omega)]; exact Es i hi⟩ (by omega)
          · rintro b ⟨i, t⟩ hb ⟨hi, Qt, Ft, Lt, st', Bt, Rt, Et⟩
            simp only at hi Qt Ft Lt st' Bt Rt Et
            subst hi
            obtain ⟨w1, h1, -, -, ⟨d1, d2, d3, d4, d5⟩, -⟩ := id Qt
            obtain ⟨r201, r202', r203, l107, r204, l108, r205, l109⟩ := h1.2.2.2.2.2.2
            have e2g : (2 : Int32) * nI g = nI (2 * g) := by show nI 2 * nI g = _; rw [pk_mul]
            let t1 := sA (sA t (hx + 107) (2 * g) (nI a - 1)) (hx + 107) (2 * g + 1) (nI b - 1)
            have G1 : Fr (fun b => b = hx + 107) t t1 := Fr.tr (b := sA t (hx + 107) (2 * g) (nI a - 1)) (Fr.sA rfl) (Fr.sA rfl)
            have Qt1 : IqR hx t1 n e ql qr l u v0 := Qt.fr (g := g) G1 (fun b q => by unfold Wq; omega) (by omega)
            have Ft1 : Fr (Wq hx g) st t1 := Ft.tr (G1.mo (fun b q => by unfold Wq; omega))
            have St1 := sp_fr w h (by omega) S V Ft1 (fun _ q => q)
            have pl : gA t1 (hx + 108) (3 * g + b) = pPlan z u 1 (sg b e) := by rw [G1.A (by omega)]; exact Lt b hb
            obtain ⟨t2, q2, S2, G2⟩ := h_goDayI (a := a) (b := b) (e := e) (l := l) (u := u) Qt1.1 Qt1.2.1 (by omega) St1 V
            have sxq : ∀ b, Sx (hx + 33 + 10 * (g + 1)) b → Wq hx g b := fun b q => Or.inl ⟨g + 1, by omega, by omega, q⟩
            have sx6 : ∀ j, 103 ≤ j → ¬ Sx (hx + 33 + 10 * (g + 1)) (hx + j) := fun j hj q => by unfold Sx at q; omega
            have Qt2 : IqR hx t2 n e ql qr l u v0 := Qt1.fr (g := g) G2 sxq (sx6 106 (by omega))
            have sgn : ∀ i, i < 2 * (g + 1) → sn2 sn g a b i < 3 ∧ gA t2 (hx + 107) i = nI (sn2 sn g a b i) - 1 := fun i hi => by
              rw [G2.A (sx6 107 (by omega))]
              show sn2 sn g a b i < 3 ∧ gA (sA (sA t (hx + 107) (2 * g) (nI a - 1)) (hx + 107) (2 * g + 1) (nI b - 1)) (hx + 107) i = _
              rw [gA_sA, gA_sA]
              unfold sn2
              by_cases h0 : i = 2 * g
              · rw [if_pos h0, h0, pk_un (by omega), pk_us]; exact ⟨ha, rfl⟩
              · rw [if_neg h0]
                by_cases h1 : i = 2 * g + 1
                · rw [if_pos h1, h1, pk_us]; exact ⟨hb, rfl⟩
                · rw [if_neg h1, pk_un h1, pk_un h0, st' i (by omega)]; exact hs i (by omega)
            have Rt2 : gI t2 200 (hx + 106) = nI (R + P2 (fun a b => cR l u e m (pSt l u e z a b)) a b) := by rw [G2.I 200 (sx6 106 (by omega)), G1.I 200 (by omega)]; exact Rt
            have Et2 : ∀ i, i < 8 → gA t2 (hx + 109) i = nI (E i + P2 (fun a b => aE l u e m (pSt l u e z a b) (g + 1) (sn2 sn g a b) i) a b) := fun i hi => by rw [G2.A (sx6 109 (by omega)), G1.A (by omega)]; exact Et i hi
            obtain ⟨t3, q3, Q3, G3, n3, b3, R3, E3⟩ := ih (g + 1) (by omega) k (D + 1) (R + P2 (fun a b => cR l u e m (pSt l u e z a b)) a b) (sn2 sn g a b) (fun i => E i + P2 (fun a b => aE l u e m (pSt l u e z a b) (g + 1) (sn2 sn g a b) i) a b) (pSt l u e z a b) t2 (by omega) Qt2 S2 V.st (K.tr Kp_st) sgn Rt2 Et2
            refine ⟨(nI (b + 1) - 1, t3), ?_, rfl, Q3, (Ft1.tr (G2.mo sxq)).tr (G3.mo wq_mo), fun j hj => ?_, fun i hi => ?_, fun i hi => ?_, ?_, fun i hi => ?_⟩
            · show fh_X2_goDeeper_s106 rc (hx + 106) (nI g) (some (hx + 33 + 10 * g)) (nI a - 1) (pPlan z l 0 (sg a e)) (nI b - 1) t = _
              unfold fh_X2_goDeeper_s106
              rw [if_neg (sg1 hb), chk_t (isk_t (h1.k (j := 106) (c := 3) (by omega) rfl)), r203, dr_of (h1.k (j := 107) (c := 22) (by omega) rfl), bs_, l107, e2g, chk_t (inb_n (by omega) (by omega)), nI_clamp (by omega), gR_sA, r203, dr_of (h1.k (j := 107) (c := 22) (by omega) rfl), bs_, gL_sA, l107, na (2 * g) 1 (x := 1) rfl, chk_t (inb_n (by omega) (by omega)), nI_clamp (by omega), bs_]
              show ((dr t1 (gR t1 202 (hx + 106)) 27).bind _) = _
              have h4 := Qt1.2.1
              rw [h4.2.2.2.2.2.2.2.1, dr_of (h4.k (j := 31) (c := 27) (by omega) rfl), bs_, sp_L h4, na g 1 (x := 1) rfl, chk_t (inb_n (by omega) (by omega)), h4.2.2.2.2.2.2.2.2.2.2.1, dr_of (h4.k (j := 108) (c := 22) (by omega) rfl), bs_, h4.2.2.2.2.2.2.2.2.2.2.2.1, sg3, chk_t (inb_n (by omega) (by omega)), nI_clamp (by omega), nI_clamp (by omega), sp_qi h4 (by omega), pl, q2, bs_, chk_t (isk_t (Qt2.2.1.k (j := 106) (c := 3) (by omega) rfl))]
              show ((fh_X2_goDeeper (m + 1 + k) (hx + 106) (nI (g + 1)) t2).bind _) = _
              rw [q3, bs_, sg2]
            · rw [b3 _ (by omega), G2.A (sx6 108 (by omega)), G1.A (by omega)]; exact Lt j hj
            · rw [n3 i (by omega), G2.A (sx6 107 (by omega))]
              show gA (sA (sA t (hx + 107) (2 * g) (nI a - 1)) (hx + 107) (2 * g + 1) (nI b - 1)) (hx + 107) i = _
              rw [gA_sA, gA_sA, pk_un (by omega), pk_un (by omega)]; exact st' i hi
            · rw [b3 i (by omega), G2.A (sx6 108 (by omega)), G1.A (by omega)]; exact Bt i hi
            · rw [R3, P2_s, Nat.add_assoc]
            · rw [E3 i hi, P2_s, Nat.add_assoc]
          · rintro ⟨i, t⟩ ⟨hi, Qt, Ft, Lt, st', Bt, Rt, Et⟩
            simp only at hi Qt Ft Lt st' Bt Rt Et
            subst hi
            refine ⟨(nI 3 - 1, t), ?_, Qt, Ft, Lt, st', Bt, Rt, Et⟩
            show fh_X2_goDeeper_s106 rc (hx + 106) (nI g) (some (hx + 33 + 10 * g)) (nI a - 1) (pPlan z l 0 (sg a e)) (nI 3 - 1) t = _
            unfold fh_X2_goDeeper_s106
            rw [if_pos (by decide)]
        refine ⟨(nI (a + 1) - 1, y3.2), ?_, rfl, Q3, F3, L3, s3, B3, by rw [← P2_3]; exact R3, fun i hi => by rw [← P2_3]; exact E3 i hi⟩
        show fh_X2_goDeeper_s77 rc (hx + 106) (nI g) (some (hx + 33 + 10 * g)) (nI a - 1) s = _
        unfold fh_X2_goDeeper_s77
        rw [if_neg (sg1 ha), chk_t (isk_t (h'.k (j := 106) (c := 3) (by omega) rfl)), h'.2.2.2.2.2.2.1, dr_of h'.lk.1, bs_, c4, c2]
        show ((fh_X3_planOf (hx + 28) (some (hx + 33 + 10 * g)) ql 0 (sg a e) s).bind _) = _
        rw [p0, bs_]
        dsimp only
        rw [e3]
        show fh_X2_goDeeper_j174 rc (hx + 106) (nI g) (some (hx + 33 + 10 * g)) (nI a - 1) y3.2 = _
        unfold fh_X2_goDeeper_j174
        rw [sg2]
      · rintro ⟨i, s⟩ ⟨hi, Qs, F, Ls, ss, Bs, Rs, Es⟩
        simp only at hi Qs F Ls Bs ss Rs Es
        subst hi
        refine ⟨(nI 3 - 1, s), ?_, Qs, F, ss, Bs, Rs, Es⟩
        show fh_X2_goDeeper_s77 rc (hx + 106) (nI g) (some (hx + 33 + 10 * g)) (nI 3 - 1) s = _
        unfold fh_X2_goDeeper_s77
        rw [if_pos (by decide)]
    refine ⟨y2.2, ?_, Q2, F2, s2, B2, ?_, fun i hi => ?_⟩
    · unfold fh_X2_goDeeperF
      rw [chk_t (isk_t k106), r202, dr_of (h.k (j := 31) (c := 27) (by omega) rfl), bs_, sp_L h, chk_t (inb_n (by omega) (by omega)), a1, if_pos (nI_lt (by omega) (by omega)), nI_clamp (by omega), sp_qi h (by omega), e1]
      show fh_X2_goDeeper_j75 rc (hx + 106) (nI g) (some (hx + 33 + 10 * g)) y1.2 = _
      unfold fh_X2_goDeeper_j75
      rw [e2]; rfl
    · rw [R2, P2_e]; rfl
    · rw [E2 i hi, P2_e, aE_sum]
