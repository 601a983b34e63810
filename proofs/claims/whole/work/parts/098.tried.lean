/-! tried: floods by draws -/
def nx (X : Nat) : Nat := (X * 1103515245 + 12345) % 2147483648
theorem nx_lt (X : Nat) : nx X < 2147483648 := Nat.mod_lt _ (by omega)
theorem lN_b (n : Nat) : (lN n).toBitVec = BitVec.ofNat 64 n := rfl
theorem lN_mask {a : Nat} (h : a < 2 ^ 63) : lN a &&& 2147483647 = lN (a % 2147483648) := by
  apply Int64.toBitVec_inj.mp
  rw [Int64.toBitVec_and, lN_b, lN_b]
  apply BitVec.eq_of_toNat_eq
  rw [BitVec.toNat_and, BitVec.toNat_ofNat, BitVec.toNat_ofNat, show (2147483647 : Int64).toBitVec.toNat = 2 ^ 31 - 1 by decide, Nat.and_two_pow_sub_one_eq_mod, Nat.mod_eq_of_lt (show a < 2 ^ 64 by omega), Nat.mod_eq_of_lt (show a % 2147483648 < 2 ^ 64 by omega)]
theorem nx_h {X : Nat} (h : X < 2147483648) : ((((nI X).toInt64 * 1103515245) + 12345) &&& 2147483647).toInt32 = nI (nx X) := by
  rw [nI_l (by omega), show (1103515245 : Int64) = lN 1103515245 from rfl, show (12345 : Int64) = lN 12345 from rfl, lN_mul, lN_add, lN_mask (by omega), lN_i]; rfl
theorem nx_m {X : Nat} (h : X < 2147483648) : (lN X * 1103515245 + 12345) - (lN X * 1103515245 + 12345) / 2147483648 * 2147483648 = lN (nx X) := by
  rw [show (1103515245 : Int64) = lN 1103515245 from rfl, show (12345 : Int64) = lN 12345 from rfl, show (2147483648 : Int64) = lN 2147483648 from rfl, lN_mul, lN_add, pk_lRem (by omega) (by omega) (by omega)]; rfl
theorem dr_h {X od : Nat} (h : X < 2147483648) (ho : od ≤ 100) {α : Type} {A B : α} : (if nI od ≤ nI X / 65536 - nI X / 65536 / 100 * 100 then A else B) = if X / 65536 % 100 < od then B else A := by
  rw [show nI X / 65536 = nI (X / 65536) from pk_div (d := 65536) (by omega) (by omega) (by omega), show nI (X / 65536) - nI (X / 65536) / 100 * 100 = nI (X / 65536 % 100) from pk_rem (d := 100) (by omega) (by omega) (by omega)]
  by_cases q : X / 65536 % 100 < od
  · rw [if_pos q, if_neg (nI_ge q (by omega))]
  · rw [if_neg q, if_pos (nI_le (by omega) (by omega))]
theorem dr_m {X od : Nat} (h : X < 2147483648) (ho : od ≤ 100) {α : Type} {A B : α} : (if lg_cmp (lN X / 65536 - lN X / 65536 / 100 * 100) (nI od).toInt64 < 0 then A else B) = if X / 65536 % 100 < od then A else B := by
  rw [show lN X / 65536 = lN (X / 65536) from pk_lDiv (b := 65536) (by omega) (by omega) (by omega), show lN (X / 65536) - lN (X / 65536) / 100 * 100 = lN (X / 65536 % 100) from pk_lRem (b := 100) (by omega) (by omega) (by omega), nI_l (by omega)]
  by_cases q : X / 65536 % 100 < od
  · rw [if_pos q, if_pos (lg_lt.mpr ((lN_lt (by omega) (by omega)).mpr q))]
  · rw [if_neg q, if_neg (fun z => q ((lN_lt (by omega) (by omega)).mp (lg_lt.mp z)))]
def pFl (od X : Nat) (v : Nat → Int32) : Nat → Int32 := if X / 65536 % 100 < od then pTake (pTake v 0 1) 1 1 else v
def pGoT (l r : Option Ru) (od : Nat) : Nat → Nat → (Nat → Int32) → Nat × (Nat → Int32)
  | 0, X, v => (X, v)
  | n + 1, X, v => if pGap v = 0 then (X, v) else pGoT l r od n (nx X) (pFl od (nx X) (pDay v l r (pErr v 0) (pErr v 1)))
theorem pGoT_met {l r : Option Ru} {od X : Nat} {v : Nat → Int32} (h : pGap v = 0) : ∀ n, pGoT l r od n X v = (X, v)
  | 0 => rfl
  | n + 1 => by unfold pGoT; rw [if_pos h]
theorem VOk.fl {D od X : Nat} {v : Nat → Int32} (V : VOk D v) : VOk D (pFl od X v) := by
  unfold pFl
  split
  · exact (V.take (c := 1) (by omega) (by omega)).take (c := 1) (by omega) (by omega)
  · exact V
theorem Kp_fl {od X : Nat} {v : Nat → Int32} : KpR v (pFl od X v) := by
  unfold pFl
  split
  · exact (Kp_take (by omega)).tr (Kp_take (by omega))
  · exact KpR.rf
theorem fl_hi {od X i : Nat} {v : Nat → Int32} (hi : 286 ≤ i) : pFl od X v i = v i := by
  unfold pFl
  split
  · unfold pTake; rw [pk_un (by omega), pk_un (by omega)]
  · rfl
theorem goT_lt {l r : Option Ru} {od : Nat} : ∀ (n X : Nat) {v : Nat → Int32}, X < 2147483648 → (pGoT l r od n X v).1 < 2147483648
  | 0, X, v, h => h
  | n + 1, X, v, h => by
    unfold pGoT
    split
    · exact h
    · exact goT_lt n (nx X) (nx_lt X)
theorem VOk.goT {l r : Option Ru} {od : Nat} : ∀ (n X : Nat) {D : Nat} {v : Nat → Int32}, VOk D v → VOk (D + n) (pGoT l r od n X v).2
  | 0, _, _, _, V => V
  | n + 1, X, D, v, V => by
    unfold pGoT
    split
    · exact V.mo (by omega)
    · rw [show D + (n + 1) = D + 1 + n by omega]; exact VOk.goT n (nx X) V.day.fl
theorem goT_hi {l r : Option Ru} {od i : Nat} (hi : 286 ≤ i) : ∀ (n X : Nat) {D : Nat} {v : Nat → Int32}, VOk D v → (pGoT l r od n X v).2 i = v i
  | 0, _, _, _, _ => rfl
  | n + 1, X, D, v, V => by
    unfold pGoT
    split
    · rfl
    · rw [goT_hi hi n (nx X) V.day.fl, fl_hi hi, day_hi V hi]
theorem h_tried1 {hx r D n X od : Nat} {st : HSt} {v : Nat → Int32} {ql qr : Option Nat} {l u : Option Ru} (w : Wf st) (h : Sh hx st) (S : SpR st (hx + 3 + 1) r v) (E : ErR st (hx + 3) v) (V : VOk D v) (Ql : RqR st ql l) (Qr : RqR st qr u) (hX : gI st 3 (hx + 27) = nI X) (hX31 : X < 2147483648) (ho : od ≤ 100) (hn : n ≤ 400) (hD : D ≤ 10000) : ∃ st2, fh_X0_spanTried (hx + 27) (some (hx + 3)) ql qr (nI n) (nI od) st = some (st2, some (hx + 33)) ∧ SpR st2 (hx + 33) r (pGoT l u od n X v).2 ∧ gI st2 3 (hx + 27) = nI (pGoT l u od n X v).1 ∧ Fr (fun b => b = hx + 27 ∨ Dx (hx + 33) (hx + 28) b) st st2 ∧ gR st2 10 (hx + 27) = gR st 10 (hx + 27) := by
  obtain ⟨s1, e1, S1, F1⟩ := h_become (a := hx + 33) (b := hx + 3 + 1) w (sp_k0 h) S V (by omega)
  have F1' : Fr (fun b => b = hx + 27 ∨ Dx (hx + 33) (hx + 28) b) st s1 := F1.mo (fun _ e => Or.inr (Or.inl e))
  have n27 : ¬ Sx (hx + 33) (hx + 27) := by unfold Sx; omega
  have nd27 : ¬ Dx (hx + 33) (hx + 28) (hx + 27) := sc_27 (i := 0) (by omega)
  have dxr : ∀ b j, gK st b = 7 → j < 5 → ¬ (b + j = hx + 27 ∨ Dx (hx + 33) (hx + 28) (b + j)) := fun b j hb hj e => by
    rcases e with e | e
    · have := blk7 w h hb; omega
    · exact dx_ru w h.lk (sp_k0 h) b j hb hj e
  obtain ⟨y, e, S2, X2, F2, gr2⟩ : ∃ y : Int32 × HSt, iter (fun x : (Int32 × HSt) => fh_X0_spanTried_s20 (hx + 27) (some (hx + 3)) ql qr (nI n) (nI od) (some (hx + 33)) x.1 x.2) mFuel ((0 : Int32), s1) = some (.inr y) ∧ SpR y.2 (hx + 33) r (pGoT l u od n X v).2 ∧ gI y.2 3 (hx + 27) = nI (pGoT l u od n X v).1 ∧ Fr (fun b => b = hx + 27 ∨ Dx (hx + 33) (hx + 28) b) st y.2 ∧ gR y.2 10 (hx + 27) = gR st 10 (hx + 27) := by
    refine iter_w (fun j (x : Int32 × HSt) => x.1 = nI j ∧ Fr (fun b => b = hx + 27 ∨ Dx (hx + 33) (hx + 28) b) st x.2 ∧ gR x.2 10 (hx + 27) = gR st 10 (hx + 27) ∧ ∃ z Y, SpR x.2 (hx + 33) r z ∧ VOk (D + j) z ∧ KpR v z ∧ gI x.2 3 (hx + 27) = nI Y ∧ Y < 2147483648 ∧ pGoT l u od (n - j) Y z = pGoT l u od n X v) n (fun y : Int32 × HSt => SpR y.2 (hx + 33) r (pGoT l u od n X v).2 ∧ gI y.2 3 (hx + 27) = nI (pGoT l u od n X v).1 ∧ Fr (fun b => b = hx + 27 ∨ Dx (hx + 33) (hx + 28) b) st y.2 ∧ gR y.2 10 (hx + 27) = gR st 10 (hx + 27)) ?_ ⟨rfl, F1', F1.R' 10 n27, v, X, S1, V, KpR.rf, (F1.I 3 n27).trans hX, hX31, rfl⟩ (by omega)
    rintro j ⟨i, s⟩ hjn ⟨hi, F, gr, z, Y, Sz, Vz, Kz, gY, hY, Gz⟩
    simp only at hi F gr Sz gY
    subst hi
    have W := F.Wf w
    have h2 := h.fr F
    rcases Nat.lt_or_ge j n with hlt | hge
    · have met := h_met W Sz
      have k10 := Sz.2.2.1
      have E1 : ErR s (hx + 3) z := E.fr F (fun e => by rcases e with e | e; · omega
                                                        · exact dx_si (i := 0) (j := 14) (by omega) e) Kz
      obtain ⟨w0, y, d, sp, fl, h0, h6, h1, h2', h4, hw, hy, hd, hsp, hfl, -⟩ := id Vz
      have i1 : gI s 901 (hx + 33) = nI d := Sz.2.2.2.1.trans h1
      have er0 := h_errorOn (s := 0) (x := 0) (d := d) (z := nI d) W E1 rfl (by omega) rfl (by omega)
      have er1 := h_errorOn (s := 1) (x := 1) (d := d) (z := nI d) W E1 rfl (by omega) rfl (by omega)
      rw [← pErr_e h1 (by omega)] at er0 er1
      by_cases hm : pGap z = 0
      · right
        refine ⟨(nI j, s), ?_, ?_, ?_, F, gr⟩
        · show fh_X0_spanTried_s20 (hx + 27) (some (hx + 3)) ql qr (nI n) (nI od) (some (hx + 33)) (nI j) s = _
          unfold fh_X0_spanTried_s20
          rw [if_neg (nI_ge hlt (by omega)), dr_of k10, bs_, met, bs_, if_pos hm, if_neg (show ¬ (1 : Int32) = 0 by decide)]
        · rw [← Gz, pGoT_met hm]; exact Sz
        · rw [← Gz, pGoT_met hm]; exact gY
      · left
        obtain ⟨s2, e2, S2, F2⟩ := h_both (h := hx + 27) (e0 := pErr z 0) (e1 := pErr z 1) W (k27 h2) h2.2.2.2.2.1.1 h2.lk Sz Vz (Rq_fr Ql F dxr) (Rq_fr Qr F dxr)
        obtain ⟨s3, e3, S3, F3⟩ := h_endDay (F2.Wf W) S2 Vz.both
        have h3 : Sh hx s3 := (h2.fr F2).fr F3
        have g3 : gI s3 3 (hx + 27) = nI Y := ((F3.I 3 n27).trans (F2.I 3 nd27)).trans gY
        have F4 : Fr (fun b => b = hx + 27) s3 (sI s3 3 (hx + 27) (nI (nx Y))) := Fr.sI rfl
        have gr4 : gR (sI s3 3 (hx + 27) (nI (nx Y))) 10 (hx + 27) = gR st 10 (hx + 27) := by rw [gR_sI]; exact ((F3.R' 10 n27).trans (F2.R' 10 nd27)).trans gr
        have FA : Fr (fun b => b = hx + 27 ∨ Dx (hx + 33) (hx + 28) b) st (sI s3 3 (hx + 27) (nI (nx Y))) := ((F.tr (F2.mo (fun _ e => Or.inr e))).tr (F3.mo (fun _ e => Or.inr (Or.inl e)))).tr (F4.mo (fun _ e => Or.inl e))
        have W3 := F3.Wf (F2.Wf W)
        have S4 : SpR (sI s3 3 (hx + 27) (nI (nx Y))) (hx + 33) r (pDay z l u (pErr z 0) (pErr z 1)) := S3.fr Vz.day F4 (by omega) (by omega) (by omega) (by omega) (fun q hq => by rcases blk5 W3 h3 S3.2.1.1 with e | e | e | ⟨i, hi, e⟩ <;> omega)
        have W4 : Wf (sI s3 3 (hx + 27) (nI (nx Y))) := F4.Wf W3
        have hG : pGoT l u od (n - (j + 1)) (nx Y) (pFl od (nx Y) (pDay z l u (pErr z 0) (pErr z 1))) = pGoT l u od n X v := by
          rw [← Gz, show n - j = (n - (j + 1)) + 1 by omega]
          show _ = (if pGap z = 0 then (Y, z) else pGoT l u od (n - (j + 1)) (nx Y) (pFl od (nx Y) (pDay z l u (pErr z 0) (pErr z 1))))
          rw [if_neg hm]
        have head : fh_X0_spanTried_s20 (hx + 27) (some (hx + 3)) ql qr (nI n) (nI od) (some (hx + 33)) (nI j) s = (if (nx Y) / 65536 % 100 < od then chk (isk (sI s3 3 (hx + 27) (nI (nx Y))) (hx + 33) 10) ((fh_X9_take (hx + 33) (0 : Int32) (1 : Int32) (sI s3 3 (hx + 27) (nI (nx Y)))).bind fun x47 => chk (isk x47 (hx + 33) 10) ((fh_X9_take (hx + 33) (1 : Int32) (1 : Int32) x47).bind fun x50 => some (.inr (.inl ((nI (j + 1)), x50))))) else some (.inr (.inl (nI (j + 1), sI s3 3 (hx + 27) (nI (nx Y)))))) := by
          unfold fh_X0_spanTried_s20
          rw [if_neg (nI_ge hlt (by omega)), dr_of k10, bs_, met, bs_, if_neg hm, if_pos rfl, chk_t (isk_t k10), dr_of E1.1, bs_]
          dsimp only
          rw [i1, er0, bs_, chk_t (isk_t k10), chk_t (isk_t E1.1)]
          dsimp only
          rw [i1, er1, bs_]
          dsimp only
          rw [chk_t (isk_t (k27 h2)), e2, bs_, chk_t (isk_t S2.2.2.1), e3, bs_, chk_t (isk_t (k27 h3)), g3, nx_h hY, bs_, gI_sI, dr_h (nx_lt Y) ho, nI_1]
        show (∃ y, fh_X0_spanTried_s20 (hx + 27) (some (hx + 3)) ql qr (nI n) (nI od) (some (hx + 33)) (nI j) s = _ ∧ _)
        rw [head]
        by_cases hf : (nx Y) / 65536 % 100 < od
        · obtain ⟨s5, e5, S5, F5⟩ := h_take (s := 0) (x := 0) (c := 1) (n := 1) W4 S4 Vz.day rfl (by omega) rfl (by omega)
          obtain ⟨s6, e6, S6, F6⟩ := h_take (s := 1) (x := 1) (c := 1) (n := 1) (F5.Wf W4) S5 (Vz.day.take (c := 1) (by omega) (by omega)) rfl (by omega) rfl (by omega)
          refine ⟨(nI (j + 1), s6), ?_, ⟨rfl, (FA.tr (F5.mo (fun _ e => Or.inr (Or.inl e)))).tr (F6.mo (fun _ e => Or.inr (Or.inl e))), ((F6.R' 10 n27).trans (F5.R' 10 n27)).trans gr4, pFl od (nx Y) (pDay z l u (pErr z 0) (pErr z 1)), nx Y, ?_, Vz.day.fl, (Kz.tr Kp_day).tr Kp_fl, ?_, nx_lt Y, hG⟩, hlt⟩
          · rw [if_pos hf, chk_t (isk_t S4.2.2.1), e5, bs_, chk_t (isk_t S5.2.2.1), e6, bs_]
          · unfold pFl; rw [if_pos hf]; exact S6
          · exact ((F6.I 3 n27).trans (F5.I 3 n27)).trans (gI_sI _ _ _ _)
        · refine ⟨(nI (j + 1), sI s3 3 (hx + 27) (nI (nx Y))), by rw [if_neg hf], ⟨rfl, FA, gr4, pFl od (nx Y) (pDay z l u (pErr z 0) (pErr z 1)), nx Y, ?_, Vz.day.fl, (Kz.tr Kp_day).tr Kp_fl, gI_sI _ _ _ _, nx_lt Y, hG⟩, hlt⟩
          unfold pFl; rw [if_neg hf]; exact S4
    · have ek : j = n := by omega
      subst ek
      right
      refine ⟨(nI j, s), ?_, ?_, ?_, F, gr⟩
      · show fh_X0_spanTried_s20 (hx + 27) (some (hx + 3)) ql qr (nI j) (nI od) (some (hx + 33)) (nI j) s = _
        unfold fh_X0_spanTried_s20
        rw [if_pos (nI_le (Nat.le_refl _) (by omega))]
      · rw [← Gz, Nat.sub_self]; exact Sz
      · rw [← Gz, Nat.sub_self]; exact gY
  refine ⟨y.2, ?_, S2, X2, F2, gr2⟩
  unfold fh_X0_spanTried
  rw [chk_t (isk_t (k27 h)), st_spares h, bs_, sp_L h, chk_t (by decide), dr_of (k3 h), bs_, cln0, sp_q0 h, dr_of (sp_k0 h), bs_, r800 w h, e1, bs_, e]
  rfl
