/-! the class packs a day -/
theorem dgt_I {v : Nat → Int32} {s k : Nat} (V : VB v) (hs : s < 2) (hk : k < yN v s) : (pAt v s (k + 1) 0 - pAt v s k 0 + 20) * 41 + (pAt v s (k + 1) 1 - pAt v s k 1) + 20 = nI (dgt v s k) := by
  have tn_e : ∀ t, t ≤ 40 → tn (nI t - 20) = t := fun t ht => by
    unfold tn
    have e : (nI t - 20).toInt = (t : Int) - 20 := pk_sub_toInt (b := 20) (by omega) (by omega)
    rw [e]; omega
  obtain ⟨t, ht, e0⟩ := sm20_e (V.2 s k 0 hs hk (by omega))
  obtain ⟨u, hu, e1⟩ := sm20_e (V.2 s k 1 hs hk (by omega))
  unfold dgt
  rw [e0, e1, tn_e t ht, tn_e u hu, Int32.sub_add_cancel, Int32.add_assoc, Int32.sub_add_cancel]
  show nI t * nI 41 + nI u = _
  rw [pk_mul, nI_add]
theorem Jt_at {J : Nat → Int64} {v : Nat → Int32} {f t m : Nat} (hm : m < 8) : Jt J v f t (f + 1 + m) = nL (Wd (dg2 v) t m) := by
  unfold Jt
  rw [if_neg (by omega), if_neg (by omega), show f + 1 + m - f - 1 = m by omega]
theorem sp_p {st s : HSt} {a r P D : Nat} {v : Nat → Int32} (w : Wf st) (S : SpR st a r v) (V : VOk D v) (kP : gK st P = 23) (F : Fr (fun b => b = P) st s) : SpR s a r v := by
  have k10 := S.2.2.1
  have k5 := S.2.1.1
  obtain ⟨-, K, -⟩ := w.1 a k10
  obtain ⟨KR, -⟩ := w.2.1 r k5
  have ne : ∀ b, gK st b ≠ 23 → ¬ (fun b => b = P) b := fun b hb z => by have z' : b = P := z; rw [z'] at hb; exact hb kP
  refine S.fr V F (ne _ (by rw [k10]; omega)) (ne _ (by rw [K 7 (by omega) (by omega)]; omega)) (ne _ (by rw [K 8 (by omega) (by omega)]; omega)) (ne _ (by rw [K 9 (by omega) (by omega)]; omega)) (fun j hj => ne _ ?_)
  rcases Nat.eq_zero_or_pos j with z | z
  · subst z; rw [Nat.add_zero, k5]; omega
  · rw [KR j z hj]; omega
theorem h_pack_in {st st0 : HSt} {a r P f D c s : Nat} {J : Nat → Int64} {v : Nat → Int32} (w : Wf st0) (S : SpR st0 a r v) (V : VOk D v) (kP : gK st0 P = 23) (lP : gL st0 P = 2709) (hf : f + 9 ≤ 2709) (hs : s < 2) (hc : c + yN v s ≤ 40) (hd : ∀ k, k < yN v s → dg2 v (c + k) = dgt v s k) (F : Fr (fun b => b = P) st0 st) (hJ : gJ st P = Jt J v f c) : ∃ y : Int32 × Int32 × HSt, iter (fun x : (Int32 × Int32 × HSt) => fh_X9_pack_s68 a (some P) (nI f) (nI s) x.1 x.2.1 x.2.2) mFuel (nI c, (0 : Int32), st) = some (.inr y) ∧ y.1 = nI (c + yN v s) ∧ Fr (fun b => b = P) st0 y.2.2 ∧ gJ y.2.2 P = Jt J v f (c + yN v s) := by
  have VBv := V.vb
  obtain ⟨w0, y, d, sp, fl, h0, h6, -, -, -, hw0, hy, -⟩ := id V
  have ey : yN v s = y s := yN_e (h6 s hs) (by rcases (by omega : s = 0 ∨ s = 1) with rfl | rfl <;> omega)
  have hy40 : yN v s ≤ 40 := by omega
  have hv : v (6 + s) = nI (yN v s) := by rw [ey]; exact h6 s hs
  have head : ∀ (k : Nat) (x : HSt), k ≤ yN v s → Fr (fun b => b = P) st0 x → fh_X9_pack_s68 a (some P) (nI f) (nI s) (nI (c + k)) (nI k) x = (if nI (yN v s) ≤ nI k then some (.inr (.inr (nI (c + k), nI k, x))) else (if (40 : Int32) ≤ nI (c + k) then some (.inr (.inr (nI (c + k), nI k, x))) else (fh_X9_lineAt a (nI s) (nI k) x).bind fun x32 => chk (isk x32.1 a 10) ((fh_X9_lineAt a (nI s) (nI k - (1 : Int32)) x32.1).bind fun x35 => chk (isk x35.1 a 10) ((fh_X9_heightAt a (nI s) (nI k) x35.1).bind fun x38 => chk (isk x38.1 a 10) ((fh_X9_heightAt a (nI s) (nI k - (1 : Int32)) x38.1).bind fun x41 => (dr x41.1 (some P) 23).bind fun b43 => chk (inb ((nI f + (1 : Int32)) + (nI (c + k) / (5 : Int32))) (gL x41.1 b43)) ((fh_X9_planOfYard (x32.2 - x35.2) (x38.2 - x41.2) x41.1).bind fun x48 => chk (isk x48.1 b43 23) (chk (inb ((nI f + (1 : Int32)) + (nI (c + k) / (5 : Int32))) (gL x48.1 b43)) ((some (sJ x48.1 b43 ((nI f + (1 : Int32)) + (nI (c + k) / (5 : Int32))).toNatClampNeg ((((gJ x41.1 b43 ((nI f + (1 : Int32)) + (nI (c + k) / (5 : Int32))).toNatClampNeg) * (41 : Int64)) * (41 : Int64)) + (x48.2.toInt64)))).bind fun x52 => some (.inr (.inl ((nI (c + k) + 1), (nI k + 1), x52))))))))))) := fun k x hk Fx => by
    have Sx := sp_p w S V kP Fx
    have wx := Fx.Wf w
    obtain ⟨-, K, r902, l7, -⟩ := wx.1 a Sx.2.2.1
    unfold fh_X9_pack_s68
    rw [chk_t (isk_t Sx.2.2.1), r902, dr_of (K 7 (by omega) (by omega)), bs_, l7, chk_t (inb_n hs (by omega)), nI_clamp (by omega), Sx.2.2.2.2.1 s hs, hv]
  refine iter_n (fun k (x : Int32 × Int32 × HSt) => x.1 = nI (c + k) ∧ x.2.1 = nI k ∧ Fr (fun b => b = P) st0 x.2.2 ∧ gJ x.2.2 P = Jt J v f (c + k)) (yN v s) _ ?_ ?_ ⟨rfl, rfl, F, hJ⟩ (by omega)
  · rintro k ⟨x1, x2, x⟩ hk ⟨q1, q2, Fx, Jx⟩
    simp only at q1 q2 Fx Jx
    subst q1; subst q2
    have Sx := sp_p w S V kP Fx
    have wx := Fx.Wf w
    have kPx : gK x P = 23 := (Fx.K P).trans kP
    have lPx : gL x P = 2709 := (Fx.L P).trans lP
    have ei : nI f + 1 + nI (c + k) / 5 = nI (f + 1 + (c + k) / 5) := by
      rw [show nI (c + k) / 5 = nI ((c + k) / 5) from pk_div (d := 5) (by omega) (by omega) (by omega), nI_1, nI_add]
    refine ⟨(nI (c + (k + 1)), nI (k + 1), sJ x P (f + 1 + (c + k) / 5) (nL (Wd (dg2 v) (c + k) ((c + k) / 5) * 1681 + dg2 v (c + k)))), ?_, rfl, rfl, Fx.tr (Fr.sJ rfl), ?_⟩
    · show fh_X9_pack_s68 a (some P) (nI f) (nI s) (nI (c + k)) (nI k) x = _
      rw [head k x (by omega) Fx, if_neg (nI_ge hk (by omega)), if_neg (show ¬ (40 : Int32) ≤ nI (c + k) from nI_ge (b := 40) (by omega) (by omega)), h_lineAt (k := k + 1) wx Sx rfl hs hv hy40 (by rw [nI_pred]) (by omega), bs_]
      dsimp only
      rw [chk_t (isk_t Sx.2.2.1), h_lineAt (k := k) wx Sx rfl hs hv hy40 rfl (by omega), bs_]
      dsimp only
      rw [chk_t (isk_t Sx.2.2.1), h_heightAt (k := k + 1) wx Sx rfl hs hv hy40 (by rw [nI_pred]) (by omega), bs_]
      dsimp only
      rw [chk_t (isk_t Sx.2.2.1), h_heightAt (k := k) wx Sx rfl hs hv hy40 rfl (by omega), bs_]
      dsimp only
      rw [dr_of kPx, bs_, lPx, ei, chk_t (inb_n (by omega) (by omega))]
      unfold fh_X9_planOfYard
      rw [bs_]
      dsimp only
      rw [chk_t (isk_t kPx), lPx, chk_t (inb_n (by omega) (by omega)), nI_clamp (by omega), bs_, dgt_I VBv hs hk, nI_L (by have := dgt_lt VBv hs hk; omega), Jx, Jt_at (by omega), nI_1, nI_1, hd k hk]
      show some (Sum.inr (Sum.inl (nI (c + (k + 1)), nI (k + 1), sJ x P (f + 1 + (c + k) / 5) (nL (Wd (dg2 v) (c + k) ((c + k) / 5)) * nL 41 * nL 41 + nL (dgt v s k))))) = _
      rw [nL_mul, nL_mul, nL_add, Nat.mul_assoc]
    · show gJ (sJ x P (f + 1 + (c + k) / 5) (nL (Wd (dg2 v) (c + k) ((c + k) / 5) * 1681 + dg2 v (c + k)))) P = Jt J v f (c + (k + 1))
      rw [gJ_sJ, Jx, Jt_up (by omega)]; rfl
  · rintro ⟨x1, x2, x⟩ ⟨q1, q2, Fx, Jx⟩
    simp only at q1 q2 Fx Jx
    subst q1; subst q2
    refine ⟨(nI (c + yN v s), nI (yN v s), x), ?_, rfl, Fx, Jx⟩
    show fh_X9_pack_s68 a (some P) (nI f) (nI s) (nI (c + yN v s)) (nI (yN v s)) x = _
    rw [head _ x (Nat.le_refl _) Fx, if_pos (nI_le (Nat.le_refl _) (by omega))]
theorem h_pack {st : HSt} {a r P f D : Nat} {v : Nat → Int32} (w : Wf st) (S : SpR st a r v) (V : VOk D v) (kP : gK st P = 23) (lP : gL st P = 2709) (hf : f + 9 ≤ 2709) : ∃ st2, fh_X9_pack a (some P) (nI f) st = some st2 ∧ Fr (fun b => b = P) st st2 ∧ gJ st2 P = Jt (gJ st P) v f (yN v 0 + yN v 1) := by
  obtain ⟨y, e, F1, J1⟩ : ∃ y : Int32 × HSt, iter (fun x : (Int32 × HSt) => fh_X9_pack_s16 a (some P) (nI f) x.1 x.2) mFuel ((0 : Int32), st) = some (.inr y) ∧ Fr (fun b => b = P) st y.2 ∧ gJ y.2 P = fun i => if f ≤ i ∧ i < f + 9 then 0 else gJ st P i := by
    refine iter_n (fun k (x : Int32 × HSt) => x.1 = nI k ∧ Fr (fun b => b = P) st x.2 ∧ gJ x.2 P = fun i => if f ≤ i ∧ i < f + k then 0 else gJ st P i) 9 _ ?_ ?_ ⟨rfl, Fr.rf, funext fun i => by rw [if_neg (by omega)]⟩ (by omega)
    · rintro k ⟨x1, x⟩ hk ⟨q1, Fx, Jx⟩
      simp only at q1 Fx Jx
      subst q1
      refine ⟨(nI (k + 1), sJ x P (f + k) 0), ?_, rfl, Fx.tr (Fr.sJ rfl), ?_⟩
      · show fh_X9_pack_s16 a (some P) (nI f) (nI k) x = _
        unfold fh_X9_pack_s16
        rw [if_neg (show ¬ (9 : Int32) ≤ nI k from nI_ge (b := 9) hk (by omega)), dr_of ((Fx.K P).trans kP), bs_, (Fx.L P).trans lP, nI_add, chk_t (inb_n (by omega) (by omega)), nI_clamp (by omega), nI_1]
      · show gJ (sJ x P (f + k) 0) P = _
        rw [gJ_sJ, Jx]
        funext i
        by_cases z : i = f + k
        · rw [show vp_updL (fun i => if f ≤ i ∧ i < f + k then 0 else gJ st P i) (f + k) 0 i = 0 from if_pos z, if_pos (by omega)]
        · rw [show vp_updL (fun i => if f ≤ i ∧ i < f + k then 0 else gJ st P i) (f + k) 0 i = (if f ≤ i ∧ i < f + k then 0 else gJ st P i) from if_neg z]
          by_cases q : f ≤ i ∧ i < f + k
          · rw [if_pos q, if_pos (by omega)]
          · rw [if_neg q, if_neg (by omega)]
    · rintro ⟨x1, x⟩ ⟨q1, Fx, Jx⟩
      simp only at q1 Fx Jx
      subst q1
      refine ⟨(nI 9, x), ?_, Fx, Jx⟩
      show fh_X9_pack_s16 a (some P) (nI f) (nI 9) x = _
      unfold fh_X9_pack_s16
      rw [if_pos (by decide)]
  obtain ⟨w0, yy, d, sp, fl, h0, h6, -, -, -, hw0, hy, -⟩ := id V
  have e0 : yN v 0 = yy 0 := yN_e (h6 0 (by omega)) (by omega)
  have e1 : yN v 1 = yy 1 := yN_e (h6 1 (by omega)) (by omega)
  have S1 := sp_p w S V kP F1
  have w1 := F1.Wf w
  obtain ⟨-, K, r902, l7, -⟩ := w1.1 a S1.2.2.1
  have kP1 : gK y.2 P = 23 := (F1.K P).trans kP
  have lP1 : gL y.2 P = 2709 := (F1.L P).trans lP
  let s2 := sJ y.2 P f (nL (yN v 0 * 41 + yN v 1))
  have F2 : Fr (fun b => b = P) st s2 := F1.tr (Fr.sJ rfl)
  have J2 : gJ s2 P = Jt (gJ st P) v f 0 := by
    show gJ (sJ y.2 P f (nL (yN v 0 * 41 + yN v 1))) P = _
    rw [gJ_sJ, J1]
    funext i
    unfold Jt
    by_cases z : i = f
    · rw [show vp_updL (fun i => if f ≤ i ∧ i < f + 9 then 0 else gJ st P i) f (nL (yN v 0 * 41 + yN v 1)) i = nL (yN v 0 * 41 + yN v 1) from if_pos z, if_neg (by omega), if_pos z]
    · rw [show vp_updL (fun i => if f ≤ i ∧ i < f + 9 then 0 else gJ st P i) f (nL (yN v 0 * 41 + yN v 1)) i = (if f ≤ i ∧ i < f + 9 then 0 else gJ st P i) from if_neg z]
      by_cases q : i < f ∨ f + 9 ≤ i
      · rw [if_neg (by omega), if_pos q]
      · rw [if_pos (by omega), if_neg q, if_neg z]; rfl
  obtain ⟨z3, p3, c3, F3, J3⟩ := h_pack_in (c := 0) (s := 0) w S V kP lP hf (by omega) (by omega) (fun k hk => by unfold dg2; rw [Nat.zero_add, if_pos hk]) F2 J2
  rw [Nat.zero_add] at c3 J3
  obtain ⟨z4, p4, c4, F4, J4⟩ := h_pack_in (c := yN v 0) (s := 1) w S V kP lP hf (by omega) (by omega) (fun k hk => by unfold dg2; rw [if_neg (by omega), Nat.add_sub_cancel_left]) F3 J3
  refine ⟨z4.2.2, ?_, F4, J4⟩
  unfold fh_X9_pack
  rw [if_neg (show ¬ nI f < 0 from nI_nlt (b := 0) (by omega) (by omega)), dr_of kP, bs_, lP, show nI f + 9 = nI (f + 9) from nI_add f 9, if_pos (nI_le hf (by omega)), e]
  show fh_X9_pack_j34 a (some P) (nI f) y.2 = _
  unfold fh_X9_pack_j34
  rw [chk_t (isk_t S1.2.2.1), r902, dr_of (K 7 (by omega) (by omega)), bs_, l7, chk_t (show inb 0 2 = true by decide), chk_t (show inb 1 2 = true by decide), dr_of kP1, bs_, lP1, chk_t (inb_n (by omega) (by omega)), nI_clamp (by omega), bs_, cln0, cln1, S1.2.2.2.2.1 0 (by omega), S1.2.2.2.2.1 1 (by omega), h6 0 (by omega), h6 1 (by omega), ← e0, ← e1]
  rw [show nI (yN v 0) * 41 + nI (yN v 1) = nI (yN v 0 * 41 + yN v 1) by show nI (yN v 0) * nI 41 + _ = _; rw [pk_mul, nI_add], nI_L (by omega)]
  have t0 : fh_X9_pack_s59 a (some P) (nI f) (nI 0) (nI 0) s2 = some (.inr (.inl (nI (yN v 0), nI 1, z3.2.2))) := by
    unfold fh_X9_pack_s59
    rw [if_neg (by decide), show iter (fun x : (Int32 × Int32 × HSt) => fh_X9_pack_s68 a (some P) (nI f) (nI 0) x.1 x.2.1 x.2.2) mFuel (nI 0, (0 : Int32), s2) = _ from p3]
    show fh_X9_pack_j171 a (some P) (nI f) z3.1 (nI 0) z3.2.2 = _
    unfold fh_X9_pack_j171
    rw [c3, nI_1]
  have t1 : fh_X9_pack_s59 a (some P) (nI f) (nI (yN v 0)) (nI 1) z3.2.2 = some (.inr (.inl (nI (yN v 0 + yN v 1), nI 2, z4.2.2))) := by
    unfold fh_X9_pack_s59
    rw [if_neg (by decide), p4]
    show fh_X9_pack_j171 a (some P) (nI f) z4.1 (nI 1) z4.2.2 = _
    unfold fh_X9_pack_j171
    rw [c4, nI_1]
  have t2 : fh_X9_pack_s59 a (some P) (nI f) (nI (yN v 0 + yN v 1)) (nI 2) z4.2.2 = some (.inr (.inr (nI (yN v 0 + yN v 1), nI 2, z4.2.2))) := by
    unfold fh_X9_pack_s59
    rw [if_pos (by decide)]
  obtain ⟨n, hn⟩ := mF2
  rw [hn]
  show (iter (fun x : (Int32 × Int32 × HSt) => fh_X9_pack_s59 a (some P) (nI f) x.1 x.2.1 x.2.2) (n + 3) (nI 0, nI 0, s2)).bind _ = _
  rw [iter_c t0, iter_c t1, iter_x t2]
  rfl
