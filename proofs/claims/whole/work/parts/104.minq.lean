/-! erred: the reference; sums over numbers -/
def pPath (l r : Option Ru) (e num : Nat) : Nat → Nat → (Nat → Int32) → Nat → Int32
  | 0, _, v => v
  | m + 1, d, v => pPath l r e num m (d + 1) (pSt l r e v (num / 3 ^ (2 * d) % 3) (num / 3 ^ (2 * d + 1) % 3))
def pQ (l r : Option Ru) (e : Nat) : Nat → Nat → (Nat → Int32) → Nat → Int32
  | 0, _, v => v
  | m + 1, q, v => pQ l r e m (q / 9) (pSt l r e v (q % 3) (q / 3 % 3))
theorem st_met {l r : Option Ru} {e a b : Nat} {v : Nat → Int32} (h : pGap v = 0) : pSt l r e v a b = v := by unfold pSt; rw [if_pos h]
theorem pPath_met {l r : Option Ru} {e num : Nat} {v : Nat → Int32} (h : pGap v = 0) : ∀ m d, pPath l r e num m d v = v
  | 0, _ => rfl
  | m + 1, d => by unfold pPath; rw [st_met h]; exact pPath_met h m (d + 1)
theorem VOk.path {l r : Option Ru} {e num : Nat} : ∀ (m d : Nat) {D : Nat} {v : Nat → Int32}, VOk D v → VOk (D + m) (pPath l r e num m d v)
  | 0, _, _, _, V => V
  | m + 1, d, D, v, V => by
    unfold pPath
    rw [show D + (m + 1) = D + 1 + m by omega]; exact VOk.path m (d + 1) V.st
theorem path_hi {l r : Option Ru} {e num i : Nat} (hi : 286 ≤ i) : ∀ (m d : Nat) {D : Nat} {v : Nat → Int32}, VOk D v → pPath l r e num m d v i = v i
  | 0, _, _, _, _ => rfl
  | m + 1, d, D, v, V => by
    unfold pPath
    rw [path_hi hi m (d + 1) V.st, st_hi V hi]
theorem pow39 (d : Nat) : 3 ^ (2 * d) = 9 ^ d := by rw [Nat.pow_mul]
theorem path_q {l r : Option Ru} {e num : Nat} : ∀ (m d : Nat) {v : Nat → Int32}, pPath l r e num m d v = pQ l r e m (num / 9 ^ d) v
  | 0, _, _ => rfl
  | m + 1, d, v => by
    unfold pPath pQ
    have e1 : num / 3 ^ (2 * d) = num / 9 ^ d := by rw [pow39]
    have e2 : num / 3 ^ (2 * d + 1) = num / 9 ^ d / 3 := by rw [Nat.pow_succ, pow39, Nat.div_div_eq_div_mul]
    have e3 : num / 9 ^ (d + 1) = num / 9 ^ d / 9 := by rw [Nat.pow_succ, Nat.div_div_eq_div_mul]
    rw [path_q m (d + 1), e1, e2, e3]
theorem sum3_c {f g : Nat → Nat} (h : ∀ a, a < 3 → f a = g a) : sum3 f = sum3 g := by
  unfold sum3; rw [h 0 (by omega), h 1 (by omega), h 2 (by omega)]
theorem sumN_c {f g : Nat → Nat} : ∀ n, (∀ a, a < n → f a = g a) → sumN f n = sumN g n
  | 0, _ => rfl
  | n + 1, h => by unfold sumN; rw [sumN_c n (fun a ha => h a (by omega)), h n (by omega)]
theorem sumN_0 : ∀ n, sumN (fun _ => 0) n = 0
  | 0 => rfl
  | n + 1 => by unfold sumN; rw [sumN_0 n]
theorem sum9 (F : Nat → Nat) : ∀ N, sumN F (9 * N) = sum3 fun a => sum3 fun b => sumN (fun q => F (a + 3 * b + 9 * q)) N
  | 0 => rfl
  | N + 1 => by
    have ih := sum9 F N
    rw [show 9 * (N + 1) = 9 * N + 9 by omega]
    show sumN F (9 * N) + F (9 * N) + F (9 * N + 1) + F (9 * N + 2) + F (9 * N + 3) + F (9 * N + 4) + F (9 * N + 5) + F (9 * N + 6) + F (9 * N + 7) + F (9 * N + 8) = _
    have key : ∀ a b, sumN (fun q => F (a + 3 * b + 9 * q)) (N + 1) = sumN (fun q => F (a + 3 * b + 9 * q)) N + F (9 * N + (a + 3 * b)) := fun a b => by
      show _ + F (a + 3 * b + 9 * N) = _
      rw [show a + 3 * b + 9 * N = 9 * N + (a + 3 * b) by omega]
    have k00 : sumN (fun q => F (0 + 3 * 0 + 9 * q)) (N + 1) = sumN (fun q => F (0 + 3 * 0 + 9 * q)) N + F (9 * N + 0) := key 0 0
    have k01 : sumN (fun q => F (0 + 3 * 1 + 9 * q)) (N + 1) = sumN (fun q => F (0 + 3 * 1 + 9 * q)) N + F (9 * N + 3) := key 0 1
    have k02 : sumN (fun q => F (0 + 3 * 2 + 9 * q)) (N + 1) = sumN (fun q => F (0 + 3 * 2 + 9 * q)) N + F (9 * N + 6) := key 0 2
    have k10 : sumN (fun q => F (1 + 3 * 0 + 9 * q)) (N + 1) = sumN (fun q => F (1 + 3 * 0 + 9 * q)) N + F (9 * N + 1) := key 1 0
    have k11 : sumN (fun q => F (1 + 3 * 1 + 9 * q)) (N + 1) = sumN (fun q => F (1 + 3 * 1 + 9 * q)) N + F (9 * N + 4) := key 1 1
    have k12 : sumN (fun q => F (1 + 3 * 2 + 9 * q)) (N + 1) = sumN (fun q => F (1 + 3 * 2 + 9 * q)) N + F (9 * N + 7) := key 1 2
    have k20 : sumN (fun q => F (2 + 3 * 0 + 9 * q)) (N + 1) = sumN (fun q => F (2 + 3 * 0 + 9 * q)) N + F (9 * N + 2) := key 2 0
    have k21 : sumN (fun q => F (2 + 3 * 1 + 9 * q)) (N + 1) = sumN (fun q => F (2 + 3 * 1 + 9 * q)) N + F (9 * N + 5) := key 2 1
    have k22 : sumN (fun q => F (2 + 3 * 2 + 9 * q)) (N + 1) = sumN (fun q => F (2 + 3 * 2 + 9 * q)) N + F (9 * N + 8) := key 2 2
    unfold sum3 at ih ⊢
    dsimp only at ih ⊢
    rw [k00, k01, k02, k10, k11, k12, k20, k21, k22, ih]
    show _ + F (9 * N + 0) + _ + _ + _ + _ + _ + _ + _ + _ = _
    omega
theorem pQ_s {l r : Option Ru} {e m a b q : Nat} {v : Nat → Int32} (ha : a < 3) (hb : b < 3) : pQ l r e (m + 1) (a + 3 * b + 9 * q) v = pQ l r e m q (pSt l r e v a b) := by
  show pQ l r e m ((a + 3 * b + 9 * q) / 9) (pSt l r e v ((a + 3 * b + 9 * q) % 3) ((a + 3 * b + 9 * q) / 3 % 3)) = _
  rw [show (a + 3 * b + 9 * q) / 9 = q by omega, show (a + 3 * b + 9 * q) % 3 = a by omega, show (a + 3 * b + 9 * q) / 3 % 3 = b by omega]
theorem cR_sum {l r : Option Ru} {e : Nat} : ∀ (m : Nat) {v : Nat → Int32}, sumN (fun q => if ruB (pQ l r e m q v) = true then 1 else 0) (9 ^ m) = cR l r e m v
  | 0, v => by
    show 0 + (if ruB v = true then 1 else 0) = _
    unfold cR; rw [Nat.zero_add]
  | m + 1, v => by
    rw [Nat.pow_succ, Nat.mul_comm, sum9]
    unfold cR
    refine sum3_c (fun a ha => sum3_c (fun b hb => ?_))
    rw [← cR_sum m]
    exact sumN_c _ (fun q _ => by rw [pQ_s ha hb])
def dig (q j : Nat) : Nat := q / 3 ^ j % 3
theorem dig_2 {a b q j : Nat} (ha : a < 3) (hb : b < 3) (hj : 2 ≤ j) : dig (a + 3 * b + 9 * q) j = dig q (j - 2) := by
  unfold dig
  obtain ⟨i, rfl⟩ : ∃ i, j = i + 2 := ⟨j - 2, by omega⟩
  rw [show i + 2 - 2 = i by omega, Nat.pow_succ, Nat.pow_succ, Nat.mul_assoc, Nat.mul_comm (3 ^ i) (3 * 3), ← Nat.div_div_eq_div_mul, show (a + 3 * b + 9 * q) / (3 * 3) = q by omega]
theorem cS_sum {l r : Option Ru} {e : Nat} : ∀ (m : Nat) {v : Nat → Int32} {j : Nat}, j < 2 * m → sumN (fun q => if ruB (pQ l r e m q v) = true ∧ dig q j ≠ 1 then 1 else 0) (9 ^ m) = cS l r e m v j
  | 0, v, j, h => by omega
  | m + 1, v, j, h => by
    rw [Nat.pow_succ, Nat.mul_comm, sum9]
    unfold cS
    refine sum3_c (fun a ha => sum3_c (fun b hb => ?_))
    by_cases h0 : j = 0
    · rw [if_pos h0]
      have d0 : ∀ q, dig (a + 3 * b + 9 * q) j = a := fun q => by unfold dig; rw [h0, Nat.pow_zero, Nat.div_one]; omega
      by_cases a1 : a = 1
      · rw [if_pos a1]
        exact (sumN_c (g := fun _ => 0) _ (fun q _ => by rw [if_neg (fun z => z.2 (by rw [d0]; exact a1))])).trans (sumN_0 _)
      · rw [if_neg a1, ← cR_sum m]
        refine sumN_c _ (fun q _ => ?_)
        rw [pQ_s ha hb]
        by_cases ru : ruB (pQ l r e m q (pSt l r e v a b)) = true
        · rw [if_pos ru, if_pos ⟨ru, by rw [d0]; exact a1⟩]
        · rw [if_neg ru, if_neg (fun z => ru z.1)]
    · rw [if_neg h0]
      by_cases h1 : j = 1
      · rw [if_pos h1]
        have d1 : ∀ q, dig (a + 3 * b + 9 * q) j = b := fun q => by unfold dig; rw [h1, Nat.pow_one]; omega
        by_cases b1 : b = 1
        · rw [if_pos b1]
          exact (sumN_c (g := fun _ => 0) _ (fun q _ => by rw [if_neg (fun z => z.2 (by rw [d1]; exact b1))])).trans (sumN_0 _)
        · rw [if_neg b1, ← cR_sum m]
          refine sumN_c _ (fun q _ => ?_)
          rw [pQ_s ha hb]
          by_cases ru : ruB (pQ l r e m q (pSt l r e v a b)) = true
          · rw [if_pos ru, if_pos ⟨ru, by rw [d1]; exact b1⟩]
          · rw [if_neg ru, if_neg (fun z => ru z.1)]
      · rw [if_neg h1, ← cS_sum m (show j - 2 < 2 * m by omega)]
        exact sumN_c _ (fun q _ => by rw [pQ_s ha hb, dig_2 ha hb (by omega)])
theorem m_figure {num k : Nat} (hn : num < 10000) (hk : k < 100) : fm_figure (nI num) (nI k) = some (nI (dig num k) - 1) := by
  obtain ⟨z, e, h1⟩ : ∃ z : Int32 × Int32, iter (fun x : (Int32 × Int32) => fm_figure_s4 (nI k) x.1 x.2) mFuel (nI num, (0 : Int32)) = some (.inr z) ∧ z.1 = nI (num / 3 ^ k) := by
    refine iter_n (fun j (x : Int32 × Int32) => x.1 = nI (num / 3 ^ j) ∧ x.2 = nI j) k _ ?_ ?_ ⟨by rw [Nat.pow_zero, Nat.div_one], rfl⟩ (by omega)
    · rintro j ⟨q, i⟩ hj ⟨hq, hi⟩
      simp only at hq hi
      subst hq; subst hi
      have hb : num / 3 ^ j < 10000 := Nat.lt_of_le_of_lt (Nat.div_le_self _ _) hn
      refine ⟨(nI (num / 3 ^ (j + 1)), nI (j + 1)), ?_, rfl, rfl⟩
      show fm_figure_s4 (nI k) (nI (num / 3 ^ j)) (nI j) = _
      unfold fm_figure_s4
      rw [if_neg (nI_ge hj (by omega)), show nI (num / 3 ^ j) / 3 = nI (num / 3 ^ j / 3) from pk_div (d := 3) (by omega) (by omega) (by omega), Nat.div_div_eq_div_mul, Nat.pow_succ, nI_1]
    · rintro ⟨q, i⟩ ⟨hq, hi⟩
      simp only at hq hi
      subst hq; subst hi
      refine ⟨(nI (num / 3 ^ k), nI k), ?_, rfl⟩
      show fm_figure_s4 (nI k) (nI (num / 3 ^ k)) (nI k) = _
      unfold fm_figure_s4
      rw [if_pos (nI_le (Nat.le_refl _) (by omega))]
  have hb : num / 3 ^ k < 10000 := Nat.lt_of_le_of_lt (Nat.div_le_self _ _) hn
  unfold fm_figure
  rw [e]
  show fm_figure_j19 z.1 = _
  unfold fm_figure_j19
  rw [h1, show nI (num / 3 ^ k) - nI (num / 3 ^ k) / 3 * 3 = nI (num / 3 ^ k % 3) from pk_rem (d := 3) (by omega) (by omega) (by omega)]
  rfl
theorem sg_s {a e : Nat} (ha : a < 3) (he : e ≤ 9) : sm9 (sg a e) := by
  have q : (nI a - 1).toInt = (a : Int) - 1 := pk_sub_toInt (b := 1) (by omega) (by omega)
  obtain ⟨e1, l1, l2⟩ := mulT (a := nI a - 1) (b := e) (A := 1) (B := 9) (by omega) (by omega) (by omega) (by omega) (by omega) (by omega)
  unfold sg sm9
  rw [e1]; omega
theorem m_path {ms : MSt} {v : Nat → Int32} {D n e num : Nat} {x z a5 a6 a7 : Int32} {l u : Option Ru} (hv : ms.2.1 26 = v) (V : VOk D v) (hD : D + n < 2 ^ 31) (hn : n ≤ 4) (he : e ≤ 9) (hnum : num < 10000) (Rl : MqR ms x l) (Rr : MqR ms z u) : ∃ y : Int32 × MSt, iter (fun a : (Int32 × MSt) => fm_erred_s119 x z (nI n) (nI e) a5 a6 a7 (nI num) a.1 a.2) mFuel ((0 : Int32), ms) = some (.inr y) ∧ y.2.2.1 26 = pPath l u e num n 0 v ∧ MF mXd ms y.2 := by
  refine iter_w (fun j (a : Int32 × MSt) => a.1 = nI j ∧ MF mXd ms a.2 ∧ ∃ q, a.2.2.1 26 = q ∧ VOk (D + j) q ∧ pPath l u e num (n - j) j q = pPath l u e num n 0 v) n _ ?_ ⟨rfl, MF.rf, v, hv, V, rfl⟩ (by omega)
  rintro j ⟨i, s⟩ hj ⟨hi, F, q, hq, Vq, G⟩
  simp only at hi F hq
  subst hi
  rcases Nat.lt_or_ge j n with hlt | hge
  · by_cases hm : pGap q = 0
    · right
      refine ⟨(nI j, s), ?_, ?_, F⟩
      · show fm_erred_s119 x z (nI n) (nI e) a5 a6 a7 (nI num) (nI j) s = _
        unfold fm_erred_s119
        rw [if_neg (nI_ge hlt (by omega)), m_met hq, bs_, if_pos hm, if_neg (show ¬ (1 : Int32) = 0 by decide)]
      · rw [← G, pPath_met hm]; exact hq
    · left
      have st : ∀ (k : Nat) (m : MSt), k < 2 → fm_erred_s135 x z (nI n) (nI e) a5 a6 a7 (nI num) (nI j) (nI k) m = some (.inr (.inl (nI (k + 1), msa m 27 k (sg (dig num (2 * j + k)) e)))) := fun k m hk => by
        unfold fm_erred_s135
        have e2 : (2 : Int32) * nI j + nI k = nI (2 * j + k) := by show nI 2 * nI j + _ = _; rw [pk_mul, nI_add]
        rw [if_neg (show ¬ (2 : Int32) ≤ nI k from nI_ge (b := 2) hk (by omega)), e2, m_figure hnum (by omega), bs_, chk_t (inb_n hk (by omega)), nI_clamp (by omega), nI_1]
        rfl
      have t0 := st 0 s (by omega)
      have t1 := st 1 (msa s 27 0 (sg (dig num (2 * j + 0)) e)) (by omega)
      have t2 : ∀ m, fm_erred_s135 x z (nI n) (nI e) a5 a6 a7 (nI num) (nI j) (nI 2) m = some (.inr (.inr (nI 2, m))) := fun m => by unfold fm_erred_s135; rw [if_pos (by decide)]
      obtain ⟨fu, hfu⟩ := mF2
      have F1 : MF mX27 s (msa (msa s 27 0 (sg (dig num (2 * j + 0)) e)) 27 1 (sg (dig num (2 * j + 1)) e)) := (MF.msa rfl).tr (MF.msa rfl)
      have hF : MF mXd ms (msa (msa s 27 0 (sg (dig num (2 * j + 0)) e)) 27 1 (sg (dig num (2 * j + 1)) e)) := F.tr (F1.mo mX27_d)
      have d3 : ∀ k, dig num k < 3 := fun k => Nat.mod_lt _ (by omega)
      obtain ⟨s3, q3, h3, F3⟩ := m_passes (e0 := sg (dig num (2 * j + 0)) e) (e1 := sg (dig num (2 * j + 1)) e) ((F1.A 26 rfl).trans hq) Vq (by rw [msa_s, pk_un (by omega), msa_s, pk_us]) (by rw [msa_s, pk_us]) (sg_s (d3 _) he) (sg_s (d3 _) he) (Rl.fr hF rfl rfl rfl) (Rr.fr hF rfl rfl rfl)
      refine ⟨(nI (j + 1), s3), ?_, ⟨rfl, hF.tr (F3.mo mXe_d), _, h3, Vq.day, ?_⟩, hlt⟩
      · show fm_erred_s119 x z (nI n) (nI e) a5 a6 a7 (nI num) (nI j) s = _
        unfold fm_erred_s119
        rw [if_neg (nI_ge hlt (by omega)), m_met hq, bs_, if_neg hm, if_pos rfl, hfu]
        show (iter (fun x1 : (Int32 × MSt) => fm_erred_s135 x z (nI n) (nI e) a5 a6 a7 (nI num) (nI j) x1.1 x1.2) (fu + 3) (nI 0, s)).bind _ = _
        rw [iter_c t0, iter_c t1, iter_x (t2 _)]
        show fm_erred_j169 x z (nI n) (nI e) a5 a6 a7 (nI num) (nI j) _ = _
        unfold fm_erred_j169
        rw [q3, bs_, nI_1]
      · rw [← G, show n - j = (n - (j + 1)) + 1 by omega]
        show _ = pPath l u e num (n - (j + 1)) (j + 1) (pSt l u e q (num / 3 ^ (2 * j) % 3) (num / 3 ^ (2 * j + 1) % 3))
        unfold pSt
        rw [if_neg hm]
        rfl
  · have ek : j = n := by omega
    subst ek
    right
    refine ⟨(nI j, s), ?_, ?_, F⟩
    · show fm_erred_s119 x z (nI j) (nI e) a5 a6 a7 (nI num) (nI j) s = _
      unfold fm_erred_s119
      rw [if_pos (nI_le (Nat.le_refl _) (by omega))]
    · rw [← G, Nat.sub_self]; exact hq
