/-! erred: both sides -/
def fR (l r : Option Ru) (e n : Nat) (v : Nat → Int32) (q : Nat) : Nat := if ruB (pQ l r e n q v) = true then 1 else 0
def fS (l r : Option Ru) (e n : Nat) (v : Nat → Int32) (j q : Nat) : Nat := if ruB (pQ l r e n q v) = true ∧ dig q j ≠ 1 then 1 else 0
theorem sumN_le {f : Nat → Nat} (h : ∀ i, f i ≤ 1) : ∀ n, sumN f n ≤ n
  | 0 => Nat.le_refl _
  | n + 1 => by have := sumN_le h n; have := h n; show sumN f n + f n ≤ n + 1; omega
theorem fR_1 {l r : Option Ru} {e n : Nat} {v : Nat → Int32} (q : Nat) : fR l r e n v q ≤ 1 := by unfold fR; split <;> omega
theorem fS_1 {l r : Option Ru} {e n j : Nat} {v : Nat → Int32} (q : Nat) : fS l r e n v j q ≤ 1 := by unfold fS; split <;> omega
theorem p9 {n : Nat} (h : n ≤ 4) : 9 ^ n ≤ 6561 := by
  rcases (by omega : n = 0 ∨ n = 1 ∨ n = 2 ∨ n = 3 ∨ n = 4) with rfl | rfl | rfl | rfl | rfl <;> decide
theorem m_tally {ms : MSt} {n num : Nat} {x z a4 a5 a6 a7 : Int32} {g : Nat → Nat} (hn : n ≤ 4) (hnum : num < 10000) (hg : ∀ k, k < 2 * n → ms.2.1 39 k = nI (g k)) : ∃ y : Int32 × MSt, iter (fun a : (Int32 × MSt) => fm_erred_s194 x z (nI n) a4 a5 a6 a7 (nI num) a.1 a.2) mFuel ((0 : Int32), ms) = some (.inr y) ∧ MF (fun k => k == 39) ms y.2 ∧ ∀ k, k < 2 * n → y.2.2.1 39 k = nI (g k + if dig num k ≠ 1 then 1 else 0) := by
  have e2n : (2 : Int32) * nI n = nI (2 * n) := by show nI 2 * nI n = _; rw [pk_mul]
  refine iter_n (fun j (a : Int32 × MSt) => a.1 = nI j ∧ MF (fun k => k == 39) ms a.2 ∧ ∀ k, k < 2 * n → a.2.2.1 39 k = nI (g k + if k < j ∧ dig num k ≠ 1 then 1 else 0)) (2 * n) _ ?_ ?_ ⟨rfl, MF.rf, fun k hk => ?_⟩ (by omega)
  · rintro j ⟨i, s⟩ hj ⟨hi, F, G⟩
    simp only at hi F G
    subst hi
    have d3 : dig num j < 3 := Nat.mod_lt _ (by omega)
    let w : Int32 := nI (g j + if dig num j ≠ 1 then 1 else 0)
    have gj : s.2.1 39 j = nI (g j) := by rw [G j hj, if_neg (show ¬ (j < j ∧ dig num j ≠ 1) from fun q => by have := q.1; omega)]; rfl
    refine ⟨(nI (j + 1), msa s 39 j w), ?_, rfl, F.tr (MF.msa rfl), fun k hk => ?_⟩
    · show fm_erred_s194 x z (nI n) a4 a5 a6 a7 (nI num) (nI j) s = _
      unfold fm_erred_s194
      rw [e2n, if_neg (nI_ge hj (by omega)), chk_t (inb_n (by omega) (by omega)), m_figure hnum (by omega), bs_, chk_t (inb_n (by omega) (by omega)), chk_t (inb_n (by omega) (by omega)), nI_clamp (by omega), gj, nI_1]
      show _ = some (Sum.inr (Sum.inl (nI (j + 1), msa s 39 j (nI (g j + if dig num j ≠ 1 then 1 else 0)))))
      by_cases q : dig num j = 1
      · rw [if_pos ((sg0 d3).mpr q), if_neg (fun z => z q), Int32.add_zero]; rfl
      · rw [if_neg (fun z => q ((sg0 d3).mp z)), if_pos q, nI_1]
    · show (msa s 39 j (nI (g j + if dig num j ≠ 1 then 1 else 0))).2.1 39 k = _
      rw [msa_s]
      by_cases kj : k = j
      · rw [kj, pk_us]
        by_cases q : dig num j = 1
        · rw [if_neg (fun z => z q), if_neg (fun z => z.2 q)]
        · rw [if_pos q, if_pos ⟨by omega, q⟩]
      · rw [pk_un kj, G k hk]
        by_cases q : k < j ∧ dig num k ≠ 1
        · rw [if_pos q, if_pos ⟨by omega, q.2⟩]
        · rw [if_neg q, if_neg (fun z => q ⟨by omega, z.2⟩)]
  · rintro ⟨i, s⟩ ⟨hi, F, G⟩
    simp only at hi F G
    subst hi
    refine ⟨(nI (2 * n), s), ?_, F, fun k hk => ?_⟩
    · show fm_erred_s194 x z (nI n) a4 a5 a6 a7 (nI num) (nI (2 * n)) s = _
      unfold fm_erred_s194
      rw [e2n, if_pos (nI_le (Nat.le_refl _) (by omega))]
    · rw [G k hk]
      by_cases q : dig num k = 1
      · rw [if_neg (fun z => z.2 q), if_neg (fun z => z q)]
      · rw [if_pos ⟨hk, q⟩, if_pos q]
  · rw [if_neg (fun z => by have := z.1; omega)]
    exact hg k hk
theorem mX39_q : ∀ k, (k == 39) = true → mXq k = true := fun k h => by rw [beq_iff_eq] at h; subst h; rfl
theorem OnM.r39 {ms m2 m3 : MSt} (o : OnM ms m2) (F : MF (fun k => k == 39) m2 m3) : OnM ms m3 := ⟨o.1.tr (F.mo mX39_q), (F.A 26 rfl).trans o.2.1, fun i hi => by rw [F.A 31 rfl]; exact o.2.2 i hi⟩
theorem m_erredN {ms m1 : MSt} {D n e : Nat} {x z a5 : Int32} {l u : Option Ru} (om : OnM ms m1) (V : VOk D (ms.2.1 26)) (hD : D + n < 2 ^ 31) (hn : n ≤ 4) (he : e ≤ 9) (Ml : MqR ms x l) (Mr : MqR ms z u) (h0 : ∀ k, k < 2 * n → m1.2.1 39 k = nI 0) : ∃ y : Int32 × Int32 × MSt, iter (fun a : (Int32 × Int32 × MSt) => fm_erred_s109 x z (nI n) (nI e) a5 (nI (9 ^ n)) a.1 a.2.1 a.2.2) mFuel ((0 : Int32), (0 : Int32), m1) = some (.inr y) ∧ y.1 = nI (cR l u e n (ms.2.1 26)) ∧ OnM ms y.2.2 ∧ ∀ k, k < 2 * n → y.2.2.2.1 39 k = nI (cS l u e n (ms.2.1 26) k) := by
  have h9 := p9 hn
  refine iter_n (fun q (a : Int32 × Int32 × MSt) => a.1 = nI (sumN (fR l u e n (ms.2.1 26)) q) ∧ a.2.1 = nI q ∧ OnM ms a.2.2 ∧ ∀ k, k < 2 * n → a.2.2.2.1 39 k = nI (sumN (fS l u e n (ms.2.1 26) k) q)) (9 ^ n) _ ?_ ?_ ⟨rfl, rfl, om, h0⟩ (by omega)
  · rintro q ⟨c, i, s⟩ hq ⟨hc, hi, o, G⟩
    simp only at hc hi o G
    subst hc; subst hi
    obtain ⟨y, f6, S6, F6⟩ := m_path (a5 := a5) (a6 := nI (9 ^ n)) (a7 := nI (sumN (fR l u e n (ms.2.1 26)) q)) (n := n) (e := e) (num := q) o.2.1 V hD hn he (by omega) (o.mq Ml) (o.mq Mr)
    have VE := V.path (l := l) (r := u) (e := e) (num := q) n 0
    have eq : pPath l u e q n 0 (ms.2.1 26) = pQ l u e n q (ms.2.1 26) := by rw [path_q, Nat.pow_zero, Nat.div_one]
    have G6 : ∀ k, k < 2 * n → y.2.2.1 39 k = nI (sumN (fS l u e n (ms.2.1 26) k) q) := fun k hk => by rw [F6.A 39 rfl]; exact G k hk
    have ru := m_ruins (ms := y.2) S6 VE
    have head : fm_erred_s109 x z (nI n) (nI e) a5 (nI (9 ^ n)) (nI (sumN (fR l u e n (ms.2.1 26)) q)) (nI q) s = (if (if ruB (pPath l u e q n 0 (ms.2.1 26)) = true then (1 : Int32) else 0) = 0 then (fm_putsBack y.2).bind fun x23 => some (.inr (.inl (nI (sumN (fR l u e n (ms.2.1 26)) q), (nI q + 1), x23))) else (iter (fun x1 : (Int32 × MSt) => fm_erred_s194 x z (nI n) (nI e) a5 (nI (9 ^ n)) (nI (sumN (fR l u e n (ms.2.1 26)) q) + 1) (nI q) x1.1 x1.2) mFuel ((0 : Int32), y.2)).bind (Sum.elim (fun o : MSt × Int32 => (some (.inl o) : Option ((MSt × Int32) ⊕ ((Int32 × Int32 × MSt) ⊕ (Int32 × Int32 × MSt))))) (fun x1 : (Int32 × MSt) => fm_erred_j233 x z (nI n) (nI e) a5 (nI (9 ^ n)) (nI (sumN (fR l u e n (ms.2.1 26)) q) + 1) (nI q) x1.2))) := by
      unfold fm_erred_s109
      rw [if_neg (nI_ge hq (by omega)), f6]
      show fm_erred_j181 x z (nI n) (nI e) a5 (nI (9 ^ n)) (nI (sumN (fR l u e n (ms.2.1 26)) q)) (nI q) y.2 = _
      unfold fm_erred_j181
      rw [ru, bs_]
    show ∃ y, fm_erred_s109 x z (nI n) (nI e) a5 (nI (9 ^ n)) (nI (sumN (fR l u e n (ms.2.1 26)) q)) (nI q) s = _ ∧ _
    rw [head, nI_1]
    have sR1 : sumN (fR l u e n (ms.2.1 26)) (q + 1) = sumN (fR l u e n (ms.2.1 26)) q + fR l u e n (ms.2.1 26) q := rfl
    have sS1 : ∀ k, sumN (fS l u e n (ms.2.1 26) k) (q + 1) = sumN (fS l u e n (ms.2.1 26) k) q + fS l u e n (ms.2.1 26) k q := fun _ => rfl
    by_cases hb : ruB (pPath l u e q n 0 (ms.2.1 26)) = true
    · rw [if_pos hb, if_neg (show ¬ (1 : Int32) = 0 by decide)]
      rw [eq] at hb
      obtain ⟨y7, f7, F7, G7⟩ := m_tally (x := x) (z := z) (a4 := nI e) (a5 := a5) (a6 := nI (9 ^ n)) (a7 := nI (sumN (fR l u e n (ms.2.1 26)) q) + 1) (num := q) hn (by omega) G6
      obtain ⟨m8, f8, h8, G8⟩ := m_putv (ms := y7.2) (v := ms.2.1 26) (fun i hi => by rw [F7.A 31 rfl, F6.A 31 rfl]; exact o.2.2 i hi) (fun i hi => by rw [F7.A 26 rfl, S6]; exact path_hi hi n 0 V)
      have o8 : OnM ms m8 := ⟨((o.1.tr (F6.mo mXd_q)).tr (F7.mo mX39_q)).tr (G8.mo mX26_q), h8, fun i hi => by rw [G8.A 31 rfl, F7.A 31 rfl, F6.A 31 rfl]; exact o.2.2 i hi⟩
      refine ⟨(nI (sumN (fR l u e n (ms.2.1 26)) (q + 1)), nI (q + 1), m8), ?_, rfl, rfl, o8, fun k hk => ?_⟩
      · rw [f7]
        show fm_erred_j233 x z (nI n) (nI e) a5 (nI (9 ^ n)) (nI (sumN (fR l u e n (ms.2.1 26)) q) + 1) (nI q) y7.2 = _
        unfold fm_erred_j233
        rw [f8, bs_, nI_1, nI_1, sR1]
        unfold fR
        rw [if_pos hb]
      · show m8.2.1 39 k = _
        rw [G8.A 39 rfl, G7 k hk, sS1]
        unfold fS
        by_cases d : dig q k = 1
        · rw [if_neg (fun z => z d), if_neg (fun z => z.2 d)]
        · rw [if_pos d, if_pos ⟨hb, d⟩]
    · rw [if_neg hb, if_pos rfl]
      rw [eq] at hb
      obtain ⟨m7, f7, om7⟩ := o.back (D := 0) F6 (fun i hi => by rw [S6]; exact path_hi hi n 0 V)
      obtain ⟨m7', f7', h7', G7'⟩ := m_putv (ms := y.2) (v := ms.2.1 26) (fun i hi => by rw [F6.A 31 rfl]; exact o.2.2 i hi) (fun i hi => by rw [S6]; exact path_hi hi n 0 V)
      have e7 : m7 = m7' := Option.some.inj (f7.symm.trans f7')
      subst e7
      refine ⟨(nI (sumN (fR l u e n (ms.2.1 26)) (q + 1)), nI (q + 1), m7), ?_, rfl, rfl, om7, fun k hk => ?_⟩
      · rw [f7, bs_, sR1]
        unfold fR
        rw [if_neg hb]; rfl
      · show m7.2.1 39 k = _
        rw [G7'.A 39 rfl, G6 k hk, sS1]
        unfold fS
        rw [if_neg (fun z => hb z.1)]; rfl
  · rintro ⟨c, i, s⟩ ⟨hc, hi, o, G⟩
    simp only at hc hi o G
    subst hc; subst hi
    refine ⟨(nI (sumN (fR l u e n (ms.2.1 26)) (9 ^ n)), nI (9 ^ n), s), ?_, ?_, o, fun k hk => ?_⟩
    · show fm_erred_s109 x z (nI n) (nI e) a5 (nI (9 ^ n)) (nI (sumN (fR l u e n (ms.2.1 26)) (9 ^ n))) (nI (9 ^ n)) s = _
      unfold fm_erred_s109
      rw [if_pos (nI_le (Nat.le_refl _) (by omega))]
    · exact congrArg nI (cR_sum n)
    · rw [G k hk]; exact congrArg nI (cS_sum n hk)
theorem h_hold {hx r D n e : Nat} {st : HSt} {v : Nat → Int32} {ql qr : Option Nat} {l u : Option Ru} (w : Wf st) (h : Sh hx st) (I : ImR st (hx + 3) r v) (V : VOk D v) (hv : v 0 ≠ 0) (Ql : RqR st ql l) (Qr : RqR st qr u) (hn : n ≤ 4) (he : e ≤ 9) (hD : D ≤ 10000) : ∃ st2, fh_X2_hold (hx + 106) (some (hx + 3)) ql qr (nI n) (nI e) st = some st2 ∧ Fr (fun b => Wq hx 0 b ∨ Sx (hx + 33) b) st st2 ∧ gI st2 200 (hx + 106) = nI (cR l u e n v) ∧ ∀ i, i < 8 → gA st2 (hx + 109) i = nI (cS l u e n v i) := by
  let s1 := sI (sI (sI (sR (sR (sR st 206 (hx + 106) (some (hx + 3))) 207 (hx + 106) ql) 208 (hx + 106) qr) 209 (hx + 106) (nI n)) 210 (hx + 106) (nI e)) 200 (hx + 106) 0
  have F1 : Fr (fun b => b = hx + 106) st s1 := (((((Fr.sR (X := fun b => b = hx + 106) rfl rfl).tr (Fr.sR (X := fun b => b = hx + 106) rfl rfl)).tr (Fr.sR (X := fun b => b = hx + 106) rfl rfl)).tr (Fr.sI (X := fun b => b = hx + 106) rfl)).tr (Fr.sI (X := fun b => b = hx + 106) rfl)).tr (Fr.sI (X := fun b => b = hx + 106) rfl)
  have h1 := h.fr F1
  have w1 := F1.Wf w
  have k106 : gK st (hx + 106) = 3 := h.k (by omega) rfl
  have k109 : gK s1 (hx + 109) = 22 := h1.k (by omega) rfl
  obtain ⟨r201, r202, r203, l107, r204, l108, r205, l109⟩ := h1.2.2.2.2.2.2
  obtain ⟨s2, e2, F2, g2⟩ := h_fill (x := 0) k109 l109 (by omega)
  have h2 := h1.fr F2
  have w2 := F2.Wf w1
  have FA : Fr (Wq hx 0) st s2 := (F1.mo (fun b q => by unfold Wq; omega)).tr (F2.mo (fun b q => by unfold Wq; omega))
  have outr : ∀ b j, gK st b = 7 → j < 5 → ¬ Wq hx 0 (b + j) := fun b j hb hj => wq_rule w h hb hj
  have S2 : SpR s2 (hx + 3 + 1) r v := I.1.fr V FA (fun q => by have := wq_in q; omega) (fun q => by have := wq_in q; omega) (fun q => by have := wq_in q; omega) (fun q => by have := wq_in q; omega) (fun j hj => wq_riv w h I.1.2.1.1 hj)
  obtain ⟨s3, e3, S3, F3⟩ := h_become (a := hx + 33) (b := hx + 3 + 1) w2 (sp_k0 h2) S2 V (by omega)
  have h3 := h2.fr F3
  have n106 : ¬ Sx (hx + 33) (hx + 106) := by unfold Sx; omega
  have FB : Fr (fun b => Wq hx 0 b ∨ Sx (hx + 33) b) st s3 := (FA.mo (fun _ q => Or.inl q)).tr (F3.mo (fun _ q => Or.inr q))
  have g106 : ∀ f, gI s3 f (hx + 106) = gI s1 f (hx + 106) := fun f => (F3.I f n106).trans (F2.I f (by omega))
  have gr106 : ∀ f, gR s3 f (hx + 106) = gR s1 f (hx + 106) := fun f => (F3.R' f n106).trans (F2.R' f (by omega))
  have outr3 : ∀ b j, gK st b = 7 → j < 5 → ¬ (Wq hx 0 (b + j) ∨ Sx (hx + 33) (b + j)) := fun b j hb hj q => by
    rcases q with q | q
    · exact outr b j hb hj q
    · have := blk7 w h hb; unfold Sx at q; omega
  have i209 : gI s1 209 (hx + 106) = nI n := by
    show gI (sI (sI (sI (sR (sR (sR st 206 (hx + 106) (some (hx + 3))) 207 (hx + 106) ql) 208 (hx + 106) qr) 209 (hx + 106) (nI n)) 210 (hx + 106) (nI e)) 200 (hx + 106) 0) 209 (hx + 106) = _
    rw [gI_sI_ne (Or.inl (by omega)), gI_sI_ne (Or.inl (by omega)), gI_sI]
  have i210 : gI s1 210 (hx + 106) = nI e := by
    show gI (sI (sI (sI (sR (sR (sR st 206 (hx + 106) (some (hx + 3))) 207 (hx + 106) ql) 208 (hx + 106) qr) 209 (hx + 106) (nI n)) 210 (hx + 106) (nI e)) 200 (hx + 106) 0) 210 (hx + 106) = _
    rw [gI_sI_ne (Or.inl (by omega)), gI_sI]
  have j206 : gR s1 206 (hx + 106) = some (hx + 3) := by
    show gR (sR (sR (sR st 206 (hx + 106) (some (hx + 3))) 207 (hx + 106) ql) 208 (hx + 106) qr) 206 (hx + 106) = _
    rw [sR_R_ne (Or.inr (by omega)), sR_R_ne (Or.inr (by omega)), sR_R]
  have j207 : gR s1 207 (hx + 106) = ql := by
    show gR (sR (sR (sR st 206 (hx + 106) (some (hx + 3))) 207 (hx + 106) ql) 208 (hx + 106) qr) 207 (hx + 106) = _
    rw [sR_R_ne (Or.inr (by omega)), sR_R]
  have j208 : gR s1 208 (hx + 106) = qr := by
    show gR (sR (sR (sR st 206 (hx + 106) (some (hx + 3))) 207 (hx + 106) ql) 208 (hx + 106) qr) 208 (hx + 106) = _
    rw [sR_R]
  have Q : IqR hx s3 n e ql qr l u v := by
    refine ⟨F3.Wf w2, h3, Rq_fr Ql FB outr3, Rq_fr Qr FB outr3, ⟨(g106 209).trans i209, (g106 210).trans i210, (gr106 206).trans j206, (gr106 207).trans j207, (gr106 208).trans j208⟩, ?_⟩
    have o3 : ¬ (Wq hx 0 (hx + 3) ∨ Sx (hx + 33) (hx + 3)) := fun q => by
      rcases q with q | q
      · have := wq_in q; omega
      · unfold Sx at q; omega
    have o15 : ¬ (Wq hx 0 (hx + 3 + 12) ∨ Sx (hx + 33) (hx + 3 + 12)) := fun q => by
      rcases q with q | q
      · have := wq_in q; omega
      · unfold Sx at q; omega
    have := I.2.2.2.2
    unfold RnR at *
    rw [FB.I 802 o3, FB.A o15]; exact this
  have E3 : ∀ i, i < 8 → gA s3 (hx + 109) i = nI 0 := fun i hi => by rw [F3.A (by unfold Sx; omega)]; exact g2 i hi
  obtain ⟨s4, e4, Q4, F4, -, -, R4, E4⟩ := h_deep (r := r) hn he hv n 0 (by omega) (5 - n) D 0 (fun _ => 0) (fun _ => 0) v s3 (by omega) Q S3 V KpR.rf (fun i hi => by omega) ((g106 200).trans (gI_sI _ _ _ _)) E3
  refine ⟨s4, ?_, FB.tr (F4.mo (fun _ q => Or.inl q)), ?_, fun i hi => ?_⟩
  · have emin : (if (4 : Int32) < nI n then (4 : Int32) else nI n) = nI n := by rw [if_neg (show ¬ (4 : Int32) < nI n from nI_nlt (a := 4) (by omega) (by omega))]
    unfold fh_X2_hold
    rw [chk_t (isk_t k106), emin, bs_]
    show ((fh_J7_fill_53178 (gR s1 205 (hx + 106)) 0 s1).bind _) = _
    rw [r205, e2, bs_, chk_t (isk_t (h2.k (j := 106) (c := 3) (by omega) rfl)), h2.2.2.2.2.2.2.2.1, dr_of (h2.k (j := 31) (c := 27) (by omega) rfl), bs_, sp_L h2, chk_t (by decide), dr_of (k3 h2), bs_, cln0, sp_q0 h2, dr_of (sp_k0 h2), bs_, r800 w2 h2, e3, bs_, chk_t (isk_t (h3.k (j := 106) (c := 3) (by omega) rfl))]
    rw [show n + 1 + (5 - n) = 6 by omega] at e4
    show ((fh_X2_goDeeper 6 (hx + 106) (nI 0) s3).bind _) = _
    rw [e4, bs_]
  · rw [R4, Nat.zero_add]
  · rw [E4 i hi]
    unfold aE
    rw [if_neg (by omega), Nat.mul_zero, Nat.sub_zero, Nat.zero_add]
theorem sim_erred : Sim5 Rel fh_X11_erred fm_erred := sim5_of (fun hx st ms a b n e wh R => by
  have R0 := R
  obtain ⟨t, nr, r, w, hi, h, p, T, U, I, V, J⟩ := R
  unfold fh_X11_erred fm_erred
  rw [chk_t (st_k h), h_ask w h I.1 U.1, bs_, m_ask rfl U.2.1, bs_]
  dsimp only
  rcases ca_c (v := ms.2.1 26) (a := a) (b := b) U.2.2.1 with e0 | ⟨e0, hr, ha, hb⟩
  · rw [e0]
    exact ⟨(st, -1), (ms, -1), rfl, rfl, rfl, R0⟩
  rw [e0, if_neg (show ¬ (1 : Int32) = 0 by decide), if_neg (show ¬ (1 : Int32) = 0 by decide), h_in (L := 1) (U := 4) (by decide) (by decide), bs_, m_in (L := 1) (U := 4) (by decide) (by decide), bs_]
  dsimp only
  rcases wI_c n 1 4 with ⟨e1, l1⟩ | ⟨e1, l1, l2⟩
  · rw [e1]
    exact ⟨(st, -1), (ms, -1), rfl, rfl, rfl, R0⟩
  rw [e1, if_neg (show ¬ (1 : Int32) = 0 by decide), if_neg (show ¬ (1 : Int32) = 0 by decide), h_in (L := 1) (U := 9) (by decide) (by decide), bs_, m_in (L := 1) (U := 9) (by decide) (by decide), bs_]
  dsimp only
  rcases wI_c e 1 9 with ⟨e2, l3⟩ | ⟨e2, l3, l4⟩
  · rw [e2]
    exact ⟨(st, -1), (ms, -1), rfl, rfl, rfl, R0⟩
  obtain ⟨n, hn, rfl⟩ := n_of (a := n) (U := 4) (by omega) l2
  obtain ⟨e, he, rfl⟩ := n_of (a := e) (U := 9) (by omega) l4
  have hn1 : 1 ≤ n := by rw [nI_toInt (by omega)] at l1; omega
  have e2n : (2 : Int32) * nI n = nI (2 * n) := by show nI 2 * nI n = _; rw [pk_mul]
  rw [e2, if_neg (show ¬ (1 : Int32) = 0 by decide), if_neg (show ¬ (1 : Int32) = 0 by decide), e2n, h_in (L := 0) (U := (2 * n : Nat)) (by decide) (nI_toInt (by omega)), bs_, m_in (L := 0) (U := (2 * n : Nat)) (by decide) (by rw [l64, nI_toInt (by omega)]), bs_]
  dsimp only
  rcases wI_c wh 0 (2 * n : Nat) with ⟨e3, l5⟩ | ⟨e3, l5, l6⟩
  · rw [e3]
    exact ⟨(st, -1), (ms, -1), rfl, rfl, rfl, R0⟩
  obtain ⟨wh, hwh, rfl⟩ := n_of (a := wh) (U := 2 * n) l5 l6
  have h9 := p9 hn
  have hv0 : ms.2.1 26 0 ≠ 0 := fun q => hr (by rw [q]; decide)
  obtain ⟨ql, l, Ql, Ml, el⟩ := ask_rule w h p U ha
  obtain ⟨qr, u, Qr, Mr, er⟩ := ask_rule w h p U hb
  rw [e3, if_neg (show ¬ (1 : Int32) = 0 by decide), if_neg (show ¬ (1 : Int32) = 0 by decide), chk_t (st_k h), r1109 h, dr_of (k27 h), bs_, el st Fr.rf, bs_]
  dsimp only
  rw [chk_t (st_k h), er st Fr.rf, bs_]
  dsimp only
  have k106 : gK st (hx + 106) = 3 := h.k (by omega) rfl
  rw [h.2.2.2.2.1.2.2.2.2.2.2.2.2.2.2.1, dr_of k106, bs_, r1104 h]
  obtain ⟨s2, f2, F2, R2, E2⟩ := h_hold (e := e) w h I V hv0 Ql Qr hn he (by omega)
  have h2 := h.fr F2
  have ow : OnW hx st s2 := by
    refine ⟨F2.mo (fun b q => ?_), F2.R' 10 (fun q => ?_)⟩
    · rcases q with (⟨i, i1, i2, i3⟩ | q) | q
      · exact Or.inr (Or.inr (Or.inr (Or.inr (Or.inl ⟨i, i2, i3⟩))))
      · unfold Sc; omega
      · exact Or.inr (Or.inr (Or.inr (Or.inr (Or.inl ⟨0, by omega, q⟩))))
    · rcases q with q | q
      · have := wq_in q; omega
      · unfold Sx at q; omega
  rw [f2, bs_]
  obtain ⟨z, ez, z1, z2⟩ : ∃ z : Int32 × Int32 × MSt, iter (fun x : (Int32 × Int32 × MSt) => fm_erred_s56 a b (nI n) (nI e) (nI wh) x.1 x.2.1 x.2.2) mFuel ((1 : Int32), (0 : Int32), ms) = some (.inr z) ∧ z.1 = nI (9 ^ n) ∧ z.2.2 = ms := by
    refine iter_n (fun j (x : Int32 × Int32 × MSt) => x.1 = nI (9 ^ j) ∧ x.2.1 = nI j ∧ x.2.2 = ms) n _ ?_ ?_ ⟨rfl, rfl, rfl⟩ (by omega)
    · rintro j ⟨q, i, s'⟩ hj ⟨hq, hi, hs'⟩
      simp only at hq hi hs'
      subst hq; subst hi; subst hs'
      refine ⟨(nI (9 ^ (j + 1)), nI (j + 1), s'), ?_, rfl, rfl, rfl⟩
      show fm_erred_s56 a b (nI n) (nI e) (nI wh) (nI (9 ^ j)) (nI j) s' = _
      unfold fm_erred_s56
      rw [if_neg (nI_ge hj (by omega)), nI_1, show nI (9 ^ j) * 9 = nI (9 ^ j * 9) from pk_mul _ 9, Nat.pow_succ]
    · rintro ⟨q, i, s'⟩ ⟨hq, hi, hs'⟩
      simp only at hq hi hs'
      subst hq; subst hi; subst hs'
      refine ⟨(nI (9 ^ n), nI n, s'), ?_, rfl, rfl⟩
      show fm_erred_s56 a b (nI n) (nI e) (nI wh) (nI (9 ^ n)) (nI n) s' = _
      unfold fm_erred_s56
      rw [if_pos (nI_le (Nat.le_refl _) (by omega))]
  obtain ⟨y, ey, Fy, gy⟩ : ∃ y : Int32 × MSt, iter (fun x : (Int32 × MSt) => fm_erred_s81 a b (nI n) (nI e) (nI wh) (nI (9 ^ n)) (0 : Int32) x.1 x.2) mFuel ((0 : Int32), ms) = some (.inr y) ∧ MF (fun k => k == 39) ms y.2 ∧ ∀ k, k < 8 → y.2.2.1 39 k = nI 0 := by
    refine iter_n (fun j (x : Int32 × MSt) => x.1 = nI j ∧ MF (fun k => k == 39) ms x.2 ∧ ∀ k, k < j → x.2.2.1 39 k = nI 0) 8 _ ?_ ?_ ⟨rfl, MF.rf, fun _ q => absurd q (Nat.not_lt_zero _)⟩ (by omega)
    · rintro j ⟨i, s'⟩ hj ⟨hi, F, G⟩
      simp only at hi F G
      subst hi
      refine ⟨(nI (j + 1), msa s' 39 j 0), ?_, rfl, F.tr (MF.msa rfl), fun k hk => ?_⟩
      · show fm_erred_s81 a b (nI n) (nI e) (nI wh) (nI (9 ^ n)) 0 (nI j) s' = _
        unfold fm_erred_s81
        rw [if_neg (show ¬ (8 : Int32) ≤ nI j from nI_ge (b := 8) hj (by omega)), chk_t (inb_n hj (by omega)), nI_clamp (by omega), nI_1]
      · show (msa s' 39 j 0).2.1 39 k = _
        rw [msa_s]
        by_cases kj : k = j
        · rw [kj, pk_us]; rfl
        · rw [pk_un kj]; exact G k (by omega)
    · rintro ⟨i, s'⟩ ⟨hi, F, G⟩
      simp only at hi F G
      subst hi
      refine ⟨(nI 8, s'), ?_, F, G⟩
      show fm_erred_s81 a b (nI n) (nI e) (nI wh) (nI (9 ^ n)) 0 (nI 8) s' = _
      unfold fm_erred_s81
      rw [if_pos (by decide)]
  obtain ⟨m1, g1, O1⟩ := on_m (ms := y.2)
  have O1' : OnM ms m1 := ⟨(Fy.mo mX39_q).tr O1.1, O1.2.1.trans (Fy.A 26 rfl), fun i hi => by rw [O1.2.2 i hi, Fy.A 26 rfl]⟩
  have z39 : ∀ k, k < 2 * n → m1.2.1 39 k = nI 0 := fun k hk => by
    obtain ⟨m1', g1', K1, G1⟩ := m_keeps (ms := y.2)
    have e7 : m1 = m1' := Option.some.inj (g1.symm.trans g1')
    subst e7
    rw [G1.A 39 rfl]; exact gy k (by omega)
  obtain ⟨y3, f3, y31, o3, y33⟩ := m_erredN (a5 := nI wh) O1' V (by omega) hn he Ml Mr z39
  have mm : (iter (fun x : (Int32 × Int32 × MSt) => fm_erred_s56 a b (nI n) (nI e) (nI wh) x.1 x.2.1 x.2.2) mFuel ((1 : Int32), (0 : Int32), ms)).bind (Sum.elim (fun o : MSt × Int32 => (some o : Option (MSt × Int32))) (fun x : (Int32 × Int32 × MSt) => fm_erred_j75 a b (nI n) (nI e) (nI wh) x.1 x.2.2)) = fm_erred_j243 (nI wh) y3.1 y3.2.2 := by
    rw [ez]
    show fm_erred_j75 a b (nI n) (nI e) (nI wh) z.1 z.2.2 = _
    rw [z1, z2]
    unfold fm_erred_j75
    rw [ey]
    show fm_erred_j102 a b (nI n) (nI e) (nI wh) (nI (9 ^ n)) 0 y.2 = _
    unfold fm_erred_j102
    rw [g1, bs_, f3]
    rfl
  rw [mm, y31]
  have k106' : gK s2 (hx + 106) = 3 := h2.k (by omega) rfl
  have Rf := R0.on ow o3
  unfold fm_erred_j243
  have hcR : cR l u e n (ms.2.1 26) ≤ 6561 := by rw [← cR_sum]; exact Nat.le_trans (sumN_le fR_1 _) h9
  rcases Nat.eq_zero_or_pos wh with q0 | q0
  · subst q0
    rw [if_pos (show nI 0 = 0 from rfl), if_pos (show nI 0 = 0 from rfl), chk_t (isk_t k106'), R2]
    exact ⟨_, _, rfl, rfl, rfl, Rf⟩
  · obtain ⟨k, rfl⟩ : ∃ k, wh = k + 1 := ⟨wh - 1, by omega⟩
    obtain ⟨-, -, -, -, -, -, r205, l109⟩ := h2.2.2.2.2.2.2
    have hcS : cS l u e n (ms.2.1 26) k ≤ 6561 := by rw [← cS_sum n (show k < 2 * n by omega)]; exact Nat.le_trans (sumN_le fS_1 _) h9
    have vd : fh_X2_verdict (hx + 106) (nI k) s2 = some (s2, if nI (cS l u e n (ms.2.1 26) k) = 0 then 0 else if nI (cS l u e n (ms.2.1 26) k) = nI (cR l u e n (ms.2.1 26)) then 2 else 1) := by
      unfold fh_X2_verdict fh_X2_verdict_j23
      rw [if_neg (nI_pos (by omega)), chk_t (isk_t k106'), r205, dr_of (h2.k (j := 109) (c := 22) (by omega) rfl), bs_, l109, if_neg (nI_ge (by omega) (by omega)), chk_t (inb_n (by omega) (by omega)), nI_clamp (by omega), E2 k (by omega), chk_t (isk_t k106'), R2]
      split
      · rfl
      · split <;> rfl
    rw [if_neg (nI_ne0 (by omega) (by omega)), if_neg (nI_ne0 (by omega) (by omega)), chk_t (isk_t k106'), nI_pred, vd, bs_, chk_t (inb_n (by omega) (by omega)), nI_clamp (by omega), y33 k (by omega)]
    refine ⟨(s2, if nI (cS l u e n (ms.2.1 26) k) = 0 then 0 else if nI (cS l u e n (ms.2.1 26) k) = nI (cR l u e n (ms.2.1 26)) then 2 else 1), (y3.2.2, if nI (cS l u e n (ms.2.1 26) k) = 0 then 0 else if nI (cS l u e n (ms.2.1 26) k) = nI (cR l u e n (ms.2.1 26)) then 2 else 1), rfl, ?_, rfl, Rf⟩
    split
    · rfl
    · split <;> rfl)
