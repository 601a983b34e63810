/-! questions: rules told by ints; what is put back; spring, ahead -/
theorem act_hi {D s i : Nat} {v : Nat → Int32} {p : Int32} (V : VOk D v) (hs : s < 2) (hi : 286 ≤ i) : pAct v s p i = v i := by
  unfold pAct
  split
  · unfold pTake; exact pk_un (by omega)
  · split
    · rfl
    · split
      · rfl
      · rename_i hg
        obtain ⟨w0, y, d, sp, fl, h0, h6, h1, h2, h4, hw0, hy, -⟩ := V
        have hyw : y 0 + y 1 < w0 := by
          rcases Nat.lt_or_ge (y 0 + y 1) w0 with q | q
          · exact q
          · exfalso; apply hg; rw [pGap_n h0 (h6 0 (by omega)) (h6 1 (by omega)) hy, show w0 - y 0 - y 1 = 0 by omega]; decide
        have hys : y s < 40 := by rcases (by omega : s = 0 ∨ s = 1) with rfl | rfl <;> omega
        unfold pBuild
        rw [yN_e (h6 s hs) (by omega), pk_un (by omega), pk_un (by omega), pk_un (by omega)]
theorem fld_hi {v : Nat → Int32} {i : Nat} (hi : 286 ≤ i) : ∀ f, pFld v f i = v i
  | 0 => rfl
  | f + 1 => by
    unfold pFld
    split
    · unfold pTake; rw [pk_un (by omega), pk_un (by omega)]; exact fld_hi hi f
    · exact fld_hi hi f
theorem end_hi {v : Nat → Int32} {i : Nat} (hi : 286 ≤ i) : pEnd v i = v i := by
  unfold pEnd; rw [pk_un (by omega)]; exact fld_hi hi _
theorem both_hi {D i : Nat} {v : Nat → Int32} {l r : Option Ru} {e0 e1 : Int32} (V : VOk D v) (hi : 286 ≤ i) : pBoth v l r e0 e1 i = v i := by
  unfold pBoth; rw [act_hi (V.act (by omega) (plan_ok V)) (by omega) hi, act_hi V (by omega) hi]
theorem day_hi {D i : Nat} {v : Nat → Int32} {l r : Option Ru} {e0 e1 : Int32} (V : VOk D v) (hi : 286 ≤ i) : pDay v l r e0 e1 i = v i := by
  unfold pDay; rw [end_hi hi, both_hi V hi]
theorem go_hi {l r : Option Ru} {i : Nat} (hi : 286 ≤ i) : ∀ (n : Nat) {D : Nat} {v : Nat → Int32}, VOk D v → pGo l r n v i = v i
  | 0, _, _, _ => rfl
  | n + 1, D, v, V => by
    unfold pGo
    split
    · rfl
    · rw [go_hi hi n V.day, day_hi V hi]
/-- all of said is put back -/
theorem m_back' {ms : MSt} : ∃ ms2, fm_putsBack ms = some ms2 ∧ (∀ i, i < 286 → ms2.2.1 26 i = ms.2.1 31 i) ∧ (∀ i, 286 ≤ i → ms2.2.1 26 i = ms.2.1 26 i) ∧ MF (fun k => k == 26) ms ms2 := by
  obtain ⟨y, e, h1, h2, F⟩ : ∃ y : Int32 × MSt, iter (fun a : (Int32 × MSt) => fm_putsBack_s2 a.1 a.2) mFuel ((0 : Int32), ms) = some (.inr y) ∧ (∀ i, i < 286 → y.2.2.1 26 i = ms.2.1 31 i) ∧ (∀ i, 286 ≤ i → y.2.2.1 26 i = ms.2.1 26 i) ∧ MF (fun k => k == 26) ms y.2 := by
    refine iter_n (fun k (a : Int32 × MSt) => a.1 = nI k ∧ (∀ i, i < k → a.2.2.1 26 i = ms.2.1 31 i) ∧ (∀ i, 286 ≤ i → a.2.2.1 26 i = ms.2.1 26 i) ∧ MF (fun k => k == 26) ms a.2) 286 _ ?_ ?_ ⟨rfl, fun _ q => absurd q (Nat.not_lt_zero _), fun _ _ => rfl, MF.rf⟩ (by omega)
    · rintro k ⟨i, s⟩ hk ⟨hi, h, h2, F⟩
      simp only at hi h h2 F
      subst hi
      refine ⟨(nI (k + 1), msa s 26 k (s.2.1 31 k)), ?_, rfl, fun i hi => ?_, fun i hi => ?_, F.tr (MF.msa rfl)⟩
      · show fm_putsBack_s2 (nI k) s = _
        unfold fm_putsBack_s2
        rw [if_neg (show ¬ (286 : Int32) ≤ nI k from nI_ge (b := 286) hk (by omega)), chk_t (inb_n hk (by omega)), chk_t (inb_n hk (by omega)), nI_clamp (by omega), nI_1]
      · show (msa s 26 k (s.2.1 31 k)).2.1 26 i = _
        rw [msa_s, F.A 31 rfl]
        by_cases q : i = k
        · rw [q, pk_us]
        · rw [pk_un q]; exact h i (by omega)
      · show (msa s 26 k (s.2.1 31 k)).2.1 26 i = _
        rw [msa_s, pk_un (by omega)]; exact h2 i hi
    · rintro ⟨i, s⟩ ⟨hi, h, h2, F⟩
      simp only at hi h h2 F
      subst hi
      refine ⟨(nI 286, s), ?_, h, h2, F⟩
      show fm_putsBack_s2 (nI 286) s = _
      unfold fm_putsBack_s2
      rw [if_pos (by decide)]
  refine ⟨y.2, ?_, h1, h2, F⟩
  unfold fm_putsBack
  rw [e]; rfl
theorem mX26_q : ∀ k, (k == 26) = true → mXq k = true := fun k h => by rw [beq_iff_eq] at h; subst h; rfl
theorem mX31_q : ∀ k, (k == 31) = true → mXq k = true := fun k h => by rw [beq_iff_eq] at h; subst h; rfl
theorem mXd_q : ∀ k, mXd k = true → mXq k = true := fun k h => by
  unfold mXd at h; unfold mXq; simp only [Bool.or_eq_true, Bool.and_eq_true, decide_eq_true_eq, beq_iff_eq] at h ⊢; omega
theorem m_putv {ms : MSt} {v : Nat → Int32} (h31 : ∀ i, i < 286 → ms.2.1 31 i = v i) (hhi : ∀ i, 286 ≤ i → ms.2.1 26 i = v i) : ∃ ms2, fm_putsBack ms = some ms2 ∧ ms2.2.1 26 = v ∧ MF (fun k => k == 26) ms ms2 := by
  obtain ⟨ms2, e, h1, h2, F⟩ := m_back' (ms := ms)
  refine ⟨ms2, e, ?_, F⟩
  funext i
  rcases Nat.lt_or_ge i 286 with q | q
  · rw [h1 i q, h31 i q]
  · rw [h2 i q, hhi i q]
/-! rules -/
def rl (nr : Nat) (a : Int32) : Int32 := if a < -1 then 0 else if nI nr ≤ a then 0 else 1
theorem rl_c {nr : Nat} (hn : nr ≤ 6) (a : Int32) : rl nr a = 0 ∨ (rl nr a = 1 ∧ (a = -1 ∨ ∃ k, k < nr ∧ a = nI k)) := by
  unfold rl
  by_cases h1 : a < -1
  · left; rw [if_pos h1]
  · rw [if_neg h1]
    by_cases h2 : nI nr ≤ a
    · left; rw [if_pos h2]
    · right; rw [if_neg h2]
      refine ⟨rfl, ?_⟩
      have t1 : ¬ a.toInt < -1 := fun q => h1 (Int32.lt_iff_toInt_lt.mpr q)
      have t2 : ¬ (nr : Int) ≤ a.toInt := fun q => h2 (Int32.le_iff_toInt_le.mpr (by rw [nI_toInt (by omega)]; exact q))
      rcases (by omega : a.toInt = -1 ∨ 0 ≤ a.toInt) with q | q
      · left; exact i32_of (q.trans (by decide))
      · obtain ⟨n, hn2, e⟩ := n_of (U := nr) q (by omega)
        refine Or.inr ⟨n, ?_, e⟩
        rw [e, nI_toInt (by omega)] at t2; omega
def ca (v : Nat → Int32) (nr : Nat) (a b : Int32) : Int32 := if v 0 ≤ 0 then 0 else if rl nr a = 0 then 0 else if rl nr b = 0 then 0 else 1
theorem ca_c {v : Nat → Int32} {nr : Nat} {a b : Int32} (hn : nr ≤ 6) : ca v nr a b = 0 ∨ (ca v nr a b = 1 ∧ ¬ v 0 ≤ 0 ∧ (a = -1 ∨ ∃ k, k < nr ∧ a = nI k) ∧ (b = -1 ∨ ∃ k, k < nr ∧ b = nI k)) := by
  unfold ca
  by_cases h : v 0 ≤ 0
  · left; rw [if_pos h]
  · rw [if_neg h]
    rcases rl_c hn a with q | ⟨q, qa⟩
    · left; rw [if_pos q]
    · rw [if_neg (by rw [q]; decide)]
      rcases rl_c hn b with z | ⟨z, zb⟩
      · left; rw [if_pos z]
      · right; rw [if_neg (by rw [z]; decide)]; exact ⟨rfl, h, qa, zb⟩
theorem h_isRule {hx nr : Nat} {st : HSt} {a : Int32} (h : Sh hx st) (h1 : gI st 1103 hx = nI nr) : fh_X11_isRule hx a st = some (st, rl nr a) := by
  unfold fh_X11_isRule rl
  rw [chk_t (st_k h), h1]
  split
  · rfl
  · split <;> rfl
theorem m_isRule {nr : Nat} {ms : MSt} {a : Int32} (h1 : ms.1 2 = nI nr) : fm_isRule a ms = some (ms, rl nr a) := by
  unfold fm_isRule rl
  rw [h1]
  split
  · rfl
  · split <;> rfl
theorem h_ask {hx nr r : Nat} {st : HSt} {v : Nat → Int32} {a b : Int32} (w : Wf st) (h : Sh hx st) (S : SpR st (hx + 3 + 1) r v) (h1 : gI st 1103 hx = nI nr) : fh_X11_areRulesAtRiver hx a b st = some (st, ca v nr a b) := by
  unfold fh_X11_areRulesAtRiver ca
  rw [chk_t (st_k h), h_hasR w h S, bs_]
  dsimp only
  by_cases hr : v 0 ≤ 0
  · rw [if_pos hr, if_pos rfl, if_pos hr]
  · rw [if_neg hr, if_neg (show ¬ (1 : Int32) = 0 by decide), if_neg hr, chk_t (st_k h), h_isRule h h1, bs_]
    dsimp only
    by_cases q : rl nr a = 0
    · rw [if_pos q, if_pos q]
    · rw [if_neg q, if_neg q, chk_t (st_k h), h_isRule h h1, bs_]
      dsimp only
      by_cases z : rl nr b = 0
      · rw [if_pos z, if_pos z]
      · rw [if_neg z, if_neg z]
theorem m_ask {nr : Nat} {ms : MSt} {v : Nat → Int32} {a b : Int32} (hv : ms.2.1 26 = v) (h1 : ms.1 2 = nI nr) : fm_canAsk a b ms = some (ms, ca v nr a b) := by
  unfold fm_canAsk ca
  rw [m_river hv, bs_]
  dsimp only
  by_cases hr : v 0 ≤ 0
  · rw [if_pos hr, if_pos rfl, if_pos hr]
  · rw [if_neg hr, if_neg (show ¬ (1 : Int32) = 0 by decide), if_neg hr, m_isRule h1, bs_]
    dsimp only
    by_cases q : rl nr a = 0
    · rw [if_pos q, if_pos q]
    · rw [if_neg q, if_neg q, m_isRule h1, bs_]
      dsimp only
      by_cases z : rl nr b = 0
      · rw [if_pos z, if_pos z]
      · rw [if_neg z, if_neg z]
/-- the RULE that an int tells, on both sides -/
theorem ask_rule {hx nr : Nat} {st : HSt} {ms : MSt} {a : Int32} (w : Wf st) (h : Sh hx st) (p : PkR hx st) (U : RuS hx st ms nr) (ha : a = -1 ∨ ∃ k, k < nr ∧ a = nI k) : ∃ q u, RqR st q u ∧ MqR ms a u ∧ ∀ st2, Fr (Sc hx st) st st2 → fh_X11_ruleOf hx a st2 = some (st2, q) := by
  obtain ⟨u1, u2, u3, u4⟩ := U
  rcases ha with rfl | ⟨k, hk, rfl⟩
  · refine ⟨none, none, Or.inl ⟨rfl, rfl⟩, Or.inl ⟨rfl, rfl⟩, fun st2 F => ?_⟩
    unfold fh_X11_ruleOf
    rw [if_pos (by decide)]
  · obtain ⟨q, u, N, e, R, O, M⟩ := u4 k hk
    refine ⟨some q, some u, Or.inr ⟨q, u, rfl, rfl, R, O⟩, Or.inr ⟨k, u, N, rfl, rfl, M, O⟩, fun st2 F => ?_⟩
    have n0 : ¬ Sc hx st hx := sc_not p (by rw [show gK st hx = 12 from h.k (j := 0) (by omega) rfl]; omega) (by omega)
    unfold fh_X11_ruleOf
    rw [if_neg (nI_pos (by omega)), chk_t (st_k (h.fr F)), F.I 1103 n0, u1, if_neg (nI_ge hk (by omega)), (h.fr F).2.1.2.2.1, dr_of ((h.fr F).k (j := 2) (c := 25) (by omega) rfl), bs_, (h.fr F).2.1.2.2.2.1, chk_t (inb_n (by omega) (by omega)), nI_clamp (by omega), F.Q, e]
theorem sc_dx {hx : Nat} {st : HSt} {i : Nat} (hi : i < 7) : ∀ b, Dx (hx + 33 + 10 * i) (hx + 28) b → Sc hx st b := fun b e => by
  rcases e with e | e | e
  · exact Or.inr (Or.inr (Or.inr (Or.inr (Or.inl ⟨i, hi, e⟩))))
  · exact Or.inr (Or.inl (by omega))
  · exact Or.inr (Or.inr (Or.inl (by omega)))
theorem VOk.tight {D d : Nat} {v : Nat → Int32} (V : VOk D v) (h1 : v 1 = nI d) (hd : d < 2 ^ 31) (hD : D < 2 ^ 31) : VOk d v := by
  obtain ⟨w0, y, d0, sp, fl, h0, h6, h10, h2, h4, hw, hy, hd0, hq⟩ := V
  have e : d0 = d := (nI_eq (by omega) hd).mp (h10.symm.trans h1)
  exact ⟨w0, y, d0, sp, fl, h0, h6, h10, h2, h4, hw, hy, by omega, hq⟩
theorem sim_spring : Sim3 Rel fh_X11_spring fm_spring := sim3_of (fun hx st ms a b c R => by
  have R0 := R
  obtain ⟨t, nr, r, w, hi, h, p, T, U, I, V, J⟩ := R
  obtain ⟨w0, y, d, sp, fl, h0, h6, h1, h2, h4, hw0, hy, hd, hsp, -⟩ := id V
  have k9 : gK st (hx + 3) = 9 := h.k (by omega) rfl
  have i1 : gI st 901 (hx + 3 + 1) = nI d := I.1.2.2.2.1.trans h1
  have R800 : gR st 800 (hx + 3) = some (hx + 3 + 1) := (w.2.2.2 _ k9).2.2.2.1
  have R1104 : gR st 1104 hx = some (hx + 3) := h.2.1.2.2.2.2.1
  have R1109 : gR st 1109 hx = some (hx + 27) := h.2.1.2.2.2.2.2.2.2.2.2.2
  have k27 : gK st (hx + 27) = 1 := h.k (by omega) rfl
  unfold fh_X11_spring fm_spring
  rw [chk_t (st_k h), h_ask w h I.1 U.1, bs_, m_ask rfl U.2.1, bs_]
  dsimp only
  rcases ca_c (v := ms.2.1 26) (a := a) (b := b) U.2.2.1 with e | ⟨e, hr, ha, hb⟩
  · rw [e]
    exact ⟨(st, -1), (ms, -1), rfl, rfl, rfl, R0⟩
  · rw [e, if_neg (show ¬ (1 : Int32) = 0 by decide), if_neg (show ¬ (1 : Int32) = 0 by decide), h_in (L := 1) (U := 200) (by decide) (by decide), bs_, m_in (L := 1) (U := 200) (by decide) (by decide), bs_]
    dsimp only
    rcases wI_c c 1 200 with ⟨e1, l1⟩ | ⟨e1, l1, l2⟩
    · rw [e1]
      exact ⟨(st, -1), (ms, -1), rfl, rfl, rfl, R0⟩
    · obtain ⟨n, hn, rfl⟩ := n_of (a := c) (U := 200) (by omega) l2
      rw [e1, if_neg (show ¬ (1 : Int32) = 0 by decide), if_neg (show ¬ (1 : Int32) = 0 by decide), chk_t (st_k h), st_site h, bs_, st_span w k9, bs_, i1, chk_t (show inb 1 286 = true by decide), cln1, h1, nI_add]
      by_cases hday : nI (d + n) ≤ 9999
      · have hdn : d + n ≤ 9999 := (nI_leI (b := 9999) (by omega) (by omega)).mp hday
        rw [if_pos hday, if_pos hday]
        obtain ⟨ql, l, Ql, Ml, el⟩ := ask_rule w h p U ha
        obtain ⟨qr, u, Qr, Mr, er⟩ := ask_rule w h p U hb
        rw [el st Fr.rf, bs_]
        dsimp only
        rw [chk_t (st_k h), er st Fr.rf, bs_]
        dsimp only
        rw [R1109, dr_of k27, bs_, R800, R1104]
        have V' : VOk d (ms.2.1 26) := V.tight h1 (by omega) (by omega)
        obtain ⟨s2, e2, S2, F2⟩ := h_go (h := hx + 27) (a := hx + 3 + 1) (S := hx + 3) (n := n) (x := nI n) w k27 h.2.2.2.2.1.1 h.lk I.1 V' I.2.1 Ql Qr rfl (by omega) (by omega)
        obtain ⟨m2, e3, M2, G2⟩ := m_springs (n := n) (q := nI n) rfl V' (by omega) (by omega) rfl Ml Mr
        have h' : Sh hx s2 := h.fr F2
        have w' : Wf s2 := F2.Wf w
        have V2 : VOk 9999 (pGo l u n (ms.2.1 26)) := (V'.go n).mo hdn
        rw [e2, e3, bs_, bs_, chk_t (show inb 1 286 = true by decide), chk_t (st_k h'), st_site h', bs_, st_span w' (h'.k (by omega) rfl), bs_]
        have out : ∀ q, ¬ Sx (hx + 3 + 1) q → ¬ Lx (hx + 27 + 1) q → ¬ Dx (hx + 3 + 1) (hx + 27 + 1) q := fun q h1 h2 e => e.elim h1 h2
        have I2 : ImR s2 (hx + 3) r (pGo l u n (ms.2.1 26)) := I.go S2 F2 (out _ six_out.2.1 (by unfold Lx; omega)) (out _ six_out.2.2.1 (by unfold Lx; omega)) (out _ six_out.2.2.2.1 (by unfold Lx; omega)) (Kp_go n)
        refine ⟨_, _, rfl, rfl, ?_, R0.site (r := r) (F2.mo (fun b q => ?_)) (p.fr F2 (out _ six_out.2.2.2.2 (by unfold Lx; omega))) (G2.mo mXd_q) (by rw [M2]; exact I2) (by rw [M2]; exact V2)⟩
        · dsimp only
          rw [M2]; exact S2.2.2.2.1
        · rcases q with q | q | q
          · exact Or.inl (six_out.1 b q)
          · exact Or.inr (Or.inr (Or.inl (by omega)))
          · exact Or.inr (Or.inr (Or.inr (Or.inl (by omega))))
      · rw [if_neg hday, if_neg hday]
        exact ⟨(st, -1), (ms, -1), rfl, rfl, rfl, R0⟩)
