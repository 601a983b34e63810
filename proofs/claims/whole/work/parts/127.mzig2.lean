/-! zigzag (reference): isAgain, zigs, days -/
theorem m_isAgain {ms : MSt} {a b : Nat → Int32} {d e D : Nat} (A : VOk D a) (B : VOk D b) (hd : d ≤ 300) (he : e ≤ 300) (Ha : HasD ms a d) (Hb : HasD ms b e) : ∃ r, fm_isAgain (nI d) (nI e) ms = some (ms, r) ∧ ((r = 1 ∧ Eb a b) ∨ (r = 0 ∧ ¬ Eb a b)) := by
  have e2 : ∀ d s, (2 : Int32) * nI d + nI s = nI (2 * d + s) := fun d s => by show nI 2 * nI d + _ = _; rw [pk_mul, nI_add]
  have ix : ∀ d s k, (160 : Int32) * nI d + 80 * nI s + nI k = nI (160 * d + 80 * s + k) := fun d s k => by
    show nI 160 * nI d + nI 80 * nI s + nI k = _
    rw [pk_mul, pk_mul, nI_add, nI_add]
  have inner : ∀ s, s < 2 → yN a s = yN b s → (∃ o, iter (fun x : (Int32 × MSt) => fm_isAgain_s35 (nI d) (nI e) (nI s) x.1 x.2) mFuel ((0 : Int32), ms) = some (.inl o) ∧ (o = (ms, 0) ∧ ¬ Eb a b)) ∨ (∃ y, iter (fun x : (Int32 × MSt) => fm_isAgain_s35 (nI d) (nI e) (nI s) x.1 x.2) mFuel ((0 : Int32), ms) = some (.inr y) ∧ (y.2 = ms ∧ ∀ k w, k < yN a s → w < 2 → pAt a s (k + 1) w = pAt b s (k + 1) w)) := fun s hs hab => by
    obtain ⟨a6, ay⟩ := A.y6 hs
    obtain ⟨ha1, ha2⟩ := Ha s hs
    obtain ⟨hb1, hb2⟩ := Hb s hs
    have e22 : (2 : Int32) * nI (yN a s) = nI (2 * yN a s) := pk_mul 2 _
    refine iter_m (fun k (x : Int32 × MSt) => x.1 = nI k ∧ x.2 = ms ∧ ∀ q w, 2 * q + w < k → w < 2 → pAt a s (q + 1) w = pAt b s (q + 1) w) (2 * yN a s) _ _ ?_ ⟨rfl, rfl, fun _ _ q _ => absurd q (Nat.not_lt_zero _)⟩ (by omega)
    rintro k ⟨x1, x⟩ hk ⟨q1, q2, q3⟩
    simp only at q1 q2
    subst q1; subst q2
    rcases Nat.lt_or_ge k (2 * yN a s) with hlt | hge
    · have h1 : 2 * (k / 2) + k % 2 = k := Nat.div_add_mod k 2
      have va := ha2 (k / 2) (k % 2) (by omega) (by omega)
      have vb := hb2 (k / 2) (k % 2) (by omega) (by omega)
      rw [show 160 * d + 80 * s + 2 * (k / 2) + k % 2 = 160 * d + 80 * s + k by omega] at va
      rw [show 160 * e + 80 * s + 2 * (k / 2) + k % 2 = 160 * e + 80 * s + k by omega] at vb
      have head : fm_isAgain_s35 (nI d) (nI e) (nI s) (nI k) x = (if pAt a s (k / 2 + 1) (k % 2) = pAt b s (k / 2 + 1) (k % 2) then some (.inr (.inl (nI (k + 1), x))) else some (.inl (x, (0 : Int32)))) := by
        unfold fm_isAgain_s35
        rw [e2, chk_t (inb_n (by omega) (by omega)), nI_clamp (by omega), ha1, a6, e22, if_neg (nI_ge hlt (by omega)), ix, ix, chk_t (inb_n (by omega) (by omega)), chk_t (inb_n (by omega) (by omega)), nI_clamp (by omega), nI_clamp (by omega), va, vb, nI_1]
      by_cases q : pAt a s (k / 2 + 1) (k % 2) = pAt b s (k / 2 + 1) (k % 2)
      · right; left
        refine ⟨(nI (k + 1), x), ?_, ⟨rfl, rfl, fun t w ht hw => ?_⟩, hlt⟩
        · show fm_isAgain_s35 (nI d) (nI e) (nI s) (nI k) x = _
          rw [head, if_pos q]
        · rcases Nat.lt_or_ge (2 * t + w) k with c | c
          · exact q3 t w c hw
          · have c1 : t = k / 2 := by omega
            have c2 : w = k % 2 := by omega
            rw [c1, c2]; exact q
      · left
        refine ⟨(x, 0), ?_, rfl, fun E => q (E.2.2 s (k / 2) (k % 2) hs (by omega) (by omega))⟩
        show fm_isAgain_s35 (nI d) (nI e) (nI s) (nI k) x = _
        rw [head, if_neg q]
    · right; right
      have : k = 2 * yN a s := by omega
      subst this
      refine ⟨(nI (2 * yN a s), x), ?_, rfl, fun k w hk hw => q3 k w (by omega) hw⟩
      show fm_isAgain_s35 (nI d) (nI e) (nI s) (nI (2 * yN a s)) x = _
      unfold fm_isAgain_s35
      rw [e2, chk_t (inb_n (by omega) (by omega)), nI_clamp (by omega), ha1, a6, e22, if_pos (nI_le (Nat.le_refl _) (by omega))]
  have outer := iter_m (s1 := fun x : (Int32 × MSt) => fm_isAgain_s2 (nI d) (nI e) x.1 x.2) (fun t (x : Int32 × MSt) => x.1 = nI t ∧ x.2 = ms ∧ ∀ s, s < t → yN a s = yN b s ∧ ∀ k w, k < yN a s → w < 2 → pAt a s (k + 1) w = pAt b s (k + 1) w) 2 (fun o : MSt × Int32 => o = (ms, 0) ∧ ¬ Eb a b) (fun y : Int32 × MSt => y.2 = ms ∧ Eb a b) (x := ((0 : Int32), ms)) ?_ ⟨rfl, rfl, fun _ q => absurd q (Nat.not_lt_zero _)⟩ (by omega)
  · unfold fm_isAgain
    rcases outer with ⟨o, q, rfl, n⟩ | ⟨y, q, y2, E⟩
    · exact ⟨0, by rw [q]; rfl, Or.inr ⟨rfl, n⟩⟩
    · refine ⟨1, ?_, Or.inl ⟨rfl, E⟩⟩
      rw [q]
      show fm_isAgain_j105 y.2 = _
      unfold fm_isAgain_j105
      rw [y2]
  · rintro t ⟨x1, x⟩ ht ⟨q1, q2, q3⟩
    simp only at q1 q2
    subst q1; subst q2
    rcases Nat.lt_or_ge t 2 with hlt | hge
    · obtain ⟨a6, ay⟩ := A.y6 hlt
      obtain ⟨b6, bY⟩ := B.y6 hlt
      have head : fm_isAgain_s2 (nI d) (nI e) (nI t) x = (if nI (yN a t) = nI (yN b t) then (iter (fun x : (Int32 × MSt) => fm_isAgain_s35 (nI d) (nI e) (nI t) x.1 x.2) mFuel ((0 : Int32), x)).bind (Sum.elim (fun o : MSt × Int32 => (some (.inl o) : Option ((MSt × Int32) ⊕ ((Int32 × MSt) ⊕ (Int32 × MSt))))) (fun x : (Int32 × MSt) => fm_isAgain_j99 (nI d) (nI e) (nI t) x.2)) else some (.inl (x, (0 : Int32)))) := by
        unfold fm_isAgain_s2
        rw [if_neg (show ¬ (2 : Int32) ≤ nI t from nI_ge (b := 2) hlt (by omega)), e2, e2, chk_t (inb_n (by omega) (by omega)), chk_t (inb_n (by omega) (by omega)), nI_clamp (by omega), nI_clamp (by omega), (Ha t hlt).1, (Hb t hlt).1, a6, b6]
      by_cases q : yN a t = yN b t
      · rcases inner t hlt q with ⟨o, e1, rfl, n⟩ | ⟨y, e1, y2, g⟩
        · left
          refine ⟨(x, 0), ?_, rfl, n⟩
          show fm_isAgain_s2 (nI d) (nI e) (nI t) x = _
          rw [head, if_pos (by rw [q]), e1]; rfl
        · right; left
          refine ⟨(nI (t + 1), x), ?_, ⟨rfl, rfl, fun s hs => ?_⟩, hlt⟩
          · show fm_isAgain_s2 (nI d) (nI e) (nI t) x = _
            rw [head, if_pos (by rw [q]), e1]
            show fm_isAgain_j99 (nI d) (nI e) (nI t) y.2 = _
            unfold fm_isAgain_j99
            rw [y2, nI_1]
          · rcases Nat.lt_or_ge s t with c | c
            · exact q3 s c
            · rw [show s = t by omega]; exact ⟨q, g⟩
      · left
        refine ⟨(x, 0), ?_, rfl, fun E => q ?_⟩
        · show fm_isAgain_s2 (nI d) (nI e) (nI t) x = _
          rw [head, if_neg (fun c => q ((nI_eq (by omega) (by omega)).mp c))]
        · rcases (by omega : t = 0 ∨ t = 1) with rfl | rfl
          · exact E.1
          · exact E.2.1
    · right; right
      have : t = 2 := by omega
      subst this
      refine ⟨(nI 2, x), ?_, rfl, (q3 0 (by omega)).1, (q3 1 (by omega)).1, fun s k w hs hk hw => (q3 s hs).2 k w hk hw⟩
      show fm_isAgain_s2 (nI d) (nI e) (nI 2) x = _
      unfold fm_isAgain_s2
      rw [if_pos (by decide)]
theorem m_zigs {ms : MSt} {v : Nat → Int32} {D : Nat} {x z e0 e1 : Int32} {l r : Option Ru} (hv : ms.2.1 26 = v) (V : VOk D v) (he0 : ms.2.1 27 0 = e0) (he1 : ms.2.1 27 1 = e1) (h0 : sm9 e0) (h1 : sm9 e1) (Rl : MqR ms x l) (Rr : MqR ms z r) : ∃ m2, fm_zigs x z ms = some m2 ∧ m2.2.1 26 = (if pGap v = 0 then v else pBoth v l r e0 e1) ∧ MF mXe ms m2 := by
  unfold fm_zigs
  rw [m_met hv, bs_]
  dsimp only
  by_cases g : pGap v = 0
  · rw [if_pos g, if_pos g, if_neg (show ¬ (1 : Int32) = 0 by decide)]
    exact ⟨ms, rfl, hv, MF.rf⟩
  · rw [if_neg g, if_neg g, if_pos rfl]
    obtain ⟨s1, s2, q1, q2, F, P0, P1⟩ := m_looks2 hv V he0 he1 h0 h1 Rl Rr
    have hv2 : s2.2.1 26 = v := (F.A 26 rfl).trans hv
    obtain ⟨a0, a1⟩ := m_both hv2 V P0 P1 (plan_ok V)
    rw [q1, bs_, q2, bs_, a0, bs_, a1, bs_]
    exact ⟨_, rfl, setV_said _ _, (F.mo mXl_e).tr (MF.setV rfl)⟩
def zA (a3 : Int32) (i j : Nat) : Int32 := if a3 = 0 then nI j else nI (i - j)
theorem Eb.sy {a b : Nat → Int32} (h : Eb a b) : Eb b a := by
  refine ⟨h.1.symm, h.2.1.symm, fun s k w hs hk hw => (h.2.2 s k w hs ?_ hw).symm⟩
  rcases (by omega : s = 0 ∨ s = 1) with rfl | rfl
  · rw [h.1]; exact hk
  · rw [h.2.1]; exact hk
theorem m_zin {m : MSt} {D d : Nat} {x z a3 : Int32} {Z : Nat → Nat → Int32} (hd0 : 0 < d) (hd : d ≤ 300) (V : ∀ k, VOk D (Z k)) (H : ∀ e, e ≤ d → HasD m (Z e) e) : ∃ y : Int32 × Int32 × MSt, iter (fun y : (Int32 × Int32 × MSt) => fm_zigzag_s69 x z a3 (nI d) y.1 y.2.1 y.2.2) mFuel ((-2 : Int32), (0 : Int32), m) = some (.inr y) ∧ y.2.2 = m ∧ ((y.1 = -2 ∧ ∀ q, q < d → ¬ Eb (Z q) (Z d)) ∨ ∃ j, j < d ∧ y.1 = zA a3 d j ∧ Eb (Z j) (Z d) ∧ ∀ q, q < j → ¬ Eb (Z q) (Z d)) := by
  refine iter_w (fun e (y : Int32 × Int32 × MSt) => y.2.1 = nI e ∧ y.2.2 = m ∧ ((y.1 = -2 ∧ ∀ q, q < e → ¬ Eb (Z q) (Z d)) ∨ ∃ j, j < d ∧ y.1 = zA a3 d j ∧ Eb (Z j) (Z d) ∧ ∀ q, q < j → ¬ Eb (Z q) (Z d))) d _ ?_ ⟨rfl, rfl, Or.inl ⟨rfl, fun _ q => absurd q (Nat.not_lt_zero _)⟩⟩ (by omega)
  rintro e ⟨c, i, s⟩ he ⟨q1, q2, q3⟩
  simp only at q1 q2 q3
  subst q1; subst q2
  rcases Nat.lt_or_ge e d with hlt | hge
  · rcases q3 with ⟨c1, c2⟩ | ⟨j, hj, c1, c2, c3⟩
    · left
      subst c1
      obtain ⟨r, f, g⟩ := m_isAgain (V d) (V e) hd (by omega) (H d (Nat.le_refl _)) (H e (by omega))
      have head : fm_zigzag_s69 x z a3 (nI d) (-2) (nI e) s = (if r = 0 then some (.inr (.inl ((-2 : Int32), nI (e + 1), s))) else some (.inr (.inl (zA a3 d e, nI (e + 1), s)))) := by
        unfold fm_zigzag_s69
        rw [if_neg (nI_ge hlt (by omega)), if_neg (by decide), f, bs_]
        dsimp only
        rw [nI_1, zsub (by omega) (by omega)]
        by_cases rz : r = 0
        · rw [if_pos rz, if_pos rz]
        · rw [if_neg rz, if_neg rz]
          unfold zA
          by_cases az : a3 = 0
          · rw [if_pos az, if_pos az]
          · rw [if_neg az, if_neg az]
      rcases g with ⟨r1, g⟩ | ⟨r0, g⟩
      · refine ⟨(zA a3 d e, nI (e + 1), s), ?_, ⟨rfl, rfl, Or.inr ⟨e, hlt, rfl, g.sy, c2⟩⟩, hlt⟩
        show fm_zigzag_s69 x z a3 (nI d) (-2) (nI e) s = _
        rw [head, if_neg (by rw [r1]; decide)]
      · refine ⟨(-2, nI (e + 1), s), ?_, ⟨rfl, rfl, Or.inl ⟨rfl, fun q hq => ?_⟩⟩, hlt⟩
        · show fm_zigzag_s69 x z a3 (nI d) (-2) (nI e) s = _
          rw [head, if_pos r0]
        · rcases Nat.lt_or_ge q e with c | c
          · exact c2 q c
          · rw [show q = e by omega]; exact fun t => g t.sy
    · right
      refine ⟨(c, nI e, s), ?_, rfl, Or.inr ⟨j, hj, c1, c2, c3⟩⟩
      show fm_zigzag_s69 x z a3 (nI d) c (nI e) s = _
      unfold fm_zigzag_s69
      rw [if_neg (nI_ge hlt (by omega)), if_pos ?_]
      rw [c1]
      unfold zA
      split
      · exact nI_le (a := 0) (by omega) (by omega)
      · exact nI_le (a := 0) (by omega) (by omega)
  · right
    have : e = d := by omega
    subst this
    refine ⟨(c, nI e, s), ?_, rfl, q3⟩
    show fm_zigzag_s69 x z a3 (nI e) c (nI e) s = _
    unfold fm_zigzag_s69
    rw [if_pos (nI_le (Nat.le_refl _) (by omega))]
