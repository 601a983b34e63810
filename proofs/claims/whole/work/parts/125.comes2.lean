/-! comesAgain's days -/
theorem zsub {a b : Nat} (h : b ≤ a) (ha : a < 2 ^ 31) : nI a - nI b = nI (a - b) := by
  rw [show a = (a - b) + b by omega, ← nI_add, Nat.add_sub_cancel]
  exact Int32.add_sub_cancel _ _
def CmR (hx : Nat) (z : Nat → Nat → Int32) (o : HSt × Int32) : Prop := (o.2 = 1 ∧ ∃ i j, ZHit z i j ∧ gI o.1 4 (hx + 27) = nI j ∧ gI o.1 5 (hx + 27) = nI (i - j)) ∨ (o.2 = 0 ∧ ZNo z 301)
theorem zK {D : Nat} {l u : Option Ru} {e0 e1 : Int32} {v : Nat → Int32} (V : VOk D v) (j k : Nat) : ∀ i, 8 ≤ i → i < 12 → zS l u e0 e1 v j i = zS l u e0 e1 v k i := fun i h1 h2 => by
  rw [(zS_ok V j).2.1 i (by omega) (by omega) (by omega) (by omega), (zS_ok V k).2.1 i (by omega) (by omega) (by omega) (by omega)]
theorem h_comes {hx r D P d : Nat} {st : HSt} {v : Nat → Int32} {ql qr : Option Nat} {l u : Option Ru} (w : Wf st) (h : Sh hx st) (p : PkR hx st) (rP : gR st 10 (hx + 27) = some P) (kP : gK st P = 23) (lP : gL st P = 2709) (I : ImR st (hx + 3) r v) (V : VOk D v) (h1 : v 1 = nI d) (hd : d < 2 ^ 31) (Ql : RqR st ql l) (Qr : RqR st qr u) : ∃ o, fh_X0_comesAgain_j16 (hx + 27) (some (hx + 3)) ql qr st = some o ∧ OnW hx st o.1 ∧ CmR hx (zS l u (pErr v 0) (pErr v 1) v) o := by
  let z := zS l u (pErr v 0) (pErr v 1) v
  obtain ⟨s1, f1, S1, F1⟩ := h_become (a := hx + 33) (b := hx + 3 + 1) w (sp_k0 h) I.1 V (by omega)
  have o1 : OnW hx st s1 := OnW.tr2 ⟨Fr.rf, rfl⟩ F1 (fun b q => Or.inr (Or.inr (Or.inr (Or.inr (Or.inl ⟨0, by omega, q⟩))))) (by unfold Sx; omega)
  have p27 : P ≠ hx + 27 := fun e => by rw [e, k27 h] at kP; omega
  have pdx : ¬ Dx (hx + 33) (hx + 28) P := fun e => by
    obtain ⟨-, K, -⟩ := w.1 (hx + 33) (sp_k0 h)
    have l29 := h.2.2.2.2.1.2.2.1
    have l30 := h.2.2.2.2.1.2.2.2.2.1
    unfold Dx Sx Lx at e
    rcases e with (e | e | e | e) | e | e
    · rw [e, sp_k0 h] at kP; omega
    · rw [e, K 7 (by omega) (by omega)] at kP; omega
    · rw [e, K 8 (by omega) (by omega)] at kP; omega
    · rw [e, K 9 (by omega) (by omega)] at kP; omega
    · rw [e] at lP; have l29' : gL st (hx + 28 + 1) = 9 := l29; omega
    · rw [e] at lP; have l30' : gL st (hx + 28 + 2) = 64 := l30; omega
  have loop := iter_m (s1 := fun x : (Int32 × HSt) => fh_X0_comesAgain_s36 (hx + 27) (some (hx + 3)) ql qr (some (hx + 33)) x.1 x.2) (fun k (x : Int32 × HSt) => x.1 = nI k ∧ OnW hx st x.2 ∧ SpR x.2 (hx + 33) r (z k) ∧ (∀ j, j < k → ∀ m, m < 9 → gJ x.2 P (j * 9 + m) = pkW (z j) m) ∧ ZNo z k) 301 (fun o : HSt × Int32 => OnW hx st o.1 ∧ o.2 = 1 ∧ ∃ i j, ZHit z i j ∧ gI o.1 4 (hx + 27) = nI j ∧ gI o.1 5 (hx + 27) = nI (i - j)) (fun y : Int32 × HSt => OnW hx st y.2 ∧ ZNo z 301) (x := ((0 : Int32), s1)) ?_ ⟨rfl, o1, S1, fun _ q => absurd q (Nat.not_lt_zero _), fun i j hi _ => absurd hi (Nat.not_lt_zero _)⟩ (by omega)
  · unfold fh_X0_comesAgain_j16
    rw [chk_t (isk_t (k27 h)), h.2.2.2.2.1.2.2.2.2.2.1, dr_of (h.k (j := 31) (c := 27) (by omega) rfl), bs_, sp_L h, chk_t (by decide), dr_of (k3 h), bs_, cln0, sp_q0 h, dr_of (sp_k0 h), bs_, r800 w h, f1, bs_]
    rcases loop with ⟨o, e, q1, q2, q3⟩ | ⟨y, e, q1, q2⟩
    · rw [e]
      exact ⟨o, rfl, q1, Or.inl ⟨q2, q3⟩⟩
    · rw [e]
      exact ⟨(y.2, 0), rfl, q1, Or.inr ⟨rfl, q2⟩⟩
  · rintro k ⟨x1, x⟩ hk ⟨q1, ow, S, Dd, no⟩
    simp only at q1 ow S Dd
    subst q1
    rcases Nat.lt_or_ge k 301 with hlt | hge
    · obtain ⟨Vk, Kk, z1, -⟩ := zS_ok (l := l) (u := u) (e0 := pErr v 0) (e1 := pErr v 1) V k
      have hX := h.fr ow.1
      have wX := ow.1.Wf w
      have kPx : gK x P = 23 := (ow.1.K P).trans kP
      have lPx : gL x P = 2709 := (ow.1.L P).trans lP
      obtain ⟨x2, f2, F2, J2⟩ := h_pack (f := k * 9) wX S Vk kPx lPx (by omega)
      have S2 := sp_p wX S Vk kPx F2
      have ow2 : OnW hx st x2 := ow.tr2 F2 (fun b e => by have e' : b = P := e; rw [e']; exact Or.inr (Or.inr (Or.inr (Or.inr (Or.inr (Or.inr rP)))))) (fun e => p27 (Eq.symm e))
      have h2 := h.fr ow2.1
      have w2 := ow2.1.Wf w
      have kP2 : gK x2 P = 23 := (ow2.1.K P).trans kP
      have lP2 : gL x2 P = 2709 := (ow2.1.L P).trans lP
      have rP2 : gR x2 10 (hx + 27) = some P := ow2.2.trans rP
      have D2 : ∀ j, j ≤ k → ∀ m, m < 9 → gJ x2 P (j * 9 + m) = pkW (z j) m := fun j hj m hm => by
        rw [J2]
        rcases Nat.lt_or_ge j k with c | c
        · rw [show Jt (gJ x P) (z k) (k * 9) (yN (z k) 0 + yN (z k) 1) (j * 9 + m) = gJ x P (j * 9 + m) from if_pos (Or.inl (by omega))]; exact Dd j c m hm
        · rw [show j = k by omega]; exact Jt_w hm
      obtain ⟨j, hj, f3, c1, c2⟩ := h_firstLike (z := z) (k27 h2) rP2 kP2 lP2 (by omega) D2
      have c1' : ∀ q, q < j → ¬ Eb (z q) (z k) := fun q hq e => c1 q hq ((sm_iff (zS_ok V q).1.vb Vk.vb (zK V q k)).mpr e)
      let x3 := sI x2 4 (hx + 27) (nI j)
      have F3 : Fr (fun b => b = hx + 27) x2 x3 := Fr.sI rfl
      have S3 := sp_27 w2 h2 S2 Vk F3
      have s27 : ∀ b, b = hx + 27 → Sc hx st b := fun b e => Or.inl (by omega)
      have ow3 : OnW hx st x3 := ow2.tr F3 s27 rfl
      have h3 := h.fr ow3.1
      have w3 := ow3.1.Wf w
      have g4 : gI x3 4 (hx + 27) = nI j := gI_sI _ _ _ _
      have head : fh_X0_comesAgain_s36 (hx + 27) (some (hx + 3)) ql qr (some (hx + 33)) (nI k) x = (if nI k ≤ nI j then ((fh_X9_isMet (hx + 33) x3).bind fun x38 => (if x38.2 = 0 then chk (isk x38.1 (hx + 33) 10) ((dr x38.1 (some (hx + 3)) 9).bind fun b42 => (fh_X8_errorOn b42 (0 : Int32) (gI x38.1 901 (hx + 33)) x38.1).bind fun x46 => chk (isk x46.1 (hx + 33) 10) (chk (isk x46.1 b42 9) ((fh_X8_errorOn b42 (1 : Int32) (gI x46.1 901 (hx + 33)) x46.1).bind fun x50 => chk (isk x50.1 (hx + 27) 1) ((fh_X0_actBoth (hx + 27) (some (hx + 33)) ql qr x46.2 x50.2 x50.1).bind fun x53 => some (.inr (.inl (nI (k + 1), x53))))))) else some (.inr (.inl (nI (k + 1), x38.1))))) else some (.inl (sI x3 5 (hx + 27) (nI k - nI j), (1 : Int32)))) := by
        unfold fh_X0_comesAgain_s36
        rw [if_neg (show ¬ (300 : Int32) < nI k from nI_nlt (a := 300) (by omega) (by omega)), chk_t (isk_t (k27 hX)), dr_of (sp_k0 hX), bs_, ow.2.trans rP, show nI k * 9 = nI (k * 9) from pk_mul k 9, f2, bs_, chk_t (isk_t (k27 h2)), f3, bs_]
        dsimp only
        rw [chk_t (isk_t (k27 h2)), show gI (sI x2 4 (hx + 27) (nI j)) 4 (hx + 27) = nI j from g4, chk_t (isk_t (sp_k0 h2)), nI_1]
      rcases Nat.lt_or_ge j k with hjk | hjk
      · left
        have o4 : OnW hx st (sI x3 5 (hx + 27) (nI k - nI j)) := ow3.tr (X := fun b => b = hx + 27) (Fr.sI rfl) s27 rfl
        refine ⟨(sI x3 5 (hx + 27) (nI k - nI j), 1), ?_, o4, rfl, k, j, ⟨by omega, no, hjk, (sm_iff (zS_ok V j).1.vb Vk.vb (zK V j k)).mp (c2 hjk), c1'⟩, ?_, ?_⟩
        · show fh_X0_comesAgain_s36 (hx + 27) (some (hx + 3)) ql qr (some (hx + 33)) (nI k) x = _
          rw [head, if_neg (nI_ge hjk (by omega))]
        · show gI (sI x3 5 (hx + 27) (nI k - nI j)) 4 (hx + 27) = _
          rw [gI_sI_ne (Or.inl (by omega))]; exact g4
        · show gI (sI x3 5 (hx + 27) (nI k - nI j)) 5 (hx + 27) = _
          rw [gI_sI]; exact zsub (by omega) (by omega)
      · right; left
        have ejk : j = k := by omega
        have no' : ZNo z (k + 1) := fun i q hi hq => by
          rcases Nat.lt_or_ge i k with c | c
          · exact no i q c hq
          · have : i = k := by omega
            rw [this] at hq ⊢; exact c1' q (by omega)
        have J3 : gJ x3 P = gJ x2 P := rfl
        by_cases hm : pGap (z k) = 0
        · have ez : z (k + 1) = z k := by show (if pGap (z k) = 0 then z k else _) = _; rw [if_pos hm]
          refine ⟨(nI (k + 1), x3), ?_, ⟨rfl, ow3, by rw [ez]; exact S3, fun j hj m hm => by rw [J3]; exact D2 j (by omega) m hm, no'⟩, hlt⟩
          show fh_X0_comesAgain_s36 (hx + 27) (some (hx + 3)) ql qr (some (hx + 33)) (nI k) x = _
          rw [head, if_pos (nI_le hjk (by omega)), h_met w3 S3, bs_, if_pos hm]
          dsimp only
          rw [if_neg (show ¬ (1 : Int32) = 0 by decide)]
        · have ez : z (k + 1) = pBoth (z k) l u (pErr v 0) (pErr v 1) := by show (if pGap (z k) = 0 then z k else _) = _; rw [if_neg hm]
          have I3 := I.sc V w h p ow3.1
          have g901 : gI x3 901 (hx + 33) = nI d := S3.2.2.2.1.trans (z1.trans h1)
          obtain ⟨x4, f4, S4, F4⟩ := h_both (h := hx + 27) (e0 := pErr v 0) (e1 := pErr v 1) w3 (k27 h3) h3.2.2.2.2.1.1 h3.lk S3 Vk (rq_sc w h p Ql ow3) (rq_sc w h p Qr ow3)
          have ow4 : OnW hx st x4 := ow3.tr2 F4 (sc_dx (i := 0) (by omega)) (sc_27 (i := 0) (by omega))
          have J4 : gJ x4 P = gJ x2 P := (F4.J pdx).trans J3
          refine ⟨(nI (k + 1), x4), ?_, ⟨rfl, ow4, by rw [ez]; exact S4, fun j hj m hm => by rw [J4]; exact D2 j (by omega) m hm, no'⟩, hlt⟩
          show fh_X0_comesAgain_s36 (hx + 27) (some (hx + 3)) ql qr (some (hx + 33)) (nI k) x = _
          rw [head, if_pos (nI_le hjk (by omega)), h_met w3 S3, bs_, if_neg hm]
          dsimp only
          rw [if_pos rfl, chk_t (isk_t (sp_k0 h3)), dr_of (k3 h3), bs_, h_errorOn (s := 0) (x := 0) w3 I3.2.1 rfl (by omega) g901 hd, bs_]
          dsimp only
          rw [chk_t (isk_t (sp_k0 h3)), chk_t (isk_t (k3 h3)), h_errorOn (s := 1) (x := 1) w3 I3.2.1 rfl (by omega) g901 hd, bs_]
          dsimp only
          rw [chk_t (isk_t (k27 h3)), ← pErr_e h1 hd, ← pErr_e h1 hd, f4, bs_]
    · right; right
      have : k = 301 := by omega
      subst this
      refine ⟨(nI 301, x), ?_, ow, no⟩
      show fh_X0_comesAgain_s36 (hx + 27) (some (hx + 3)) ql qr (some (hx + 33)) (nI 301) x = _
      unfold fh_X0_comesAgain_s36
      rw [if_pos (by decide)]
