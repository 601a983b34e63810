/-! reading a RULE: terms, both sides -/
theorem RJ.passS {st : HSt} {ms : MSt} {H n M i k sz it : Nat} {cd : Nat → Nat × Nat} {c0 : Int32} (J : RJ st ms H n M i (ps (ms.2.1 0) n i) k cd sz it) (h0 : isS10 c0 = true) (hK : gA st (H + 1) i = c0) : ∃ st2, fh_X10_next H st = some st2 ∧ Fr (fun b => b = H) st st2 ∧ i < M ∧ ps (ms.2.1 0) n i < n ∧ ms.2.1 0 (ps (ms.2.1 0) n i) = c0 ∧ RJ st2 (msi ms 14 (nI (ps (ms.2.1 0) n i + 1))) H n M (i + 1) (ps (ms.2.1 0) n i + 1) k cd sz it := by
  obtain ⟨J1, E, C1, C2, ⟨i1, i2, i3⟩, ⟨k1, k2⟩, B⟩ := J
  obtain ⟨s2, e, F, -, hi, J2⟩ := j_passS J1 h0 hK
  have T := J1.1
  have kk := ((T.2.2.2.2.2.2.2 i hi).2.1.sign h0).mp hK
  exact ⟨s2, e, F, hi, T.ps_lt.mp hi, kk.1, J2, E.fr F, C1.fr F (by omega) (by omega), C2, ⟨(F.I 706 (by omega)).trans i1, by rw [msi_n (by omega)]; exact i2, i3⟩, ⟨by rw [msi_n (by omega)]; exact k1, k2⟩, B⟩
/-- both put an operation -/
theorem RJ.op {st : HSt} {ms : MSt} {H n M i p k sz it s : Nat} {cd : Nat → Nat × Nat} (J : RJ st ms H n M i p k cd sz it) (hz : sz < 400) (h2 : 2 ≤ s) : fh_X7_put (H + 5) (-nI (opH s)) st = some (putS st H sz (-nI (opH s))) ∧ fm_puts (nI s) 0 ms = some (putM ms k sz (nI s)) ∧ RJ (putS st H sz (-nI (opH s))) (putM ms k sz (nI s)) H n M i p k (cdu cd sz (s, 0)) (sz + 1) it := by
  obtain ⟨J1, E, C1, C2, ⟨i1, i2, i3⟩, ⟨k1, k2⟩, B⟩ := J
  have Gp : MF (fun q => q == 3 || q == 4) ms (putM ms k sz (nI s)) := (MF.msa rfl).tr (MF.msa rfl)
  refine ⟨h_rput E C1.1 hz, ?_, (J1.frh put_F (by omega) (by omega) (by omega) (by omega)).frm Gp rfl rfl rfl rfl, E.fr put_F, putS_c (c := (s, 0)) (C1.u (fun j hj => cdu_n hj)) cdu_s ?_, putM_c (c := (s, 0)) (C2.u (fun j hj => cdu_n hj)) cdu_s ?_, ⟨putS_6.trans i1, i2, i3⟩, ⟨k1, k2⟩, by rw [Gp.A 0 rfl]; exact B⟩
  · rw [m_puts k1 k2 C2.1 hz, show (16 : Int32) * 0 = 0 by decide, Int32.add_zero]
  · show -nI (opH s) = if s = 0 then nI 0 else if s = 1 then -nI (270 + 0) else -nI (opH s)
    rw [if_neg (by omega), if_neg (by omega)]
  · show nI s = if s ≤ 1 then nI (s + 16 * 0) else nI s
    rw [if_neg (by omega)]
theorem RJ.kind {st : HSt} {ms : MSt} {H n M i p k sz it : Nat} {cd : Nat → Nat × Nat} (J : RJ st ms H n M i p k cd sz it) : fh_X10_kind H st = some (st, gA st (H + 1) i) := by rw [h_kind J.1.1, if_pos rfl]
theorem RJ.k8 {st : HSt} {ms : MSt} {H n M i p k sz it : Nat} {cd : Nat → Nat × Nat} (J : RJ st ms H n M i p k cd sz it) : gK st (H + 5) = 8 := J.2.1.1
theorem RJ.r7 {st : HSt} {ms : MSt} {H n M i p k sz it : Nat} {cd : Nat → Nat × Nat} (J : RJ st ms H n M i p k cd sz it) : gR st 700 (H + 5) = some H := J.2.1.2.1
theorem RJ.k11 {st : HSt} {ms : MSt} {H n M i p k sz it : Nat} {cd : Nat → Nat × Nat} (J : RJ st ms H n M i p k cd sz it) : gK st H = 11 := J.1.1.1.1
theorem RO.p {t : Nat → Int32} {H n M k : Nat} {s0 s1 s2 : HSt} {m0 m1 m2 : MSt} {rr : Int32} {P Q : Nat → Nat → (Nat → Nat × Nat) → Nat → Nat → Prop} (O : RO t H n M k s1 s2 m1 m2 rr P) (F : Fr (RdX H) s0 s1) (G : MG k m0 m1) (h : ∀ i q cd sz it, RJ s2 m2 H n M i q k cd sz it → P i q cd sz it → Q i q cd sz it) : RO t H n M k s0 s2 m0 m2 rr Q := by
  obtain ⟨f, g, c⟩ := O
  refine ⟨F.tr f, G.tr g, ?_⟩
  rcases c with ⟨a, i, q, cd, sz, it, j, p⟩ | c
  · exact Or.inl ⟨a, i, q, cd, sz, it, j, h i q cd sz it j p⟩
  · exact Or.inr c
/-- behind a term's first value: signs * and / -/
theorem j_termL {H n M k a b : Nat} {t : Nat → Int32} {v1 v2 : Int32} : ∀ (d : Nat) (st : HSt) (ms : MSt) (i p : Nat) (cd : Nat → Nat × Nat) (sz it v3 F G : Nat), M - i = d → RJ st ms H n M i p k cd sz it → ms.2.1 0 = t → sz ≤ i → v3 < i → b < it → Sg cd a sz false (it - b) → d < F → d < G →
    ∃ st2 w ms2 rr, iter (fun x : (Int32 × HSt) => fh_X7_readSum_s17 (H + 5) v1 v2 x.1 x.2) F (nI v3, st) = some (.inr (w, st2)) ∧ (iter (fun x : MSt => fm_term_s9 x) G ms).bind (Sum.elim (fun o : MSt × Int32 => (some o : Option (MSt × Int32))) (fun x : MSt => fm_term_j75 x)) = some (ms2, rr) ∧ RO t H n M k st st2 ms ms2 rr (fun i2 _ cd2 sz2 it2 => i ≤ i2 ∧ sz2 + i = sz + i2 ∧ it ≤ it2 ∧ (∀ j, j < sz → cd2 j = cd j) ∧ Sg cd2 a sz2 false (it2 - b) ∧ gA st2 (H + 1) i2 ≠ 42 ∧ gA st2 (H + 1) i2 ≠ 47) := by
  intro d
  induction d using Nat.strongRecOn with
  | _ d ih =>
    intro st ms i p cd sz it v3 F G hd J ht hz hv hb S hF hG
    subst ht
    obtain ⟨F, rfl⟩ : ∃ F', F = F' + 1 := ⟨F - 1, by omega⟩
    obtain ⟨G, rfl⟩ : ∃ G', G = G' + 1 := ⟨G - 1, by omega⟩
    obtain ⟨hiM, hM⟩ := J.t0
    have B := J.2.2.2.2.2.2
    have Js := J.seen
    have hn : n ≤ 400 := J.1.2.1.2.1
    have c400 : ¬ (400 : Int32) ≤ nI v3 := nI_ge (b := 400) (by omega) (by omega)
    -- a turn with sign c0, whose operation is s
    have turn : ∀ (c0 : Int32) (s : Nat), isS10 c0 = true → gA st (H + 1) i = c0 → nI (opH s) = c0 → 4 ≤ s → s ≤ 5 → (∀ m : MSt, m.1 14 = nI (ps (ms.2.1 0) n i) → m.2.1 0 = ms.2.1 0 → fm_term_j27 m = fm_term_j46 (nI s) m) → fm_term_s9 ms = fm_term_j27 (msi ms 14 (nI (ps (ms.2.1 0) n i))) → fh_X7_readSum_s17 (H + 5) v1 v2 (nI v3) st = fh_X7_readSum_j48 (H + 5) v1 v2 (nI v3) st → (∃ st2 w ms2 rr, iter (fun x : (Int32 × HSt) => fh_X7_readSum_s17 (H + 5) v1 v2 x.1 x.2) (F + 1) (nI v3, st) = some (.inr (w, st2)) ∧ (iter (fun x : MSt => fm_term_s9 x) (G + 1) ms).bind (Sum.elim (fun o : MSt × Int32 => (some o : Option (MSt × Int32))) (fun x : MSt => fm_term_j75 x)) = some (ms2, rr) ∧ RO (ms.2.1 0) H n M k st st2 ms ms2 rr (fun i2 _ cd2 sz2 it2 => i ≤ i2 ∧ sz2 + i = sz + i2 ∧ it ≤ it2 ∧ (∀ j, j < sz → cd2 j = cd j) ∧ Sg cd2 a sz2 false (it2 - b) ∧ gA st2 (H + 1) i2 ≠ 42 ∧ gA st2 (H + 1) i2 ≠ 47)) := by
      intro c0 s h0 hK ho hs4 hs5 j27 e9 e17
      obtain ⟨s2, en, Fn, hi, hlt, tc, J2⟩ := Js.passS h0 hK
      change RJ s2 (msi (msi ms 14 (nI (ps (ms.2.1 0) n i))) 14 (nI (ps (ms.2.1 0) n i + 1))) H n M (i + 1) (ps (ms.2.1 0) n i + 1) k cd sz it at J2
      rw [msi_msi] at J2
      obtain ⟨s3, m3, r3, ev, emv, O3⟩ := j_value J2 (by omega)
      have jm : fm_term_j46 (nI s) (msi ms 14 (nI (ps (ms.2.1 0) n i))) = (if r3 = 0 then some (.inl (m3, (0 : Int32))) else (fm_puts (nI s) (0 : Int32) m3).bind fun x12 => some (.inr (.inl x12))) := by
        unfold fm_term_j46
        rw [msi_s, nI_1, msi_msi, emv, bs_]
      have E2 := J2.2.1
      have ch : fh_X7_readSum_j48 (H + 5) v1 v2 (nI v3) st = (fh_X7_put (H + 5) (-c0) s3).bind fun x59 => some (.inr (.inl (nI (v3 + 1), x59))) := by
        unfold fh_X7_readSum_j48
        rw [chk_t (isk_t J.k8), J.r7, dr_of J.k11, bs_, J.kind, bs_]
        dsimp only
        rw [hK, chk_t (isk_t J.k8), J.r7, dr_of J.k11, bs_, en, bs_, chk_t (isk_t E2.1), ev, bs_, chk_t (isk_t ((O3.1.K _).trans E2.1)), nI_1]
      have e9' := e9.trans (j27 _ (msi_s _ _ _) rfl)
      have Fst : Fr (RdX H) st s3 := (Frd Fn).tr O3.1
      have Gst : MG k ms m3 := (MG.i rfl).tr O3.2.1
      rcases O3.2.2 with ⟨x1, i3, q3, cd3, sz3, it3, J3, y1, y2, y3, y4, y5⟩ | ⟨x1, f, D3, y1⟩
      · subst x1; subst y1; subst y2; subst y3
        obtain ⟨hM3, -⟩ := J3.t0
        obtain ⟨o1, o2, J4⟩ := J3.op (s := s) (by omega) (by omega)
        rw [ho] at o1 J4
        rw [if_neg (show ¬ (1 : Int32) = 0 by decide), o2, bs_] at jm
        rw [o1, bs_] at ch
        have S4 : Sg (cdu cd3 (sz + 1) (s, 0)) a (sz + 1 + 1) false (it + 1 - b) := by
          have a1 : Sg (cdu cd3 (sz + 1) (s, 0)) a sz false (it - b) := S.cg (fun j hj => by rw [cdu_n (by omega)]; exact y4 j hj)
          have a2 : Sg (cdu cd3 (sz + 1) (s, 0)) sz (sz + 1) false 1 := y5.cg (fun j hj => cdu_n hj)
          have := a1.bin a2 (b := false) (by rw [cdu_s]; exact ty_a (by show 2 ≤ s; omega) (by show s ≤ 5; omega))
          rw [show it - b + 1 = it + 1 - b by omega] at this
          exact this
        have t4 : (putM m3 k (sz + 1) (nI s)).2.1 0 = ms.2.1 0 := by rw [putM_G.1.A 0 rfl, Gst.1.A 0 rfl]
        obtain ⟨st2, w, ms2, rr, d1, d2, O⟩ := ih (M - (i + 1 + 1)) (by omega) _ _ (i + 1 + 1) _ _ (sz + 1 + 1) (it + 1) (v3 + 1) F G rfl J4 t4 (by omega) (by omega) (by omega) S4 (by omega) (by omega)
        refine ⟨st2, w, ms2, rr, ?_, ?_, O.p (Fst.tr (Frp put_F)) (Gst.tr putM_G) (fun i q cd sz it _ h => ?_)⟩
        · rw [iter_c (s1 := fun x : (Int32 × HSt) => fh_X7_readSum_s17 (H + 5) v1 v2 x.1 x.2) (x := (nI v3, st)) (y := (nI (v3 + 1), _)) (e17.trans ch)]; exact d1
        · rw [iter_c (s1 := fun x : MSt => fm_term_s9 x) (x := ms) (e9'.trans jm)]; exact d2
        · obtain ⟨h1, h2, h3, h4, h5, h6, h7⟩ := h
          exact ⟨by omega, by omega, by omega, fun j hj => by rw [h4 j (by omega), cdu_n (by omega)]; exact y4 j hj, h5, h6, h7⟩
      · subst x1
        rw [if_pos rfl] at jm
        obtain ⟨s4, e4, F4, D4⟩ := d_put (x := -c0) D3
        rw [e4, bs_] at ch
        obtain ⟨F', rfl⟩ : ∃ F', F = F' + 1 := ⟨F - 1, by omega⟩
        have stop : iter (fun x : (Int32 × HSt) => fh_X7_readSum_s17 (H + 5) v1 v2 x.1 x.2) (F' + 1) (nI (v3 + 1), s4) = some (.inr (nI (v3 + 1), s4)) := by
          refine iter_x (s1 := fun x : (Int32 × HSt) => fh_X7_readSum_s17 (H + 5) v1 v2 x.1 x.2) (x := (nI (v3 + 1), s4)) (y := (nI (v3 + 1), s4)) ?_
          show fh_X7_readSum_s17 (H + 5) v1 v2 (nI (v3 + 1)) s4 = _
          unfold fh_X7_readSum_s17
          rw [chk_t (isk_t D4.k8), D4.r7, dr_of D4.k11, bs_, d_kind D4, bs_]
          dsimp only
          rw [if_neg (show ¬ (1 : Int32) = 42 by decide), chk_t (isk_t D4.k8), D4.r7, dr_of D4.k11, bs_, d_kind D4, bs_]
          dsimp only
          rw [if_neg (show ¬ (1 : Int32) = 47 by decide)]
          split <;> rfl
        refine ⟨s4, nI (v3 + 1), m3, 0, ?_, ?_, Fst.tr F4, Gst, Or.inr ⟨rfl, f, D4, y1⟩⟩
        · rw [iter_c (s1 := fun x : (Int32 × HSt) => fh_X7_readSum_s17 (H + 5) v1 v2 x.1 x.2) (x := (nI v3, st)) (y := (nI (v3 + 1), s4)) (e17.trans ch)]; exact stop
        · rw [it_o (s1 := fun x : MSt => fm_term_s9 x) (x := ms) (e9'.trans jm)]; rfl
    have head17 : fh_X7_readSum_s17 (H + 5) v1 v2 (nI v3) st = (if gA st (H + 1) i = 42 then fh_X7_readSum_j48 (H + 5) v1 v2 (nI v3) st else if gA st (H + 1) i = 47 then fh_X7_readSum_j48 (H + 5) v1 v2 (nI v3) st else some (.inr (.inr (nI v3, st)))) := by
      unfold fh_X7_readSum_s17
      rw [if_neg c400, chk_t (isk_t J.k8), J.r7, dr_of J.k11, bs_, J.kind, bs_]
      dsimp only
      rw [chk_t (isk_t J.k8), J.r7, dr_of J.k11, bs_, J.kind, bs_]
    have head9 : fm_term_s9 ms = (if sv (ms.2.1 0) n (ps (ms.2.1 0) n i) = 42 then fm_term_j27 (msi ms 14 (nI (ps (ms.2.1 0) n i))) else if sv (ms.2.1 0) n (ps (ms.2.1 0) n i) = 47 then fm_term_j27 (msi ms 14 (nI (ps (ms.2.1 0) n i))) else some (.inr (.inr (msi ms 14 (nI (ps (ms.2.1 0) n i)))))) := by
      unfold fm_term_s9
      rw [j_see2 J.1, bs_]
      dsimp only
      rw [j_see3 J.1, bs_]
    have s42 := see_sign J.1 B (c0 := 42) (by decide) (by decide) (by decide)
    have s47 := see_sign J.1 B (c0 := 47) (by decide) (by decide) (by decide)
    by_cases z42 : gA st (H + 1) i = 42
    · rw [if_pos z42] at head17
      rw [if_pos (s42.mpr z42)] at head9
      refine turn 42 4 (by decide) z42 rfl (by omega) (by omega) (fun m h1 h2 => ?_) head9 head17
      obtain ⟨-, -, -, -, hlt, tc, -⟩ := Js.passS (c0 := 42) (by decide) z42
      change ps (ms.2.1 0) n i < n at hlt
      change ms.2.1 0 (ps (ms.2.1 0) n i) = 42 at tc
      unfold fm_term_j27
      rw [h1, chk_t (inb_n (show ps (ms.2.1 0) n i < 400 by omega) (by omega)), nI_clamp (by omega), h2, if_pos tc]
      rfl
    rw [if_neg z42] at head17
    rw [if_neg (fun y => z42 (s42.mp y))] at head9
    by_cases z47 : gA st (H + 1) i = 47
    · rw [if_pos z47] at head17
      rw [if_pos (s47.mpr z47)] at head9
      refine turn 47 5 (by decide) z47 rfl (by omega) (by omega) (fun m h1 h2 => ?_) head9 head17
      obtain ⟨-, -, -, -, hlt, tc, -⟩ := Js.passS (c0 := 47) (by decide) z47
      change ps (ms.2.1 0) n i < n at hlt
      change ms.2.1 0 (ps (ms.2.1 0) n i) = 47 at tc
      unfold fm_term_j27
      rw [h1, chk_t (inb_n (show ps (ms.2.1 0) n i < 400 by omega) (by omega)), nI_clamp (by omega), h2, if_neg (show ¬ ms.2.1 0 (ps (ms.2.1 0) n i) = 42 by rw [tc]; decide)]
      rfl
    rw [if_neg z47] at head17
    rw [if_neg (fun y => z47 (s47.mp y))] at head9
    refine ⟨st, nI v3, _, 1, iter_x (s1 := fun x : (Int32 × HSt) => fh_X7_readSum_s17 (H + 5) v1 v2 x.1 x.2) (x := (nI v3, st)) (y := (nI v3, st)) head17, ?_, Fr.rf, MG.i rfl, Or.inl ⟨rfl, i, _, cd, sz, it, Js, Nat.le_refl _, rfl, Nat.le_refl _, fun _ _ => rfl, S, z42, z47⟩⟩
    rw [iter_x (s1 := fun x : MSt => fm_term_s9 x) (x := ms) head9]
    rfl
