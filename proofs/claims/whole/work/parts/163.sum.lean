/-! reading a RULE: sums, both sides -/
theorem d_s17 {st : HSt} {H n M : Nat} {t : Nat → Int32} {f v1 v2 w : Int32} {N : Nat} (D : Dd st H t n M f) : iter (fun x : (Int32 × HSt) => fh_X7_readSum_s17 (H + 5) v1 v2 x.1 x.2) (N + 1) (w, st) = some (.inr (w, st)) := by
  refine iter_x (s1 := fun x : (Int32 × HSt) => fh_X7_readSum_s17 (H + 5) v1 v2 x.1 x.2) (x := (w, st)) (y := (w, st)) ?_
  show fh_X7_readSum_s17 (H + 5) v1 v2 w st = _
  unfold fh_X7_readSum_s17
  rw [chk_t (isk_t D.k8), D.r7, dr_of D.k11, bs_, d_kind D, bs_]
  dsimp only
  rw [if_neg (show ¬ (1 : Int32) = 42 by decide), chk_t (isk_t D.k8), D.r7, dr_of D.k11, bs_, d_kind D, bs_]
  dsimp only
  rw [if_neg (show ¬ (1 : Int32) = 47 by decide)]
  split <;> rfl
theorem d_j91 {st : HSt} {H n M : Nat} {t : Nat → Int32} {f v2 : Int32} (D : Dd st H t n M f) : fh_X7_readSum_j91 (H + 5) v2 st = some (.inl st) := by
  unfold fh_X7_readSum_j91
  rw [chk_t (isk_t D.k8), D.r7, dr_of D.k11, bs_, d_kind D, bs_]
  dsimp only
  rw [if_neg (show ¬ (1 : Int32) = 43 by decide), if_neg (show ¬ (1 : Int32) = 45 by decide)]
theorem j_term {st : HSt} {ms : MSt} {H n M i p k sz it : Nat} {cd : Nat → Nat × Nat} (v1 v2 : Int32) (J : RJ st ms H n M i p k cd sz it) (hz : sz ≤ i) : ∃ s1 st2 w ms2 rr, fh_X7_readValue (H + 5) st = some s1 ∧ iter (fun x : (Int32 × HSt) => fh_X7_readSum_s17 (H + 5) v1 v2 x.1 x.2) mFuel ((0 : Int32), s1) = some (.inr (w, st2)) ∧ fm_term ms = some (ms2, rr) ∧ RO (ms.2.1 0) H n M k st st2 ms ms2 rr (fun i2 _ cd2 sz2 it2 => i < i2 ∧ sz2 + i = sz + i2 ∧ it < it2 ∧ (∀ j, j < sz → cd2 j = cd j) ∧ Sg cd2 sz sz2 false (it2 - it)) := by
  obtain ⟨s1, m1, r1, e1, em1, O1⟩ := j_value J hz
  obtain ⟨F1, G1, c1⟩ := O1
  unfold fm_term
  rw [em1, bs_]
  dsimp only
  rcases c1 with ⟨x1, i1, q1, cd1, sz1, it1, J1, y1, y2, y3, y4, y5⟩ | ⟨x1, f, D1, y1⟩
  · subst x1; subst y1; subst y2; subst y3
    obtain ⟨hM, hM4⟩ := J1.t0
    rw [if_neg (show ¬ (1 : Int32) = 0 by decide)]
    obtain ⟨st2, w, ms2, rr, d1, d2, O⟩ := j_termL (v1 := v1) (v2 := v2) (a := sz) (b := it) (t := ms.2.1 0) (M - (i + 1)) s1 m1 (i + 1) q1 cd1 (sz + 1) (it + 1) 0 mFuel mFuel rfl J1 (G1.1.A 0 rfl) (by omega) (by omega) (by omega) (by rw [show it + 1 - it = 1 by omega]; exact y5) (by rw [mFuel_eq]; omega) (by rw [mFuel_eq]; omega)
    exact ⟨s1, st2, w, ms2, rr, e1, d1, d2, O.p F1 G1 (fun i2 q2 cd2 sz2 it2 _ h => ⟨by omega, by omega, by omega, fun j hj => (h.2.2.2.1 j (by omega)).trans (y4 j hj), h.2.2.2.2.1⟩)⟩
  · subst x1
    rw [if_pos rfl]
    obtain ⟨N, hN⟩ := mFuel_5
    exact ⟨s1, s1, 0, m1, 0, e1, by rw [hN]; exact d_s17 D1, rfl, F1, G1, Or.inr ⟨rfl, f, D1, y1⟩⟩
noncomputable def cSm (H F : Nat) (r : Option (HSt ⊕ ((Int32 × Int32 × HSt) ⊕ (Int32 × Int32 × HSt)))) : Option (HSt ⊕ (Int32 × Int32 × HSt)) := r.bind (Sum.elim (fun o => some (.inl o)) (Sum.elim (fun y => iter (fun x : (Int32 × Int32 × HSt) => fh_X7_readSum_s4 (H + 5) x.1 x.2.1 x.2.2) F y) (fun y => some (.inr y))))
theorem j_sumL {H n M k a b : Nat} {t : Nat → Int32} : ∀ (d : Nat) (st : HSt) (ms : MSt) (i p : Nat) (cd : Nat → Nat × Nat) (sz it v2 F G : Nat), M - i = d → RJ st ms H n M i p k cd sz it → ms.2.1 0 = t → sz ≤ i → v2 < i → b < it → Sg cd a sz false (it - b) → d < F → d < G →
    ∃ st2 ms2 rr, cSm H F (fh_X7_readSum_j91 (H + 5) (nI v2) st) = some (.inl st2) ∧ (iter (fun x : MSt => fm_sum_s9 x) G ms).bind (Sum.elim (fun o : MSt × Int32 => (some o : Option (MSt × Int32))) (fun x : MSt => fm_sum_j75 x)) = some (ms2, rr) ∧ RO t H n M k st st2 ms ms2 rr (fun i2 _ cd2 sz2 it2 => i ≤ i2 ∧ sz2 + i = sz + i2 ∧ it ≤ it2 ∧ (∀ j, j < sz → cd2 j = cd j) ∧ Sg cd2 a sz2 false (it2 - b)) := by
  intro d
  induction d using Nat.strongRecOn with
  | _ d ih =>
    intro st ms i p cd sz it v2 F G hd J ht hz hv hb S hF hG
    subst ht
    obtain ⟨F, rfl⟩ : ∃ F', F = F' + 1 := ⟨F - 1, by omega⟩
    obtain ⟨G, rfl⟩ : ∃ G', G = G' + 1 := ⟨G - 1, by omega⟩
    obtain ⟨hiM, hM⟩ := J.t0
    have B := J.2.2.2.2.2.2
    have Js := J.seen
    have hn : n ≤ 400 := J.1.2.1.2.1
    have head91 : fh_X7_readSum_j91 (H + 5) (nI v2) st = (if gA st (H + 1) i = 43 then (fh_X10_next H st).bind fun x19 => some (.inr (.inl (gA st (H + 1) i, nI (v2 + 1), x19))) else if gA st (H + 1) i = 45 then (fh_X10_next H st).bind fun x27 => some (.inr (.inl (gA st (H + 1) i, nI (v2 + 1), x27))) else some (.inl st)) := by
      unfold fh_X7_readSum_j91
      rw [chk_t (isk_t J.k8), J.r7, dr_of J.k11, bs_, J.kind, bs_]
      dsimp only
      rw [chk_t (isk_t J.k8), J.r7, dr_of J.k11, bs_, nI_1]
    have head9 : fm_sum_s9 ms = (if sv (ms.2.1 0) n (ps (ms.2.1 0) n i) = 43 then fm_sum_j27 (msi ms 14 (nI (ps (ms.2.1 0) n i))) else if sv (ms.2.1 0) n (ps (ms.2.1 0) n i) = 45 then fm_sum_j27 (msi ms 14 (nI (ps (ms.2.1 0) n i))) else some (.inr (.inr (msi ms 14 (nI (ps (ms.2.1 0) n i)))))) := by
      unfold fm_sum_s9
      rw [j_see2 J.1, bs_]
      dsimp only
      rw [j_see3 J.1, bs_]
    have s43 := see_sign J.1 B (c0 := 43) (by decide) (by decide) (by decide)
    have s45 := see_sign J.1 B (c0 := 45) (by decide) (by decide) (by decide)
    have turn : ∀ (c0 : Int32) (s : Nat), isS10 c0 = true → gA st (H + 1) i = c0 → nI (opH s) = c0 → 2 ≤ s → s ≤ 3 → (∀ m : MSt, m.1 14 = nI (ps (ms.2.1 0) n i) → m.2.1 0 = ms.2.1 0 → fm_sum_j27 m = fm_sum_j46 (nI s) m) → fm_sum_s9 ms = fm_sum_j27 (msi ms 14 (nI (ps (ms.2.1 0) n i))) → fh_X7_readSum_j91 (H + 5) (nI v2) st = (fh_X10_next H st).bind (fun x19 => some (.inr (.inl (c0, nI (v2 + 1), x19)))) → (∃ st2 ms2 rr, cSm H (F + 1) (fh_X7_readSum_j91 (H + 5) (nI v2) st) = some (.inl st2) ∧ (iter (fun x : MSt => fm_sum_s9 x) (G + 1) ms).bind (Sum.elim (fun o : MSt × Int32 => (some o : Option (MSt × Int32))) (fun x : MSt => fm_sum_j75 x)) = some (ms2, rr) ∧ RO (ms.2.1 0) H n M k st st2 ms ms2 rr (fun i2 _ cd2 sz2 it2 => i ≤ i2 ∧ sz2 + i = sz + i2 ∧ it ≤ it2 ∧ (∀ j, j < sz → cd2 j = cd j) ∧ Sg cd2 a sz2 false (it2 - b))) := by
      intro c0 s h0 hK ho hs2 hs3 j27 e9 e91
      obtain ⟨s2, en, Fn, hi, hlt, tc, J2⟩ := Js.passS h0 hK
      change RJ s2 (msi (msi ms 14 (nI (ps (ms.2.1 0) n i))) 14 (nI (ps (ms.2.1 0) n i + 1))) H n M (i + 1) (ps (ms.2.1 0) n i + 1) k cd sz it at J2
      rw [msi_msi] at J2
      obtain ⟨s3, s4, w, m3, r3, ev, el, emv, O3⟩ := j_term c0 (nI (v2 + 1)) J2 (by omega)
      have jm : fm_sum_j46 (nI s) (msi ms 14 (nI (ps (ms.2.1 0) n i))) = (if r3 = 0 then some (.inl (m3, (0 : Int32))) else (fm_puts (nI s) (0 : Int32) m3).bind fun x12 => some (.inr (.inl x12))) := by
        unfold fm_sum_j46
        rw [msi_s, nI_1, msi_msi, emv, bs_]
      have e9' := e9.trans (j27 _ (msi_s _ _ _) rfl)
      have Fst : Fr (RdX H) st s4 := (Frd Fn).tr O3.1
      have Gst : MG k ms m3 := (MG.i rfl).tr O3.2.1
      have hs4 : fh_X7_readSum_s4 (H + 5) c0 (nI (v2 + 1)) s2 = (fh_X7_put (H + 5) (-c0) s4).bind fun x30 => fh_X7_readSum_j91 (H + 5) (nI (v2 + 1)) x30 := by
        unfold fh_X7_readSum_s4
        rw [if_neg (show ¬ (400 : Int32) ≤ nI (v2 + 1) from nI_ge (b := 400) (by omega) (by omega)), chk_t (isk_t J2.k8), ev, bs_, el]
        show fh_X7_readSum_j81 (H + 5) c0 (nI (v2 + 1)) s4 = _
        unfold fh_X7_readSum_j81
        rw [if_neg (show ¬ nI (v2 + 1) ≤ (0 : Int32) from nI_ge (b := v2 + 1) (a := 0) (by omega) (by omega)), chk_t (isk_t ((O3.1.K _).trans J2.k8))]
      have cc : cSm H (F + 1) (fh_X7_readSum_j91 (H + 5) (nI v2) st) = cSm H F ((fh_X7_put (H + 5) (-c0) s4).bind fun x30 => fh_X7_readSum_j91 (H + 5) (nI (v2 + 1)) x30) := by
        rw [e91, en, bs_]
        show iter (fun x : (Int32 × Int32 × HSt) => fh_X7_readSum_s4 (H + 5) x.1 x.2.1 x.2.2) (F + 1) (c0, nI (v2 + 1), s2) = _
        rw [iter, ← hs4]
        rfl
      rw [cc]
      rcases O3.2.2 with ⟨x1, i3, q3, cd3, sz3, it3, J3, y1, y2, y3, y4, y5⟩ | ⟨x1, f, D3, y1⟩
      · subst x1
        obtain ⟨hM3, -⟩ := J3.t0
        obtain ⟨o1, o2, J4⟩ := J3.op (s := s) (by omega) (by omega)
        rw [ho] at o1 J4
        rw [if_neg (show ¬ (1 : Int32) = 0 by decide), o2, bs_] at jm
        rw [o1, bs_]
        have S4 : Sg (cdu cd3 sz3 (s, 0)) a (sz3 + 1) false (it3 - b) := by
          have a1 : Sg (cdu cd3 sz3 (s, 0)) a sz false (it - b) := S.cg (fun j hj => by rw [cdu_n (by omega)]; exact y4 j hj)
          have a2 : Sg (cdu cd3 sz3 (s, 0)) sz sz3 false (it3 - it) := y5.cg (fun j hj => cdu_n hj)
          have := a1.bin a2 (b := false) (by rw [cdu_s]; exact ty_a (by show 2 ≤ s; omega) (by show s ≤ 5; omega))
          rw [show it - b + (it3 - it) = it3 - b by omega] at this
          exact this
        have t4 : (putM m3 k sz3 (nI s)).2.1 0 = ms.2.1 0 := by rw [putM_G.1.A 0 rfl, Gst.1.A 0 rfl]
        obtain ⟨st2, ms2, rr, d1, d2, O⟩ := ih (M - i3) (by omega) _ _ i3 _ _ (sz3 + 1) it3 (v2 + 1) F G rfl J4 t4 (by omega) (by omega) (by omega) S4 (by omega) (by omega)
        refine ⟨st2, ms2, rr, d1, ?_, O.p (Fst.tr (Frp put_F)) (Gst.tr putM_G) (fun i2 q2 cd2 sz2 it2 _ h => ?_)⟩
        · rw [iter_c (s1 := fun x : MSt => fm_sum_s9 x) (x := ms) (e9'.trans jm)]; exact d2
        · obtain ⟨h1, h2, h3, h4, h5⟩ := h
          exact ⟨by omega, by omega, by omega, fun j hj => by rw [h4 j (by omega), cdu_n (by omega)]; exact y4 j hj, h5⟩
      · subst x1
        rw [if_pos rfl] at jm
        obtain ⟨s5, e5, F5, D5⟩ := d_put (x := -c0) D3
        rw [e5, bs_, d_j91 D5]
        refine ⟨s5, m3, 0, rfl, ?_, Fst.tr F5, Gst, Or.inr ⟨rfl, f, D5, y1⟩⟩
        rw [it_o (s1 := fun x : MSt => fm_sum_s9 x) (x := ms) (e9'.trans jm)]; rfl
    by_cases z43 : gA st (H + 1) i = 43
    · rw [if_pos z43, z43] at head91
      rw [if_pos (s43.mpr z43)] at head9
      refine turn 43 2 (by decide) z43 rfl (by omega) (by omega) (fun m h1 h2 => ?_) head9 head91
      obtain ⟨-, -, -, -, hlt, tc, -⟩ := Js.passS (c0 := 43) (by decide) z43
      change ps (ms.2.1 0) n i < n at hlt
      change ms.2.1 0 (ps (ms.2.1 0) n i) = 43 at tc
      unfold fm_sum_j27
      rw [h1, chk_t (inb_n (show ps (ms.2.1 0) n i < 400 by omega) (by omega)), nI_clamp (by omega), h2, if_pos tc]
      rfl
    rw [if_neg z43] at head91
    rw [if_neg (fun y => z43 (s43.mp y))] at head9
    by_cases z45 : gA st (H + 1) i = 45
    · rw [if_pos z45, z45] at head91
      rw [if_pos (s45.mpr z45)] at head9
      refine turn 45 3 (by decide) z45 rfl (by omega) (by omega) (fun m h1 h2 => ?_) head9 head91
      obtain ⟨-, -, -, -, hlt, tc, -⟩ := Js.passS (c0 := 45) (by decide) z45
      change ps (ms.2.1 0) n i < n at hlt
      change ms.2.1 0 (ps (ms.2.1 0) n i) = 45 at tc
      unfold fm_sum_j27
      rw [h1, chk_t (inb_n (show ps (ms.2.1 0) n i < 400 by omega) (by omega)), nI_clamp (by omega), h2, if_neg (show ¬ ms.2.1 0 (ps (ms.2.1 0) n i) = 43 by rw [tc]; decide)]
      rfl
    rw [if_neg z45] at head91
    rw [if_neg (fun y => z45 (s45.mp y))] at head9
    refine ⟨st, _, 1, by rw [head91]; rfl, ?_, Fr.rf, MG.i rfl, Or.inl ⟨rfl, i, _, cd, sz, it, Js, Nat.le_refl _, rfl, Nat.le_refl _, fun _ _ => rfl, S⟩⟩
    rw [iter_x (s1 := fun x : MSt => fm_sum_s9 x) (x := ms) head9]
    rfl
theorem j_sum {st : HSt} {ms : MSt} {H n M i p k sz it : Nat} {cd : Nat → Nat × Nat} (J : RJ st ms H n M i p k cd sz it) (hz : sz ≤ i) : ∃ st2 ms2 rr, fh_X7_readSum (H + 5) st = some st2 ∧ fm_sum ms = some (ms2, rr) ∧ RO (ms.2.1 0) H n M k st st2 ms ms2 rr (fun i2 _ cd2 sz2 it2 => i < i2 ∧ sz2 + i = sz + i2 ∧ it < it2 ∧ (∀ j, j < sz → cd2 j = cd j) ∧ Sg cd2 sz sz2 false (it2 - it)) := by
  obtain ⟨s1, s2, w, m1, r1, e1, el, em1, O1⟩ := j_term 0 0 J hz
  obtain ⟨F1, G1, c1⟩ := O1
  obtain ⟨N, hN⟩ := mFuel_5
  have hs4 : fh_X7_readSum_s4 (H + 5) 0 0 st = fh_X7_readSum_j91 (H + 5) 0 s2 := by
    unfold fh_X7_readSum_s4
    rw [if_neg (show ¬ (400 : Int32) ≤ 0 by decide), chk_t (isk_t J.k8), e1, bs_, el]
    show fh_X7_readSum_j81 (H + 5) 0 0 s2 = _
    unfold fh_X7_readSum_j81
    rw [if_pos (show (0 : Int32) ≤ 0 by decide)]
  have cc : fh_X7_readSum (H + 5) st = (cSm H (N + 4) (fh_X7_readSum_j91 (H + 5) 0 s2)).bind (Sum.elim (fun o : HSt => (some o : Option (HSt))) (fun x : (Int32 × Int32 × HSt) => fh_X7_readSum_j125 (H + 5) x.2.2)) := by
    unfold fh_X7_readSum
    rw [hN, iter, ← hs4]
    rfl
  rw [cc]
  unfold fm_sum
  rw [em1, bs_]
  dsimp only
  rcases c1 with ⟨x1, i1, q1, cd1, sz1, it1, J1, y1, y2, y3, y4, y5⟩ | ⟨x1, f, D1, y1⟩
  · subst x1
    obtain ⟨hM, hM4⟩ := J1.t0
    rw [if_neg (show ¬ (1 : Int32) = 0 by decide)]
    have hNl : N + 5 = 1000000 := by rw [← hN]; exact mFuel_eq
    obtain ⟨st2, ms2, rr, d1, d2, O⟩ := j_sumL (a := sz) (b := it) (t := ms.2.1 0) (M - i1) s2 m1 i1 q1 cd1 sz1 it1 0 (N + 4) mFuel rfl J1 (G1.1.A 0 rfl) (by omega) (by omega) (by omega) y5 (by omega) (by rw [mFuel_eq]; omega)
    have d1' : cSm H (N + 4) (fh_X7_readSum_j91 (H + 5) 0 s2) = some (.inl st2) := d1
    rw [d1', d2]
    exact ⟨st2, ms2, rr, rfl, rfl, O.p F1 G1 (fun i2 q2 cd2 sz2 it2 _ h => ⟨by omega, by omega, by omega, fun j hj => (h.2.2.2.1 j (by omega)).trans (y4 j hj), h.2.2.2.2⟩)⟩
  · subst x1
    rw [if_pos rfl, d_j91 D1]
    exact ⟨s2, m1, 0, rfl, rfl, F1, G1, Or.inr ⟨rfl, f, D1, y1⟩⟩
