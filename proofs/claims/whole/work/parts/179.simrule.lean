/-! rule: the two agree -/
/-- the relation looks at the RULES told alone -/
theorem Rel.mu {hx nr : Nat} {st : HSt} {ms ms2 : MSt} (R : Rel hx st ms) (hnr : ms.1 2 = nI nr) (hn6 : nr ≤ 6) (i1 : ms2.1 1 = ms.1 1) (i2 : ms2.1 2 = ms.1 2) (a0 : ms2.2.1 0 = ms.2.1 0) (a26 : ms2.2.1 26 = ms.2.1 26) (a40 : ms2.2.1 40 = ms.2.1 40) (a41 : ms2.2.1 41 = ms.2.1 41) (b3 : ∀ x, x < 400 * nr → ms2.2.1 3 x = ms.2.1 3 x) (b5 : ∀ x, x < 60 * nr → ms2.2.1 5 x = ms.2.1 5 x) (b6 : ∀ x, x < nr → ms2.2.1 6 x = ms.2.1 6 x) : Rel hx st ms2 := by
  obtain ⟨t, nr', r, w, hi, h, p, T, U, I, V, J⟩ := R
  refine ⟨t, nr', r, w, hi, h, p, ?_, ?_, by rw [a26]; exact I, by rw [a26]; exact V, ?_⟩
  · obtain ⟨t1, t2, t3, t4, t5, t6, t7, t8⟩ := T
    exact ⟨t1, t2, t3, t4, t5, i1.trans t6, t7, by rw [a0]; exact t8⟩
  · obtain ⟨r1, r2, r3, r4⟩ := U
    have e : nr' = nr := (nI_eq (by omega) (by omega)).mp (r2.symm.trans hnr)
    subst e
    refine ⟨r1, i2.trans r2, r3, fun k hk => ?_⟩
    obtain ⟨q, u, N, e, R, O, M⟩ := r4 k hk
    refine ⟨q, u, N, e, R, O, ?_⟩
    obtain ⟨m1, m2, m3, m4, m5⟩ := M
    refine ⟨m1, m2, by rw [b6 k hk]; exact m3, fun c hc => ?_, fun j hj => by rw [b3 _ (by omega)]; exact m5 j hj⟩
    have := O.1
    rw [b5 (60 * k + 5 * c) (by omega), b5 (60 * k + 5 * c + 1) (by omega), b5 (60 * k + 5 * c + 2) (by omega), b5 (60 * k + 5 * c + 3) (by omega), b5 (60 * k + 5 * c + 4) (by omega)]
    exact m4 c hc
  · have ev : ∀ k, imV ms2 k = imV ms k := fun k => by funext i; unfold imV; rw [a40]
    unfold ImS at *
    refine ⟨fun k hk => ?_, J.2⟩
    rw [a41, ev]; exact J.1 k hk
/-- one more RULE -/
theorem Rel.add {hx nr q N : Nat} {st : HSt} {ms : MSt} {u : Ru} (R : Rel hx st ms) (hnr : ms.1 2 = nI nr) (hn6 : nr < 6) (hR : RuR st q u) (hO : RuOk u) (hM : MrR ms nr u N) : Rel hx (sI (sQ st (hx + 2) nr (some q)) 1103 hx (nI (nr + 1))) (msi ms 2 (nI (nr + 1))) := by
  obtain ⟨t, nr', r, w, hi, h, p, T, U, I, V, J⟩ := R
  obtain ⟨r1, r2, r3, r4⟩ := U
  have e : nr' = nr := (nI_eq (by omega) (by omega)).mp (r2.symm.trans hnr)
  subst e
  let s1 := sQ st (hx + 2) nr' (some q)
  have hs1 : Sh hx s1 := by
    obtain ⟨h1, h2, h3, h4, ⟨g1, g2, g3, g4, g5, g6, g7, g8, g9, g10, g11, g12⟩, h6, h7⟩ := h
    refine ⟨h1, h2, h3, h4, ⟨g1, g2, g3, g4, g5, g6, g7, g8, g9, g10, g11, fun i hi => ?_⟩, h6, h7⟩
    show gQ (sQ st (hx + 2) nr' (some q)) (hx + 31) i = _
    rw [gQ_sQ, if_neg (by omega)]; exact g12 i hi
  have w1 : Wf s1 := w
  have k0 : gK st hx = 12 := h.k (j := 0) (by omega) rfl
  have F : Fr (fun b => b = hx) s1 (sI s1 1103 hx (nI (nr' + 1))) := Fr.sI rfl
  have nk : ∀ b c, gK st b = c → c ≠ 12 → ¬ b = hx := fun b c hb hc z => by rw [z, k0] at hb; exact hc hb.symm
  have im : ∀ {S r : Nat} {v : Nat → Int32}, ImR st S r v → VOk 9999 v → ImR (sI s1 1103 hx (nI (nr' + 1))) S r v := by
    intro S r v I V
    have I1 : ImR s1 S r v := I
    have kS := I.2.1.1
    have kr := I.1.2.1.1
    obtain ⟨k1, k8, k9, k10, k11, k12⟩ := site_k w kS
    obtain ⟨KR, -⟩ := w.2.1 r kr
    refine I1.fr V F (nk _ 9 kS (by omega)) (nk _ 10 k1 (by omega)) (nk _ 22 k8 (by omega)) (nk _ 22 k9 (by omega)) (nk _ 22 k10 (by omega)) (nk _ 22 k11 (by omega)) (nk _ 22 k12 (by omega)) (fun j hj => ?_)
    rcases Nat.eq_zero_or_pos j with z | z
    · subst z; exact nk _ 5 kr (by omega)
    · exact nk _ 22 (KR j z hj) (by omega)
  have ru : ∀ {b : Nat} {v : Ru}, RuR st b v → RuR (sI s1 1103 hx (nI (nr' + 1))) b v := by
    intro b v Rb
    have R1 : RuR s1 b v := Rb
    obtain ⟨K, -⟩ := w.2.2.1 b Rb.1
    refine R1.fr F (fun j hj => ?_)
    rcases Nat.eq_zero_or_pos j with z | z
    · subst z; exact nk _ 7 Rb.1 (by omega)
    · exact nk _ 22 (K j z hj) (by omega)
  refine ⟨t, nr' + 1, r, F.Wf w1, (show Hi s1 from hi).fr F, hs1.fr F, (show PkR hx s1 from p).fr F (by omega), ?_, ⟨gI_sI _ _ _ _, msi_s _ _ _, by omega, fun k hk => ?_⟩, im I V, V, fun k hk => ?_, fun j k S hj hk a b => ?_⟩
  · obtain ⟨t1, t2, t3, t4, t5, t6, t7, t8⟩ := T
    exact ⟨t1, t2, t3, t4, (gI_sI_ne (Or.inl (by omega))).trans t5, by rw [msi_n (by omega)]; exact t6, t7, t8⟩
  · show ∃ q' u N, gQ (sQ st (hx + 2) nr' (some q)) (hx + 2) k = some q' ∧ _
    rw [gQ_sQ]
    by_cases z : k = nr'
    · rw [if_pos ⟨rfl, z⟩]
      exact ⟨q, u, N, rfl, ru hR, hO, by rw [z]; exact hM⟩
    · rw [if_neg (fun y => z y.2)]
      obtain ⟨q', u', N', e', R', O', M'⟩ := r4 k (by omega)
      exact ⟨q', u', N', e', ru R', O', M'⟩
  · show (gQ (sQ st (hx + 2) nr' (some q)) (hx + 16) k = none ∧ _) ∨ ∃ S r, gQ (sQ st (hx + 2) nr' (some q)) (hx + 16) k = some S ∧ _
    rw [gQ_sQ, if_neg (by omega)]
    rcases J.1 k hk with z | ⟨S, r', a, b, c, d, e⟩
    · exact Or.inl z
    · exact Or.inr ⟨S, r', a, b, im c d, d, e⟩
  · refine J.2 j k S hj hk ?_ ?_
    · have a' : gQ (sQ st (hx + 2) nr' (some q)) (hx + 16) j = some S := a
      rw [gQ_sQ, if_neg (by omega)] at a'; exact a'
    · have b' : gQ (sQ st (hx + 2) nr' (some q)) (hx + 16) k = some S := b
      rw [gQ_sQ, if_neg (by omega)] at b'; exact b'
