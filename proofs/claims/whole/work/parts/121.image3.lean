/-! image -/
theorem gQ_sQ {st : HSt} {a i b j : Nat} {v : Option Nat} : gQ (sQ st a i v) b j = if b = a ∧ j = i then v else gQ st b j := by
  show va_up st.2.2.2.2.1 a (va_up (st.2.2.2.2.1 a) i v) b j = _
  by_cases h : b = a
  · rw [h, va_up_self]
    by_cases h2 : j = i
    · rw [h2, va_up_self, if_pos ⟨rfl, rfl⟩]
    · rw [va_up_ne _ _ h2, if_neg (fun z => h2 z.2)]
  · rw [va_up_ne _ _ h, if_neg (fun z => h z.1)]
theorem Re0.sq {hx k : Nat} {st : HSt} {ms : MSt} {v : Option Nat} (R : Re0 hx st ms) : Re0 hx (sQ st (hx + 16) k v) ms := by
  obtain ⟨t, nr, r, w, hi, h, p, T, U, I, V⟩ := R
  refine ⟨t, nr, r, w, hi, ?_, p, T, ?_, I, V⟩
  · obtain ⟨h1, h2, h3, h4, ⟨a1, a2, a3, a4, a5, a6, a7, a8, a9, a10, a11, a12⟩, h6⟩ := h
    exact ⟨h1, h2, h3, h4, ⟨a1, a2, a3, a4, a5, a6, a7, a8, a9, a10, a11, fun i hi => by rw [gQ_sQ, if_neg (fun z => by have := z.1; omega)]; exact a12 i hi⟩, h6⟩
  · obtain ⟨r1, r2, r3, r4⟩ := U
    refine ⟨r1, r2, r3, fun j hj => ?_⟩
    obtain ⟨q, u, Nn, e, R, O, M⟩ := r4 j hj
    exact ⟨q, u, Nn, by rw [gQ_sQ, if_neg (fun z => by have := z.1; omega)]; exact e, R, O, M⟩
theorem sim_image : Sim1 Rel fh_X11_image fm_image := sim1_of (fun hx st ms a R => by
  have R0 := R
  obtain ⟨t, nr, r, w, hi, h, p, T, U, I, V, J⟩ := R
  have Re : Re0 hx st ms := ⟨t, nr, r, w, hi, h, p, T, U, I, V⟩
  unfold fh_X11_image fm_image
  rw [h_in (L := 0) (U := 3) (by decide) (by decide), bs_, m_in (L := 0) (U := 3) (by decide) (by decide), bs_]
  dsimp only
  rcases wI_c a 0 3 with ⟨e1, l1⟩ | ⟨e1, l1, l2⟩
  · rw [e1]
    exact ⟨(st, -1), (ms, -1), rfl, rfl, rfl, R0⟩
  obtain ⟨k, hk, rfl⟩ := n_of (a := a) (U := 3) l1 l2
  have k16 : gK st (hx + 16) = 26 := h.k (by omega) rfl
  rw [e1, if_neg (show ¬ (1 : Int32) = 0 by decide), if_neg (show ¬ (1 : Int32) = 0 by decide), chk_t (st_k h), h.2.1.2.2.2.2.2.1, dr_of k16, bs_, h.2.1.2.2.2.2.2.2.1, chk_t (inb_n (by omega) (by omega)), chk_t (inb_n (by omega) (by omega)), nI_clamp (by omega)]
  rcases J.1 k (by omega) with ⟨j1, j2⟩ | ⟨S, rS, j1, j2, IS, VS, hS⟩
  · rw [j1, if_pos rfl]
    obtain ⟨w2, hi2, E2, kN⟩ := Wf_new w hi
    have si : fh_X8_init (gN st) (nO st 9 0) = some (run (gN st) st newO) := s_site (N := gN st) (st := st) (os := [(0, 9, 0, 0)]) (j := 0) (c := 1) rfl rfl rfl
    have e16 := E2 (hx + 16) (h.lt hi (by omega))
    have Re2 : Re0 hx (run (gN st) st newO) ms := Re.ext w2 hi2 E2
    have N3 : gN st ≠ hx + 3 := fun z => by have := h.lt hi (j := 3) (by omega); omega
    have X : ImX hx (sQ (run (gN st) st newO) (hx + 16) k (some (gN st))) ms k (gN st) := by
      refine ⟨fun j hj jk => ?_, fun j l S hj hl a b => ?_, by rw [gQ_sQ, if_pos ⟨rfl, rfl⟩], kN, N3⟩
      · rw [gQ_sQ, if_neg (fun z => jk z.2), e16.2.2.2.2.1]
        rcases J.1 j hj with q | ⟨S', r', a, b, c, d, e⟩
        · exact Or.inl q
        · have c2 : ImR (run (gN st) st newO) S' r' (imV ms j) := c.ext w hi E2
          exact Or.inr ⟨S', r', a, b, c2, d, e⟩
      · rw [gQ_sQ] at a b
        rw [e16.2.2.2.2.1] at a b
        have old : ∀ j, j < 4 → gQ st (hx + 16) j = some S → S ≠ gN st := fun j hj z e => by
          rcases J.1 j hj with ⟨q, -⟩ | ⟨S', r', a', b', c, d, e'⟩
          · rw [q] at z; cases z
          · rw [a'] at z; injection z with z
            have := hi.lt (b := S') (by rw [c.2.1.1]; omega)
            omega
        by_cases jk : j = k
        · by_cases lk : l = k
          · omega
          · rw [if_pos ⟨rfl, jk⟩] at a
            rw [if_neg (fun z => lk z.2)] at b
            injection a with a
            exact absurd a.symm (old l hl b)
        · rw [if_neg (fun z => jk z.2)] at a
          by_cases lk : l = k
          · rw [if_pos ⟨rfl, lk⟩] at b
            injection b with b
            exact absurd b.symm (old j hj a)
          · rw [if_neg (fun z => lk z.2)] at b
            exact J.2 j l S hj hl a b
    obtain ⟨x1, x2, f1, f2, f3, f4⟩ := image_j (k := k) (by omega) (Re2.sq (k := k) (v := some (gN st))) X
    refine ⟨x1, x2, ?_, f2, f3, f4⟩
    rw [bs_, si, bs_, chk_t (isk_t kN), chk_t (isk_t (e16.1.trans k16)), e16.2.1, h.2.1.2.2.2.2.2.2.1, chk_t (inb_n (by omega) (by omega))]
    exact f1
  · rw [j1, if_neg (by intro z; cases z), bs_]
    exact image_j (k := k) (by omega) Re ⟨fun j hj _ => J.1 j hj, J.2, j1, IS.2.1.1, hS⟩)
