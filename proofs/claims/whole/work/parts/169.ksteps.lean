/-! reading a RULE: what is left to do, step by step -/
theorem push_14 {m : MSt} {l d : Nat} {x a : Int32} : msi (msi (pushM m l x) 19 (nI d)) 14 a = msi (pushM (msi m 14 a) l x) 19 (nI d) := by
  show (upd (upd (upd m.1 22 _) 19 _) 14 a, _) = (upd (upd (upd m.1 14 a) 22 _) 19 _, _)
  have e : upd (upd (upd m.1 22 (nI (l + 1))) 19 (nI d)) 14 a = upd (upd (upd m.1 14 a) 22 (nI (l + 1))) 19 (nI d) := by
    funext j
    by_cases q : j = 14
    · rw [q, pk_us, pk_un (by omega), pk_un (by omega), pk_us]
    · rw [pk_un q]
      by_cases q2 : j = 19
      · rw [q2, pk_us, pk_us]
      · rw [pk_un q2, pk_un q2]
        by_cases q3 : j = 22
        · rw [q3, pk_us, pk_us]
        · rw [pk_un q3, pk_un q3, pk_un q]
  rw [e]; rfl
section RTS
variable {st : HSt} {ms : MSt} {H n M i p k sz it dp : Nat} {cd : Nat → Nat × Nat} {P S : List Nat}
theorem RT.st_ (R : RT st ms H n M i p k cd sz it P S dp) : StR ms (P ++ S) := R.2.2.2.2.2.2.2.1
theorem RT.b8 (R : RT st ms H n M i p k cd sz it P S dp) : B8 (ms.2.1 0) n := R.2.2.2.2.2.2.1
theorem RT.cap (R : RT st ms H n M i p k cd sz it P S dp) : sz + S.length ≤ i := R.2.2.2.2.2.2.2.2.2.1
theorem RT.bnd (R : RT st ms H n M i p k cd sz it P S dp) : ∀ x, x ∈ P ++ S → 11 ≤ x ∧ x < 1000 := R.2.2.2.2.2.2.2.2.2.2
theorem RT.len (R : RT st ms H n M i p k cd sz it P S dp) : (P ++ S).length ≤ 400 ∧ S.length ≤ i := by
  obtain ⟨hiM, hM⟩ := R.t0
  have c := R.cap
  obtain ⟨s, s1, -⟩ := R.2.2.2.1
  rw [List.length_append]
  omega
theorem RT.isW {j c : Nat} (R : RT st ms H n M i (ps (ms.2.1 0) n i) k cd sz it P S dp) (hc : gA st (H + 1) i = nI c) (h9 : c < 279) (hj : j < 23) : fm_isWord (wV j) ms = some (ms, if c = 256 + j then 1 else 0) := j_w R.1 hc h9 hj
/-- NOT or a bracket is opened -/
theorem RT.open_ {x c : Nat} (R : RT st ms H n M i p k cd sz it [] S dp) (hd : dp < 10) (hc : gA st (H + 1) i = nI c) (hx : (c = 269 ∧ x = 11) ∨ (c = 91 ∧ x = 91)) : ∃ st2 ms2 q2, fh_X10_next H st = some st2 ∧ Fr (fun b => b = H) st st2 ∧ (∀ G F, Kf (G + 1) F ms = Kf G F ms2) ∧ MT k ms ms2 ∧ i < M ∧ RT st2 ms2 H n M (i + 1) q2 k cd sz it [] (x :: S) (dp + 1) := by
  have Rs := R.seen
  have hl := R.len
  obtain ⟨hiM, hM⟩ := R.t0
  generalize hm : msi ms 14 (nI (ps (ms.2.1 0) n i)) = m at Rs
  have tm : m.2.1 0 = ms.2.1 0 := by rw [← hm]; rfl
  rw [← tm] at Rs
  have Gm : MT k ms m := by rw [← hm]; exact MT.i rfl
  have m14 : m.1 14 = nI (ps (m.2.1 0) n i) := Rs.1.2.1.2.2.1
  have hi : i < M := Rs.1.1.lt hc (by omega) (by omega)
  have op := m_opens (x := x) (dp := dp) Rs.st_ (show S.length < 400 by have := R.cap; omega) (by have := Rs.2.2.2.2.2.2.2.2.1; exact this) (by omega) m14 Rs.1.2.2.1
  rw [if_neg (show ¬ dp = 10 by omega)] at op
  obtain ⟨st2, e2, F2, R2, c2⟩ := Rs.next hi
  have R3 := R2.push (x := x) (d2 := dp + 1) (by rcases hx with z | z <;> omega) c2
  rw [← push_14] at R3
  have hsee : fm_see ms = some (m, sv (ms.2.1 0) n (ps (ms.2.1 0) n i)) := by rw [j_see2 R.1, hm]
  have W := Rs.isW (j := 13) hc (by omega) (by omega)
  refine ⟨st2, _, _, e2, F2, fun G F => ?_, Gm.tr (push_T.tr (MT.i rfl)), hi, R3⟩
  have step : fm_fact_s2 1 ms = some (.inr (.inl (1, msi (msi (pushM m S.length (nI x)) 19 (nI (dp + 1))) 14 (nI (tE (m.2.1 0) n (ps (m.2.1 0) n i)))))) := by
    unfold fm_fact_s2
    rw [if_neg (show ¬ (1 : Int32) = 0 by decide), hsee, bs_]
    dsimp only
    rw [wV_13, W, bs_]
    dsimp only
    rcases hx with ⟨z1, z2⟩ | ⟨z1, z2⟩
    · obtain ⟨-, te⟩ := Rs.tE_w (j := 13) (by omega) (by rw [hc, z1])
      rw [if_pos (show c = 256 + 13 by omega), if_neg (show ¬ (1 : Int32) = 0 by decide)]
      subst z2
      rw [show fm_opens (11 : Int32) m = some (msi (pushM m S.length (nI 11)) 19 (nI (dp + 1)), 1) from op, bs_]
      dsimp only
      rw [if_neg (show ¬ (1 : Int32) = 0 by decide)]
      have A3 : At (msi (pushM m S.length (nI 11)) 19 (nI (dp + 1))) n (ps (m.2.1 0) n i) := by
        have A := Rs.1.2.1
        exact ⟨A.1, A.2.1, A.2.2.1, A.2.2.2⟩
      have t3 : (msi (pushM m S.length (nI 11)) 19 (nI (dp + 1))).2.1 0 = m.2.1 0 := by
        show (msa m 21 S.length (nI 11)).2.1 0 = _
        rw [msa_n (by omega)]
      rw [m_passWord A3, bs_, t3, te]
    · obtain ⟨-, te⟩ := Rs.tE_c (c0 := 91) (by decide) (by decide) (by decide) (by rw [hc, z1]; rfl)
      have s91 := (see_sign R.1 R.b8 (c0 := 91) (by decide) (by decide) (by decide)).mpr (by rw [hc, z1]; rfl)
      rw [if_neg (show ¬ c = 256 + 13 by omega), if_pos rfl, if_pos s91]
      subst z2
      rw [show fm_opens (91 : Int32) m = some (msi (pushM m S.length (nI 91)) 19 (nI (dp + 1)), 1) from op, bs_]
      dsimp only
      rw [if_neg (show ¬ (1 : Int32) = 0 by decide), show (msi (pushM m S.length (nI 91)) 19 (nI (dp + 1))).1 14 = nI (ps (m.2.1 0) n i) from m14, nI_1, te]
  unfold Kf
  rw [iter_c (s1 := fun x : (Int32 × MSt) => fm_fact_s2 x.1 x.2) (x := (1, ms)) step]
/-- too deep -/
theorem RT.deep_ {c : Nat} (R : RT st ms H n M i p k cd sz it [] S 10) (hc : gA st (H + 1) i = nI c) (hx : c = 269 ∨ c = 91) : ∃ ms2, (∀ G F, Kf (G + 1) F ms = some (ms2, 0)) ∧ MT k ms ms2 ∧ ms2.1 15 = nI (1 + 8 * ps (ms.2.1 0) n i + 2) := by
  have Rs := R.seen
  have hl := R.len
  obtain ⟨hiM, hM⟩ := R.t0
  generalize hm : msi ms 14 (nI (ps (ms.2.1 0) n i)) = m at Rs
  have tm : m.2.1 0 = ms.2.1 0 := by rw [← hm]; rfl
  rw [← tm] at Rs
  have Gm : MT k ms m := by rw [← hm]; exact MT.i rfl
  have m14 : m.1 14 = nI (ps (m.2.1 0) n i) := Rs.1.2.1.2.2.1
  have hi : i < M := Rs.1.1.lt hc (by omega) (by omega)
  have op : ∀ x, fm_opens (nI x) m = some (msi m 15 (nI (1 + 8 * ps (m.2.1 0) n i + 2)), 0) := fun x => by
    have := m_opens (x := x) (dp := 10) Rs.st_ (show S.length < 400 by have := R.cap; omega) (by have := Rs.2.2.2.2.2.2.2.2.1; exact this) (by omega) m14 Rs.1.2.2.1
    rw [if_pos rfl] at this; exact this
  have hsee : fm_see ms = some (m, sv (ms.2.1 0) n (ps (ms.2.1 0) n i)) := by rw [j_see2 R.1, hm]
  have W := Rs.isW (j := 13) hc (by omega) (by omega)
  refine ⟨msi m 15 (nI (1 + 8 * ps (ms.2.1 0) n i + 2)), fun G F => ?_, Gm.tr (MT.i rfl), msi_s _ _ _⟩
  have step : fm_fact_s2 1 ms = some (.inl (msi m 15 (nI (1 + 8 * ps (ms.2.1 0) n i + 2)), 0)) := by
    unfold fm_fact_s2
    rw [if_neg (show ¬ (1 : Int32) = 0 by decide), hsee, bs_]
    dsimp only
    rw [wV_13, W, bs_]
    dsimp only
    rcases hx with z1 | z1
    · rw [if_pos (show c = 256 + 13 by omega), if_neg (show ¬ (1 : Int32) = 0 by decide), show fm_opens (11 : Int32) m = some (msi m 15 (nI (1 + 8 * ps (m.2.1 0) n i + 2)), 0) from op 11, bs_]
      dsimp only
      rw [if_pos rfl, tm]
    · have s91 := (see_sign R.1 R.b8 (c0 := 91) (by decide) (by decide) (by decide)).mpr (by rw [hc, z1]; rfl)
      rw [if_neg (show ¬ c = 256 + 13 by omega), if_pos rfl, if_pos s91, show fm_opens (91 : Int32) m = some (msi m 15 (nI (1 + 8 * ps (m.2.1 0) n i + 2)), 0) from op 91, bs_]
      dsimp only
      rw [if_pos rfl, tm]
  unfold Kf
  rw [it_o (s1 := fun x : (Int32 × MSt) => fm_fact_s2 x.1 x.2) (x := (1, ms)) step]
  rw [bs_]
  show Kf2 F (msi m 15 (nI (1 + 8 * ps (ms.2.1 0) n i + 2)), 0) = _
  unfold Kf2
  rw [if_pos rfl]
/-- neither: a comparison -/
theorem RT.cmpK_ {c : Nat} (R : RT st ms H n M i p k cd sz it [] S dp) (hc : gA st (H + 1) i = nI c) (h9 : c < 279) (h1 : c ≠ 269) (h2 : c ≠ 91) (G F : Nat) : Kf (G + 2) F ms = (bq (fm_compare (msi ms 14 (nI (ps (ms.2.1 0) n i))))).bind (Kf2 F) := by
  have Rs := R.seen
  generalize hm : msi ms 14 (nI (ps (ms.2.1 0) n i)) = m at Rs ⊢
  have tm : m.2.1 0 = ms.2.1 0 := by rw [← hm]; rfl
  rw [← tm] at Rs
  have hsee : fm_see ms = some (m, sv (ms.2.1 0) n (ps (ms.2.1 0) n i)) := by rw [j_see2 R.1, hm]
  have W := Rs.isW (j := 13) hc h9 (by omega)
  have n91 : ¬ sv (ms.2.1 0) n (ps (ms.2.1 0) n i) = 91 := fun y => by
    have := (see_sign R.1 R.b8 (c0 := 91) (by decide) (by decide) (by decide)).mp y
    rw [hc] at this
    exact h2 ((nI_eq (b := 91) (by omega) (by omega)).mp this)
  have step : fm_fact_s2 1 ms = some (.inr (.inl (0, m))) := by
    unfold fm_fact_s2
    rw [if_neg (show ¬ (1 : Int32) = 0 by decide), hsee, bs_]
    dsimp only
    rw [wV_13, W, bs_]
    dsimp only
    rw [if_neg (show ¬ c = 256 + 13 by omega), if_pos rfl, if_neg n91]
  have step2 : fm_fact_s2 0 m = some (.inr (.inr (0, m))) := by
    unfold fm_fact_s2
    rw [if_pos rfl]
  unfold Kf
  rw [iter_c (s1 := fun x : (Int32 × MSt) => fm_fact_s2 x.1 x.2) (x := (1, ms)) step, iter_x (s1 := fun x : (Int32 × MSt) => fm_fact_s2 x.1 x.2) (x := (0, m)) step2]
  rfl
/-- a bracket is closed -/
theorem RT.close_ (R : RT st ms H n M i p k cd sz it P (91 :: S) (dp + 1)) (hP : ∀ x, x ∈ P → x = 12 ∨ x = 13) (hK : gA st (H + 1) i = 93) : ∃ st2 ms2 q2, fh_X10_next H st = some st2 ∧ Fr (fun b => b = H) st st2 ∧ (∀ G F, Kc (G + 1) F ms = (fm_settles (3 : Int32) ms2).bind fun m => Kc G F m) ∧ MT k ms ms2 ∧ i < M ∧ RT st2 ms2 H n M (i + 1) q2 k cd sz it [] S dp := by
  have Rs := R.seen
  obtain ⟨hiM, hM⟩ := R.t0
  generalize hm : msi ms 14 (nI (ps (ms.2.1 0) n i)) = m at Rs
  have tm : m.2.1 0 = ms.2.1 0 := by rw [← hm]; rfl
  have Gm : MT k ms m := by rw [← hm]; exact MT.i rfl
  have hsee : fm_see ms = some (m, sv (ms.2.1 0) n (ps (ms.2.1 0) n i)) := by rw [j_see2 R.1, hm]
  have s93 := (see_sign R.1 R.b8 (c0 := 93) (by decide) (by decide) (by decide)).mpr hK
  have ins := m_inside Rs.st_ Rs.len.1 (fun x hx => (Rs.bnd x hx).2)
  rw [if_pos (List.mem_append_right _ (List.mem_cons_self ..))] at ins
  obtain ⟨m3, e3, G3, R3⟩ := Rs.settle (L := 1) (by omega) (fun x hx => by rcases hP x hx with z | z <;> rw [z] <;> decide) (Or.inr ⟨91, S, rfl, by decide⟩)
  have e3' : fm_settles (1 : Int32) m = some m3 := e3
  have t3 : m3.2.1 0 = ms.2.1 0 := by rw [G3.1.A 0 rfl, tm]
  rw [← t3] at R3
  obtain ⟨hi, te⟩ := R3.tE_c (c0 := 93) (by decide) (by decide) (by decide) hK
  obtain ⟨st2, e2, F2, R4, -⟩ := R3.next hi
  rw [te] at R4
  obtain ⟨J4, E4, C4, s4, ⟨i41, i42, i43⟩, ⟨k41, k42⟩, B4, ⟨T41, T42⟩, d4, c4, b4⟩ := R4
  let m5 := msi (msi (msi m3 22 (nI S.length)) 19 (nI dp)) 14 (nI (ps (m3.2.1 0) n i + 1))
  have l91 : (91 :: S).length = S.length + 1 := rfl
  have T31 : m3.1 22 = nI (S.length + 1) := R3.st_.1
  have d3 : m3.1 19 = nI (dp + 1) := R3.2.2.2.2.2.2.2.2.1
  have q14 : m3.1 14 = nI (ps (m3.2.1 0) n i) := R3.1.2.1.2.2.1
  have G5 : MF (fun q => q == 14 || q == 19 || q == 22) m3 m5 := ((MF.msi rfl).tr (MF.msi rfl)).tr (MF.msi rfl)
  have J5 : Jt2 st2 m5 H n M (i + 1) (ps (m3.2.1 0) n i + 1) := by
    obtain ⟨a1, ⟨a2, a3, a4, a5⟩, a6, a7⟩ := J4
    refine ⟨a1, ⟨?_, a3, msi_s _ _ _, a5⟩, ?_, a7⟩
    · rw [G5.I 1 rfl]
      rw [msi_n (by omega)] at a2; exact a2
    · rw [G5.I 15 rfl]
      rw [msi_n (by omega)] at a6; exact a6
  refine ⟨st2, m5, ps (m3.2.1 0) n i + 1, e2, F2, fun G F => ?_, (Gm.tr G3).tr ⟨G5.mo (fun q h => by rcases (by simpa using h : (q = 14 ∨ q = 19) ∨ q = 22) with (z | z) | z <;> rw [z] <;> rfl), fun y _ => by rw [G5.A 3 rfl]⟩, hi, J5, E4, C4, ?_, ⟨i41, ?_, i43⟩, ⟨?_, k42⟩, B4, ⟨?_, ?_⟩, ?_, ?_, fun x hx => b4 x (List.mem_cons_of_mem _ hx)⟩
  · have step : fm_closes_s5 ms = (fm_settles (3 : Int32) m5).bind fun x11 => some (.inr (.inl x11)) := by
      unfold fm_closes_s5
      rw [hsee, bs_]
      dsimp only
      rw [if_pos s93, ins, bs_]
      dsimp only
      rw [if_neg (show ¬ (1 : Int32) = 0 by decide), e3', bs_, T31, nI_pred]
      rw [show (msi m3 22 (nI S.length)).1 19 = nI (dp + 1) by rw [msi_n (by omega)]; exact d3, nI_pred]
      rw [show (msi (msi m3 22 (nI S.length)) 19 (nI dp)).1 14 = nI (ps (m3.2.1 0) n i) by rw [msi_n (by omega), msi_n (by omega)]; exact q14, nI_1]
    unfold Kc
    rw [iter]
    show ((fm_closes_s5 ms).bind _).bind _ = _
    rw [step]
    cases fm_settles (3 : Int32) m5 with
    | none => rfl
    | some a => rfl
  · obtain ⟨s, s1, s2, s3⟩ := s4
    exact ⟨s, s1, s2, s3⟩
  · rw [G5.I 18 rfl]
    rw [msi_n (by omega)] at i42; exact i42
  · rw [G5.I 17 rfl]
    rw [msi_n (by omega)] at k41; exact k41
  · show (msi (msi (msi m3 22 (nI S.length)) 19 (nI dp)) 14 _).1 22 = _
    rw [msi_n (by omega), msi_n (by omega), msi_s]; rfl
  · exact T42.2
  · show (msi (msi (msi m3 22 (nI S.length)) 19 (nI dp)) 14 _).1 19 = _
    rw [msi_n (by omega), msi_s]; rfl
  · rw [l91] at c4; omega
/-- no bracket is closed here -/
theorem RT.stop_ (R : RT st ms H n M i p k cd sz it P S dp) (h : gA st (H + 1) i ≠ 93 ∨ ¬ 91 ∈ P ++ S) (G F : Nat) : Kc (G + 1) F ms = Kr F (msi ms 14 (nI (ps (ms.2.1 0) n i))) := by
  have Rs := R.seen
  have ins := m_inside Rs.st_ Rs.len.1 (fun x hx => (Rs.bnd x hx).2)
  have s93 := see_sign R.1 R.b8 (c0 := 93) (by decide) (by decide) (by decide)
  have step : fm_closes_s5 ms = some (.inr (.inr (msi ms 14 (nI (ps (ms.2.1 0) n i))))) := by
    unfold fm_closes_s5
    rw [j_see2 R.1, bs_]
    dsimp only
    by_cases z : gA st (H + 1) i = 93
    · rcases h with y | y
      · exact absurd z y
      · rw [if_pos (s93.mpr z), ins, bs_]
        dsimp only
        rw [if_neg y, if_pos rfl]
    · rw [if_neg (fun y => z (s93.mp y))]
  unfold Kc
  rw [iter_x (s1 := fun x : MSt => fm_closes_s5 x) (x := ms) step]
  rfl
end RTS
