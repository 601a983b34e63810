/-! reading a RULE: a clause behind its first word, both sides -/
noncomputable def bodyH (H c kd : Nat) (st : HSt) : Option HSt := (fh_X10_next H st).bind fun x23 => (some (sA (sA x23 (H + 6) c (nI kd)) (H + 7) c (gI x23 705 (H + 5)))).bind fun x36 => (if kd = 262 ∨ kd = 263 then fh_X7_readClause_j89 (H + 5) (nI c) 1 x36 else fh_X7_readClause_j89 (H + 5) (nI c) 0 x36)
theorem j_doing {st : HSt} {ms : MSt} {H n M i k sz it c s : Nat} {cd : Nat → Nat × Nat} (J : RJ st ms H n M i (ps (ms.2.1 0) n i) k cd sz it) (hz : sz ≤ i) (hs : s < 4) (hK : gA st (H + 1) i = nI (262 + s)) (hc : c < 12) (h6 : ms.2.1 6 k = nI c) : ∃ st2 ms2 rr, bodyH H c (262 + s) st = some st2 ∧ fm_isDoingHere (nI s) ms = some (ms2, rr) ∧ Fr (RdZ H) st st2 ∧ MD k ms ms2 ∧
    ((rr = 1 ∧ ∃ i2 q2 cd2 sz2 it2 q, RJ st2 ms2 H n M i2 q2 k cd2 sz2 it2 ∧ sz2 ≤ i2 ∧ sz ≤ sz2 ∧ (∀ j, j < sz → cd2 j = cd j) ∧ ClO cd2 q sz2 ∧ q.1 = s ∧ q.2.1 = sz ∧ q.2.2.2 = sz2 ∧ gA st2 (H + 6) = upd (gA st (H + 6)) c (nI (262 + s)) ∧ gA st2 (H + 7) = upd (upd (gA st (H + 7)) c (nI sz)) (c + 1) (nI sz2) ∧ gA st2 (H + 8) = upd (gA st (H + 8)) c (nI q.2.2.1) ∧ ClM ms2 k c q ∧ (∀ x, x < 60 * k + 5 * c → ms2.2.1 5 x = ms.2.1 5 x) ∧ ms2.2.1 6 k = nI (c + 1)) ∨
     (rr = 0 ∧ ∃ f, Dd st2 H (ms.2.1 0) n M f ∧ ms2.1 15 = f)) := by
  have hiT := J.1.1
  obtain ⟨hiM, hM⟩ := J.t0
  have hi : i < M := hiT.lt hK (by omega) (by omega)
  have k2 := J.2.2.2.2.2.1.2
  generalize hAd : 60 * k + 5 * c = A
  have hA4 : A + 4 < 360 := by omega
  -- the word is passed
  have fl := (((hiT.2.2.2.2.2.2.2 i hi).2.1.word (i := 6 + s) (by omega)).mp (by rw [hK, show 256 + (6 + s) = 262 + s by omega])).1
  have te : tE (ms.2.1 0) n (ps (ms.2.1 0) n i) = rE (fL (ms.2.1 0)) n (ps (ms.2.1 0) n i) := by unfold tE; rw [if_pos fl]
  obtain ⟨s1, e1, F1, J1⟩ := J.passT hi
  have pw : fm_passWord ms = some (msi ms 14 (nI (tE (ms.2.1 0) n (ps (ms.2.1 0) n i)))) := by rw [m_passWord J.1.2.1, te]
  generalize hm1 : msi ms 14 (nI (tE (ms.2.1 0) n (ps (ms.2.1 0) n i))) = m1 at J1 pw
  have G1 : MD k ms m1 := by rw [← hm1]; exact MD.i rfl
  have a1 : m1.2.1 = ms.2.1 := by rw [← hm1]; rfl
  have m17 : m1.1 17 = nI k := J1.2.2.2.2.2.1.1
  have m6 : m1.2.1 6 k = nI c := by rw [a1]; exact h6
  let s2 := sA (sA s1 (H + 6) c (nI (262 + s))) (H + 7) c (nI sz)
  have F2 : Fr (fun b => b = H + 6 ∨ b = H + 7) s1 s2 := (Fr.sA (Or.inl rfl)).tr (Fr.sA (Or.inr rfl))
  have g705 : gI s1 705 (H + 5) = nI sz := J1.2.2.1.1
  have body : bodyH H c (262 + s) st = (if s < 2 then fh_X7_readClause_j89 (H + 5) (nI c) 1 s2 else fh_X7_readClause_j89 (H + 5) (nI c) 0 s2) := by
    unfold bodyH
    rw [e1, bs_, g705, bs_]
    by_cases z : s < 2
    · rw [if_pos z, if_pos (by omega)]
    · rw [if_neg z, if_neg (by omega)]
  let mA := msa (msa (msa m1 5 A (nI s)) 5 (A + 1) (-1)) 5 (A + 3) (-1)
  have GA : MF (fun q => q == 5) m1 mA := ((MF.msa rfl).tr (MF.msa rfl)).tr (MF.msa rfl)
  have DA : MD k ms mA := ((G1.tr (MD.a5 (by omega))).tr (MD.a5 (by omega))).tr (MD.a5 (by omega))
  have y8 : ∀ {Y : Nat → Bool}, Y = (fun q => q == 5) → Y 0 = false ∧ Y 1 = false ∧ Y 3 = false ∧ Y 4 = false ∧ Y 14 = false ∧ Y 15 = false ∧ Y 17 = false ∧ Y 18 = false := fun h => by subst h; exact ⟨rfl, rfl, rfl, rfl, rfl, rfl, rfl, rfl⟩
  have JA : RJ s2 mA H n M (i + 1) (tE (ms.2.1 0) n (ps (ms.2.1 0) n i)) k cd sz it := (J1.fh F2 (fun b hb => by omega)).fm GA (y8 rfl)
  have ix : (60 : Int32) * nI k + 5 * nI c = nI A := by
    show nI 60 * nI k + nI 5 * nI c = _
    rw [pk_mul, pk_mul, nI_add, hAd]
  have cl : ∀ x, x < 2147483648 → (nI x).toNatClampNeg = x := fun x hx => nI_clamp hx
  have doing : fm_isDoingHere (nI s) ms = (if (2 : Int32) ≤ nI s then fm_isDoingHere_j97 (nI s) (nI A) mA else (fm_sum (msa mA 5 (A + 1) (nI sz))).bind fun x23 => (if x23.2 = 0 then some (x23.1, (0 : Int32)) else chk (inb (x23.1.1 17) 7) (fm_isDoingHere_j97 (nI s) (nI A) (msa x23.1 5 (A + 2) (x23.1.2.1 4 (x23.1.1 17).toNatClampNeg))))) := by
    have m4 : mA.2.1 4 k = nI sz := JA.2.2.2.1.1
    unfold fm_isDoingHere
    rw [pw, bs_, m17, cl k (by omega), m6, ix, show nI A + (1 : Int32) = nI (A + 1) from nI_add A 1, show nI A + (3 : Int32) = nI (A + 3) from nI_add A 3, show nI A + (2 : Int32) = nI (A + 2) from nI_add A 2, cl A (by omega), cl (A + 1) (by omega), cl (A + 3) (by omega), cl (A + 2) (by omega)]
    rw [chk_t (inb_n k2 (by omega)), chk_t (inb_n (show A < 360 by omega) (by omega)), chk_t (inb_n (show A + 1 < 360 by omega) (by omega)), chk_t (inb_n (show A + 3 < 360 by omega) (by omega)), chk_t (inb_n (show A + 1 < 360 by omega) (by omega))]
    have h22 : inb (nI (A + 2)) 360 = true := inb_n (by omega) (by omega)
    simp only [h22, chk_1]
    show (if (2 : Int32) ≤ nI s then fm_isDoingHere_j97 (nI s) (nI A) mA else chk (inb (mA.1 17) 7) ((fm_sum (msa mA 5 (A + 1) (mA.2.1 4 (mA.1 17).toNatClampNeg))).bind _)) = _
    rw [show mA.1 17 = nI k from m17, cl k (by omega), m4, chk_t (inb_n (show k < 7 by omega) (by omega))]
  rw [body, doing]
  have a5 : ∀ x, mA.2.1 5 x = upd (upd (upd (ms.2.1 5) A (nI s)) (A + 1) (-1)) (A + 3) (-1) x := fun x => by
    show (msa (msa (msa m1 5 A (nI s)) 5 (A + 1) (-1)) 5 (A + 3) (-1)).2.1 5 x = _
    rw [msa_s, msa_s, msa_s, a1]
  have g6A : mA.2.1 6 k = nI c := by rw [GA.A 6 rfl]; exact m6
  have h62 : gA s2 (H + 6) = upd (gA st (H + 6)) c (nI (262 + s)) := by
    show gA (sA (sA s1 (H + 6) c (nI (262 + s))) (H + 7) c (nI sz)) (H + 6) = _
    rw [gA_sA_ne (by omega), gA_sA, F1.A (by omega)]
  have h72 : gA s2 (H + 7) = upd (gA st (H + 7)) c (nI sz) := by
    show gA (sA (sA s1 (H + 6) c (nI (262 + s))) (H + 7) c (nI sz)) (H + 7) = _
    rw [gA_sA, gA_sA_ne (by omega), F1.A (by omega)]
  have h82 : gA s2 (H + 8) = gA st (H + 8) := by rw [F2.A (by omega), F1.A (by omega)]
  have Fz2 : Fr (RdZ H) st s2 := (F1.mo (fun b hb => Or.inl hb)).tr (F2.mo (fun b hb => Or.inr (by omega)))
  -- j98: the TEST's begin is noted
  have j98 : ∀ {u : HSt} {z : Nat} (v3 : Int32), RdE u H → gI u 705 (H + 5) = nI z → fh_X7_readClause_j98 (H + 5) (nI c) v3 u = (if v3 = 0 then (fh_X7_readTest 12 (H + 5) (0 : Int32) (sA u (H + 8) c (nI z))).bind fun x72 => fh_X7_readClause_j145 (H + 5) (nI c) x72 else (dr u (some H) 11).bind fun b49 => (fh_X10_kind b49 (sA u (H + 8) c (nI z))).bind fun x53 => (if x53.2 = (266 : Int32) then chk (isk x53.1 (H + 5) 8) ((dr x53.1 (gR x53.1 700 (H + 5)) 11).bind fun b63 => (fh_X10_next b63 x53.1).bind fun x67 => chk (isk x67 (H + 5) 8) ((fh_X7_readTest 12 (H + 5) (0 : Int32) x67).bind fun x70 => fh_X7_readClause_j145 (H + 5) (nI c) x70)) else fh_X7_readClause_j145 (H + 5) (nI c) x53.1)) := by
    intro u z v3 E hz5
    obtain ⟨k8, r7, -, -, ⟨r3, k9, l8⟩, -⟩ := E
    unfold fh_X7_readClause_j98
    rw [chk_t (isk_t k8), r3, dr_of k9, bs_, l8, hz5, chk_t (inb_n hc (by omega)), cl c (by omega), show gR (sA u (H + 8) c (nI z)) 700 (H + 5) = some H from r7]
  by_cases s2c : s < 2
  · rw [if_pos s2c, if_neg (show ¬ (2 : Int32) ≤ nI s from nI_ge (b := 2) s2c (by omega))]
    let mB := msa mA 5 (A + 1) (nI sz)
    have GB : MF (fun q => q == 5) mA mB := MF.msa rfl
    obtain ⟨s3, m3, r3, e3, em3, F3, M3, c3⟩ := j_sum (JA.fm GB (y8 rfl)) (by omega)
    have D3 : MD k ms m3 := (DA.tr (MD.a5 (by omega))).tr M3.t.d
    rw [show fm_sum (msa mA 5 (A + 1) (nI sz)) = some (m3, r3) from em3, bs_]
    dsimp only
    have j89 : fh_X7_readClause_j89 (H + 5) (nI c) 1 s2 = fh_X7_readClause_j98 (H + 5) (nI c) 1 s3 := by
      unfold fh_X7_readClause_j89
      rw [if_neg (show ¬ (1 : Int32) = 0 by decide), chk_t (isk_t JA.k8), e3, bs_]
    rw [j89]
    rcases c3 with ⟨x1, i3, q3, cd3, sz3, it3, J3, o1, o2, o3, o4, o5⟩ | ⟨x1, f, D3d, f3⟩
    · subst x1
      rw [if_neg (show ¬ (1 : Int32) = 0 by decide), J3.2.2.2.2.2.1.1, cl k (by omega), J3.2.2.2.1.1, chk_t (inb_n (show k < 7 by omega) (by omega))]
      let m4 := msa m3 5 (A + 2) (nI sz3)
      have G4 : MF (fun q => q == 5) m3 m4 := MF.msa rfl
      let u4 := sA s3 (H + 8) c (nI sz3)
      have Fu : Fr (fun b => b = H + 8) s3 u4 := Fr.sA rfl
      have J4 : RJ u4 m4 H n M i3 q3 k cd3 sz3 it3 := (J3.fh Fu (fun b hb => by omega)).fm G4 (y8 rfl)
      have D4 : MD k ms m4 := D3.tr (MD.a5 (by omega))
      rw [j98 1 J3.2.1 J3.2.2.1.1, if_neg (show ¬ (1 : Int32) = 0 by decide), dr_of J3.k11, bs_, J4.kind, bs_]
      dsimp only
      have v4 : ∀ x, m4.2.1 5 x = upd (upd (upd (upd (upd (ms.2.1 5) A (nI s)) (A + 1) (-1)) (A + 3) (-1)) (A + 1) (nI sz)) (A + 2) (nI sz3) x := fun x => by
        show (msa m3 5 (A + 2) (nI sz3)).2.1 5 x = _
        rw [msa_s]
        by_cases z : x = A + 2
        · rw [z, pk_us, pk_us]
        · rw [pk_un z, pk_un z, M3.1.A 5 rfl]
          show (msa mA 5 (A + 1) (nI sz)).2.1 5 x = _
          rw [msa_s]
          by_cases y : x = A + 1
          · rw [y, pk_us, pk_us]
          · rw [pk_un y, pk_un y]; exact a5 x
      have nX : ∀ j, 6 ≤ j → j ≤ 8 → ¬ RdX H (H + j) := fun j h1 h2 z => by unfold RdX at z; omega
      have h6u : gA u4 (H + 6) = upd (gA st (H + 6)) c (nI (262 + s)) := by
        show gA (sA s3 (H + 8) c (nI sz3)) (H + 6) = _
        rw [gA_sA_ne (by omega), F3.A (nX 6 (by omega) (by omega)), h62]
      have h7u : gA u4 (H + 7) = upd (gA st (H + 7)) c (nI sz) := by
        show gA (sA s3 (H + 8) c (nI sz3)) (H + 7) = _
        rw [gA_sA_ne (by omega), F3.A (nX 7 (by omega) (by omega)), h72]
      have h8u : gA u4 (H + 8) = upd (gA st (H + 8)) c (nI sz3) := by
        show gA (sA s3 (H + 8) c (nI sz3)) (H + 8) = _
        rw [gA_sA, F3.A (nX 8 (by omega) (by omega)), h82]
      have g6 : m4.2.1 6 k = nI c := by rw [G4.A 6 rfl, M3.1.A 6 rfl, GB.A 6 rfl]; exact g6A
      have Fz4 : Fr (RdZ H) st u4 := (Fz2.tr (RdX_Z F3)).tr (Frz (by omega))
      have segS : SegOk cd3 sz (sz3 - sz) false := o5.ok (by have := J3.2.2.2.2.1.2.2; omega)
      -- what the last step gives
      have last : ∀ {u5 st2 : HSt} {m5 ms2 : MSt} {rr : Int32} {i5 it5 : Nat} (b : Bool), Fr (RdZ H) st u5 → MD k ms m5 → gA u5 (H + 6) = gA u4 (H + 6) → gA u5 (H + 7) = gA u4 (H + 7) → gA u5 (H + 8) = gA u4 (H + 8) → m5.2.1 5 = m4.2.1 5 → m5.2.1 0 = ms.2.1 0 → Fr (RdZ H) u5 st2 → MD k m5 ms2 → ((rr = 1 ∧ ∃ i2 q2 cd2 sz2 it2, RJ st2 ms2 H n M i2 q2 k cd2 sz2 it2 ∧ sz2 ≤ i2 ∧ sz3 ≤ sz2 ∧ (b = true → sz3 < sz2) ∧ (b = false → sz3 = sz2) ∧ (∀ j, j < sz3 → cd2 j = cd3 j) ∧ (sz3 < sz2 → SegOk cd2 sz3 (sz2 - sz3) true) ∧ gA st2 (H + 6) = gA u5 (H + 6) ∧ gA st2 (H + 8) = gA u5 (H + 8) ∧ gA st2 (H + 7) = upd (gA u5 (H + 7)) (c + 1) (nI sz2) ∧ (∀ x, x < A + 3 → ms2.2.1 5 x = m5.2.1 5 x) ∧ ms2.2.1 5 (A + 3) = (if sz3 < sz2 then nI sz3 else -1) ∧ ms2.2.1 5 (A + 4) = nI sz2 ∧ ms2.2.1 6 k = nI (c + 1)) ∨ (rr = 0 ∧ ∃ f, Dd st2 H (m5.2.1 0) n M f ∧ ms2.1 15 = f)) → (Fr (RdZ H) st st2 ∧ MD k ms ms2 ∧ ((rr = 1 ∧ ∃ i2 q2 cd2 sz2 it2 q, RJ st2 ms2 H n M i2 q2 k cd2 sz2 it2 ∧ sz2 ≤ i2 ∧ sz ≤ sz2 ∧ (∀ j, j < sz → cd2 j = cd j) ∧ ClO cd2 q sz2 ∧ q.1 = s ∧ q.2.1 = sz ∧ q.2.2.2 = sz2 ∧ gA st2 (H + 6) = upd (gA st (H + 6)) c (nI (262 + s)) ∧ gA st2 (H + 7) = upd (upd (gA st (H + 7)) c (nI sz)) (c + 1) (nI sz2) ∧ gA st2 (H + 8) = upd (gA st (H + 8)) c (nI q.2.2.1) ∧ ClM ms2 k c q ∧ (∀ x, x < A → ms2.2.1 5 x = ms.2.1 5 x) ∧ ms2.2.1 6 k = nI (c + 1)) ∨ (rr = 0 ∧ ∃ f, Dd st2 H (ms.2.1 0) n M f ∧ ms2.1 15 = f))) := by
        intro u5 st2 m5 ms2 rr i5 it5 b Fa Da ga gb gc g5 g0 Fb Db cc
        refine ⟨Fa.tr Fb, Da.tr Db, ?_⟩
        rcases cc with ⟨x1, i2, q2, cd2, sz2, it2, J2, p1, p2, p3, p4, p5, p6, p7, p8, p9, p10, p11, p12, p13⟩ | ⟨x1, f, D, f1⟩
        · have hsz := o5.1
          refine Or.inl ⟨x1, i2, q2, cd2, sz2, it2, (s, sz, sz3, sz2), J2, p1, by omega, fun j hj => by rw [p5 j (by omega)]; exact o4 j hj, ⟨hs, by show sz ≤ sz3; omega, p2, Nat.le_refl _, fun _ => tys_cg segS (fun j hj => p5 j hj), p6, fun z => by have : 2 ≤ s := z; omega⟩, rfl, rfl, rfl, by rw [p7, ga, h6u], by rw [p9, gb, h7u], by rw [p8, gc, h8u], ?_, fun x hx => ?_, p13⟩
          · unfold ClM
            rw [hAd]
            refine ⟨?_, fun _ => ⟨?_, ?_⟩, p11, p12⟩
            · rw [p10 A (by omega), g5, v4, pk_un (by omega), pk_un (by omega), pk_un (by omega), pk_un (by omega), pk_us]
            · rw [p10 (A + 1) (by omega), g5, v4, pk_un (by omega), pk_us]
            · rw [p10 (A + 2) (by omega), g5, v4, pk_us]
          · rw [p10 x (by omega), g5, v4, pk_un (by omega), pk_un (by omega), pk_un (by omega), pk_un (by omega), pk_un (by omega)]
        · rw [g0] at D
          exact Or.inr ⟨x1, f, D, f1⟩
      have v43 : m4.2.1 5 (A + 3) = -1 := by rw [v4, pk_un (by omega), pk_un (by omega), pk_us]
      have t4 : m4.2.1 0 = ms.2.1 0 := D4.1.A 0 rfl
      -- IF?
      have J4s := J4.seen
      generalize hm5 : msi m4 14 (nI (ps (m4.2.1 0) n i3)) = m5 at J4s
      have t5 : m5.2.1 0 = m4.2.1 0 := by rw [← hm5]; rfl
      rw [← t5] at J4s
      obtain ⟨kd, hk9, hK4⟩ := J4.1.1.kn
      have W : fm_isWord (26982 : Int64) m4 = some (m5, if kd = 266 then 1 else 0) := by
        obtain ⟨r, e, h⟩ := j_word J4.1 (k := 10) (by omega) (w := wV 10) rfl
        rw [wV_10, e, hm5]
        rcases h with ⟨r1, h1, -⟩ | ⟨r1, h1⟩
        · rw [hK4] at h1
          rw [r1, if_pos (show kd = 266 from (nI_eq (by omega) (by omega)).mp h1)]
        · rw [hK4] at h1
          rw [r1, if_neg (fun z => h1 (by rw [z]))]
      unfold fm_isDoingHere_j97
      rw [if_neg (show ¬ (2 : Int32) ≤ nI s from nI_ge (b := 2) s2c (by omega))]
      unfold fm_takesWord
      rw [show fm_isWord (26982 : Int64) (msa m3 5 (A + 2) (nI sz3)) = some (m5, if kd = 266 then 1 else 0) from W, bs_]
      dsimp only
      have D5 : MD k ms m5 := by rw [← hm5]; exact D4.tr (MD.i rfl)
      have e5 : m5.2.1 = m4.2.1 := by rw [← hm5]; rfl
      by_cases zif : kd = 266
      · rw [if_pos zif, if_neg (show ¬ (1 : Int32) = 0 by decide)]
        have hK4' : gA u4 (H + 1) i3 = (266 : Int32) := by rw [hK4, zif]; rfl
        have hi3 : i3 < M := J4.1.1.lt hK4 (by omega) hk9
        have fl3 := (((J4s.1.1.2.2.2.2.2.2.2 i3 hi3).2.1.word (i := 10) (by omega)).mp (by rw [hK4, zif])).1
        have te3 : tE (m5.2.1 0) n (ps (m5.2.1 0) n i3) = rE (fL (m5.2.1 0)) n (ps (m5.2.1 0) n i3) := by unfold tE; rw [if_pos fl3]
        obtain ⟨u6, e6, F6, J6⟩ := J4s.passT hi3
        have pw6 : fm_passWord m5 = some (msi m5 14 (nI (tE (m5.2.1 0) n (ps (m5.2.1 0) n i3)))) := by rw [m_passWord J4s.1.2.1, te3]
        rw [pw6, bs_, bs_]
        dsimp only
        rw [if_neg (show ¬ (1 : Int32) = 0 by decide)]
        obtain ⟨st2, ms2, rr, b1, b2, b3, b4, b5⟩ := j_body2 (c := c) (A := A) (v2 := nI A) J6 (by omega) hc hAd.symm rfl (by show m5.2.1 6 k = _; rw [e5]; exact g6) (by show m5.2.1 5 (A + 3) = _; rw [e5]; exact v43) true (fun _ => True.intro)
        rw [if_pos rfl] at b1 b2
        refine ⟨st2, ms2, rr, ?_, b2, last (i5 := 0) (it5 := 0) true (Fz4.tr (F6.mo (fun b hb => Or.inl hb))) (D5.tr (MD.i rfl)) (F6.A (by omega)) (F6.A (by omega)) (F6.A (by omega)) (by show m5.2.1 5 = _; rw [e5]) (by show m5.2.1 0 = _; rw [t5, t4]) b3 b4 b5⟩
        rw [hK4', if_pos rfl, chk_t (isk_t J4.k8), J4.r7, dr_of J4.k11, bs_, e6, bs_, chk_t (isk_t J6.k8)]
        exact b1
      · rw [if_neg zif, if_pos rfl, bs_]
        dsimp only
        rw [if_pos rfl]
        obtain ⟨st2, ms2, rr, b1, b2, b3, b4, b5⟩ := j_body2 (c := c) (A := A) (v2 := nI A) J4s (by omega) hc hAd.symm rfl (by rw [e5]; exact g6) (by rw [e5]; exact v43) false (fun _ => True.intro)
        rw [if_neg (by decide)] at b1 b2
        refine ⟨st2, ms2, rr, ?_, b2, last (i5 := 0) (it5 := 0) false Fz4 D5 rfl rfl rfl (by rw [e5]) (by rw [t5, t4]) b3 b4 b5⟩
        rw [if_neg (show ¬ gA u4 (H + 1) i3 = 266 from fun y => zif ((nI_eq (b := 266) (by omega) (by omega)).mp (hK4.symm.trans y)))]
        exact b1
    · subst x1
      rw [if_pos rfl]
      obtain ⟨E3, -, -, z3, hz3, hg3⟩ := id D3d
      have Fu : Fr (fun b => b = H + 8) s3 (sA s3 (H + 8) c (nI z3)) := Fr.sA rfl
      have Du := D3d.fh Fu (fun b hb => by omega)
      obtain ⟨s4, e4, F4, D4⟩ := d_j145 (c := c) Du hc
      rw [j98 1 E3 hg3, if_neg (show ¬ (1 : Int32) = 0 by decide), dr_of D3d.k11, bs_, d_kind Du, bs_]
      dsimp only
      rw [if_neg (show ¬ (1 : Int32) = 266 by decide), e4]
      have tB : mB.2.1 0 = ms.2.1 0 := by rw [GB.A 0 rfl, GA.A 0 rfl, a1]
      rw [tB] at D4
      exact ⟨s4, m3, 0, rfl, rfl, ((Fz2.tr (RdX_Z F3)).tr (Frz (by omega))).tr F4, D3, Or.inr ⟨rfl, f, D4, f3⟩⟩
  · rw [if_neg s2c, if_pos (show (2 : Int32) ≤ nI s from nI_le (a := 2) (by omega) (by omega))]
    let u4 := sA s2 (H + 8) c (nI sz)
    have Fu : Fr (fun b => b = H + 8) s2 u4 := Fr.sA rfl
    have J4 : RJ u4 mA H n M (i + 1) _ k cd sz it := JA.fh Fu (fun b hb => by omega)
    have v43 : mA.2.1 5 (A + 3) = -1 := by rw [a5, pk_us]
    obtain ⟨st2, ms2, rr, b1, b2, b3, b4, b5⟩ := j_body2 (c := c) (A := A) (v2 := nI A) J4 (by omega) hc hAd.symm rfl g6A v43 true (fun _ => True.intro)
    rw [if_pos rfl] at b1 b2
    have cls : fh_X7_readClause_j89 (H + 5) (nI c) 0 s2 = some st2 := by
      unfold fh_X7_readClause_j89
      rw [if_pos rfl, j98 0 JA.2.1 JA.2.2.1.1, if_pos rfl]
      exact b1
    have refl_ : fm_isDoingHere_j97 (nI s) (nI A) mA = some (ms2, rr) := by
      unfold fm_isDoingHere_j97
      rw [if_pos (show (2 : Int32) ≤ nI s from nI_le (a := 2) (by omega) (by omega))]
      exact b2
    have tA : mA.2.1 0 = ms.2.1 0 := by rw [GA.A 0 rfl, a1]
    refine ⟨st2, ms2, rr, cls, refl_, (Fz2.tr (Frz (by omega))).tr b3, DA.tr b4, ?_⟩
    rcases b5 with ⟨x1, i2, q2, cd2, sz2, it2, J2, p1, p2, p3, p4, p5, p6, p7, p8, p9, p10, p11, p12, p13⟩ | ⟨x1, f, D, f1⟩
    · have hlt := p3 rfl
      refine Or.inl ⟨x1, i2, q2, cd2, sz2, it2, (s, sz, sz, sz2), J2, p1, by omega, p5, ⟨hs, Nat.le_refl _, p2, Nat.le_refl _, fun z => absurd z s2c, p6, fun _ => hlt⟩, rfl, rfl, rfl, ?_, ?_, ?_, ?_, fun x hx => ?_, p13⟩
      · rw [p7]
        show gA (sA s2 (H + 8) c (nI sz)) (H + 6) = _
        rw [gA_sA_ne (by omega), h62]
      · rw [p9]
        show upd (gA (sA s2 (H + 8) c (nI sz)) (H + 7)) _ _ = _
        rw [gA_sA_ne (by omega), h72]
      · rw [p8]
        show gA (sA s2 (H + 8) c (nI sz)) (H + 8) = _
        rw [gA_sA, h82]
      · unfold ClM
        rw [hAd]
        refine ⟨?_, fun z => absurd z s2c, p11, p12⟩
        rw [p10 A (by omega), a5, pk_un (by omega), pk_un (by omega), pk_us]
      · rw [p10 x (by omega), a5, pk_un (by omega), pk_un (by omega), pk_un (by omega)]
    · rw [tA] at D
      exact Or.inr ⟨x1, f, D, f1⟩
