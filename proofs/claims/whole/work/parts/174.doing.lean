/-! reading a RULE: a clause's body, both sides -/
theorem RJ.fh {X : Nat → Prop} {st st2 : HSt} {ms : MSt} {H n M i p k sz it : Nat} {cd : Nat → Nat × Nat} (J : RJ st ms H n M i p k cd sz it) (F : Fr X st st2) (hX : ∀ b, X b → H + 6 ≤ b ∧ b ≤ H + 8) : RJ st2 ms H n M i p k cd sz it := by
  have nx : ∀ b, (b < H + 6 ∨ H + 8 < b) → ¬ X b := fun b hb z => by have := hX b z; omega
  obtain ⟨J1, E, C1, C2, ⟨i1, i2, i3⟩, K, B⟩ := J
  exact ⟨J1.frh F (nx _ (by omega)) (nx _ (by omega)) (nx _ (by omega)) (nx _ (by omega)), E.fr F, C1.fr F (nx _ (by omega)) (nx _ (by omega)), C2, ⟨(F.I 706 (nx _ (by omega))).trans i1, i2, i3⟩, K, B⟩
theorem RJ.fm {Y : Nat → Bool} {st : HSt} {ms ms2 : MSt} {H n M i p k sz it : Nat} {cd : Nat → Nat × Nat} (J : RJ st ms H n M i p k cd sz it) (G : MF Y ms ms2) (y : Y 0 = false ∧ Y 1 = false ∧ Y 3 = false ∧ Y 4 = false ∧ Y 14 = false ∧ Y 15 = false ∧ Y 17 = false ∧ Y 18 = false) : RJ st ms2 H n M i p k cd sz it := by
  obtain ⟨J1, E, C1, C2, ⟨i1, i2, i3⟩, ⟨k1, k2⟩, B⟩ := J
  obtain ⟨y0, y1, y3, y4, y14, y15, y17, y18⟩ := y
  exact ⟨J1.frm G y0 y1 y14 y15, E, C1, C2.fr G y3 y4, ⟨i1, by rw [G.I 18 y18]; exact i2, i3⟩, ⟨by rw [G.I 17 y17]; exact k1, k2⟩, by rw [G.A 0 y0]; exact B⟩
theorem Dd.fh {X : Nat → Prop} {st st2 : HSt} {H n M : Nat} {t : Nat → Int32} {f : Int32} (D : Dd st H t n M f) (F : Fr X st st2) (hX : ∀ b, X b → H + 6 ≤ b ∧ b ≤ H + 8) : Dd st2 H t n M f := by
  have nx : ∀ b, (b < H + 6 ∨ H + 8 < b) → ¬ X b := fun b hb z => by have := hX b z; omega
  obtain ⟨E, hf, ⟨i, T⟩, sz, h1, h2⟩ := D
  exact ⟨E.fr F, hf, ⟨i, T.fr F (nx _ (by omega)) (nx _ (by omega)) (nx _ (by omega)) (nx _ (by omega))⟩, sz, h1, (F.I 705 (nx _ (by omega))).trans h2⟩
theorem Frz {H j i : Nat} {a : HSt} {v : Int32} (h : 6 ≤ j ∧ j ≤ 8) : Fr (RdZ H) a (sA a (H + j) i v) := Fr.sA (Or.inr ⟨by omega, by omega⟩)
theorem h_j145 {st : HSt} {H c : Nat} (E : RdE st H) (hc : c < 12) : fh_X7_readClause_j145 (H + 5) (nI c) st = some (sA st (H + 7) (c + 1) (gI st 705 (H + 5))) := by
  obtain ⟨k8, -, -, ⟨r2, k7, l7⟩, -⟩ := E
  unfold fh_X7_readClause_j145
  rw [chk_t (isk_t k8), r2, dr_of k7, bs_, l7, nI_1, chk_t (inb_n (show c + 1 < 13 by omega) (by omega)), nI_clamp (by omega)]
theorem d_j145 {st : HSt} {H n M c : Nat} {t : Nat → Int32} {f : Int32} (D : Dd st H t n M f) (hc : c < 12) : ∃ st2, fh_X7_readClause_j145 (H + 5) (nI c) st = some st2 ∧ Fr (RdZ H) st st2 ∧ Dd st2 H t n M f := by
  have F : Fr (fun b => b = H + 7) st (sA st (H + 7) (c + 1) (gI st 705 (H + 5))) := Fr.sA rfl
  exact ⟨_, h_j145 D.1 hc, Frz (by omega), D.fh F (fun b hb => by omega)⟩
/-- the TEST of a clause and its end -/
theorem j_body2 {st : HSt} {ms : MSt} {H n M i p k sz it c A : Nat} {cd : Nat → Nat × Nat} {v2 : Int32} (J : RJ st ms H n M i p k cd sz it) (hz : sz ≤ i) (hc : c < 12) (hA : A = 60 * k + 5 * c) (hv : v2 = nI A) (h6 : ms.2.1 6 k = nI c) (h3 : ms.2.1 5 (A + 3) = -1) (b : Bool) (hb : b = false → True) : ∃ st2 ms2 rr, (if b = true then (fh_X7_readTest 12 (H + 5) 0 st).bind (fun x => fh_X7_readClause_j145 (H + 5) (nI c) x) else fh_X7_readClause_j145 (H + 5) (nI c) st) = some st2 ∧ (if b = true then fm_isDoingHere_j112 v2 ms else fm_isDoingHere_j138 v2 ms) = some (ms2, rr) ∧ Fr (RdZ H) st st2 ∧ MD k ms ms2 ∧
    ((rr = 1 ∧ ∃ i2 q2 cd2 sz2 it2, RJ st2 ms2 H n M i2 q2 k cd2 sz2 it2 ∧ sz2 ≤ i2 ∧ sz ≤ sz2 ∧ (b = true → sz < sz2) ∧ (b = false → sz = sz2) ∧ (∀ j, j < sz → cd2 j = cd j) ∧ (sz < sz2 → SegOk cd2 sz (sz2 - sz) true) ∧ gA st2 (H + 6) = gA st (H + 6) ∧ gA st2 (H + 8) = gA st (H + 8) ∧ gA st2 (H + 7) = upd (gA st (H + 7)) (c + 1) (nI sz2) ∧ (∀ x, x < A + 3 → ms2.2.1 5 x = ms.2.1 5 x) ∧ ms2.2.1 5 (A + 3) = (if sz < sz2 then nI sz else -1) ∧ ms2.2.1 5 (A + 4) = nI sz2 ∧ ms2.2.1 6 k = nI (c + 1)) ∨
     (rr = 0 ∧ ∃ f, Dd st2 H (ms.2.1 0) n M f ∧ ms2.1 15 = f)) := by
  have k2 := J.2.2.2.2.2.1.2
  have hA4 : A + 4 < 360 := by omega
  -- the end, from any joint state
  have fin : ∀ {s : HSt} {m : MSt} {i2 q2 sz2 it2 : Nat} {cd2 : Nat → Nat × Nat}, RJ s m H n M i2 q2 k cd2 sz2 it2 → m.2.1 6 k = nI c → fh_X7_readClause_j145 (H + 5) (nI c) s = some (sA s (H + 7) (c + 1) (nI sz2)) ∧ fm_isDoingHere_j138 v2 m = some (msa (msa m 5 (A + 4) (nI sz2)) 6 k (nI (c + 1)), 1) ∧ RJ (sA s (H + 7) (c + 1) (nI sz2)) (msa (msa m 5 (A + 4) (nI sz2)) 6 k (nI (c + 1))) H n M i2 q2 k cd2 sz2 it2 := by
    intro s m i2 q2 sz2 it2 cd2 J2 m6
    have F : Fr (fun b => b = H + 7) s (sA s (H + 7) (c + 1) (nI sz2)) := Fr.sA rfl
    have G : MF (fun q => q == 5 || q == 6) m (msa (msa m 5 (A + 4) (nI sz2)) 6 k (nI (c + 1))) := (MF.msa rfl).tr (MF.msa rfl)
    have m17 : m.1 17 = nI k := J2.2.2.2.2.2.1.1
    have m4 : m.2.1 4 k = nI sz2 := J2.2.2.2.1.1
    have m6' : (msa m 5 (A + 4) (nI sz2)).2.1 6 k = nI c := by rw [msa_n (by omega)]; exact m6
    refine ⟨by rw [h_j145 J2.2.1 hc, J2.2.2.1.1], ?_, (J2.fh F (fun b hb => by omega)).fm G ⟨rfl, rfl, rfl, rfl, rfl, rfl, rfl, rfl⟩⟩
    unfold fm_isDoingHere_j138
    rw [m17, nI_clamp (show k < 2147483648 by omega), m4, hv, show nI A + (4 : Int32) = nI (A + 4) from nI_add A 4, chk_t (inb_n (show k < 7 by omega) (by omega)), chk_t (inb_n hA4 (by omega)), nI_clamp (show A + 4 < 2147483648 by omega), msa_I, m17, chk_t (inb_n k2 (by omega)), nI_clamp (show k < 2147483648 by omega), m6', nI_1, chk_t (inb_n k2 (by omega))]
  cases b with
  | false =>
    obtain ⟨e1, e2, J2⟩ := fin J h6
    rw [if_neg (by decide), if_neg (by decide), e1, e2]
    refine ⟨_, _, 1, rfl, rfl, Frz (by omega), (MD.a5 (by omega)).tr MD.a6, Or.inl ⟨rfl, i, p, cd, sz, it, J2, hz, Nat.le_refl _, fun z => absurd z (by decide), fun _ => rfl, fun _ _ => rfl, fun z => absurd z (Nat.lt_irrefl _), gA_sA_ne (by omega), gA_sA_ne (by omega), gA_sA _ _ _ _, fun x hx => ?_, ?_, ?_, ?_⟩⟩
    · rw [msa_n (by omega), msa_s, pk_un (by omega)]
    · rw [msa_n (by omega), msa_s, pk_un (by omega), if_neg (Nat.lt_irrefl _)]; exact h3
    · rw [msa_n (by omega), msa_s, pk_us]
    · rw [msa_s, pk_us]
  | true =>
    have m17 : ms.1 17 = nI k := J.2.2.2.2.2.1.1
    have m4 : ms.2.1 4 k = nI sz := J.2.2.2.1.1
    let m1 := msa ms 5 (A + 3) (nI sz)
    have G1 : MF (fun q => q == 5) ms m1 := MF.msa rfl
    obtain ⟨s2, m2, rr, e2, em2, F2, M2, c2⟩ := j_tested (J.fm G1 ⟨rfl, rfl, rfl, rfl, rfl, rfl, rfl, rfl⟩) hz
    have hd : fm_isDoingHere_j112 v2 ms = if rr = 0 then some (m2, 0) else fm_isDoingHere_j138 v2 m2 := by
      unfold fm_isDoingHere_j112
      rw [m17, nI_clamp (show k < 2147483648 by omega), m4, hv, show nI A + (3 : Int32) = nI (A + 3) from nI_add A 3, chk_t (inb_n (show k < 7 by omega) (by omega)), chk_t (inb_n (show A + 3 < 360 by omega) (by omega)), nI_clamp (show A + 3 < 2147483648 by omega), show fm_tested (msa ms 5 (A + 3) (nI sz)) = some (m2, rr) from em2, bs_]
    have D1 : MD k ms m1 := MD.a5 (by omega)
    rw [if_pos rfl, if_pos rfl, e2, bs_, hd]
    have a5 : m2.2.1 5 = m1.2.1 5 := M2.1.A 5 rfl
    rcases c2 with ⟨x1, i2, q2, cd2, sz2, it2, J2, o1, o2, o3, o4, o5⟩ | ⟨x1, f, D2, f2⟩
    · subst x1
      have m6 : m2.2.1 6 k = nI c := by rw [M2.1.A 6 rfl, G1.A 6 rfl]; exact h6
      obtain ⟨e3, e4, J3⟩ := fin J2 m6
      rw [if_neg (show ¬ (1 : Int32) = 0 by decide), e3, e4]
      have nX : ∀ j, 6 ≤ j → j ≤ 8 → ¬ RdX H (H + j) := fun j h1 h2 z => by unfold RdX at z; omega
      refine ⟨_, _, 1, rfl, rfl, (RdX_Z F2).tr (Frz (by omega)), (D1.tr M2.d).tr ((MD.a5 (by omega)).tr MD.a6), Or.inl ⟨rfl, i2, q2, cd2, sz2, it2, J3, o2, by have := o5.1; omega, fun _ => o5.1, fun z => absurd z (by decide), o4, fun _ => o5.ok (by have := J2.2.2.2.2.1.2.2; omega), ?_, ?_, ?_, fun x hx => ?_, ?_, ?_, ?_⟩⟩
      · rw [gA_sA_ne (by omega), F2.A (nX 6 (by omega) (by omega))]
      · rw [gA_sA_ne (by omega), F2.A (nX 8 (by omega) (by omega))]
      · rw [gA_sA, F2.A (nX 7 (by omega) (by omega))]
      · rw [msa_n (by omega), msa_s, pk_un (by omega), a5]
        show (msa ms 5 (A + 3) (nI sz)).2.1 5 x = _
        rw [msa_s, pk_un (by omega)]
      · rw [msa_n (by omega), msa_s, pk_un (by omega), a5, if_pos o5.1]
        show (msa ms 5 (A + 3) (nI sz)).2.1 5 (A + 3) = _
        rw [msa_s, pk_us]
      · rw [msa_n (by omega), msa_s, pk_us]
      · rw [msa_s, pk_us]
    · subst x1
      obtain ⟨s3, e3, F3, D3⟩ := d_j145 (c := c) D2 hc
      rw [if_pos rfl, e3]
      exact ⟨s3, m2, 0, rfl, rfl, (RdX_Z F2).tr F3, D1.tr M2.d, Or.inr ⟨rfl, f, D3, f2⟩⟩
