/-! reading a RULE: both sides; puts, makes, words -/
def CdH (st : HSt) (H : Nat) (cd : Nat → Nat × Nat) (sz : Nat) : Prop := gI st 705 (H + 5) = nI sz ∧ ∀ j, j < sz → gA st (H + 9) j = encH (cd j)
def CdM (ms : MSt) (k : Nat) (cd : Nat → Nat × Nat) (sz : Nat) : Prop := ms.2.1 4 k = nI sz ∧ ∀ j, j < sz → ms.2.1 3 (400 * k + j) = encM (cd j)
def mRu (k : Nat) : Bool := k == 3 || k == 4 || k == 14 || k == 15 || k == 16 || k == 18
/-- what the reference changes as it reads text k -/
def MG (k : Nat) (ms ms2 : MSt) : Prop := MF mRu ms ms2 ∧ ∀ x, x < 400 * k → ms2.2.1 3 x = ms.2.1 3 x
theorem MG.rf {k : Nat} {ms : MSt} : MG k ms ms := ⟨MF.rf, fun _ _ => rfl⟩
theorem MG.tr {k : Nat} {a b c : MSt} (h : MG k a b) (g : MG k b c) : MG k a c := ⟨h.1.tr g.1, fun x hx => (g.2 x hx).trans (h.2 x hx)⟩
theorem MG.of {k : Nat} {Y : Nat → Bool} {a b : MSt} (h : MF Y a b) (hY : ∀ j, Y j = true → mRu j = true) (h3 : Y 3 = false) : MG k a b := ⟨h.mo hY, fun x _ => by rw [h.A 3 h3]⟩
theorem MG.i {k f : Nat} {a : MSt} {v : Int32} (h : mRu f = true) : MG k a (msi a f v) := ⟨MF.msi h, fun _ _ => rfl⟩
theorem yN3_u : ∀ k, yN3 k = true → mRu k = true := fun k h => by
  unfold yN3 at h
  rcases (by simpa using h : (k = 14 ∨ k = 15) ∨ k = 16) with (z | z) | z <;> rw [z] <;> rfl
/-- both readers of a RULE at the same sign, the code the same -/
def RJ (st : HSt) (ms : MSt) (H n M i p k : Nat) (cd : Nat → Nat × Nat) (sz it : Nat) : Prop := Jt2 st ms H n M i p ∧ RdE st H ∧ CdH st H cd sz ∧ CdM ms k cd sz ∧ (gI st 706 (H + 5) = nI it ∧ ms.1 18 = nI it ∧ it ≤ 60) ∧ (ms.1 17 = nI k ∧ k < 6) ∧ B8 (ms.2.1 0) n
def putM (ms : MSt) (k sz : Nat) (x : Int32) : MSt := msa (msa ms 3 (400 * k + sz) x) 4 k (nI (sz + 1))
theorem m_puts {ms : MSt} {k sz : Nat} {a b : Int32} (h17 : ms.1 17 = nI k) (hk : k < 6) (h4 : ms.2.1 4 k = nI sz) (hs : sz < 400) : fm_puts a b ms = some (putM ms k sz (a + 16 * b)) := by
  have c17 : (nI k).toNatClampNeg = k := nI_clamp (by omega)
  have ix : (400 : Int32) * nI k + nI sz = nI (400 * k + sz) := by
    show nI 400 * nI k + nI sz = _
    rw [pk_mul, nI_add]
  have m4 : ∀ v, (msa ms 3 (400 * k + sz) v).2.1 4 k = nI sz := fun v => by rw [msa_n (by omega)]; exact h4
  unfold fm_puts
  rw [h17, c17, h4, ix, chk_t (inb_n (show k < 7 by omega) (by omega)), chk_t (inb_n (show 400 * k + sz < 2400 by omega) (by omega)), nI_clamp (show 400 * k + sz < 2147483648 by omega), msa_I, h17, chk_t (inb_n (show k < 7 by omega) (by omega)), c17, m4, nI_1, chk_t (inb_n (show k < 7 by omega) (by omega))]
  rfl
theorem putM_G {ms : MSt} {k sz : Nat} {x : Int32} : MG k ms (putM ms k sz x) := ⟨(MF.msa rfl).tr (MF.msa rfl), fun y hy => by
  show (msa (msa ms 3 (400 * k + sz) x) 4 k (nI (sz + 1))).2.1 3 y = _
  rw [msa_n (by omega), msa_s, pk_un (by omega)]⟩
theorem putM_c {ms : MSt} {k sz : Nat} {cd : Nat → Nat × Nat} {c : Nat × Nat} {x : Int32} (h : CdM ms k cd sz) (hc : cd sz = c) (hx : x = encM c) : CdM (putM ms k sz x) k cd (sz + 1) := by
  obtain ⟨h1, h2⟩ := h
  refine ⟨?_, fun j hj => ?_⟩
  · show (msa (msa ms 3 (400 * k + sz) x) 4 k (nI (sz + 1))).2.1 4 k = _
    rw [msa_s, pk_us]
  · show (msa (msa ms 3 (400 * k + sz) x) 4 k (nI (sz + 1))).2.1 3 (400 * k + j) = _
    rw [msa_n (by omega), msa_s]
    by_cases z : j = sz
    · rw [z, pk_us, hc, hx]
    · rw [pk_un (by omega)]; exact h2 j (by omega)
theorem putS_c {st : HSt} {H sz : Nat} {cd : Nat → Nat × Nat} {c : Nat × Nat} {x : Int32} (h : CdH st H cd sz) (hc : cd sz = c) (hx : x = encH c) : CdH (putS st H sz x) H cd (sz + 1) := by
  obtain ⟨h1, h2⟩ := h
  refine ⟨gI_sI _ _ _ _, fun j hj => ?_⟩
  show gA (sA st (H + 9) sz x) (H + 9) j = _
  rw [gA_sA]
  by_cases z : j = sz
  · rw [z, pk_us, hc, hx]
  · rw [pk_un z]; exact h2 j (by omega)
/-- the code with one more sign -/
def cdu (cd : Nat → Nat × Nat) (sz : Nat) (c : Nat × Nat) (j : Nat) : Nat × Nat := if j = sz then c else cd j
theorem cdu_s {cd : Nat → Nat × Nat} {sz : Nat} {c : Nat × Nat} : cdu cd sz c sz = c := if_pos rfl
theorem cdu_n {cd : Nat → Nat × Nat} {sz j : Nat} {c : Nat × Nat} (h : j < sz) : cdu cd sz c j = cd j := if_neg (by omega)
theorem CdH.u {st : HSt} {H sz : Nat} {cd cd2 : Nat → Nat × Nat} (h : CdH st H cd sz) (e : ∀ j, j < sz → cd2 j = cd j) : CdH st H cd2 sz := ⟨h.1, fun j hj => by rw [e j hj]; exact h.2 j hj⟩
theorem CdM.u {ms : MSt} {k sz : Nat} {cd cd2 : Nat → Nat × Nat} (h : CdM ms k cd sz) (e : ∀ j, j < sz → cd2 j = cd j) : CdM ms k cd2 sz := ⟨h.1, fun j hj => by rw [e j hj]; exact h.2 j hj⟩
theorem CdH.fr {X : Nat → Prop} {st st2 : HSt} {H sz : Nat} {cd : Nat → Nat × Nat} (h : CdH st H cd sz) (F : Fr X st st2) (h5 : ¬ X (H + 5)) (h9 : ¬ X (H + 9)) : CdH st2 H cd sz := ⟨(F.I 705 h5).trans h.1, fun j hj => by rw [F.A h9]; exact h.2 j hj⟩
theorem CdM.fr {Y : Nat → Bool} {ms ms2 : MSt} {k sz : Nat} {cd : Nat → Nat × Nat} (h : CdM ms k cd sz) (G : MF Y ms ms2) (y3 : Y 3 = false) (y4 : Y 4 = false) : CdM ms2 k cd sz := by
  unfold CdM at *
  rw [G.A 3 y3, G.A 4 y4]; exact h
theorem m_makes {ms : MSt} {it q : Nat} (h : ms.1 18 = nI it) (hi : it ≤ 60) (h15 : ms.1 15 = 0) : fm_makes (nI q) ms = some (if it = 60 then (msi ms 15 (nI (1 + 8 * q + 3)), 0) else (msi ms 18 (nI (it + 1)), 1)) := by
  unfold fm_makes
  rw [h]
  by_cases z : it = 60
  · rw [if_pos (show nI it = (60 : Int32) by rw [z]; rfl), if_pos z, show fm_fails (3 : Int32) (nI q) ms = some (msi ms 15 (nI (1 + 8 * q + 3)), 0) from m_fails (a := 3) h15, bs_]
    exact chk_t (show isb (0 : Int32) = true by decide)
  · rw [if_neg (show ¬ nI it = (60 : Int32) from fun y => z ((nI_eq (b := 60) (by omega) (by omega)).mp y)), if_neg z, nI_1]
theorem m_wordHere {m : MSt} {c : Nat} (W : ∀ k, k < 23 → fm_isWord (wV k) m = some (m, if c = 256 + k then 1 else 0)) : fm_wordHere m = some (m, if 270 ≤ c ∧ c ≤ 278 then nI (c - 270) else -1) := by
  have n1 : ¬ (1 : Int32) = 0 := by decide
  unfold fm_wordHere
  rw [wV_14, wV_15, wV_16, wV_17, wV_18, wV_19, wV_20, wV_21, wV_22, W 14 (by omega), bs_]
  dsimp only
  by_cases z : c = 256 + 14
  · rw [if_pos z, if_neg n1, if_pos (by omega), show c - 270 = 0 by omega]; rfl
  rw [if_neg z, if_pos rfl, W 15 (by omega), bs_]
  dsimp only
  by_cases z1 : c = 256 + 15
  · rw [if_pos z1, if_neg n1, if_pos (by omega), show c - 270 = 1 by omega]; rfl
  rw [if_neg z1, if_pos rfl, W 16 (by omega), bs_]
  dsimp only
  by_cases z2 : c = 256 + 16
  · rw [if_pos z2, if_neg n1, if_pos (by omega), show c - 270 = 2 by omega]; rfl
  rw [if_neg z2, if_pos rfl, W 17 (by omega), bs_]
  dsimp only
  by_cases z3 : c = 256 + 17
  · rw [if_pos z3, if_neg n1, if_pos (by omega), show c - 270 = 3 by omega]; rfl
  rw [if_neg z3, if_pos rfl, W 18 (by omega), bs_]
  dsimp only
  by_cases z4 : c = 256 + 18
  · rw [if_pos z4, if_neg n1, if_pos (by omega), show c - 270 = 4 by omega]; rfl
  rw [if_neg z4, if_pos rfl, W 19 (by omega), bs_]
  dsimp only
  by_cases z5 : c = 256 + 19
  · rw [if_pos z5, if_neg n1, if_pos (by omega), show c - 270 = 5 by omega]; rfl
  rw [if_neg z5, if_pos rfl, W 20 (by omega), bs_]
  dsimp only
  by_cases z6 : c = 256 + 20
  · rw [if_pos z6, if_neg n1, if_pos (by omega), show c - 270 = 6 by omega]; rfl
  rw [if_neg z6, if_pos rfl, W 21 (by omega), bs_]
  dsimp only
  by_cases z7 : c = 256 + 21
  · rw [if_pos z7, if_neg n1, if_pos (by omega), show c - 270 = 7 by omega]; rfl
  rw [if_neg z7, if_pos rfl, W 22 (by omega), bs_]
  dsimp only
  by_cases z8 : c = 256 + 22
  · rw [if_pos z8, if_neg n1, if_pos (by omega), show c - 270 = 8 by omega]; rfl
  rw [if_neg z8, if_pos rfl, if_neg (by omega)]
section DEAD
variable {st : HSt} {H n M : Nat} {t : Nat → Int32} {f : Int32}
theorem d_j85 {v1 v2 : Int32} (D : Dd st H t n M f) : ∃ st2, fh_X7_readValue_j85 (H + 5) v1 v2 st = some st2 ∧ Fr (RdX H) st st2 ∧ Dd st2 H t n M f := by
  obtain ⟨F1, D1⟩ := d_items (v := gI st 706 (H + 5) + 1) D
  unfold fh_X7_readValue_j85
  rw [chk_t (isk_t D.k8)]
  by_cases z : v2 = 0
  · obtain ⟨s2, e2, F2, D2⟩ := d_put (x := -v1) D1
    obtain ⟨s3, e3, F3, D3⟩ := d_next D2
    rw [if_pos z, e2, bs_, chk_t (isk_t D2.k8), D2.r7, dr_of D2.k11, bs_, e3, bs_]
    exact ⟨s3, rfl, (F1.tr F2).tr F3, D3⟩
  · obtain ⟨-, -, ⟨i, T⟩, -⟩ := id D1
    obtain ⟨s2, e2, F2, D2⟩ := d_put (x := gA (sI st 706 (H + 5) (gI st 706 (H + 5) + 1)) (H + 3) i) D1
    obtain ⟨s3, e3, F3, D3⟩ := d_next D2
    rw [if_neg z, D1.r7, dr_of D.k11, bs_, h_value T, bs_]
    dsimp only
    rw [chk_t (isk_t D1.k8), e2, bs_, chk_t (isk_t D2.k8), D2.r7, dr_of D2.k11, bs_, e3, bs_]
    exact ⟨s3, rfl, (F1.tr F2).tr F3, D3⟩
theorem d_j68 {v1 v2 : Int32} (D : Dd st H t n M f) : ∃ st2, fh_X7_readValue_j68 (H + 5) v1 v2 st = some st2 ∧ Fr (RdX H) st st2 ∧ Dd st2 H t n M f := by
  unfold fh_X7_readValue_j68
  rw [chk_t (isk_t D.k8)]
  by_cases z : gI st 706 (H + 5) < 60
  · rw [if_pos z]; exact d_j85 D
  · obtain ⟨s1, e1, F1, D1⟩ := d_fail (a := 3) D
    have e1' : fh_X10_fail H (3 : Int32) st = some s1 := e1
    obtain ⟨s2, e2, F2, D2⟩ := d_j85 (v1 := v1) (v2 := v2) D1
    rw [if_neg z, D.r7, dr_of D.k11, bs_, e1', bs_, e2]
    exact ⟨s2, rfl, F1.tr F2, D2⟩
end DEAD
/-- from both at a sign to a fault -/
theorem RJ.dead {st : HSt} {ms : MSt} {H n M i p k sz it a : Nat} {cd : Nat → Nat × Nat} (J : RJ st ms H n M i p k cd sz it) (hz : sz ≤ 400) (ha : a < 8) : ∃ s2, fh_X10_fail H (nI a) st = some s2 ∧ Fr (RdX H) st s2 ∧ Dd s2 H (ms.2.1 0) n M (nI (1 + 8 * ps (ms.2.1 0) n i + a)) := by
  obtain ⟨⟨T, A, -⟩, E, C, -⟩ := J
  obtain ⟨s2, e, F, -, T2, -⟩ := h_fail (a := a) T
  rw [if_pos rfl] at T2
  have hps : ps (ms.2.1 0) n i ≤ 400 := Nat.le_trans (ps_le i) A.2.1
  refine ⟨s2, e, Frd F, E.fr F, fun z => ?_, ⟨i, T2⟩, sz, hz, (F.I 705 (by omega)).trans C.1⟩
  have := (nI_eq (b := 0) (by omega) (by omega)).mp z
  omega
