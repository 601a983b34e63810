/-! reading a RULE: the outermost TEST, both sides -/
def ROt (t : Nat → Int32) (H n M k : Nat) (st st2 : HSt) (ms ms2 : MSt) (rr : Int32) (P : Nat → Nat → (Nat → Nat × Nat) → Nat → Nat → Prop) : Prop := Fr (RdX H) st st2 ∧ MT k ms ms2 ∧ ((rr = 1 ∧ ∃ i q cd sz it, RJ st2 ms2 H n M i q k cd sz it ∧ P i q cd sz it) ∨ (rr = 0 ∧ ∃ f, Dd st2 H t n M f ∧ ms2.1 15 = f))
theorem j_tested {st : HSt} {ms : MSt} {H n M i p k sz it : Nat} {cd : Nat → Nat × Nat} (J : RJ st ms H n M i p k cd sz it) (hz : sz ≤ i) : ∃ st2 ms2 rr, fh_X7_readTest 12 (H + 5) 0 st = some st2 ∧ fm_tested ms = some (ms2, rr) ∧ ROt (ms.2.1 0) H n M k st st2 ms ms2 rr (fun i2 _ cd2 sz2 it2 => i < i2 ∧ sz2 ≤ i2 ∧ it < it2 ∧ (∀ j, j < sz → cd2 j = cd j) ∧ Sg cd2 sz sz2 true (it2 - it)) := by
  obtain ⟨hiM, hM⟩ := J.t0
  obtain ⟨N, hN⟩ := mFuel_5
  have hNl : N + 5 = 1000000 := by rw [← hN]; exact mFuel_eq
  let m0 := msi (msi ms 22 0) 19 0
  have G0 : MF (fun q => q == 22 || q == 19) ms m0 := (MF.msi rfl).tr (MF.msi rfl)
  have M0 : MT k ms m0 := (MT.i rfl).tr (MT.i rfl)
  have J0 : RJ st m0 H n M i p k cd sz it := by
    obtain ⟨J1, E, C1, C2, ⟨i1, i2, i3⟩, ⟨k1, k2⟩, B⟩ := J
    exact ⟨J1.frm G0 rfl rfl rfl rfl, E, C1, C2.fr G0 rfl rfl, ⟨i1, by rw [G0.I 18 rfl]; exact i2, i3⟩, ⟨by rw [G0.I 17 rfl]; exact k1, k2⟩, by rw [G0.A 0 rfl]; exact B⟩
  have R0 : RT st m0 H n M i p k cd sz it [] [] 0 := J0.rt ⟨by show (msi (msi ms 22 0) 19 0).1 22 = nI 0; rw [msi_n (by omega), msi_s]; rfl, True.intro⟩ (msi_s _ _ _) (by show sz + 0 ≤ i; omega) (fun x hx => absurd hx (List.not_mem_nil))
  have tt : fm_tested ms = Kf mFuel (N + 4) m0 := by
    rw [← K_it]
    unfold fm_tested
    rw [hN]
    rfl
  obtain ⟨st2, e2, F2, c2⟩ := test_ok (H := H) (n := n) (M := M) (k := k) (t := ms.2.1 0) 12 0 (by omega) (by omega) st m0 i p cd sz it [] mFuel (N + 4) R0 (G0.A 0 rfl) (Or.inl rfl) (by rw [mFuel_eq]; omega) (by omega)
  rw [tt]
  have e2' : fh_X7_readTest 12 (H + 5) 0 st = some st2 := e2
  rcases c2 with ⟨m2, i2, q2, cd2, sz2, it2, P, G2, F2', K2, M2, R2, hP, n268, n267, g1, g2, o1, o2, o3, o4⟩ | ⟨m2, f, K2, M2, D2, f2⟩
  · obtain ⟨G2, rfl⟩ : ∃ G', G2 = G' + 1 := ⟨G2 - 1, by omega⟩
    obtain ⟨F2', rfl⟩ : ∃ F', F2' = F' + 1 := ⟨F2' - 1, by omega⟩
    have K3 := R2.stop_ (Or.inr (fun z => by
      rw [List.append_nil] at z
      rcases hP 91 z with y | y <;> omega)) G2 (F2' + 1)
    have R2s := R2.seen
    obtain ⟨c, hc9, hc⟩ := R2.1.1.kn
    have nn : ∀ a, a < 279 → gA st2 (H + 1) i2 ≠ nI a → c ≠ a := fun a ha h y => h (by rw [hc, y])
    obtain ⟨m3, K4, M3, R3⟩ := R2s.endT hc hc9 (nn 268 (by omega) n268) (nn 267 (by omega) n267) hP F2'
    refine ⟨st2, m3, 1, e2', by rw [K2, K3, K4], F2, ((M0.tr M2).tr (MT.i rfl)).tr M3, Or.inl ⟨rfl, i2, _, cd2, sz2, it2, R3.rj, by omega, ?_, by omega, o3, o4⟩⟩
    have := R3.cap
    simpa using this
  · exact ⟨st2, m2, 0, e2', K2, F2, M0.tr M2, Or.inr ⟨rfl, f, D2, f2⟩⟩
/-! clauses -/
def ClO (cd : Nat → Nat × Nat) (q : Nat × Nat × Nat × Nat) (sz : Nat) : Prop := q.1 < 4 ∧ q.2.1 ≤ q.2.2.1 ∧ q.2.2.1 ≤ q.2.2.2 ∧ q.2.2.2 ≤ sz ∧ (q.1 < 2 → SegOk cd q.2.1 (q.2.2.1 - q.2.1) false) ∧ (q.2.2.1 < q.2.2.2 → SegOk cd q.2.2.1 (q.2.2.2 - q.2.2.1) true) ∧ (2 ≤ q.1 → q.2.2.1 < q.2.2.2)
def ClH (st : HSt) (H c : Nat) (q : Nat × Nat × Nat × Nat) : Prop := gA st (H + 6) c = nI (262 + q.1) ∧ gA st (H + 7) c = nI q.2.1 ∧ gA st (H + 8) c = nI q.2.2.1 ∧ gA st (H + 7) (c + 1) = nI q.2.2.2
def ClM (ms : MSt) (k c : Nat) (q : Nat × Nat × Nat × Nat) : Prop := ms.2.1 5 (60 * k + 5 * c) = nI q.1 ∧ (q.1 < 2 → ms.2.1 5 (60 * k + 5 * c + 1) = nI q.2.1 ∧ ms.2.1 5 (60 * k + 5 * c + 2) = nI q.2.2.1) ∧ ms.2.1 5 (60 * k + 5 * c + 3) = (if q.2.2.1 < q.2.2.2 then nI q.2.2.1 else -1) ∧ ms.2.1 5 (60 * k + 5 * c + 4) = nI q.2.2.2
def ClR (st : HSt) (ms : MSt) (H k : Nat) (cd : Nat → Nat × Nat) (sz c : Nat) (cl : Nat → Nat × Nat × Nat × Nat) : Prop := ms.2.1 6 k = nI c ∧ (∀ j, j < c → ClO cd (cl j) sz ∧ ClH st H j (cl j) ∧ ClM ms k j (cl j)) ∧ (0 < c → (cl (c - 1)).2.2.2 = sz)
theorem tys_cg {cd cd2 : Nat → Nat × Nat} {a z : Nat} {b : Bool} (h : SegOk cd a (z - a) b) (e : ∀ j, j < z → cd2 j = cd j) : SegOk cd2 a (z - a) b := by
  obtain ⟨h1, h2⟩ := h
  refine ⟨?_, fun m hm => ?_⟩
  · rw [tys_F, tyF_cg _ (fun j h1 h2 => e j (by omega)), ← tys_F]; exact h1
  · rw [tys_F, tyF_cg _ (fun j h1 h2 => e j (by omega)), ← tys_F]; exact h2 m hm
theorem ClO.cg {cd cd2 : Nat → Nat × Nat} {q : Nat × Nat × Nat × Nat} {sz sz2 : Nat} (h : ClO cd q sz) (e : ∀ j, j < sz → cd2 j = cd j) (hs : sz ≤ sz2) : ClO cd2 q sz2 := by
  obtain ⟨h1, h2, h3, h4, h5, h6, h7⟩ := h
  exact ⟨h1, h2, h3, by omega, fun z => tys_cg (h5 z) (fun j hj => e j (by omega)), fun z => tys_cg (h6 z) (fun j hj => e j (by omega)), h7⟩
/-- what the reference changes as it reads a clause of text k -/
def mRd (k : Nat) : Bool := mRt k || k == 5 || k == 6
def MD (k : Nat) (ms ms2 : MSt) : Prop := MF mRd ms ms2 ∧ (∀ x, x < 400 * k → ms2.2.1 3 x = ms.2.1 3 x) ∧ (∀ x, x < 60 * k → ms2.2.1 5 x = ms.2.1 5 x) ∧ (∀ x, x < k → ms2.2.1 6 x = ms.2.1 6 x)
theorem mRt_d : ∀ k, mRt k = true → mRd k = true := fun k h => by unfold mRd; rw [h]; rfl
theorem MD.rf {k : Nat} {ms : MSt} : MD k ms ms := ⟨MF.rf, fun _ _ => rfl, fun _ _ => rfl, fun _ _ => rfl⟩
theorem MD.tr {k : Nat} {a b c : MSt} (h : MD k a b) (g : MD k b c) : MD k a c := ⟨h.1.tr g.1, fun x hx => (g.2.1 x hx).trans (h.2.1 x hx), fun x hx => (g.2.2.1 x hx).trans (h.2.2.1 x hx), fun x hx => (g.2.2.2 x hx).trans (h.2.2.2 x hx)⟩
theorem MT.d {k : Nat} {a b : MSt} (h : MT k a b) : MD k a b := ⟨h.1.mo mRt_d, h.2, fun x _ => by rw [h.1.A 5 rfl], fun x _ => by rw [h.1.A 6 rfl]⟩
theorem MD.i {k f : Nat} {a : MSt} {v : Int32} (h : mRd f = true) : MD k a (msi a f v) := ⟨MF.msi h, fun _ _ => rfl, fun _ _ => rfl, fun _ _ => rfl⟩
theorem MD.a5 {k i : Nat} {a : MSt} {v : Int32} (h : 60 * k ≤ i) : MD k a (msa a 5 i v) := ⟨MF.msa rfl, fun x _ => by rw [msa_n (by omega)], fun x hx => by rw [msa_s, pk_un (by omega)], fun x _ => by rw [msa_n (by omega)]⟩
theorem MD.a6 {k : Nat} {a : MSt} {v : Int32} : MD k a (msa a 6 k v) := ⟨MF.msa rfl, fun x _ => by rw [msa_n (by omega)], fun x hx => by rw [msa_n (by omega)], fun x hx => by rw [msa_s, pk_un (by omega)]⟩
def RdZ (H b : Nat) : Prop := b = H ∨ (H + 5 ≤ b ∧ b ≤ H + 9)
theorem RdX_Z {H : Nat} {a b : HSt} (h : Fr (RdX H) a b) : Fr (RdZ H) a b := h.mo (fun q hq => by unfold RdX at hq; unfold RdZ; omega)
/-- and as it reads all clauses -/
def mRe (k : Nat) : Bool := mRd k || k == 20 || k == 1
def ME (k : Nat) (ms ms2 : MSt) : Prop := MF mRe ms ms2 ∧ (∀ x, x < 400 * k → ms2.2.1 3 x = ms.2.1 3 x) ∧ (∀ x, x < 60 * k → ms2.2.1 5 x = ms.2.1 5 x) ∧ (∀ x, x < k → ms2.2.1 6 x = ms.2.1 6 x)
theorem ME.rf {k : Nat} {ms : MSt} : ME k ms ms := ⟨MF.rf, fun _ _ => rfl, fun _ _ => rfl, fun _ _ => rfl⟩
theorem ME.tr {k : Nat} {a b c : MSt} (h : ME k a b) (g : ME k b c) : ME k a c := ⟨h.1.tr g.1, fun x hx => (g.2.1 x hx).trans (h.2.1 x hx), fun x hx => (g.2.2.1 x hx).trans (h.2.2.1 x hx), fun x hx => (g.2.2.2 x hx).trans (h.2.2.2 x hx)⟩
theorem MD.e {k : Nat} {a b : MSt} (h : MD k a b) : ME k a b := ⟨h.1.mo (fun q hq => by unfold mRe; rw [hq]; rfl), h.2⟩
theorem ME.i {k f : Nat} {a : MSt} {v : Int32} (h : mRe f = true) : ME k a (msi a f v) := ⟨MF.msi h, fun _ _ => rfl, fun _ _ => rfl, fun _ _ => rfl⟩
