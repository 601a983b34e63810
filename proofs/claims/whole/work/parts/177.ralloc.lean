/-! a RULE told: the class makes it -/
def cpN (st : HSt) (z : Nat) (g : Nat → Int32) : HSt := sAf (nO st 22 z) (gN st) g
theorem cpN_E {st : HSt} {z : Nat} {g : Nat → Int32} : Ext st (cpN st z g) := fun b hb => by
  have hne : b ≠ gN st := by omega
  exact ⟨if_neg hne, if_neg hne, (gA_ne hne).trans (if_neg hne), if_neg hne, if_neg hne, fun _ => if_neg hne, fun _ => if_neg hne⟩
theorem cpN_H {st : HSt} {z : Nat} {g : Nat → Int32} (hi : Hi st) : Hi (cpN st z g) := fun a ha => by
  have h1 : gN st + 1 ≤ a := ha
  have hne : a ≠ gN st := by omega
  exact (show gK (cpN st z g) a = gK st a from if_neg hne).trans (hi a (by omega))
theorem h_rcopy {st : HSt} {b L z : Nat} (k : gK st b = 22) (l : gL st b = L) (hL : L ≤ 400) (hz : z ≤ L) (hb : b < gN st) : ∃ g, fh_J7_copyOf_59c91 (some b) (nI z) st = some (cpN st z g, some (gN st)) ∧ ∀ j, j < z → g j = gA st b j := by
  unfold fh_J7_copyOf_59c91
  rw [dr_of k, bs_, l]
  have hne : b ≠ gN st := by omega
  by_cases e : z = L
  · subst e
    refine ⟨gA st b, ?_, fun _ _ => rfl⟩
    rw [if_pos rfl, chk_t (decide_eq_true hL), bs_]
    show some (sAf (nO st 22 (gL st b)) (gN st) (gA st b), some (gN st)) = _
    rw [l]; rfl
  · have ne : ¬ nI z = nI L := fun y => e ((nI_eq (by omega) (by omega)).mp y)
    have cz : (nI z).toNatClampNeg = z := nI_clamp (by omega)
    have gl : gL (nO st 22 z) b = L := (nO_L_ne hne).trans l
    have gn : gL (nO st 22 z) (gN st) = z := nO_L
    refine ⟨va_cpy (gA st b) (fun _ => 0) 0 0 z, ?_, fun j hj => ?_⟩
    · have lt0 : ¬ nI z < 0 := nI_nlt (b := 0) (by omega) (by omega)
      rw [if_neg ne, cz, chk_t (decide_eq_true ⟨lt0, by omega⟩), bs_, chk_t (isk_t ((nO_K_ne hne).trans k)), gl, gn, if_pos (nI_lt (show z < L by omega) (by omega)), cz]
      have ok : cpyok 0 0 (nI z) L z = true := by
        unfold cpyok
        refine decide_eq_true ⟨by decide, by decide, lt0, ?_, ?_⟩
        · rw [cz]; show 0 + z ≤ L; omega
        · rw [cz]; show 0 + z ≤ z; omega
      rw [chk_t ok, bs_]
      show some (sAf (nO st 22 z) (gN st) (va_cpy (gA (nO st 22 z) b) (gA (nO st 22 z) (gN st)) 0 0 z), some (gN st)) = _
      rw [nO_A_ne hne, nO_A]; rfl
    · unfold va_cpy
      rw [if_pos ⟨Nat.zero_le _, by omega⟩]
      show gA st b (0 + (j - 0)) = _
      rw [Nat.zero_add, Nat.sub_zero]
/-- the class's last step: the new RULE -/
noncomputable def allocR (H : Nat) (v1 : Int32) (s : HSt) : Option HSt := (some (nO s 7 0)).bind fun x36 => chk (isk x36 (H + 5) 8) ((fh_J7_copyOf_59c91 (gR x36 701 (H + 5)) (v1 + (1 : Int32)) x36).bind fun x39 => chk (isk x39.1 (H + 5) 8) ((fh_J7_copyOf_59c91 (gR x39.1 702 (H + 5)) (v1 + (2 : Int32)) x39.1).bind fun x42 => chk (isk x42.1 (H + 5) 8) ((fh_J7_copyOf_59c91 (gR x42.1 703 (H + 5)) (v1 + (1 : Int32)) x42.1).bind fun x45 => chk (isk x45.1 (H + 5) 8) ((fh_J7_copyOf_59c91 (gR x45.1 704 (H + 5)) (gI x45.1 705 (H + 5)) x45.1).bind fun x48 => chk (isk x48.1 (gN s) 7) (fh_X6_init (gN s) (v1 + (1 : Int32)) x39.2 x42.2 x45.2 x48.2 x48.1)))))
theorem RdE.ext {st st2 : HSt} {H : Nat} (h : RdE st H) (E : Ext st st2) (hl : H + 9 < gN st) : RdE st2 H := by
  obtain ⟨a, b, ⟨c1, c2, c3⟩, ⟨d1, d2, d3⟩, ⟨e1, e2, e3⟩, ⟨f1, f2, f3⟩⟩ := h
  have o5 := E (H + 5) (by omega)
  have o6 := E (H + 6) (by omega)
  have o7 := E (H + 7) (by omega)
  have o8 := E (H + 8) (by omega)
  have o9 := E (H + 9) (by omega)
  exact ⟨o5.1.trans a, (o5.2.2.2.2.2.2 _).trans b, ⟨(o5.2.2.2.2.2.2 _).trans c1, o6.1.trans c2, o6.2.1.trans c3⟩, ⟨(o5.2.2.2.2.2.2 _).trans d1, o7.1.trans d2, o7.2.1.trans d3⟩, ⟨(o5.2.2.2.2.2.2 _).trans e1, o8.1.trans e2, o8.2.1.trans e3⟩, ⟨(o5.2.2.2.2.2.2 _).trans f1, o9.1.trans f2, o9.2.1.trans f3⟩⟩
theorem h_alloc {s : HSt} {H c sz : Nat} (w : Wf s) (hi : Hi s) (E : RdE s H) (hl : H + 9 < gN s) (hc : c < 12) (hz : sz ≤ 400) (h5 : gI s 705 (H + 5) = nI sz) : ∃ s2, allocR H (nI c) s = some s2 ∧ Ext s s2 ∧ Wf s2 ∧ Hi s2 ∧ gK s2 (gN s) = 7 ∧ gI s2 600 (gN s) = nI (c + 1) ∧ gL s2 (gN s + 1) = c + 1 ∧ gL s2 (gN s + 2) = c + 2 ∧ gL s2 (gN s + 3) = c + 1 ∧ gL s2 (gN s + 4) = sz ∧ (∀ j, j < c + 1 → gA s2 (gN s + 1) j = gA s (H + 6) j) ∧ (∀ j, j < c + 2 → gA s2 (gN s + 2) j = gA s (H + 7) j) ∧ (∀ j, j < c + 1 → gA s2 (gN s + 3) j = gA s (H + 8) j) ∧ (∀ j, j < sz → gA s2 (gN s + 4) j = gA s (H + 9) j) := by
  let r := gN s
  let s0 := nO s 7 0
  have E0 : Ext s s0 := fun b hb => by
    have hne : b ≠ gN s := by omega
    exact ⟨if_neg hne, if_neg hne, if_neg hne, if_neg hne, if_neg hne, fun _ => if_neg hne, fun _ => if_neg hne⟩
  have H0 : Hi s0 := fun a ha => by
    have h1 : gN s + 1 ≤ a := ha
    have hne : a ≠ gN s := by omega
    exact (show gK s0 a = gK s a from if_neg hne).trans (hi a (by omega))
  have n0 : gN s0 = r + 1 := rfl
  have R0 := E.ext E0 hl
  obtain ⟨k8, -, ⟨c1, c2, c3⟩, -⟩ := id R0
  obtain ⟨g1, e1, v1⟩ := h_rcopy (st := s0) (b := H + 6) (L := 12) (z := c + 1) c2 c3 (by omega) (by omega) (by rw [n0]; show H + 6 < gN s + 1; omega)
  let s1 := cpN s0 (c + 1) g1
  have E1 : Ext s0 s1 := cpN_E
  have n1 : gN s1 = r + 2 := rfl
  have R1 := R0.ext E1 (by rw [n0]; show H + 9 < gN s + 1; omega)
  obtain ⟨k81, -, -, ⟨d1, d2, d3⟩, -⟩ := id R1
  obtain ⟨g2, e2, v2⟩ := h_rcopy (st := s1) (b := H + 7) (L := 13) (z := c + 2) d2 d3 (by omega) (by omega) (by rw [n1]; show H + 7 < gN s + 2; omega)
  let s2 := cpN s1 (c + 2) g2
  have E2 : Ext s1 s2 := cpN_E
  have n2 : gN s2 = r + 3 := rfl
  have R2 := R1.ext E2 (by rw [n1]; show H + 9 < gN s + 2; omega)
  obtain ⟨k82, -, -, -, ⟨f1, f2, f3⟩, -⟩ := id R2
  obtain ⟨g3, e3, v3⟩ := h_rcopy (st := s2) (b := H + 8) (L := 12) (z := c + 1) f2 f3 (by omega) (by omega) (by rw [n2]; show H + 8 < gN s + 3; omega)
  let s3 := cpN s2 (c + 1) g3
  have E3 : Ext s2 s3 := cpN_E
  have n3 : gN s3 = r + 4 := rfl
  have R3 := R2.ext E3 (by rw [n2]; show H + 9 < gN s + 3; omega)
  obtain ⟨k83, -, -, -, -, ⟨q1, q2, q3⟩⟩ := id R3
  obtain ⟨g4, e4, v4⟩ := h_rcopy (st := s3) (b := H + 9) (L := 400) (z := sz) q2 q3 (by omega) hz (by rw [n3]; show H + 9 < gN s + 4; omega)
  let s4 := cpN s3 sz g4
  have E4 : Ext s3 s4 := cpN_E
  have n4 : gN s4 = r + 5 := rfl
  have lr : H + 9 < r := hl
  have tr : ∀ {a b c : HSt}, Ext a b → Ext b c → gN a ≤ gN b → Ext a c := fun h1 h2 hn q hq => (h1 q hq).tr (h2 q (by omega))
  have E02 : Ext s0 s2 := tr E1 E2 (by rw [n0, n1]; omega)
  have E03 : Ext s0 s3 := tr E02 E3 (by rw [n0, n2]; omega)
  have E04 : Ext s0 s4 := tr E03 E4 (by rw [n0, n3]; omega)
  have Es4 : Ext s s4 := tr E0 E04 (by rw [n0]; show gN s ≤ gN s + 1; omega)
  have i5 : gI s3 705 (H + 5) = nI sz := ((tr E0 E03 (by rw [n0]; show gN s ≤ gN s + 1; omega) (H + 5) (by omega)).2.2.2.2.2.1 705).trans h5
  have kr : gK s4 r = 7 := (E04 r (by rw [n0]; omega)).1.trans (if_pos rfl)
  let sF := sR (sR (sR (sR (sI s4 600 r (nI (c + 1))) 601 r (some (r + 1))) 602 r (some (r + 2))) 603 r (some (r + 3))) 604 r (some (r + 4))
  have al : allocR H (nI c) s = some sF := by
    unfold allocR
    rw [bs_, chk_t (isk_t k8), c1, nI_1, show nI c + (2 : Int32) = nI (c + 2) from nI_add c 2, e1, bs_]
    dsimp only
    rw [chk_t (isk_t k81), d1, e2, bs_]
    dsimp only
    rw [chk_t (isk_t k82), f1, e3, bs_]
    dsimp only
    rw [chk_t (isk_t k83), q1, i5, e4, bs_]
    dsimp only
    rw [chk_t (isk_t kr)]
    unfold fh_X6_init
    rw [chk_t (isk_t kr)]
    rfl
  have oF : ∀ b, b ≠ r → Old s4 sF b := fun b hb => by
    refine ⟨rfl, rfl, rfl, rfl, rfl, fun f => ?_, fun f => ?_⟩
    · show gI (sI s4 600 r (nI (c + 1))) f b = _
      exact gI_sI_ne (Or.inr hb)
    · exact (sR_R_ne (Or.inl hb)).trans ((sR_R_ne (Or.inl hb)).trans ((sR_R_ne (Or.inl hb)).trans (sR_R_ne (Or.inl hb))))
  have EF : Ext s sF := fun b hb => (Es4 b hb).tr (oF b (by show b ≠ gN s; omega))
  have HF : Hi sF := (fun a ha => (cpN_H (cpN_H (cpN_H (cpN_H H0)))) a ha : Hi s4)
  have kk : ∀ a, gN s ≤ a → gK sF a = (if a = r then 7 else if a < r + 5 then 22 else 0) := by
    intro a ha
    have ha' : r ≤ a := ha
    by_cases z : a = r
    · rw [if_pos z, z]; exact kr
    · rw [if_neg z]
      rcases (by omega : a = r + 1 ∨ a = r + 2 ∨ a = r + 3 ∨ a = r + 4 ∨ r + 5 ≤ a) with y | y | y | y | y
      · rw [if_pos (by omega), y]
        exact ((tr (tr E2 E3 (by rw [n1, n2]; omega)) E4 (by rw [n1, n3]; omega)) (r + 1) (by rw [n1]; omega)).1.trans (if_pos rfl)
      · rw [if_pos (by omega), y]
        exact ((tr E3 E4 (by rw [n2, n3]; omega)) (r + 2) (by rw [n2]; omega)).1.trans (if_pos rfl)
      · rw [if_pos (by omega), y]
        exact (E4 (r + 3) (by rw [n3]; omega)).1.trans (if_pos rfl)
      · rw [if_pos (by omega), y]; exact if_pos rfl
      · rw [if_neg (by omega)]
        exact HF a (by show r + 5 ≤ a; omega)
  have row : ∀ (b x : Nat) (u v : HSt), True := fun _ _ _ _ => True.intro
  have W1 : WfU1 sF r := by
    refine ⟨fun j h1 h2 => ?_, ?_, ?_, ?_, sR_R⟩
    · rw [kk (r + j) (by show gN s ≤ gN s + j; omega), if_neg (by omega), if_pos (by omega)]
    · exact (sR_R_ne (Or.inr (by omega))).trans ((sR_R_ne (Or.inr (by omega))).trans ((sR_R_ne (Or.inr (by omega))).trans sR_R))
    · exact (sR_R_ne (Or.inr (by omega))).trans ((sR_R_ne (Or.inr (by omega))).trans sR_R)
    · exact (sR_R_ne (Or.inr (by omega))).trans sR_R
  have o14 : Old s1 s4 (r + 1) := (tr (tr E2 E3 (by rw [n1, n2]; omega)) E4 (by rw [n1, n3]; omega)) (r + 1) (by rw [n1]; omega)
  have o24 : Old s2 s4 (r + 2) := (tr E3 E4 (by rw [n2, n3]; omega)) (r + 2) (by rw [n2]; omega)
  have o34 : Old s3 s4 (r + 3) := E4 (r + 3) (by rw [n3]; omega)
  refine ⟨sF, al, EF, Wf_ext w hi EF (fun a ha => ?_), HF, kr, (gI_sI s4 600 r (nI (c + 1))), ?_, ?_, ?_, ?_, fun j hj => ?_, fun j hj => ?_, fun j hj => ?_, fun j hj => ?_⟩
  · rw [kk a ha]
    by_cases z : a = r
    · rw [if_pos z]
      exact ⟨by omega, by omega, fun q => by omega, fun _ => by rw [z]; exact W1⟩
    · rw [if_neg z]
      by_cases y : a < r + 5
      · rw [if_pos y]; exact ⟨by omega, by omega, fun q => by omega, fun q => by omega⟩
      · rw [if_neg y]; exact ⟨by omega, by omega, fun q => by omega, fun q => by omega⟩
  · exact o14.2.1.trans (if_pos rfl)
  · exact o24.2.1.trans (if_pos rfl)
  · exact o34.2.1.trans (if_pos rfl)
  · exact if_pos rfl
  · show gA s4 (r + 1) j = _
    rw [o14.2.2.1, show gA s1 (r + 1) = g1 from gA_self, v1 j hj, (E0 (H + 6) (by omega)).2.2.1]
  · show gA s4 (r + 2) j = _
    rw [o24.2.2.1, show gA s2 (r + 2) = g2 from gA_self, v2 j hj, (E1 (H + 7) (by rw [n0]; omega)).2.2.1, (E0 (H + 7) (by omega)).2.2.1]
  · show gA s4 (r + 3) j = _
    rw [o34.2.2.1, show gA s3 (r + 3) = g3 from gA_self, v3 j hj, (E02 (H + 8) (by rw [n0]; omega)).2.2.1, (E0 (H + 8) (by omega)).2.2.1]
  · show gA s4 (r + 4) j = _
    rw [show gA s4 (r + 4) = g4 from gA_self, v4 j hj, (E03 (H + 9) (by rw [n0]; omega)).2.2.1, (E0 (H + 9) (by omega)).2.2.1]
