/-! a RULE: its clauses and code; someHolds, firstSum, planOf, actBoth of the class -/
abbrev Ru : Type := Nat × (Nat → Nat × Nat × Nat × Nat) × (Nat → Nat × Nat)
def RuOk (u : Ru) : Prop := u.1 ≤ 12 ∧ ∀ c, c < u.1 → (u.2.1 c).1 < 4 ∧ (u.2.1 c).2.1 ≤ (u.2.1 c).2.2.1 ∧ (u.2.1 c).2.2.1 ≤ (u.2.1 c).2.2.2 ∧ (u.2.1 c).2.2.2 ≤ 400 ∧ ((u.2.1 c).1 < 2 → SegOk u.2.2 (u.2.1 c).2.1 ((u.2.1 c).2.2.1 - (u.2.1 c).2.1) false) ∧ ((u.2.1 c).2.2.1 < (u.2.1 c).2.2.2 → SegOk u.2.2 (u.2.1 c).2.2.1 ((u.2.1 c).2.2.2 - (u.2.1 c).2.2.1) true) ∧ (2 ≤ (u.2.1 c).1 → (u.2.1 c).2.2.1 < (u.2.1 c).2.2.2)
def RuR (st : HSt) (q : Nat) (u : Ru) : Prop := gK st q = 7 ∧ gI st 600 q = nI u.1 ∧ gL st (q + 1) = u.1 ∧ gL st (q + 2) = u.1 + 1 ∧ gL st (q + 3) = u.1 ∧ gL st (q + 4) ≤ 400 ∧ (∀ c, c < u.1 → gA st (q + 1) c = nI (262 + (u.2.1 c).1) ∧ gA st (q + 2) c = nI (u.2.1 c).2.1 ∧ gA st (q + 3) c = nI (u.2.1 c).2.2.1 ∧ gA st (q + 2) (c + 1) = nI (u.2.1 c).2.2.2 ∧ (u.2.1 c).2.2.2 ≤ gL st (q + 4)) ∧ ∀ i, i < gL st (q + 4) → gA st (q + 4) i = encH (u.2.2 i)
/-- a rule that may be NONE -/
def RqR (st : HSt) (q : Option Nat) (u : Option Ru) : Prop := (q = none ∧ u = none) ∨ ∃ b c, q = some b ∧ u = some c ∧ RuR st b c ∧ RuOk c
theorem RuR.fr {X : Nat → Prop} {a b : HSt} {q : Nat} {u : Ru} (h : RuR a q u) (F : Fr X a b) (hX : ∀ j, j < 5 → ¬ X (q + j)) : RuR b q u := by
  obtain ⟨h1, h2, h3, h4, h5, h6, h7, h8⟩ := h
  refine ⟨(F.K q).trans h1, (F.I 600 (hX 0 (by omega))).trans h2, (F.L _).trans h3, (F.L _).trans h4, (F.L _).trans h5, by rw [F.L]; exact h6, fun c hc => ?_, fun i hi => ?_⟩
  · rw [F.A (hX 1 (by omega)), F.A (hX 2 (by omega)), F.A (hX 3 (by omega)), F.L]; exact h7 c hc
  · rw [F.L] at hi; rw [F.A (hX 4 (by omega))]; exact h8 i hi
def fst1 (P : Nat → Bool) : Nat → Option Nat
  | 0 => none
  | m + 1 => (fst1 P m).orElse (fun _ => if P m = true then some m else none)
theorem fst1_hit {P : Nat → Bool} {c : Nat} (h : fst1 P c = none) (hp : P c = true) : ∀ {n : Nat}, c < n → fst1 P n = some c
  | n + 1, hn => by
    rcases Nat.lt_or_ge c n with q | q
    · unfold fst1; rw [fst1_hit h hp q]; rfl
    · have e : c = n := by omega
      subst e; unfold fst1; rw [h, if_pos hp]; rfl
theorem fst1_miss {P : Nat → Bool} {c : Nat} (h : fst1 P c = none) (hp : P c = false) : fst1 P (c + 1) = none := by
  unfold fst1; rw [h, hp]; rfl
def pP (u : Ru) (w : Nat → Int64) (k c : Nat) : Bool := decide ((u.2.1 c).1 = k) && (decide ((u.2.1 c).2.2.1 = (u.2.1 c).2.2.2) || decide (pRun w u.2.2 (u.2.1 c).2.2.1 ((u.2.1 c).2.2.2 - (u.2.1 c).2.2.1) ≠ 0))
def pAny (u : Ru) (w : Nat → Int64) (k : Nat) : Bool := (fst1 (pP u w k) u.1).isSome
def pHold (sp : Int32) (x : Int64) : Int32 := (if (if x < sp.toInt64 then x else sp.toInt64) < (-sp).toInt64 then (-sp).toInt64 else (if x < sp.toInt64 then x else sp.toInt64)).toInt32
def pFst (u : Ru) (w : Nat → Int64) (k : Nat) (sp : Int32) : Int32 := match fst1 (pP u w k) u.1 with
  | none => 0
  | some c => pHold sp (pRun w u.2.2 (u.2.1 c).2.1 ((u.2.1 c).2.2.1 - (u.2.1 c).2.1))
def pPlanR (v : Nat → Int32) (u : Ru) (s : Nat) (e : Int32) : Int32 := if pAny u (pWords v s e) 3 = true then -1 else if pAny u (pWords v s e) 2 = true then -2 else (pFst u (pWords v s e) 0 (v 2) + 20) * 41 + pFst u (pWords v s e) 1 (v 2) + 20
def pPlan (v : Nat → Int32) (u : Option Ru) (s : Nat) (e : Int32) : Int32 := match u with
  | none => 840
  | some u => pPlanR v u s e
theorem Ru_ne {st : HSt} {h q : Nat} (w : Wf st) (l : Lk st h) (hq : gK st q = 7) {j : Nat} (hj : j < 5) : q + j ≠ h + 1 ∧ q + j ≠ h + 2 := by
  obtain ⟨K, -⟩ := w.2.2.1 q hq
  have hk : gK st (q + j) ≠ 23 := by
    rcases Nat.eq_zero_or_pos j with z | z
    · subst z; rw [Nat.add_zero, hq]; omega
    · rw [K j z hj]; omega
  exact ⟨fun e => hk (by rw [e]; exact l.2.2.1), fun e => hk (by rw [e]; exact l.2.2.2.2.2.1)⟩
theorem nI_cases {a b : Nat} (ha : a < 2 ^ 31) (hb : b < 2 ^ 31) : nI a = nI b ↔ a = b := nI_eq ha hb
section RULES
variable {st : HSt} {h q : Nat} {u : Ru} {w : Nat → Int64}
/-- the test of a clause -/
theorem h_test {c : Nat} (W : Wf st) (l : Lk st h) (R : RuR st q u) (O : RuOk u) (hw : ∀ j, j < 9 → gJ st (h + 1) j = w j) (hc : c < u.1) (ht : (u.2.1 c).2.2.1 < (u.2.1 c).2.2.2) : ∃ st2, fh_X3_worth h (some (q + 4)) (nI (u.2.1 c).2.2.1) (nI (u.2.1 c).2.2.2) st = some (st2, pRun w u.2.2 (u.2.1 c).2.2.1 ((u.2.1 c).2.2.2 - (u.2.1 c).2.2.1)) ∧ Fr (fun b => b = h + 2) st st2 := by
  obtain ⟨h1, h2, h3, h4, h5, h6, h7, h8⟩ := R
  obtain ⟨K, -⟩ := W.2.2.1 q h1
  obtain ⟨o1, o2, o3, o4, o5, o6, o7⟩ := O.2 c hc
  exact h_worth l (K 4 (by omega) (by omega)) rfl h6 (by have := (h7 c hc).2.2.2.2; omega) h8 hw (o6 ht) rfl (congrArg nI (by omega))
theorem h_some {k : Nat} {x : Int32} (W : Wf st) (l : Lk st h) (R : RuR st q u) (O : RuOk u) (hw : ∀ j, j < 9 → gJ st (h + 1) j = w j) (hk : 2 ≤ k) (hk4 : k < 4) (hx : x = nI (262 + k)) : ∃ st2, fh_X3_someHolds h (some q) x st = some (st2, if pAny u w k = true then 1 else 0) ∧ Fr (fun b => b = h + 2) st st2 := by
  subst hx
  have n12 := O.1
  have key := iter_m (s1 := fun x : (Int32 × HSt) => fh_X3_someHolds_s2 h (some q) (nI (262 + k)) x.1 x.2) (fun c (x : Int32 × HSt) => x.1 = nI c ∧ Fr (fun b => b = h + 2) st x.2 ∧ fst1 (pP u w k) c = none) u.1 (fun o : HSt × Int32 => Fr (fun b => b = h + 2) st o.1 ∧ o.2 = 1 ∧ pAny u w k = true) (fun y : Int32 × HSt => Fr (fun b => b = h + 2) st y.2 ∧ pAny u w k = false) ?_ (x := ((0 : Int32), st)) ⟨rfl, Fr.rf, rfl⟩ (by omega)
  · unfold fh_X3_someHolds
    rcases key with ⟨o, e, F, o2, hp⟩ | ⟨y, e, F, hp⟩
    · refine ⟨o.1, ?_, F⟩
      rw [e, hp, if_pos rfl]
      show some o = _
      rw [← o2]
    · refine ⟨y.2, ?_, F⟩
      rw [e, hp, if_neg (by decide)]
      rfl
  · rintro c ⟨i, s⟩ hcn ⟨hi, F, hf⟩
    simp only at hi F hf
    subst hi
    have W2 := F.Wf W
    have R2 : RuR s q u := R.fr F (fun j hj => (Ru_ne W l R.1 hj).2)
    have l2 := l.fr F
    have hw2 : ∀ j, j < 9 → gJ s (h + 1) j = w j := fun j hj => by rw [F.J (by omega)]; exact hw j hj
    obtain ⟨h1, h2, h3, h4, h5, h6, h7, h8⟩ := id R2
    obtain ⟨K, R1, R2', R3, R4⟩ := W2.2.2.1 q h1
    rcases Nat.lt_or_ge c u.1 with hlt | hge
    · obtain ⟨a1, a2, a3, a4, a5⟩ := h7 c hlt
      obtain ⟨o1, o2, o3, o4, o5, o6, o7⟩ := O.2 c hlt
      have head : fh_X3_someHolds_s2 h (some q) (nI (262 + k)) (nI c) s = (if nI (262 + (u.2.1 c).1) = nI (262 + k) then (fh_X3_worth h (some (q + 4)) (nI (u.2.1 c).2.2.1) (nI (u.2.1 c).2.2.2) s).bind fun x23 => (if (lg_cmp x23.2 (0 : Int64)) = 0 then some (.inr (.inl ((nI c + 1), x23.1))) else some (.inl (x23.1, (1 : Int32)))) else some (.inr (.inl ((nI c + 1), s)))) := by
        unfold fh_X3_someHolds_s2
        rw [dr_of h1, bs_, h2, if_neg (nI_ge hlt (by omega)), R1, dr_of (K 1 (by omega) (by omega)), bs_, h3, chk_t (inb_n hlt (by omega)), nI_clamp (by omega), a1, R3, dr_of (K 3 (by omega) (by omega)), bs_, h5, chk_t (inb_n hlt (by omega)), R2', dr_of (K 2 (by omega) (by omega)), bs_, h4, nI_1, chk_t (inb_n (by omega) (by omega)), nI_clamp (by omega), chk_t (isk_t l2.1), R4, a3, a4]
      show (∃ o, fh_X3_someHolds_s2 h (some q) (nI (262 + k)) (nI c) s = _ ∧ _) ∨ (∃ y, fh_X3_someHolds_s2 h (some q) (nI (262 + k)) (nI c) s = _ ∧ _) ∨ (∃ y, fh_X3_someHolds_s2 h (some q) (nI (262 + k)) (nI c) s = _ ∧ _)
      rw [head]
      by_cases hk1 : (u.2.1 c).1 = k
      · rw [if_pos (by rw [hk1])]
        have ht := o7 (by omega)
        obtain ⟨s2, e2, F2⟩ := h_test W2 l2 R2 O hw2 hlt ht
        rw [e2]
        by_cases hr : pRun w u.2.2 (u.2.1 c).2.2.1 ((u.2.1 c).2.2.2 - (u.2.1 c).2.2.1) = 0
        · right; left
          refine ⟨(nI (c + 1), s2), ?_, ⟨rfl, F.tr F2, fst1_miss hf ?_⟩, hlt⟩
          · rw [bs_, hr, if_pos (lg_eq.mpr rfl), nI_1]
          · unfold pP; rw [hr, decide_eq_false (show ¬ (u.2.1 c).2.2.1 = (u.2.1 c).2.2.2 by omega)]; simp
        · left
          refine ⟨(s2, 1), ?_, F.tr F2, rfl, ?_⟩
          · rw [bs_, if_neg (fun e => hr (lg_eq.mp e))]
          · unfold pAny; rw [fst1_hit hf (by unfold pP; simp [hk1, hr]) hlt]; rfl
      · rw [if_neg (fun e => hk1 (by have := (nI_eq (by omega) (by omega)).mp e; omega))]
        right; left
        refine ⟨(nI (c + 1), s), by rw [nI_1], ⟨rfl, F, fst1_miss hf ?_⟩, hlt⟩
        unfold pP; rw [decide_eq_false hk1]; rfl
    · have e : c = u.1 := by omega
      subst e
      right; right
      refine ⟨(nI u.1, s), ?_, F, ?_⟩
      · show fh_X3_someHolds_s2 h (some q) (nI (262 + k)) (nI u.1) s = _
        unfold fh_X3_someHolds_s2
        rw [dr_of h1, bs_, h2, if_pos (nI_le (Nat.le_refl _) (by omega))]
      · unfold pAny; rw [hf]; rfl
theorem h_first {k : Nat} {x sp : Int32} (W : Wf st) (l : Lk st h) (R : RuR st q u) (O : RuOk u) (hw : ∀ j, j < 9 → gJ st (h + 1) j = w j) (hk2 : k < 2) (hx : x = nI (262 + k)) : ∃ st2, fh_X3_firstSum h (some q) x sp st = some (st2, pFst u w k sp) ∧ Fr (fun b => b = h + 2) st st2 := by
  subst hx
  have n12 := O.1
  have key := iter_m (s1 := fun x : (Int32 × HSt) => fh_X3_firstSum_s3 h (some q) (nI (262 + k)) sp x.1 x.2) (fun c (x : Int32 × HSt) => x.1 = nI c ∧ Fr (fun b => b = h + 2) st x.2 ∧ fst1 (pP u w k) c = none) u.1 (fun o : HSt × Int32 => Fr (fun b => b = h + 2) st o.1 ∧ o.2 = pFst u w k sp) (fun y : Int32 × HSt => Fr (fun b => b = h + 2) st y.2 ∧ pFst u w k sp = 0) ?_ (x := ((0 : Int32), st)) ⟨rfl, Fr.rf, rfl⟩ (by omega)
  · unfold fh_X3_firstSum
    rcases key with ⟨o, e, F, o2⟩ | ⟨y, e, F, hp⟩
    · refine ⟨o.1, ?_, F⟩
      rw [e, ← o2]; rfl
    · refine ⟨y.2, ?_, F⟩
      rw [e, hp]; rfl
  · rintro c ⟨i, s⟩ hcn ⟨hi, F, hf⟩
    simp only at hi F hf
    subst hi
    have W2 := F.Wf W
    have R2 : RuR s q u := R.fr F (fun j hj => (Ru_ne W l R.1 hj).2)
    have l2 := l.fr F
    have hw2 : ∀ j, j < 9 → gJ s (h + 1) j = w j := fun j hj => by rw [F.J (by omega)]; exact hw j hj
    obtain ⟨h1, h2, h3, h4, h5, h6, h7, h8⟩ := id R2
    obtain ⟨K, R1, R2', R3, R4⟩ := W2.2.2.1 q h1
    rcases Nat.lt_or_ge c u.1 with hlt | hge
    · obtain ⟨a1, a2, a3, a4, a5⟩ := h7 c hlt
      obtain ⟨o1, o2, o3, o4, o5, o6, o7⟩ := O.2 c hlt
      have head : fh_X3_firstSum_s3 h (some q) (nI (262 + k)) sp (nI c) s = (if nI (262 + (u.2.1 c).1) = nI (262 + k) then (if nI (u.2.1 c).2.2.1 = nI (u.2.1 c).2.2.2 then fh_X3_firstSum_j67 h (some q) sp (nI c) (nI (u.2.1 c).2.2.1) s else (fh_X3_worth h (some (q + 4)) (nI (u.2.1 c).2.2.1) (nI (u.2.1 c).2.2.2) s).bind fun x36 => (if (lg_cmp x36.2 (0 : Int64)) = 0 then some (.inr (.inl ((nI c + 1), x36.1))) else fh_X3_firstSum_j67 h (some q) sp (nI c) (nI (u.2.1 c).2.2.1) x36.1)) else some (.inr (.inl ((nI c + 1), s)))) := by
        unfold fh_X3_firstSum_s3
        rw [dr_of h1, bs_, h2, if_neg (nI_ge hlt (by omega)), R3, dr_of (K 3 (by omega) (by omega)), bs_, h5, chk_t (inb_n hlt (by omega)), R2', dr_of (K 2 (by omega) (by omega)), bs_, h4, nI_1, chk_t (inb_n (by omega) (by omega)), R1, dr_of (K 1 (by omega) (by omega)), bs_, h3, chk_t (inb_n hlt (by omega)), nI_clamp (by omega), nI_clamp (by omega), a1, a3, a4, chk_t (isk_t l2.1), R4]
      have fin_ : ∀ s, RuR s q u → Wf s → Lk s h → (∀ j, j < 9 → gJ s (h + 1) j = w j) → fst1 (pP u w k) u.1 = some c → (u.2.1 c).1 = k → ∃ s2, fh_X3_firstSum_j67 h (some q) sp (nI c) (nI (u.2.1 c).2.2.1) s = some (.inl (s2, pFst u w k sp)) ∧ Fr (fun b => b = h + 2) s s2 := by
        intro s R W l hw hfc hk1
        obtain ⟨h1, h2, h3, h4, h5, h6, h7, h8⟩ := R
        obtain ⟨K, R1, R2', R3, R4⟩ := W.2.2.1 q h1
        obtain ⟨a1, a2, a3, a4, a5⟩ := h7 c hlt
        obtain ⟨s2, e2, F2⟩ := h_worth (i := (u.2.1 c).2.1) (n := (u.2.1 c).2.2.1 - (u.2.1 c).2.1) (x := nI (u.2.1 c).2.1) (y := nI (u.2.1 c).2.2.1) l (K 4 (by omega) (by omega)) rfl h6 (by omega) h8 hw (o5 (by omega)) rfl (congrArg nI (by omega))
        refine ⟨s2, ?_, F2⟩
        unfold fh_X3_firstSum_j67
        rw [dr_of h1, bs_, R2', dr_of (K 2 (by omega) (by omega)), bs_, h4, chk_t (inb_n (by omega) (by omega)), nI_clamp (by omega), a2, chk_t (isk_t l.1), R4, e2, bs_]
        unfold pFst; rw [hfc]; rfl
      show (∃ o, fh_X3_firstSum_s3 h (some q) (nI (262 + k)) sp (nI c) s = _ ∧ _) ∨ (∃ y, fh_X3_firstSum_s3 h (some q) (nI (262 + k)) sp (nI c) s = _ ∧ _) ∨ (∃ y, fh_X3_firstSum_s3 h (some q) (nI (262 + k)) sp (nI c) s = _ ∧ _)
      rw [head]
      by_cases hk1 : (u.2.1 c).1 = k
      · rw [if_pos (by rw [hk1])]
        by_cases hte : (u.2.1 c).2.2.1 = (u.2.1 c).2.2.2
        · left
          rw [if_pos (by rw [hte])]
          obtain ⟨s2, e2, F2⟩ := fin_ s R2 W2 l2 hw2 (fst1_hit hf (by unfold pP; simp [hk1, hte]) hlt) hk1
          exact ⟨_, e2, F.tr F2, rfl⟩
        · rw [if_neg (fun e => hte ((nI_eq (by omega) (by omega)).mp e))]
          obtain ⟨s2, e2, F2⟩ := h_test W2 l2 R2 O hw2 hlt (by omega)
          rw [e2]
          by_cases hr : pRun w u.2.2 (u.2.1 c).2.2.1 ((u.2.1 c).2.2.2 - (u.2.1 c).2.2.1) = 0
          · right; left
            refine ⟨(nI (c + 1), s2), ?_, ⟨rfl, F.tr F2, fst1_miss hf ?_⟩, hlt⟩
            · rw [bs_, hr, if_pos (lg_eq.mpr rfl), nI_1]
            · unfold pP; rw [hr, decide_eq_false hte]; simp
          · left
            obtain ⟨s3, e3, F3⟩ := fin_ s2 (R2.fr F2 (fun j hj => (Ru_ne W2 l2 h1 hj).2)) (F2.Wf W2) (l2.fr F2) (fun j hj => by rw [F2.J (by omega)]; exact hw2 j hj) (fst1_hit hf (by unfold pP; simp [hk1, hr]) hlt) hk1
            refine ⟨(s3, pFst u w k sp), ?_, (F.tr F2).tr F3, rfl⟩
            rw [bs_, if_neg (fun e => hr (lg_eq.mp e)), e3]
      · rw [if_neg (fun e => hk1 (by have := (nI_eq (by omega) (by omega)).mp e; omega))]
        right; left
        refine ⟨(nI (c + 1), s), by rw [nI_1], ⟨rfl, F, fst1_miss hf ?_⟩, hlt⟩
        unfold pP; rw [decide_eq_false hk1]; rfl
    · have e : c = u.1 := by omega
      subst e
      right; right
      refine ⟨(nI u.1, s), ?_, F, ?_⟩
      · show fh_X3_firstSum_s3 h (some q) (nI (262 + k)) sp (nI u.1) s = _
        unfold fh_X3_firstSum_s3
        rw [dr_of h1, bs_, h2, if_pos (nI_le (Nat.le_refl _) (by omega))]
      · unfold pFst; rw [hf]
end RULES
theorem Fr.lx {h : Nat} {a b : HSt} (F : Fr (fun b => b = h + 2) a b) : Fr (Lx h) a b := F.mo (fun _ e => Or.inr e)
theorem Sp_lx {st st2 : HSt} {h a r D : Nat} {v : Nat → Int32} (w : Wf st) (l : Lk st h) (S : SpR st a r v) (V : VOk D v) (F : Fr (Lx h) st st2) : SpR st2 a r v := by
  have k10 := S.2.2.1
  have k5 := S.2.1.1
  obtain ⟨w0, y, d, sp, fl, h0, h6, h1, h2, h4, hw, hy, hd, hsp, hfl, -⟩ := V
  obtain ⟨-, K, -⟩ := w.1 a k10
  obtain ⟨KR, -⟩ := w.2.1 r k5
  have out : ∀ b, gK st b ≠ 23 → ¬ Lx h b := fun b hb e => by
    rcases e with e | e
    · exact hb (by rw [e]; exact l.2.2.1)
    · exact hb (by rw [e]; exact l.2.2.2.2.2.1)
  refine ⟨(F.R' 900 (out a (by rw [k10]; omega))).trans S.1, S.2.1.fr F (fun j hj => out _ ?_) KpR.rf (by rw [h4, nI_clamp (by omega)]; exact hfl), S.2.2.fr F (out a (by rw [k10]; omega)) (out _ (by rw [K 7 (by omega) (by omega)]; omega)) (out _ (by rw [K 8 (by omega) (by omega)]; omega)) (out _ (by rw [K 9 (by omega) (by omega)]; omega))⟩
  rcases Nat.eq_zero_or_pos j with z | z
  · subst z; rw [Nat.add_zero, k5]; omega
  · rw [KR j z hj]; omega
theorem Ru_lx {st st2 : HSt} {h q : Nat} {u : Ru} (w : Wf st) (l : Lk st h) (R : RuR st q u) (F : Fr (Lx h) st st2) : RuR st2 q u := R.fr F (fun j hj e => by
  rcases e with e | e
  · exact (Ru_ne w l R.1 hj).1 e
  · exact (Ru_ne w l R.1 hj).2 e)
theorem h_planOf {st : HSt} {h a r s D : Nat} {v : Nat → Int32} {x e : Int32} {q : Option Nat} {u : Option Ru} (w : Wf st) (l : Lk st h) (S : SpR st a r v) (V : VOk D v) (hx : x = nI s) (hs : s < 2) (R : RqR st q u) : ∃ st2, fh_X3_planOf h (some a) q x e st = some (st2, pPlan v u s e) ∧ Fr (Lx h) st st2 := by
  rcases R with ⟨rfl, rfl⟩ | ⟨b, c, rfl, rfl, R, O⟩
  · exact ⟨st, rfl, Fr.rf⟩
  · have V0 := V
    obtain ⟨w0, y, d, sp, fl, h0, h6, h1, h2, h4, hw, hy, hd, hsp, hfl, -⟩ := V0
    obtain ⟨s1, e1, F1, hw1⟩ := h_look (e := e) w l S hx hs (h6 0 (by omega)) (h6 1 (by omega)) (by omega) (by omega)
    have W1 := F1.Wf w
    have l1 := l.fr F1
    have S1 := Sp_lx w l S V F1
    have R1 := Ru_lx w l R F1
    obtain ⟨s2, e2, F2⟩ := h_some (k := 3) (x := 265) W1 l1 R1 O hw1 (by omega) (by omega) rfl
    have W2 := F2.Wf W1
    have l2 := l1.fr F2
    have S2 := Sp_lx W1 l1 S1 V F2.lx
    have R2 := Ru_lx W1 l1 R1 F2.lx
    have hw2 : ∀ j, j < 9 → gJ s2 (h + 1) j = pWords v s e j := fun j hj => by rw [F2.J (by omega)]; exact hw1 j hj
    have head : ∀ X : Prop, True := fun _ => trivial
    unfold fh_X3_planOf
    rw [if_neg (by intro q; cases q), bs_, chk_t (isk_t l.1), e1, bs_, chk_t (isk_t l1.1), e2, bs_]
    show ∃ st2, (if (if pAny c (pWords v s e) 3 = true then (1 : Int32) else 0) = 0 then _ else _) = some (st2, pPlanR v c s e) ∧ _
    unfold pPlanR
    by_cases p3 : pAny c (pWords v s e) 3 = true
    · rw [if_pos p3, if_pos p3, if_neg (by decide)]
      exact ⟨s2, rfl, F1.tr F2.lx⟩
    · rw [if_neg p3, if_neg p3, if_pos rfl, chk_t (isk_t l2.1)]
      obtain ⟨s3, e3, F3⟩ := h_some (k := 2) (x := 264) W2 l2 R2 O hw2 (by omega) (by omega) rfl
      have W3 := F3.Wf W2
      have l3 := l2.fr F3
      have S3 := Sp_lx W2 l2 S2 V F3.lx
      have R3 := Ru_lx W2 l2 R2 F3.lx
      have hw3 : ∀ j, j < 9 → gJ s3 (h + 1) j = pWords v s e j := fun j hj => by rw [F3.J (by omega)]; exact hw2 j hj
      rw [e3, bs_]
      by_cases p2 : pAny c (pWords v s e) 2 = true
      · rw [if_pos p2]
        dsimp only
        rw [if_pos p2, if_neg (by decide)]
        exact ⟨s3, rfl, (F1.tr F2.lx).tr F3.lx⟩
      · rw [if_neg p2]
        dsimp only
        rw [if_neg p2, if_pos rfl, dr_of S3.2.2.1, bs_, S3.1, dr_of S3.2.1.1, bs_, chk_t (isk_t l3.1), S3.2.1.2.2.1]
        obtain ⟨s4, e4, F4⟩ := h_first (k := 0) (x := 262) (sp := v 2) W3 l3 R3 O hw3 (by omega) rfl
        have W4 := F4.Wf W3
        have l4 := l3.fr F4
        have R4 := Ru_lx W3 l3 R3 F4.lx
        have hw4 : ∀ j, j < 9 → gJ s4 (h + 1) j = pWords v s e j := fun j hj => by rw [F4.J (by omega)]; exact hw3 j hj
        obtain ⟨s5, e5, F5⟩ := h_first (k := 1) (x := 263) (sp := v 2) W4 l4 R4 O hw4 (by omega) rfl
        rw [e4, bs_, chk_t (isk_t l4.1), e5, bs_]
        exact ⟨s5, rfl, (((F1.tr F2.lx).tr F3.lx).tr F4.lx).tr F5.lx⟩
