/-! reading a RULE: the reference's TEST, as what is left to do -/
noncomputable def Krs (ms : MSt) : Option ((MSt × Int32) ⊕ ((Int32 × MSt) ⊕ (Int32 × MSt))) := (fm_isWord (6385252 : Int64) ms).bind fun x17 => (if x17.2 = 0 then (fm_isWord (28530 : Int64) x17.1).bind fun x31 => (if x31.2 = 0 then fm_tested_j54 (0 : Int32) x31.1 else fm_tested_j49 x31.1) else fm_tested_j49 x17.1)
noncomputable def Kend (r : Option ((MSt × Int32) ⊕ (Int32 × MSt))) : Option (MSt × Int32) := r.bind (Sum.elim (fun o : MSt × Int32 => (some o : Option (MSt × Int32))) (fun x : (Int32 × MSt) => fm_tested_j112 x.2))
noncomputable def Kr (F : Nat) (ms : MSt) : Option (MSt × Int32) := Kend ((Krs ms).bind (Sum.elim (fun o => some (.inl o)) (Sum.elim (fun y => iter (fun x : (Int32 × MSt) => fm_tested_s12 x.1 x.2) F y) (fun y => some (.inr y)))))
noncomputable def Kc (G F : Nat) (ms : MSt) : Option (MSt × Int32) := (iter (fun x : MSt => fm_closes_s5 x) G ms).bind (Sum.elim (fun o => Kr F o) (fun x => Kr F x))
noncomputable def Kcl (F : Nat) (ms : MSt) : Option (MSt × Int32) := (fm_settles (3 : Int32) ms).bind fun m => Kc mFuel F m
noncomputable def Kf2 (F : Nat) (x : MSt × Int32) : Option (MSt × Int32) := if x.2 = 0 then some (x.1, (0 : Int32)) else Kcl F x.1
noncomputable def Kf (G F : Nat) (ms : MSt) : Option (MSt × Int32) := (iter (fun x : (Int32 × MSt) => fm_fact_s2 x.1 x.2) G ((1 : Int32), ms)).bind (Sum.elim (fun o => Kf2 F o) (fun x => (fm_fact_j75 x.2).bind (Kf2 F)))
theorem K_it {F : Nat} {m : MSt} : Kend (iter (fun x : (Int32 × MSt) => fm_tested_s12 x.1 x.2) (F + 1) ((1 : Int32), m)) = Kf mFuel F m := by
  have cl : ∀ m : MSt, Kend (((fm_closes m).bind fun x15 => Krs x15).bind (Sum.elim (fun o => some (.inl o)) (Sum.elim (fun y => iter (fun x : (Int32 × MSt) => fm_tested_s12 x.1 x.2) F y) (fun y => some (.inr y))))) = Kcl F m := by
    intro m
    unfold fm_closes Kcl
    cases fm_settles (3 : Int32) m with
    | none => rfl
    | some a =>
      show Kend ((((iter (fun x : MSt => fm_closes_s5 x) mFuel a).bind _).bind _).bind _) = Kc mFuel F a
      unfold Kc
      cases iter (fun x : MSt => fm_closes_s5 x) mFuel a with
      | none => rfl
      | some b => cases b with
        | inl o => rfl
        | inr o => rfl
  have k2 : ∀ x : MSt × Int32, Kend ((if x.2 = 0 then some (.inl (x.1, (0 : Int32))) else (fm_closes x.1).bind fun x15 => Krs x15).bind (Sum.elim (fun o => some (.inl o)) (Sum.elim (fun y => iter (fun x : (Int32 × MSt) => fm_tested_s12 x.1 x.2) F y) (fun y => some (.inr y))))) = Kf2 F x := by
    intro x
    unfold Kf2
    by_cases z : x.2 = 0
    · rw [if_pos z, if_pos z]; rfl
    · rw [if_neg z, if_neg z]; exact cl x.1
  rw [iter]
  show Kend ((fm_tested_s12 1 m).bind _) = _
  have e : fm_tested_s12 1 m = (fm_fact m).bind fun x12 => (if x12.2 = 0 then some (.inl (x12.1, (0 : Int32))) else (fm_closes x12.1).bind fun x15 => Krs x15) := by
    unfold fm_tested_s12
    rw [if_neg (show ¬ (1 : Int32) = 0 by decide)]
    rfl
  rw [e]
  unfold fm_fact Kf
  cases iter (fun x : (Int32 × MSt) => fm_fact_s2 x.1 x.2) mFuel ((1 : Int32), m) with
  | none => rfl
  | some b => cases b with
    | inl o => exact k2 o
    | inr o =>
      show Kend (((fm_fact_j75 o.2).bind _).bind _) = (fm_fact_j75 o.2).bind (Kf2 F)
      cases fm_fact_j75 o.2 with
      | none => rfl
      | some c => exact k2 c
/-- both in a TEST: the class has put P, which the reference holds on its stack ahead of S -/
def RT (st : HSt) (ms : MSt) (H n M i p k : Nat) (cd : Nat → Nat × Nat) (sz it : Nat) (P S : List Nat) (dp : Nat) : Prop := Jt2 st ms H n M i p ∧ RdE st H ∧ CdH st H cd sz ∧ (∃ s, sz = s + P.length ∧ CdM ms k cd s ∧ stC cd s P) ∧ (gI st 706 (H + 5) = nI it ∧ ms.1 18 = nI it ∧ it ≤ 60) ∧ (ms.1 17 = nI k ∧ k < 6) ∧ B8 (ms.2.1 0) n ∧ StR ms (P ++ S) ∧ ms.1 19 = nI (dp + c11 P) ∧ sz + S.length ≤ i ∧ ∀ x, x ∈ P ++ S → 11 ≤ x ∧ x < 1000
section RTS
variable {st : HSt} {ms : MSt} {H n M i p k sz it dp : Nat} {cd : Nat → Nat × Nat} {P S : List Nat}
theorem RT.rj (R : RT st ms H n M i p k cd sz it [] S dp) : RJ st ms H n M i p k cd sz it := by
  obtain ⟨J, E, C, ⟨s, s1, s2, s3⟩, I, K, B, -⟩ := R
  have : sz = s := s1
  subst this
  exact ⟨J, E, C, s2, I, K, B⟩
theorem RJ.rt {st2 : HSt} {ms2 : MSt} {i2 q2 sz2 it2 : Nat} {cd2 : Nat → Nat × Nat} (J : RJ st2 ms2 H n M i2 q2 k cd2 sz2 it2) (T : StR ms2 S) (d : ms2.1 19 = nI dp) (c : sz2 + S.length ≤ i2) (b : ∀ x, x ∈ S → 11 ≤ x ∧ x < 1000) : RT st2 ms2 H n M i2 q2 k cd2 sz2 it2 [] S dp := by
  obtain ⟨J, E, C1, C2, I, K, B⟩ := J
  exact ⟨J, E, C1, ⟨sz2, rfl, C2, True.intro⟩, I, K, B, T, d, c, b⟩
theorem RT.t0 (R : RT st ms H n M i p k cd sz it P S dp) : i ≤ M ∧ M ≤ 400 := ⟨R.1.1.2.2.1, R.1.1.2.1⟩
theorem RT.kind (R : RT st ms H n M i p k cd sz it P S dp) : fh_X10_kind H st = some (st, gA st (H + 1) i) := by rw [h_kind R.1.1, if_pos rfl]
theorem RT.k8 (R : RT st ms H n M i p k cd sz it P S dp) : gK st (H + 5) = 8 := R.2.1.1
theorem RT.r7 (R : RT st ms H n M i p k cd sz it P S dp) : gR st 700 (H + 5) = some H := R.2.1.2.1
theorem RT.k11 (R : RT st ms H n M i p k cd sz it P S dp) : gK st H = 11 := R.1.1.1.1
theorem RT.seen (R : RT st ms H n M i p k cd sz it P S dp) : RT st (msi ms 14 (nI (ps (ms.2.1 0) n i))) H n M i (ps (ms.2.1 0) n i) k cd sz it P S dp := by
  obtain ⟨J, E, C, s, ⟨i1, i2, i3⟩, ⟨k1, k2⟩, B, ⟨T1, T2⟩, d, r⟩ := R
  exact ⟨J.seen, E, C, s, ⟨i1, by rw [msi_n (by omega)]; exact i2, i3⟩, ⟨by rw [msi_n (by omega)]; exact k1, k2⟩, B, ⟨by rw [msi_n (by omega)]; exact T1, T2⟩, by rw [msi_n (by omega)]; exact d, r⟩
theorem RT.settle {L : Nat} (R : RT st ms H n M i p k cd sz it P S dp) (hL : L ≤ 3) (hP : ∀ x, x ∈ P → L ≤ sgS x) (hS : S = [] ∨ ∃ x S', S = x :: S' ∧ sgS x < L) : ∃ ms2, fm_settles (nI L) ms = some ms2 ∧ MT k ms ms2 ∧ RT st ms2 H n M i p k cd sz it [] S dp := by
  obtain ⟨hiM, hM⟩ := R.t0
  obtain ⟨J, E, C, ⟨s, s1, s2, s3⟩, ⟨i1, i2, i3⟩, ⟨k1, k2⟩, B, T, d, c, b⟩ := R
  have hS' : S = [] ∨ ∃ x S', S = x :: S' ∧ sgS x < L ∧ x < 1000 := by
    rcases hS with z | ⟨x, S', z, z2⟩
    · exact Or.inl z
    · exact Or.inr ⟨x, S', z, z2, (b x (by rw [z]; exact List.mem_append_right _ (List.mem_cons_self ..))).2⟩
  obtain ⟨ms2, e, T2, C2, d2, M2, R2⟩ := m_settle (k := k) (L := L) (cd := cd) hS' hL P ms s dp mFuel T (fun x hx => ⟨hP x hx, b x (List.mem_append_left _ hx)⟩) s2 s3 k1 k2 (by omega) d (by rw [mFuel_eq]; omega)
  refine ⟨ms2, ?_, ⟨M2.mo mSt_u, R2⟩, J.frm M2 rfl rfl rfl rfl, E, C, ⟨sz, rfl, by rw [s1]; exact C2, True.intro⟩, ⟨i1, by rw [M2.I 18 rfl]; exact i2, i3⟩, ⟨by rw [M2.I 17 rfl]; exact k1, k2⟩, by rw [M2.A 0 rfl]; exact B, T2, d2, c, fun x hx => b x (List.mem_append_right _ hx)⟩
  unfold fm_settles
  rw [e]; rfl
/-- a sign is laid on the stack -/
def pushM (ms : MSt) (l : Nat) (x : Int32) : MSt := msi (msa ms 21 l x) 22 (nI (l + 1))
theorem RT.push {x : Nat} {d2 : Nat} (R : RT st ms H n M i p k cd sz it [] S dp) (hx : 11 ≤ x ∧ x < 1000) (hc : sz + S.length + 1 ≤ i) : RT st (msi (pushM ms S.length (nI x)) 19 (nI d2)) H n M i p k cd sz it [] (x :: S) d2 := by
  obtain ⟨J, E, C, ⟨s, s1, s2, s3⟩, ⟨i1, i2, i3⟩, ⟨k1, k2⟩, B, ⟨T1, T2⟩, d, c, b⟩ := R
  have G : MF (fun q => q == 19 || q == 21 || q == 22) ms (msi (pushM ms S.length (nI x)) 19 (nI d2)) := ((MF.msa rfl).tr (MF.msi rfl)).tr (MF.msi rfl)
  refine ⟨J.frm G rfl rfl rfl rfl, E, C, ⟨s, s1, s2.fr G rfl rfl, s3⟩, ⟨i1, by rw [G.I 18 rfl]; exact i2, i3⟩, ⟨by rw [G.I 17 rfl]; exact k1, k2⟩, by rw [G.A 0 rfl]; exact B, ⟨?_, ?_, ?_⟩, msi_s _ _ _, ?_, fun y hy => ?_⟩
  · show (msi (msi (msa ms 21 S.length (nI x)) 22 (nI (S.length + 1))) 19 (nI d2)).1 22 = _
    rw [msi_n (by omega), msi_s]; rfl
  · show (msa ms 21 S.length (nI x)).2.1 21 S.length = _
    rw [msa_s, pk_us]
  · show stI ((msa ms 21 S.length (nI x)).2.1 21) S
    rw [msa_s]; exact stI_up T2 (Nat.le_refl _)
  · show sz + (S.length + 1) ≤ i; omega
  · rcases List.mem_cons.mp hy with z | z
    · rw [z]; exact hx
    · exact b y z
theorem push_T {l d2 : Nat} {x : Int32} : MT k ms (msi (pushM ms l x) 19 (nI d2)) := ⟨((MF.msa rfl).tr (MF.msi rfl)).tr (MF.msi rfl), fun y _ => by
  show (msa ms 21 l x).2.1 3 y = _
  rw [msa_n (by omega)]⟩
theorem m_opens {x q : Nat} (T : StR ms S) (hl : S.length < 400) (h19 : ms.1 19 = nI dp) (hd : dp ≤ 10) (h14 : ms.1 14 = nI q) (h15 : ms.1 15 = 0) : fm_opens (nI x) ms = some (if dp = 10 then (msi ms 15 (nI (1 + 8 * q + 2)), 0) else (msi (pushM ms S.length (nI x)) 19 (nI (dp + 1)), 1)) := by
  unfold fm_opens
  rw [h19]
  by_cases z : dp = 10
  · rw [if_pos (show nI dp = (10 : Int32) by rw [z]; rfl), if_pos z, h14, show fm_fails (2 : Int32) (nI q) ms = some (msi ms 15 (nI (1 + 8 * q + 2)), 0) from m_fails (a := 2) h15, bs_]
    exact chk_t (show isb (0 : Int32) = true by decide)
  · rw [if_neg (show ¬ nI dp = (10 : Int32) from fun y => z ((nI_eq (b := 10) (by omega) (by omega)).mp y)), if_neg z, nI_1, show (msi ms 19 (nI (dp + 1))).1 22 = nI S.length by rw [msi_n (by omega)]; exact T.1, chk_t (inb_n hl (by omega)), nI_clamp (by omega), msa_I, show (msi ms 19 (nI (dp + 1))).1 22 = nI S.length by rw [msi_n (by omega)]; exact T.1, nI_1]
    have : msi (msa (msi ms 19 (nI (dp + 1))) 21 S.length (nI x)) 22 (nI (S.length + 1)) = msi (pushM ms S.length (nI x)) 19 (nI (dp + 1)) := by
      show (upd (upd ms.1 19 _) 22 _, _) = (upd (upd ms.1 22 _) 19 _, _)
      have e : upd (upd ms.1 19 (nI (dp + 1))) 22 (nI (S.length + 1)) = upd (upd ms.1 22 (nI (S.length + 1))) 19 (nI (dp + 1)) := by
        funext j
        by_cases a : j = 22
        · rw [a, pk_us, pk_un (by omega), pk_us]
        · by_cases b : j = 19
          · rw [b, pk_un (by omega), pk_us, pk_us]
          · rw [pk_un a, pk_un b, pk_un b, pk_un a]
      rw [e]; rfl
    rw [this]
end RTS
