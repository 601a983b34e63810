/-! reading a RULE: all clauses, both sides -/
theorem chk_bd {α β : Type} {b : Bool} {E : Option α} {f : α → Option β} : (chk b E).bind f = chk b (E.bind f) := by
  unfold chk
  cases b
  · rfl
  · rfl
theorem ClR.step {st s1 : HSt} {ms m1 : MSt} {H k c sz sz2 : Nat} {cd cd2 : Nat → Nat × Nat} {cl : Nat → Nat × Nat × Nat × Nat} {q : Nat × Nat × Nat × Nat} (C : ClR st ms H k cd sz c cl) (hz : sz ≤ sz2) (ag : ∀ j, j < sz → cd2 j = cd j) (O : ClO cd2 q sz2) (q1 : q.2.1 = sz) (q2 : q.2.2.2 = sz2) (g6 : gA s1 (H + 6) = upd (gA st (H + 6)) c (nI (262 + q.1))) (g7 : gA s1 (H + 7) = upd (upd (gA st (H + 7)) c (nI sz)) (c + 1) (nI sz2)) (g8 : gA s1 (H + 8) = upd (gA st (H + 8)) c (nI q.2.2.1)) (M : ClM m1 k c q) (a5 : ∀ x, x < 60 * k + 5 * c → m1.2.1 5 x = ms.2.1 5 x) (a6 : m1.2.1 6 k = nI (c + 1)) : ClR s1 m1 H k cd2 sz2 (c + 1) (fun j => if j = c then q else cl j) := by
  obtain ⟨C1, C2, C3⟩ := C
  refine ⟨a6, fun j hj => ?_, fun _ => ?_⟩
  · show ClO cd2 (if j = c then q else cl j) sz2 ∧ ClH s1 H j (if j = c then q else cl j) ∧ ClM m1 k j (if j = c then q else cl j)
    by_cases z : j = c
    · rw [if_pos z, z]
      refine ⟨O, ⟨by rw [g6, pk_us], by rw [g7, pk_un (by omega), pk_us, q1], by rw [g8, pk_us], by rw [g7, pk_us, q2]⟩, M⟩
    · rw [if_neg z]
      obtain ⟨d1, ⟨h1, h2, h3, h4⟩, ⟨m1', m2, m3, m4⟩⟩ := C2 j (by omega)
      refine ⟨d1.cg ag hz, ⟨by rw [g6, pk_un z]; exact h1, by rw [g7, pk_un (by omega), pk_un z]; exact h2, by rw [g8, pk_un z]; exact h3, ?_⟩, by rw [a5 _ (by omega)]; exact m1', fun y => ⟨by rw [a5 _ (by omega)]; exact (m2 y).1, by rw [a5 _ (by omega)]; exact (m2 y).2⟩, by rw [a5 _ (by omega)]; exact m3, by rw [a5 _ (by omega)]; exact m4⟩
      rw [g7, pk_un (by omega)]
      by_cases y : j + 1 = c
      · rw [y, pk_us, ← C3 (by omega), show c - 1 = j by omega]
      · rw [pk_un y]; exact h4
  · show (if c + 1 - 1 = c then q else cl (c + 1 - 1)).2.2.2 = sz2
    rw [if_pos (by omega)]; exact q2
theorem ClR.fr {X : Nat → Prop} {Y : Nat → Bool} {st s1 : HSt} {ms m1 : MSt} {H k c sz : Nat} {cd : Nat → Nat × Nat} {cl : Nat → Nat × Nat × Nat × Nat} (C : ClR st ms H k cd sz c cl) (F : Fr X st s1) (hX : ∀ j, 6 ≤ j → j ≤ 8 → ¬ X (H + j)) (G : MF Y ms m1) (y5 : Y 5 = false) (y6 : Y 6 = false) : ClR s1 m1 H k cd sz c cl := by
  unfold ClR ClH ClM at *
  rw [F.A (hX 6 (by omega) (by omega)), F.A (hX 7 (by omega) (by omega)), F.A (hX 8 (by omega) (by omega)), G.A 5 y5, G.A 6 y6]
  exact C
/-- what the class's loop comes to -/
def UO (H n M k : Nat) (st : HSt) (ms : MSt) (r : Option ((HSt × Option Nat) ⊕ (Int32 × HSt))) (e : Option (MSt × Int32)) : Prop := ∃ ms2 rr, e = some (ms2, rr) ∧ ME k ms ms2 ∧ ms2.1 1 = 0 ∧
    ((rr = 1 ∧ ∃ s2 c cd sz cl, c < 12 ∧ r = (allocR H (nI c) s2).bind (fun x => some (.inl (x, some (gN s2)))) ∧ Fr (RdZ H) st s2 ∧ RdE s2 H ∧ CdH s2 H cd sz ∧ CdM ms2 k cd sz ∧ sz ≤ 400 ∧ ClR s2 ms2 H k cd sz (c + 1) cl) ∨
     (rr = 0 ∧ ∃ s2, r = some (.inl (s2, none)) ∧ Fr (RdZ H) st s2 ∧ gI s2 1005 H = ms2.1 15))
theorem u_loop {H n M k : Nat} : ∀ (d c : Nat), c + d = 12 → ∀ (st : HSt) (ms : MSt) (F G i p sz it : Nat) (cd : Nat → Nat × Nat) (cl : Nat → Nat × Nat × Nat × Nat), RJ st ms H n M i p k cd sz it → sz ≤ i → ClR st ms H k cd sz c cl → ms.1 20 = nI c → d < F → d < G → UO H n M k st ms (iter (fun x : (Int32 × HSt) => fh_X7_read_s12 (H + 5) x.1 x.2) F (nI c, st)) (rRest G ms) := by
  intro d
  induction d with
  | zero =>
    intro c hcd st ms F G i p sz it cd cl J hz C h20 hF hG
    obtain ⟨F, rfl⟩ : ∃ F', F = F' + 1 := ⟨F - 1, by omega⟩
    obtain ⟨G, rfl⟩ : ∃ G', G = G' + 1 := ⟨G - 1, by omega⟩
    obtain ⟨s1, m1, rr, a1, a2, F1, G1, c1⟩ := j_uclause J hz (by omega) h20 C.1
    rcases c1 with ⟨-, z, -⟩ | ⟨x1, f, D1, f1⟩
    · omega
    · subst x1
      obtain ⟨s2, e2, F2, D2⟩ := d_fail (a := 0) D1
      have e2' : fh_X10_fail H (0 : Int32) s1 = some s2 := e2
      have g12 : ¬ (12 : Int32) < nI c := nI_nlt (b := c) (a := 12) (by omega) (by omega)
      have stp : fh_X7_read_s12 (H + 5) (nI c) st = some (.inl (s2, none)) := by
        unfold fh_X7_read_s12
        rw [if_neg g12, chk_t (isk_t J.k8), a1, bs_, chk_t (isk_t D1.k8), D1.r7, dr_of D1.k11, bs_, d_kind D1, bs_]
        dsimp only
        rw [if_neg (show ¬ (1 : Int32) = 0 by decide), chk_t (isk_t D1.k8), D1.r7, dr_of D1.k11, bs_, d_kind D1, bs_]
        dsimp only
        rw [if_neg (show ¬ (1 : Int32) = 59 by decide), chk_t (isk_t D1.k8), D1.r7, dr_of D1.k11, bs_, e2', bs_]
      have hf : f ≠ 0 := D1.2.1
      refine ⟨_, _, rr_dead a2 (by rw [f1]; exact hf), G1.tr (ME.i rfl), msi_s _ _ _, Or.inr ⟨rfl, s2, it_o (s1 := fun x : (Int32 × HSt) => fh_X7_read_s12 (H + 5) x.1 x.2) (x := (nI c, st)) stp, F1.tr (RdX_Z F2), ?_⟩⟩
      rw [msi_n (by omega), f1]
      obtain ⟨-, -, ⟨j, T⟩, -⟩ := D2
      exact T.2.2.2.2.1.2.2
  | succ d ih =>
    intro c hcd st ms F G i p sz it cd cl J hz C h20 hF hG
    obtain ⟨F, rfl⟩ : ∃ F', F = F' + 1 := ⟨F - 1, by omega⟩
    obtain ⟨G, rfl⟩ : ∃ G', G = G' + 1 := ⟨G - 1, by omega⟩
    obtain ⟨s1, m1, rr, a1, a2, F1, G1, c1⟩ := j_uclause J hz (by omega) h20 C.1
    have g12 : ¬ (12 : Int32) < nI c := nI_nlt (b := c) (a := 12) (by omega) (by omega)
    rcases c1 with ⟨x1, hc2, h21, i1, q1, cd1, sz1, it1, q, J1, p1, p2, p3, p4, p6, p7, p8, p9, p10, p11, p12, p13⟩ | ⟨x1, f, D1, f1⟩
    · subst x1
      have C1 := C.step p2 p3 p4 p6 p7 p8 p9 p10 p11 p12 p13
      have B1 := J1.2.2.2.2.2.2
      obtain ⟨hiM, hM⟩ := J1.t0
      have Js := J1.seen
      have head : fh_X7_read_s12 (H + 5) (nI c) st = (if gA s1 (H + 1) i1 = 0 then (allocR H (nI c) s1).bind (fun x51 => some (.inl (x51, (some (gN s1))))) else (if gA s1 (H + 1) i1 = (59 : Int32) then (fh_X10_next H s1).bind fun x27 => some (.inr (.inl (nI (c + 1), x27))) else (fh_X10_fail H (0 : Int32) s1).bind fun x34 => some (.inl (x34, (none : Option Nat))))) := by
        unfold fh_X7_read_s12
        rw [if_neg g12, chk_t (isk_t J.k8), a1, bs_, chk_t (isk_t J1.k8), J1.r7, dr_of J1.k11, bs_, J1.kind, bs_]
        dsimp only
        by_cases z : gA s1 (H + 1) i1 = 0
        · rw [if_pos z, if_pos z]
          unfold allocR
          rw [bs_, bs_]
          simp only [chk_bd, Option.bind_assoc]
        · rw [if_neg z, if_neg z, chk_t (isk_t J1.k8), J1.r7, dr_of J1.k11, bs_, J1.kind, bs_]
          dsimp only
          rw [chk_t (isk_t J1.k8), J1.r7, dr_of J1.k11, bs_, nI_1, chk_t (isk_t J1.k8), bs_]
      by_cases z0 : gA s1 (H + 1) i1 = 0
      · rw [if_pos z0] at head
        refine ⟨_, _, rr_end a2 J1.1 B1 z0, (G1.tr (ME.i rfl)).tr (ME.i rfl), msi_s _ _ _, Or.inl ⟨rfl, s1, c, cd1, sz1, _, hc2, ?_, F1, J1.2.1, J1.2.2.1, J1.2.2.2.1, by omega, C1.fr (X := fun _ => False) (Y := fun q => q == 14 || q == 1) Fr.rf (fun _ _ _ z => z) ((MF.msi rfl).tr (MF.msi rfl)) rfl rfl⟩⟩
        rw [iter]
        show (fh_X7_read_s12 (H + 5) (nI c) st).bind _ = _
        rw [head]
        cases allocR H (nI c) s1 with
        | none => rfl
        | some x => rfl
      rw [if_neg z0] at head
      by_cases z9 : gA s1 (H + 1) i1 = 59
      · obtain ⟨s2, e2, F2, hi, -, -, J2⟩ := Js.passS (c0 := 59) (by decide) z9
        change RJ s2 (msi (msi m1 14 (nI (ps (m1.2.1 0) n i1))) 14 (nI (ps (m1.2.1 0) n i1 + 1))) H n M (i1 + 1) (ps (m1.2.1 0) n i1 + 1) k cd1 sz1 it1 at J2
        rw [msi_msi] at J2
        rw [if_pos z9, e2, bs_] at head
        have Gk : MF (fun q => q == 14) m1 (msi m1 14 (nI (ps (m1.2.1 0) n i1 + 1))) := MF.msi rfl
        obtain ⟨ms2, rr2, e3, M3, o1, c3⟩ := ih (c + 1) (by omega) s2 _ F G _ _ sz1 it1 cd1 _ J2 (by omega) (C1.fr F2 (fun j h1 h2 => by omega) Gk rfl rfl) (by rw [Gk.I 20 rfl]; exact h21) (by omega) (by omega)
        have FF : Fr (RdZ H) st s2 := F1.tr (F2.mo (fun b hb => Or.inl hb))
        refine ⟨ms2, rr2, by rw [rr_next a2 J1.1 B1 z9]; exact e3, (G1.tr (ME.i rfl)).tr M3, o1, ?_⟩
        rw [iter_c (s1 := fun x : (Int32 × HSt) => fh_X7_read_s12 (H + 5) x.1 x.2) (x := (nI c, st)) (y := (nI (c + 1), s2)) head]
        rcases c3 with ⟨y1, s3, c', cd', sz', cl', b1, b2, b3, b4⟩ | ⟨y1, s3, b2, b3, b4⟩
        · exact Or.inl ⟨y1, s3, c', cd', sz', cl', b1, b2, FF.tr b3, b4⟩
        · exact Or.inr ⟨y1, s3, b2, FF.tr b3, b4⟩
      rw [if_neg z9] at head
      obtain ⟨s2, e2, F2, D2⟩ := J1.dead (a := 0) (by omega) (by omega)
      have e2' : fh_X10_fail H (0 : Int32) s1 = some s2 := e2
      rw [e2', bs_] at head
      refine ⟨_, _, rr_bad a2 J1.1 B1 z0 z9, ((G1.tr (ME.i rfl)).tr (ME.i rfl)).tr (ME.i rfl), msi_s _ _ _, Or.inr ⟨rfl, s2, it_o (s1 := fun x : (Int32 × HSt) => fh_X7_read_s12 (H + 5) x.1 x.2) (x := (nI c, st)) head, F1.tr (RdX_Z F2), ?_⟩⟩
      rw [msi_n (by omega), msi_s]
      obtain ⟨-, -, ⟨j, T⟩, -⟩ := D2
      exact T.2.2.2.2.1.2.2
    · subst x1
      obtain ⟨s2, e2, F2, D2⟩ := d_fail (a := 0) D1
      have e2' : fh_X10_fail H (0 : Int32) s1 = some s2 := e2
      have stp : fh_X7_read_s12 (H + 5) (nI c) st = some (.inl (s2, none)) := by
        unfold fh_X7_read_s12
        rw [if_neg g12, chk_t (isk_t J.k8), a1, bs_, chk_t (isk_t D1.k8), D1.r7, dr_of D1.k11, bs_, d_kind D1, bs_]
        dsimp only
        rw [if_neg (show ¬ (1 : Int32) = 0 by decide), chk_t (isk_t D1.k8), D1.r7, dr_of D1.k11, bs_, d_kind D1, bs_]
        dsimp only
        rw [if_neg (show ¬ (1 : Int32) = 59 by decide), chk_t (isk_t D1.k8), D1.r7, dr_of D1.k11, bs_, e2', bs_]
      have hf : f ≠ 0 := D1.2.1
      refine ⟨_, _, rr_dead a2 (by rw [f1]; exact hf), G1.tr (ME.i rfl), msi_s _ _ _, Or.inr ⟨rfl, s2, it_o (s1 := fun x : (Int32 × HSt) => fh_X7_read_s12 (H + 5) x.1 x.2) (x := (nI c, st)) stp, F1.tr (RdX_Z F2), ?_⟩⟩
      rw [msi_n (by omega), f1]
      obtain ⟨-, -, ⟨j, T⟩, -⟩ := D2
      exact T.2.2.2.2.1.2.2
