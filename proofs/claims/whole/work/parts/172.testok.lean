/-! reading a RULE: a TEST, both sides -/
theorem j_andL {rec : Nat → Int32 → HSt → Option HSt} {H n M k d b itb : Nat} {t : Nat → Int32} {S1 : List Nat} {v2 : Int32} (FO : FactOk rec H n M k d t) (hd : d ≤ 10) (hS1 : S1 = [] ∨ ∃ y S', S1 = y :: S' ∧ sgS y < 2) : ∀ (δ : Nat) (st : HSt) (ms : MSt) (i p : Nat) (cd : Nat → Nat × Nat) (sz it : Nat) (P : List Nat) (v3 N G F : Nat), M - i = δ → RT st ms H n M i p k cd sz it P S1 d → ms.2.1 0 = t → (∀ y, y ∈ P → y = 12) → v3 < i → itb < it → Sg cd b sz true (it - itb) → δ + 1 < N → M - i + 2 < G → M - i + 2 < F →
    ∃ st2 w, iter (fun x : (Int32 × HSt) => fh_X7_readTest_s16 rec (H + 5) (nI d) v2 x.1 x.2) N (nI v3, st) = some (.inr (w, st2)) ∧ Fr (RdX H) st st2 ∧
      ((∃ ms2 i2 q2 cd2 sz2 it2 P2 G2 F2, Kc G F ms = Kc G2 F2 ms2 ∧ MT k ms ms2 ∧ RT st2 ms2 H n M i2 q2 k cd2 sz2 it2 P2 S1 d ∧ (∀ y, y ∈ P2 → y = 12) ∧ gA st2 (H + 1) i2 ≠ 268 ∧ M - i2 + 2 < G2 ∧ M - i2 + 2 < F2 ∧ i ≤ i2 ∧ it ≤ it2 ∧ (∀ j, j < sz → cd2 j = cd j) ∧ sz ≤ sz2 ∧ Sg cd2 b sz2 true (it2 - itb)) ∨
       (∃ ms2 f, Kc G F ms = some (ms2, 0) ∧ MT k ms ms2 ∧ Dd st2 H t n M f ∧ ms2.1 15 = f)) := by
  intro δ
  induction δ using Nat.strongRecOn with
  | _ δ ih =>
    intro st ms i p cd sz it P v3 N G F hδ R ht hP hv hit Sg0 hN hG hF
    obtain ⟨N, rfl⟩ : ∃ N', N = N' + 1 := ⟨N - 1, by omega⟩
    obtain ⟨hiM, hM⟩ := R.t0
    have c400 : ¬ (400 : Int32) ≤ nI v3 := nI_ge (b := 400) (by omega) (by omega)
    by_cases z : gA st (H + 1) i = 268
    · obtain ⟨G, rfl⟩ : ∃ G', G = G' + 1 := ⟨G - 1, by omega⟩
      obtain ⟨F, rfl⟩ : ∃ F', F = F' + 1 := ⟨F - 1, by omega⟩
      have K1 := R.stop_ (Or.inl (by rw [z]; decide)) G (F + 1)
      have Rs := R.seen
      obtain ⟨s1, m1, q1, e1, F1, K2, M1, hi, R1⟩ := Rs.and_ (x := 12) (c := 268) z (Or.inl ⟨rfl, rfl, hP, hS1⟩)
      have t1 : m1.2.1 0 = t := by rw [M1.1.A 0 rfl]; exact ht
      obtain ⟨s2, e2, F2, c2⟩ := FO s1 m1 (i + 1) q1 cd sz it (12 :: S1) mFuel F R1 t1 (Or.inr ⟨12, S1, rfl, by decide⟩) (by rw [mFuel_eq]; omega) (by omega)
      have M1' : MT k ms m1 := (MT.i rfl).tr M1
      have stp : fh_X7_readTest_s16 rec (H + 5) (nI d) v2 (nI v3) st = (fh_X7_put (H + 5) (-268 : Int32) s2).bind fun x44 => some (.inr (.inl (nI (v3 + 1), x44))) := by
        unfold fh_X7_readTest_s16
        rw [if_neg c400, chk_t (isk_t R.k8), R.r7, dr_of R.k11, bs_, R.kind, bs_]
        dsimp only
        rw [if_pos z, chk_t (isk_t R.k8), R.r7, dr_of R.k11, bs_, e1, bs_, chk_t (isk_t R1.k8), e2, bs_, chk_t (isk_t ((F2.K _).trans R1.k8)), nI_1]
      have FF := (Frd F1).tr F2
      rcases c2 with ⟨m3, i3, q3, cd3, sz3, it3, G3, F3, K3, M3, R3, g1, g2, o1, o2, o3, o4⟩ | ⟨m3, f, K3, M3, D3, f3⟩
      · have R3' : RT s2 m3 H n M i3 q3 k cd3 sz3 it3 [] (12 :: S1) (d + if 12 = 11 then 1 else 0) := by rw [if_neg (by omega)]; exact R3
        obtain ⟨e4, R4⟩ := R3'.putop
        have e4' : fh_X7_put (H + 5) (-268 : Int32) s2 = some (putS s2 H sz3 (-nI (opH 12))) := e4
        rw [e4', bs_] at stp
        have S4 : Sg (cdu cd3 sz3 (12, 0)) b (sz3 + 1) true (it3 - itb) := by
          have a1 : Sg (cdu cd3 sz3 (12, 0)) b sz true (it - itb) := Sg0.cg (fun j hj => by rw [cdu_n (by have := o4.1; omega)]; exact o3 j hj)
          have a2 : Sg (cdu cd3 sz3 (12, 0)) sz sz3 true (it3 - it) := o4.cg (fun j hj => cdu_n hj)
          have := a1.bin a2 (b := true) (by rw [cdu_s]; exact ty_l (by decide) (by decide))
          rw [show it - itb + (it3 - it) = it3 - itb by omega] at this
          exact this
        have t3 : m3.2.1 0 = t := by rw [M3.1.A 0 rfl]; exact t1
        have hh := o4.1
        obtain ⟨st2, w, f1, f2, f3⟩ := ih (M - i3) (by have := R3.t0; omega) _ m3 i3 q3 _ (sz3 + 1) it3 [12] (v3 + 1) N G3 F3 rfl R4 t3 (fun y hy => by rcases List.mem_singleton.mp hy with z; exact z) (by omega) (by omega) S4 (by omega) (by omega) (by omega)
        refine ⟨st2, w, ?_, (FF.tr (Frp put_F)).tr f2, ?_⟩
        · rw [iter_c (s1 := fun x : (Int32 × HSt) => fh_X7_readTest_s16 rec (H + 5) (nI d) v2 x.1 x.2) (x := (nI v3, st)) (y := (nI (v3 + 1), _)) stp]; exact f1
        · have KK : Kc (G + 1) (F + 1) ms = Kc G3 F3 m3 := by rw [K1, K2, K3]
          rcases f3 with ⟨ms2, i2, q2, cd2, sz2, it2, P2, G2, F2', k1, k2, k3, k4, k5, k6, k7, k8, k9, k10, k11, k12⟩ | ⟨ms2, f, k1, k2, k3, k4⟩
          · exact Or.inl ⟨ms2, i2, q2, cd2, sz2, it2, P2, G2, F2', by rw [KK]; exact k1, (M1'.tr M3).tr k2, k3, k4, k5, k6, k7, by omega, by omega, fun j hj => by rw [k10 j (by omega), cdu_n (by omega)]; exact o3 j hj, by omega, k12⟩
          · exact Or.inr ⟨ms2, f, by rw [KK]; exact k1, (M1'.tr M3).tr k2, k3, k4⟩
      · obtain ⟨s4, e4, F4, D4⟩ := d_put (x := -268) D3
        rw [e4, bs_] at stp
        obtain ⟨N, rfl⟩ : ∃ N', N = N' + 1 := ⟨N - 1, by omega⟩
        refine ⟨s4, nI (v3 + 1), ?_, FF.tr F4, Or.inr ⟨m3, f, by rw [K1, K2, K3], M1'.tr M3, D4, f3⟩⟩
        rw [iter_c (s1 := fun x : (Int32 × HSt) => fh_X7_readTest_s16 rec (H + 5) (nI d) v2 x.1 x.2) (x := (nI v3, st)) (y := (nI (v3 + 1), s4)) stp]
        exact d_s16 D4
    · have stp : fh_X7_readTest_s16 rec (H + 5) (nI d) v2 (nI v3) st = some (.inr (.inr (nI v3, st))) := by
        unfold fh_X7_readTest_s16
        rw [if_neg c400, chk_t (isk_t R.k8), R.r7, dr_of R.k11, bs_, R.kind, bs_]
        dsimp only
        rw [if_neg z]
      exact ⟨st, nI v3, iter_x (s1 := fun x : (Int32 × HSt) => fh_X7_readTest_s16 rec (H + 5) (nI d) v2 x.1 x.2) (x := (nI v3, st)) (y := (nI v3, st)) stp, Fr.rf, Or.inl ⟨ms, i, p, cd, sz, it, P, G, F, rfl, MT.rf, R, hP, z, hG, hF, Nat.le_refl _, Nat.le_refl _, fun _ _ => rfl, Nat.le_refl _, Sg0⟩⟩
theorem j_orL {rec : Nat → Int32 → HSt → Option HSt} {H n M k d a ita : Nat} {t : Nat → Int32} {S : List Nat} (FO : FactOk rec H n M k d t) (hd : d ≤ 10) (hS : S = [] ∨ ∃ S', S = 91 :: S') : ∀ (δ : Nat) (st : HSt) (ms : MSt) (i p : Nat) (cd : Nat → Nat × Nat) (sz it : Nat) (S1 : List Nat) (v2 N G F : Nat), M - i = δ → RT st ms H n M i p k cd sz it [] S1 d → ms.2.1 0 = t → v2 ≤ i → (v2 = 0 ∧ S1 = S ∧ sz = a ∧ it = ita) ∨ (0 < v2 ∧ S1 = 13 :: S ∧ ita < it ∧ Sg cd a sz true (it - ita)) → i < M ∨ v2 < 400 → δ < N → M - i + 2 < G → M - i + 2 < F →
    ∃ st2, iter (fun x : (Int32 × HSt) => fh_X7_readTest_s2 rec (H + 5) (nI d) x.1 x.2) N (nI v2, st) = some (.inl st2) ∧ Fr (RdX H) st st2 ∧
      ((∃ ms2 i2 q2 cd2 sz2 it2 P G2 F2, Kf G F ms = Kc G2 F2 ms2 ∧ MT k ms ms2 ∧ RT st2 ms2 H n M i2 q2 k cd2 sz2 it2 P S d ∧ (∀ y, y ∈ P → y = 12 ∨ y = 13) ∧ gA st2 (H + 1) i2 ≠ 268 ∧ gA st2 (H + 1) i2 ≠ 267 ∧ M - i2 + 2 < G2 ∧ M - i2 + 2 < F2 ∧ i < i2 ∧ it < it2 ∧ (∀ j, j < sz → cd2 j = cd j) ∧ Sg cd2 a sz2 true (it2 - ita)) ∨
       (∃ ms2 f, Kf G F ms = some (ms2, 0) ∧ MT k ms ms2 ∧ Dd st2 H t n M f ∧ ms2.1 15 = f)) := by
  intro δ
  induction δ using Nat.strongRecOn with
  | _ δ ih =>
    intro st ms i p cd sz it S1 v2 N G F hδ R ht hv hcase hv4 hN hG hF
    obtain ⟨N, rfl⟩ : ∃ N', N = N' + 1 := ⟨N - 1, by omega⟩
    obtain ⟨hiM, hM⟩ := R.t0
    have c400 : ¬ (400 : Int32) ≤ nI v2 := nI_ge (b := 400) (by omega) (by omega)
    have hS3 : S1 = [] ∨ ∃ x S', S1 = x :: S' ∧ sgS x < 2 := by
      rcases hcase with ⟨-, z, -⟩ | ⟨-, z, -⟩
      · rw [z]
        rcases hS with y | ⟨S', y⟩
        · exact Or.inl y
        · exact Or.inr ⟨91, S', y, by decide⟩
      · exact Or.inr ⟨13, S, z, by decide⟩
    have hS3' : S1 = [] ∨ ∃ x S', S1 = x :: S' ∧ sgS x < 3 := by
      rcases hS3 with z | ⟨x, S', z, z2⟩
      · exact Or.inl z
      · exact Or.inr ⟨x, S', z, by omega⟩
    obtain ⟨s1, e1, F1, c1⟩ := FO st ms i p cd sz it S1 G F R ht hS3' hG hF
    rcases c1 with ⟨m1, i1, q1, cd1, sz1, it1, G1, F1', K1, M1, R1, g1, g2, o1, o2, o3, o4⟩ | ⟨m1, f, K1, M1, D1, f1⟩
    · have t1 : m1.2.1 0 = t := by rw [M1.1.A 0 rfl]; exact ht
      obtain ⟨s2, w, e2, F2, c2⟩ := j_andL (v2 := nI v2) (b := sz) (itb := it) FO hd hS3 (M - i1) s1 m1 i1 q1 cd1 sz1 it1 [] 0 mFuel G1 F1' rfl R1 t1 (fun y hy => absurd hy (List.not_mem_nil)) (by omega) (by omega) o4 (by rw [mFuel_eq]; omega) g1 g2
      have stp : fh_X7_readTest_s2 rec (H + 5) (nI d) (nI v2) st = fh_X7_readTest_j61 rec (H + 5) (nI d) (nI v2) s2 := by
        unfold fh_X7_readTest_s2
        rw [if_neg c400, chk_t (isk_t R.k8), e1, bs_, show iter (fun x : (Int32 × HSt) => fh_X7_readTest_s16 rec (H + 5) (nI d) (nI v2) x.1 x.2) mFuel ((0 : Int32), s1) = some (.inr (w, s2)) from e2]
        rfl
      have FF := F1.tr F2
      rcases c2 with ⟨m2, i2, q2, cd2, sz2, it2, P2, G2, F2', K2, M2, R2, p1, p2, p3, p4, p5, p6, p7, p8, p9⟩ | ⟨m2, f, K2, M2, D2, f2⟩
      · -- OR is put, if there was one
        have put : ∃ s3 cd3 sz3 P3, fh_X7_readTest_j61 rec (H + 5) (nI d) (nI v2) s2 = fh_X7_readTest_j72 rec (H + 5) (nI d) (nI v2) s3 ∧ Fr (RdX H) s2 s3 ∧ RT s3 m2 H n M i2 q2 k cd3 sz3 it2 P3 S d ∧ (∀ y, y ∈ P3 → y = 12 ∨ y = 13) ∧ gA s3 (H + 1) i2 = gA s2 (H + 1) i2 ∧ (∀ j, j < sz → cd3 j = cd j) ∧ sz ≤ sz3 ∧ Sg cd3 a sz3 true (it2 - ita) := by
          have ag : ∀ j, j < sz → cd2 j = cd j := fun j hj => by rw [p7 j (by have := o4.1; omega)]; exact o3 j hj
          have hsz := o4.1
          rcases hcase with ⟨z0, z1, z2, z3⟩ | ⟨z0, z1, z2, z3⟩
          · subst z1; subst z2; subst z3
            refine ⟨s2, cd2, sz2, P2, ?_, Fr.rf, R2, fun y hy => Or.inl (p1 y hy), rfl, ag, by omega, p9⟩
            unfold fh_X7_readTest_j61
            rw [z0, if_pos (show nI 0 ≤ (0 : Int32) by decide)]
          · subst z1
            have R2' : RT s2 m2 H n M i2 q2 k cd2 sz2 it2 P2 (13 :: S) (d + if 13 = 11 then 1 else 0) := by rw [if_neg (by omega)]; exact R2
            obtain ⟨e3, R3⟩ := R2'.putop
            have e3' : fh_X7_put (H + 5) (-267 : Int32) s2 = some (putS s2 H sz2 (-nI (opH 13))) := e3
            refine ⟨_, _, _, _, ?_, Frp put_F, R3, fun y hy => ?_, by rw [put_F.A (by omega)], fun j hj => by rw [cdu_n (by omega)]; exact ag j hj, by omega, ?_⟩
            · unfold fh_X7_readTest_j61
              rw [if_neg (show ¬ nI v2 ≤ (0 : Int32) from nI_ge (b := v2) (a := 0) (by omega) (by omega)), chk_t (isk_t R2.k8), e3', bs_]
            · rcases List.mem_append.mp hy with y1 | y1
              · exact Or.inl (p1 y y1)
              · exact Or.inr (List.mem_singleton.mp y1)
            · have a1 : Sg (cdu cd2 sz2 (13, 0)) a sz true (it - ita) := z3.cg (fun j hj => by rw [cdu_n (by omega)]; exact ag j hj)
              have a2 : Sg (cdu cd2 sz2 (13, 0)) sz sz2 true (it2 - it) := p9.cg (fun j hj => cdu_n hj)
              have := a1.bin a2 (b := true) (by rw [cdu_s]; exact ty_l (by decide) (by decide))
              rw [show it - ita + (it2 - it) = it2 - ita by omega] at this
              exact this
        obtain ⟨s3, cd3, sz3, P3, e3, F3, R3, hP3, hk3, ag3, hsz3, S3⟩ := put
        have hita : ita ≤ it := by
          rcases hcase with ⟨-, -, -, z⟩ | ⟨-, -, z, -⟩ <;> omega
        have j72 : fh_X7_readTest_j72 rec (H + 5) (nI d) (nI v2) s3 = (if gA s3 (H + 1) i2 = 267 then (fh_X10_next H s3).bind fun x19 => some (.inr (.inl (nI (v2 + 1), x19))) else some (.inl s3)) := by
          unfold fh_X7_readTest_j72
          rw [chk_t (isk_t R3.k8), R3.r7, dr_of R3.k11, bs_, R3.kind, bs_]
          dsimp only
          rw [chk_t (isk_t R3.k8), R3.r7, dr_of R3.k11, bs_, nI_1]
        have stp2 := (stp.trans e3).trans j72
        have MM : MT k ms m2 := M1.tr M2
        have KK : Kf G F ms = Kc G2 F2' m2 := by rw [K1, K2]
        by_cases z : gA s3 (H + 1) i2 = 267
        · rw [if_pos z] at stp2
          obtain ⟨G2, rfl⟩ : ∃ G', G2 = G' + 1 := ⟨G2 - 1, by omega⟩
          obtain ⟨F2', rfl⟩ : ∃ F', F2' = F' + 1 := ⟨F2' - 1, by omega⟩
          have K3 := R3.stop_ (Or.inl (by rw [z]; decide)) G2 (F2' + 1)
          have R3s := R3.seen
          have hS1 : S = [] ∨ ∃ y S', S = y :: S' ∧ sgS y < 1 := by
            rcases hS with y | ⟨S', y⟩
            · exact Or.inl y
            · exact Or.inr ⟨91, S', y, by decide⟩
          obtain ⟨s4, m4, q4, e4, F4, K4, M4, hi4, R4⟩ := R3s.and_ (x := 13) (c := 267) z (Or.inr ⟨rfl, rfl, hP3, hS1⟩)
          rw [e4, bs_] at stp2
          have M4' : MT k m2 m4 := (MT.i rfl).tr M4
          have t4 : m4.2.1 0 = t := by rw [M4'.1.A 0 rfl, MM.1.A 0 rfl]; exact ht
          obtain ⟨st2, f1, f2, f3⟩ := ih (M - (i2 + 1)) (by omega) s4 m4 (i2 + 1) q4 cd3 sz3 it2 (13 :: S) (v2 + 1) N mFuel F2' rfl R4 t4 (by omega) (Or.inr ⟨by omega, rfl, by omega, S3⟩) (by have := R4.t0; omega) (by omega) (by rw [mFuel_eq]; omega) (by omega)
          refine ⟨st2, ?_, ((FF.tr F3).tr (Frd F4)).tr f2, ?_⟩
          · rw [iter_c (s1 := fun x : (Int32 × HSt) => fh_X7_readTest_s2 rec (H + 5) (nI d) x.1 x.2) (x := (nI v2, st)) (y := (nI (v2 + 1), s4)) stp2]; exact f1
          · have K5 : Kf G F ms = Kf mFuel F2' m4 := by rw [KK, K3, K4]
            rcases f3 with ⟨ms2, i5, q5, cd5, sz5, it5, P5, G5, F5, k1, k2, k3, k4, k5, k6, k7, k8, k9, k10, k11, k12⟩ | ⟨ms2, f, k1, k2, k3, k4⟩
            · exact Or.inl ⟨ms2, i5, q5, cd5, sz5, it5, P5, G5, F5, by rw [K5]; exact k1, (MM.tr M4').tr k2, k3, k4, k5, k6, k7, k8, by omega, by omega, fun j hj => by rw [k11 j (by omega)]; exact ag3 j hj, k12⟩
            · exact Or.inr ⟨ms2, f, by rw [K5]; exact k1, (MM.tr M4').tr k2, k3, k4⟩
        · rw [if_neg z] at stp2
          refine ⟨s3, it_o (s1 := fun x : (Int32 × HSt) => fh_X7_readTest_s2 rec (H + 5) (nI d) x.1 x.2) (x := (nI v2, st)) stp2, FF.tr F3, Or.inl ⟨m2, i2, q2, cd3, sz3, it2, P3, G2, F2', KK, MM, R3, hP3, by rw [hk3]; exact p2, z, p3, p4, by omega, by omega, ag3, S3⟩⟩
      · obtain ⟨s3, e3, F3, D3⟩ := d_j61 (rec := rec) (a := nI d) (v := nI v2) D2
        exact ⟨s3, it_o (s1 := fun x : (Int32 × HSt) => fh_X7_readTest_s2 rec (H + 5) (nI d) x.1 x.2) (x := (nI v2, st)) (stp.trans e3), FF.tr F3, Or.inr ⟨m2, f, by rw [K1, K2], M1.tr M2, D3, f2⟩⟩
    · obtain ⟨Nf, hNf⟩ := mFuel_5
      obtain ⟨s3, e3, F3, D3⟩ := d_j61 (rec := rec) (a := nI d) (v := nI v2) D1
      have stp : fh_X7_readTest_s2 rec (H + 5) (nI d) (nI v2) st = some (.inl s3) := by
        unfold fh_X7_readTest_s2
        rw [if_neg c400, chk_t (isk_t R.k8), e1, bs_, hNf, d_s16 D1]
        exact e3
      exact ⟨s3, it_o (s1 := fun x : (Int32 × HSt) => fh_X7_readTest_s2 rec (H + 5) (nI d) x.1 x.2) (x := (nI v2, st)) stp, F1.tr F3, Or.inr ⟨m1, f, K1, M1, D3, f1⟩⟩
theorem test_ok {H n M k : Nat} {t : Nat → Int32} : ∀ f d, d ≤ 10 → 11 ≤ f + d → TestOk (fh_X7_readTest f) H n M k d t := by
  intro f
  induction f with
  | zero => intro d h1 h2; omega
  | succ f ih =>
    intro d h1 h2 st ms i p cd sz it S G F R ht hS hG hF
    obtain ⟨hiM, hM⟩ := R.t0
    have FO : FactOk (fh_X7_readTest f) H n M k d t := fact_ok h1 (fun d' h3 h4 => ih d' h4 (by omega))
    obtain ⟨st2, e1, F1, c1⟩ := j_orL (a := sz) (ita := it) FO h1 hS (M - i) st ms i p cd sz it S 0 mFuel G F rfl R ht (Nat.zero_le _) (Or.inl ⟨rfl, rfl, rfl, rfl⟩) (Or.inr (by omega)) (by rw [mFuel_eq]; omega) hG hF
    refine ⟨st2, ?_, F1, c1⟩
    show fh_X7_readTestF (fh_X7_readTest f) (H + 5) (nI d) st = _
    unfold fh_X7_readTestF
    rw [show iter (fun x : (Int32 × HSt) => fh_X7_readTest_s2 (fh_X7_readTest f) (H + 5) (nI d) x.1 x.2) mFuel ((0 : Int32), st) = some (.inl st2) from e1]
    rfl
