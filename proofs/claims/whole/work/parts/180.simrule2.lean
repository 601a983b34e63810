/-! rule: the two agree -/
theorem sim_rule : Sim0 Rel fh_X11_rule fm_rule := sim0_of (fun hx st ms R => by
  have hk12 := Rel_k R
  have R0 := R
  obtain ⟨_, nr, _, _, _, h0, _, _, ⟨u1, u2, u3, u4⟩, _, _, _⟩ := R0
  have q6 : ms.1 2 = (6 : Int32) ↔ nr = 6 := by rw [u2]; exact nI_eq (b := 6) (by omega) (by omega)
  unfold fh_X11_rule fm_rule
  rw [chk_t (isk_t hk12), u1]
  by_cases z6 : nr = 6
  · rw [if_neg (show ¬ nI nr < (6 : Int32) by rw [z6]; decide), if_pos (q6.mpr z6)]
    exact ⟨_, _, rfl, rfl, rfl, R⟩
  have hn6 : nr < 6 := by omega
  rw [if_pos (show nI nr < (6 : Int32) from nI_lt (b := 6) hn6 (by omega)), if_neg (fun y => z6 (q6.mp y))]
  obtain ⟨s2, n, M, e2, R2, T2, h1n, hn, B, g1103⟩ := rd_tape R
  have R2' := R2
  obtain ⟨_, _, _, w2, hi2, h2, p2, -⟩ := R2'
  have K22 : gK s2 (hx + 17 + 5) = 8 := h2.k (j := 22) (by omega) rfl
  let s3 := sI (sI s2 705 (hx + 17 + 5) 0) 706 (hx + 17 + 5) 0
  have F3 : Fr (fun b => b = hx + 17 + 5) s2 s3 := (Fr.sI (X := fun b => b = hx + 17 + 5) rfl).tr (Fr.sI rfl)
  have R3 : Rel hx s3 (msi ms 1 0) := R2.sc (F3.mo (fun b hb => Or.inl (by omega))) (p2.f F3 (by omega)) MF.rf (fun _ _ => rfl)
  have R3' := R3
  obtain ⟨_, _, _, w3, hi3, h3, p3, -⟩ := R3'
  have T3 : Tk s3 (hx + 17) (ms.2.1 0) n M 0 0 := T2.fr F3 (by omega) (by omega) (by omega) (by omega)
  have E3 : RdE s3 (hx + 17) := by
    obtain ⟨K, -, -, ⟨a1, a2, a3, a4, a5, a6, a7, a8, a9⟩, -⟩ := h3
    exact ⟨(K 22 (by omega)).trans rfl, a1, ⟨a2, (K 23 (by omega)).trans rfl, a3⟩, ⟨a4, (K 24 (by omega)).trans rfl, a5⟩, ⟨a6, (K 25 (by omega)).trans rfl, a7⟩, ⟨a8, (K 26 (by omega)).trans rfl, a9⟩⟩
  -- the reference begins
  let mB := msa (msi ms 17 (nI nr)) 6 nr 0
  let mA := msi (msi (msi (msi (msa mB 4 nr 0) 20 0) 14 0) 15 0) 18 0
  have eR : fm_readsAll mB = rRest mFuel mA := by
    unfold fm_readsAll
    rw [show mB.1 17 = nI nr from (show (msi ms 17 (nI nr)).1 17 = _ from msi_s _ _ _), chk_t (inb_n (show nr < 7 by omega) (by omega)), nI_clamp (by omega)]
    rfl
  have GA : MF (fun q => mRe q || q == 17) ms mA := ((((((MF.msi rfl).tr (MF.msa rfl)).tr (MF.msa rfl)).tr (MF.msi rfl)).tr (MF.msi rfl)).tr (MF.msi rfl)).tr (MF.msi rfl)
  have a17 : mA.1 17 = nI nr := by
    show (msi (msi (msi (msi (msa mB 4 nr 0) 20 0) 14 0) 15 0) 18 0).1 17 = _
    rw [msi_n (by omega), msi_n (by omega), msi_n (by omega), msi_n (by omega), msa_I]
    show (msi ms 17 (nI nr)).1 17 = _
    exact msi_s _ _ _
  have a1' : mA.1 1 = ms.1 1 := by
    show (msi (msi (msi (msi (msa mB 4 nr 0) 20 0) 14 0) 15 0) 18 0).1 1 = _
    rw [msi_n (by omega), msi_n (by omega), msi_n (by omega), msi_n (by omega), msa_I]
    show (msi ms 17 (nI nr)).1 1 = _
    rw [msi_n (by omega)]
  have a14 : mA.1 14 = 0 := by
    show (msi (msi (msi (msi (msa mB 4 nr 0) 20 0) 14 0) 15 0) 18 0).1 14 = _
    rw [msi_n (by omega), msi_n (by omega), msi_s]
  have a15 : mA.1 15 = 0 := by
    show (msi (msi (msi (msi (msa mB 4 nr 0) 20 0) 14 0) 15 0) 18 0).1 15 = _
    rw [msi_n (by omega), msi_s]
  have a20 : mA.1 20 = 0 := by
    show (msi (msi (msi (msi (msa mB 4 nr 0) 20 0) 14 0) 15 0) 18 0).1 20 = _
    rw [msi_n (by omega), msi_n (by omega), msi_n (by omega), msi_s]
  have b6 : mA.2.1 6 = upd (ms.2.1 6) nr 0 := by
    show (msa mB 4 nr 0).2.1 6 = _
    rw [msa_n (by omega)]; exact msa_s _ _ _ _
  have b4 : mA.2.1 4 nr = 0 := by
    show (msa mB 4 nr 0).2.1 4 nr = _
    rw [msa_s, pk_us]
  have b0 : mA.2.1 0 = ms.2.1 0 := GA.A 0 rfl
  have b3 : mA.2.1 3 = ms.2.1 3 := by
    show (msa mB 4 nr 0).2.1 3 = _
    rw [msa_n (by omega)]
    show (msa (msi ms 17 (nI nr)) 6 nr 0).2.1 3 = _
    rw [msa_n (by omega)]; rfl
  have b5 : mA.2.1 5 = ms.2.1 5 := by
    show (msa mB 4 nr 0).2.1 5 = _
    rw [msa_n (by omega)]
    show (msa (msi ms 17 (nI nr)) 6 nr 0).2.1 5 = _
    rw [msa_n (by omega)]; rfl
  have J3 : RJ s3 mA (hx + 17) n M 0 0 nr (fun _ => (0, 0)) 0 0 := by
    refine ⟨⟨by rw [b0]; exact T3, ⟨a1'.trans h1n, hn, a14, by omega⟩, a15, rfl⟩, E3, ⟨?_, fun j hj => by omega⟩, ⟨b4, fun j hj => by omega⟩, ⟨gI_sI _ _ _ _, msi_s _ _ _, by omega⟩, ⟨a17, hn6⟩, by rw [b0]; exact B⟩
    exact (gI_sI_ne (Or.inl (by omega))).trans (gI_sI _ _ _ _)
  have C3 : ClR s3 mA (hx + 17) nr (fun _ => (0, 0)) 0 0 (fun _ => (0, 0, 0, 0)) := ⟨by rw [b6, pk_us]; rfl, fun j hj => by omega, fun hj => by omega⟩
  obtain ⟨m6, rr, em, G6, z1, c6⟩ := u_loop (H := hx + 17) (n := n) (M := M) (k := nr) 12 0 (by omega) s3 mA mFuel mFuel 0 0 0 0 _ _ J3 (by omega) C3 a20 (by rw [mFuel_eq]; omega) (by rw [mFuel_eq]; omega)
  -- what stays of the reference
  have g2 : m6.1 2 = nI nr := by rw [G6.1.I 2 rfl, GA.I 2 rfl]; exact u2
  have relm : ∀ {s4 : HSt}, Fr (RdZ (hx + 17)) s3 s4 → Rel hx s4 m6 := by
    intro s4 F4
    have n27 : ¬ RdZ (hx + 17) (hx + 27) := by unfold RdZ; omega
    have R4 : Rel hx s4 (msi ms 1 0) := R3.sc (F4.mo (fun b hb => by unfold RdZ at hb; exact Or.inl (by omega))) (p3.f F4 n27) MF.rf (fun _ _ => rfl)
    refine R4.mu (nr := nr) (by rw [msi_n (by omega)]; exact u2) u3 (by rw [z1, msi_s]) (by rw [g2, msi_n (by omega)]; exact u2.symm) ?_ ?_ ?_ ?_ (fun x hx' => ?_) (fun x hx' => ?_) (fun x hx' => ?_)
    · rw [G6.1.A 0 rfl, b0]; rfl
    · rw [G6.1.A 26 rfl, GA.A 26 rfl]; rfl
    · rw [G6.1.A 40 rfl, GA.A 40 rfl]; rfl
    · rw [G6.1.A 41 rfl, GA.A 41 rfl]; rfl
    · rw [G6.2.1 x hx', b3]; rfl
    · rw [G6.2.2.1 x hx', b5]; rfl
    · rw [G6.2.2.2 x hx', b6, pk_un (by omega)]; rfl
  have rd0 : fh_X7_read (hx + 22) s2 = (iter (fun x : (Int32 × HSt) => fh_X7_read_s12 (hx + 17 + 5) x.1 x.2) mFuel (nI 0, s3)).bind (Sum.elim (fun o : HSt × Option Nat => (some o : Option (HSt × Option Nat))) (fun x : (Int32 × HSt) => fh_X7_read_j120 (hx + 17 + 5) x.2)) := by
    show fh_X7_read (hx + 17 + 5) s2 = _
    unfold fh_X7_read
    rw [chk_t (isk_t K22)]
    rfl
  rw [e2, bs_, chk_t (st_k h2), h2.2.1.2.2.2.2.2.2.2.2.2.1, dr_of (h2.k (j := 22) (c := 8) (by omega) rfl), bs_, rd0]
  rw [u2, show (msi ms 17 (nI nr)).1 17 = nI nr from msi_s _ _ _, chk_t (inb_n hn6 (by omega)), nI_clamp (by omega), show fm_readsAll (msa (msi ms 17 (nI nr)) 6 nr 0) = some (m6, rr) from eR.trans em, bs_]
  dsimp only
  rcases c6 with ⟨y1, s4, c, cd, sz, cl, hc, e4, F4, E4, CH, CM, hsz, CC⟩ | ⟨y1, s4, e4, F4, f4⟩
  · subst y1
    have R4 := relm F4
    have R4' := R4
    obtain ⟨_, _, _, w4, hi4, h4, p4, -⟩ := R4'
    have l4 : hx + 17 + 9 < gN s4 := by have := h4.lt hi4 (j := 26) (by omega); omega
    obtain ⟨s5, e5, X5, w5, hi5, k5, i5, l51, l52, l53, l54, v1, v2, v3, v4⟩ := h_alloc w4 hi4 E4 l4 hc hsz CH.1
    rw [e4, e5, bs_]
    have R5 : Rel hx s5 m6 := R4.ext w5 hi5 X5
    have R5' := R5
    obtain ⟨_, nr5, _, _, _, h5, _, _, ⟨v51, v52, -, -⟩, -⟩ := R5'
    have g5 : gI s5 1103 hx = nI nr := v51.trans (v52.symm.trans g2)
    obtain ⟨c1, c2, c3⟩ := CC
    let u : Ru := (c + 1, cl, cd)
    have hR : RuR s5 (gN s4) u := by
      refine ⟨k5, i5, l51, l52, l53, by rw [l54]; exact hsz, fun j hj => ?_, fun j hj => ?_⟩
      · have hj' : j < c + 1 := hj
        obtain ⟨d1, ⟨h1, h2', h3', h4'⟩, -⟩ := c2 j hj'
        rw [v1 j hj', v2 j (by omega), v3 j hj', v2 (j + 1) (by omega), l54]
        exact ⟨h1, h2', h3', h4', d1.2.2.2.1⟩
      · rw [l54] at hj
        rw [v4 j hj]; exact CH.2 j hj
    have hO : RuOk u := ⟨by show c + 1 ≤ 12; omega, fun j hj => by
      obtain ⟨d1, d2, d3, d4, d5, d6, d7⟩ := (c2 j hj).1
      exact ⟨d1, d2, d3, by show (cl j).2.2.2 ≤ 400; omega, d5, d6, d7⟩⟩
    have hM : MrR m6 nr u sz := ⟨hn6, hsz, c1, fun j hj => by
      obtain ⟨d1, -, m1', m2', m3', m4'⟩ := c2 j hj
      exact ⟨m1', m2', m3', m4', d1.2.2.2.1⟩, fun j hj => CM.2 j hj⟩
    have RF := R5.add g2 hn6 hR hO hM
    rw [bs_, Sum.elim_inl, bs_]
    dsimp only
    rw [if_neg (show ¬ (some (gN s4) : Option Nat) = none by intro z; cases z), bs_]
    rw [chk_t (st_k h5), chk_t (isk_t k5), h5.2.1.2.2.1, dr_of (h5.k (j := 2) (c := 25) (by omega) rfl), bs_, h5.2.1.2.2.2.1, g5, chk_t (inb_n hn6 (by omega)), nI_clamp (by omega), bs_]
    rw [if_neg (show ¬ (1 : Int32) = 0 by decide), g2]
    refine ⟨_, _, rfl, rfl, ?_, ?_⟩
    · dsimp only
      rw [msi_s, gI_sI]
      show gI s5 1103 hx + 1 - 1 = _
      rw [g5]
    · dsimp only
      rw [show gI (sQ s5 (hx + 2) nr (some (gN s4))) 1103 hx = nI nr from g5, nI_1]
      exact RF
  · subst y1
    have R4 := relm F4
    have R4' := R4
    obtain ⟨_, _, _, w4, hi4, h4, p4, -⟩ := R4'
    rw [e4, bs_]
    rw [Sum.elim_inl, bs_]
    dsimp only
    rw [if_pos rfl, if_pos rfl, chk_t (st_k h4), h4.2.1.2.2.2.2.2.2.2.1, dr_of (h4.k (j := 17) (c := 11) (by omega) rfl), bs_]
    refine ⟨_, _, rfl, rfl, ?_, R4⟩
    dsimp only
    rw [f4])
