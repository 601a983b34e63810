theorem nd_X0_spanByRow : yX0_spanByRow.cls ≠ "java/lang/invoke/MethodHandle" ∧ yX0_spanByRow.cls ≠ "java/lang/invoke/VarHandle" ∧ (parseMethodDescriptor yX0_spanByRow.desc).map (fun d => d.parameters.length) = some 4 := by decide +kernel
set_option maxHeartbeats 4000000 in
set_option maxRecDepth 100000 in
theorem ch_X0_spanByRow (l : Launch) (D : va_G) (cy : Nat → ClassId) (h : Nat) (a1 : Option Nat) (a2 : Option Nat) (a3 : Option Nat) (a4 : Int32) (s0 : HSt) (out : HSt × Option Nat) (hf : fh_X0_spanByRow h a1 a2 a3 a4 s0 = some out) : CHq l D cy yX0_spanByRow wsX0_spanByRow { frames := 5, cells := 0, slots := 0, locals := 144 } 0 0 False True [.ref h, va_rf a1, va_rf a2, va_rf a3, .int a4] s0 out := by
  refine Met.ofW (cc := cX0_spanByRow) (maxL := 7) (ret := (some (.object "HalfBridge$Span"))) (by decide) rfl ?_
  intro p e s m args below meth c s₁ B hml hv
  obtain ⟨rfl, hP, hK, hD0, hkx, hsz, hal⟩ := hv
  have hx := B.exec
  have hb := B.bytes
  have hr := B.returns
  have hts := atoms_spec (ws := wsX0_spanByRow) B.pre
  have hown : s.vm.findClass RX0 = some m.cls := findClass_of_methodNamed B.named
  have hlocks := B.notSynchronized
  have hI : HI D cy s s0 s0 s.heap [] 0 False True := ⟨hK, hP, hD0.weaken (fun k q hk _ => Or.inl (pl_mem hk)), va_S.rf, hsz.1, hkx, ⟨hsz, hal⟩, fun _ => rfl, Nat.le_refl _⟩
  have hin_X0 : ∀ w ∈ u_ws RX0 TX0 11, w ∈ wsX0_spanByRow := fun w hw => List.mem_cons_of_mem _ (List.mem_append_left _ (List.mem_append_left _ (List.mem_append_left _ (List.mem_append_left _ (List.mem_append_left _ (List.mem_append_right _ hw))))))
  have hin_X8 : ∀ w ∈ u_ws RX8 TX8 5, w ∈ wsX0_spanByRow := fun w hw => List.mem_cons_of_mem _ (List.mem_append_left _ (List.mem_append_left _ (List.mem_append_left _ (List.mem_append_left _ (List.mem_append_right _ hw)))))
  have hin_X9 : ∀ w ∈ u_ws RX9 TX9 5, w ∈ wsX0_spanByRow := fun w hw => List.mem_cons_of_mem _ (List.mem_append_left _ (List.mem_append_left _ (List.mem_append_left _ (List.mem_append_right _ hw))))
  have kl_20 : Cond.fieldLink RX0 20 "HalfBridge$Foresight" "spares" "[LHalfBridge$Span;" ∈ wsX0_spanByRow := by decide +kernel
  have kl_47 : Cond.fieldLink RX0 47 "HalfBridge$Span" "day" "I" ∈ wsX0_spanByRow := by decide +kernel
  have kl_72 : Cond.fieldLink RX0 72 "HalfBridge$Site" "span" "LHalfBridge$Span;" ∈ wsX0_spanByRow := by decide +kernel
  have hl := lv_entry ([.ref h, va_rf a1, va_rf a2, va_rf a3, .int a4]) (n := 7) (by simp [lg_sl, cat_rf, cat_i, cat_l, cat_r])
  rw [lg_entry_eq]
  generalize (lg_sl ([.ref h, va_rf a1, va_rf a2, va_rf a3, .int a4]) ++ List.replicate (7 - (lg_sl ([.ref h, va_rf a1, va_rf a2, va_rf a3, .int a4])).length) Slot.unset).toArray = ls at hl ⊢
  have hl : lv_has ls 7 [(0, .ref h), (1, va_rf a1), (2, va_rf a2), (3, va_rf a3), (4, .int a4)] := (by simpa [lv_args, cat_rf, cat_i, cat_l, cat_r] using hl)
  obtain ⟨K0, hK0, hf⟩ := top_e hf
  have B_80 : ∀ (v5 : Option Nat)  (st : HSt) (H : Heap) (locs : List Loc) (ls : Array Slot), HI D cy s s0 st H locs 0 False True → lv_has ls 7 [(5, va_rf v5)] → (fh_X0_spanByRow_j80 h v5 st).bind K0 = some out → W p l e (headSpec wsX0_spanByRow { frames := 5, cells := 0, slots := 0, locals := 144 }).room s m (([.ref h, va_rf a1, va_rf a2, va_rf a3, .int a4] : List Value).toArray) below meth c H locs 0 0 (MQ below (HQq D cy s0 0 True out) ([.ref h, va_rf a1, va_rf a2, va_rf a3, .int a4] : List Value).toArray s 0 0 (hF s0)) (F0 m 80 ls []) := by
    intro v5 st H locs ls hI hl hf
    unfold fh_X0_spanByRow_j80 at hf
    refine hq_aload hx hb dX0_spanByRow_80 (lv_at hl 0 rfl) ?_
    exact hret_q hx hb hr (by first | exact Or.inl ⟨_, rfl⟩ | exact Or.inr ⟨_, rfl⟩) hlocks hI (by decide) (by decide) (fun _ => ⟨trivial, rfl⟩) (ret_e hK0 hf) dX0_spanByRow_82
  have L_20 : ∀ (v1 : Option Nat) (v2 : Option Nat) (v3 : Option Nat) (v4 : Int32) (v5 : Option Nat) (n : Nat) (v6 : Int32) (st : HSt) (H : Heap) (locs : List Loc) (ls : Array Slot), HI D cy s s0 st H locs 0 False True → lv_has ls 7 [(0, .ref h), (1, va_rf v1), (2, va_rf v2), (3, va_rf v3), (4, .int v4), (5, va_rf v5), (6, .int v6)] → (iter (fun x : (Int32 × HSt) => fh_X0_spanByRow_s20 h v1 v2 v3 v4 v5 x.1 x.2) n (v6, st)).bind (fun x => ((Sum.elim (fun o : HSt × Option Nat => (some o : Option (HSt × Option Nat))) (fun x : (Int32 × HSt) => fh_X0_spanByRow_j80 h v5 x.2)) x).bind K0) = some out → W p l e (headSpec wsX0_spanByRow { frames := 5, cells := 0, slots := 0, locals := 144 }).room s m (([.ref h, va_rf a1, va_rf a2, va_rf a3, .int a4] : List Value).toArray) below meth c H locs 0 0 (MQ below (HQq D cy s0 0 True out) ([.ref h, va_rf a1, va_rf a2, va_rf a3, .int a4] : List Value).toArray s 0 0 (hF s0)) (F0 m 20 ls []) := by
    intro v1 v2 v3 v4 v5 n
    induction n with
    | zero => intro v6 st H locs ls hI hl hf; exact (iter_0 hf).elim
    | succ n ih =>
      intro v6 st H locs ls hI hl hf
      obtain ⟨K1, hK1, hf⟩ := iter_e hf
      replace hf : (fh_X0_spanByRow_s20 h v1 v2 v3 v4 v5 v6 st).bind K1 = some out := hf
      unfold fh_X0_spanByRow_s20 at hf
      refine lv_iload hx hb dX0_spanByRow_20 (lv_at hl 6 rfl) ?_
      refine lv_iload hx hb dX0_spanByRow_22 (lv_at hl 4 rfl) ?_
      refine lv_icmp_ge (tgt := 80) hx hb dX0_spanByRow_24 (by decide) (fun c17 => ?_) (fun c17 => ?_)
      · replace hf := ifp c17 hf
        replace hf := exit_b hK1 hf
        exact B_80 v5 st H locs ls hI (lv_sub hl [5] rfl) hf
      · replace hf := ifn c17 hf
        refine hq_aload hx hb dX0_spanByRow_27 (lv_at hl 5 rfl) ?_
        obtain ⟨b18, hd19, hf⟩ := bnd_b hf
        obtain ⟨hq20, hk21⟩ := dr_e hd19
        refine W.eq (g2 := F0 m 29 ls [.ref b18]) (by rw [hq20]; rfl) ?_
        obtain ⟨x22, hc23, hf⟩ := bnd_b hf
        refine hcall_Vi (ex2 := True) (As := []) (rest := []) (n := 0) (by rw [hk21]; decide) (hC_10 hk21) rfl ⟨hx, hb, hml, hown, hts⟩ (ch_X9_isMet l D cy b18 st x22 hc23) (cwV 0 hts gX0_spanByRow_X9_isMet rfl rfl rfl ⟨rfl, nd_X9_isMet⟩ ⟨Nat.le_of_ble_eq_true rfl, Nat.le_of_ble_eq_true rfl⟩) hI (fun h => h.elim) (fun _ => ⟨trivial, trivial⟩) rfl hl.1 (Nat.le_of_ble_eq_true rfl) dX0_spanByRow_29 ⟨Nat.le_of_ble_eq_true rfl, Nat.le_of_ble_eq_true rfl⟩ (fun H locs hI => ?_)
        refine lv_if_ne (tgt := 80) hx hb dX0_spanByRow_32 (by decide) (fun c24 => ?_) (fun c24 => ?_)
        · replace hf := ifn c24 hf
          replace hf := exit_b hK1 hf
          exact B_80 v5 x22.1 H locs ls hI (lv_sub hl [5] rfl) hf
        · replace hf := ifp c24 hf
          refine lv_aload_n hx hb dX0_spanByRow_35 rfl (lv_at hl 0 rfl) ?_
          refine hq_aload hx hb dX0_spanByRow_36 (lv_at hl 5 rfl) ?_
          refine hq_aload_n hx hb dX0_spanByRow_38 rfl (lv_at hl 2 rfl) ?_
          refine hq_aload_n hx hb dX0_spanByRow_39 rfl (lv_at hl 3 rfl) ?_
          refine lv_aload_n hx hb dX0_spanByRow_40 rfl (lv_at hl 0 rfl) ?_
          refine hq_aload_n hx hb dX0_spanByRow_41 rfl (lv_at hl 1 rfl) ?_
          refine hq_aload hx hb dX0_spanByRow_42 (lv_at hl 5 rfl) ?_
          refine W.eq (g2 := F0 m 44 ls [.ref b18, va_rf v1, .ref h, va_rf v3, va_rf v2, va_rf v5, .ref h]) (by rw [hq20]; rfl) ?_
          obtain ⟨k25, hf⟩ := chk_b hf
          refine hg_9_1 hx hb hts hin_X9 hown kl_47 hI (isk_k k25) dX0_spanByRow_44 ?_
          refine lv_iconst (v := 0) hx hb dX0_spanByRow_47 (by decide) ?_
          refine lv_iload hx hb dX0_spanByRow_48 (lv_at hl 6 rfl) ?_
          obtain ⟨k26, hf⟩ := chk_b hf
          obtain ⟨x27, hc28, hf⟩ := bnd_b hf
          refine hcall_Vi (ex2 := True) (As := [va_rf v1, .int (gI x22.1 901 b18), .int (0 : Int32), .int v6]) (rest := [va_rf v3, va_rf v2, va_rf v5, .ref h]) (n := 4) (by rw [(isk_k k26)]; decide) (hC_1 (isk_k k26)) rfl ⟨hx, hb, hml, hown, hts⟩ (ch_X0_rowError l D cy h v1 (gI x22.1 901 b18) (0 : Int32) v6 x22.1 x27 hc28) (cwV 4 hts gX0_spanByRow_X0_rowError rfl rfl rfl ⟨rfl, nd_X0_rowError⟩ ⟨Nat.le_of_ble_eq_true rfl, Nat.le_of_ble_eq_true rfl⟩) hI (fun h => h.elim) (fun _ => ⟨trivial, trivial⟩) rfl hl.1 (by simp [cat_rf, cat_i, cat_l, cat_r]) dX0_spanByRow_50 ⟨Nat.le_of_ble_eq_true rfl, Nat.le_of_ble_eq_true rfl⟩ (fun H locs hI => ?_)
          refine lv_aload_n hx hb dX0_spanByRow_53 rfl (lv_at hl 0 rfl) ?_
          refine hq_aload_n hx hb dX0_spanByRow_54 rfl (lv_at hl 1 rfl) ?_
          refine hq_aload hx hb dX0_spanByRow_55 (lv_at hl 5 rfl) ?_
          refine W.eq (g2 := F0 m 57 ls [.ref b18, va_rf v1, .ref h, .int x27.2, va_rf v3, va_rf v2, va_rf v5, .ref h]) (by rw [hq20]; rfl) ?_
          obtain ⟨k29, hf⟩ := chk_b hf
          refine hg_9_1 hx hb hts hin_X9 hown kl_47 hI (isk_k k29) dX0_spanByRow_57 ?_
          refine lv_iconst (v := 1) hx hb dX0_spanByRow_60 (by decide) ?_
          refine lv_iload hx hb dX0_spanByRow_61 (lv_at hl 6 rfl) ?_
          obtain ⟨k30, hf⟩ := chk_b hf
          obtain ⟨x31, hc32, hf⟩ := bnd_b hf
          refine hcall_Vi (ex2 := True) (As := [va_rf v1, .int (gI x27.1 901 b18), .int (1 : Int32), .int v6]) (rest := [.int x27.2, va_rf v3, va_rf v2, va_rf v5, .ref h]) (n := 4) (by rw [(isk_k k30)]; decide) (hC_1 (isk_k k30)) rfl ⟨hx, hb, hml, hown, hts⟩ (ch_X0_rowError l D cy h v1 (gI x27.1 901 b18) (1 : Int32) v6 x27.1 x31 hc32) (cwV 4 hts gX0_spanByRow_X0_rowError rfl rfl rfl ⟨rfl, nd_X0_rowError⟩ ⟨Nat.le_of_ble_eq_true rfl, Nat.le_of_ble_eq_true rfl⟩) hI (fun h => h.elim) (fun _ => ⟨trivial, trivial⟩) rfl hl.1 (by simp [cat_rf, cat_i, cat_l, cat_r]) dX0_spanByRow_63 ⟨Nat.le_of_ble_eq_true rfl, Nat.le_of_ble_eq_true rfl⟩ (fun H locs hI => ?_)
          obtain ⟨k33, hf⟩ := chk_b hf
          obtain ⟨x34, hc35, hf⟩ := bnd_b hf
          refine hcall_Vv (ex2 := True) (As := [va_rf v5, va_rf v2, va_rf v3, .int x27.2, .int x31.2]) (rest := []) (n := 5) (by rw [(isk_k k33)]; decide) (hC_1 (isk_k k33)) rfl ⟨hx, hb, hml, hown, hts⟩ (ch_X0_actBoth l D cy h v5 v2 v3 x27.2 x31.2 x31.1 x34 hc35) (cwV 5 hts gX0_spanByRow_X0_actBoth rfl rfl rfl ⟨rfl, nd_X0_actBoth⟩ ⟨Nat.le_of_ble_eq_true rfl, Nat.le_of_ble_eq_true rfl⟩) hI (fun h => h.elim) (fun _ => ⟨trivial, trivial⟩) rfl hl.1 (Nat.le_of_ble_eq_true rfl) dX0_spanByRow_66 ⟨Nat.le_of_ble_eq_true rfl, Nat.le_of_ble_eq_true rfl⟩ (fun H locs hI => ?_)
          refine hq_aload hx hb dX0_spanByRow_69 (lv_at hl 5 rfl) ?_
          refine W.eq (g2 := F0 m 71 ls [.ref b18]) (by rw [hq20]; rfl) ?_
          obtain ⟨k36, hf⟩ := chk_b hf
          obtain ⟨x37, hc38, hf⟩ := bnd_b hf
          refine hcall_Vv (ex2 := True) (As := []) (rest := []) (n := 0) (by rw [(isk_k k36)]; decide) (hC_10 (isk_k k36)) rfl ⟨hx, hb, hml, hown, hts⟩ (ch_X9_endDay l D cy b18 x34 x37 hc38) (cwV 0 hts gX0_spanByRow_X9_endDay rfl rfl rfl ⟨rfl, nd_X9_endDay⟩ ⟨Nat.le_of_ble_eq_true rfl, Nat.le_of_ble_eq_true rfl⟩) hI (fun h => h.elim) (fun _ => ⟨trivial, trivial⟩) rfl hl.1 (Nat.le_of_ble_eq_true rfl) dX0_spanByRow_71 ⟨Nat.le_of_ble_eq_true rfl, Nat.le_of_ble_eq_true rfl⟩ (fun H locs hI => ?_)
          refine lv_iinc (v := (v6 + 1)) (lv' := [(6, .int (v6 + 1)), (0, .ref h), (1, va_rf v1), (2, va_rf v2), (3, va_rf v3), (4, .int v4), (5, va_rf v5)]) hx hb dX0_spanByRow_74 hl (k := 6) rfl (ci_ _ (by decide)) (by decide) (by first | rfl | (simp [cat_rf, cat_i, cat_l, cat_r]; done) | (simp [cat_rf, cat_i, cat_l, cat_r]; decide)) (fun ls hl => ?_)
          refine lv_goto (tgt := 20) hx hb dX0_spanByRow_77 (by decide) ?_
          replace hf := cont_b hK1 hf
          exact ih (v6 + 1) x37 H locs ls hI (lv_sub hl [1, 2, 3, 4, 5, 6, 0] rfl) hf
  unfold fh_X0_spanByRow at hf
  refine lv_aload_n hx hb dX0_spanByRow_0 rfl (lv_at hl 0 rfl) ?_
  obtain ⟨k1, hf⟩ := chk_b hf
  refine hg_0_6 hx hb hts hin_X0 hown kl_20 hI (isk_k k1) dX0_spanByRow_1 ?_
  refine lv_iconst (v := 0) hx hb dX0_spanByRow_4 (by decide) ?_
  obtain ⟨b2, hd3, hf⟩ := bnd_b hf
  obtain ⟨hq4, hk5⟩ := dr_e hd3
  refine W.eq (g2 := F0 m 5 ls [.int (0 : Int32), .ref b2]) (by rw [hq4]; rfl) ?_
  obtain ⟨k6, hf⟩ := chk_b hf
  refine hl_Span hx hb hI hk5 k6 dX0_spanByRow_5 ?_
  refine hq_astore (lv' := [(5, va_rf (gQ s0 b2 (0 : Int32).toNatClampNeg)), (0, .ref h), (1, va_rf a1), (2, va_rf a2), (3, va_rf a3), (4, .int a4)]) hx hb dX0_spanByRow_6 hl (by decide) (by first | rfl | (simp [cat_rf, cat_i, cat_l, cat_r]; done) | (simp [cat_rf, cat_i, cat_l, cat_r]; decide)) (fun ls hl => ?_)
  refine hq_aload hx hb dX0_spanByRow_8 (lv_at hl 0 rfl) ?_
  refine hq_aload_n hx hb dX0_spanByRow_10 rfl (lv_at hl 2 rfl) ?_
  obtain ⟨b7, hd8, hf⟩ := bnd_b hf
  obtain ⟨hq9, hk10⟩ := dr_e hd8
  refine W.eq (g2 := F0 m 11 ls [.ref b7, va_rf (gQ s0 b2 (0 : Int32).toNatClampNeg)]) (by rw [hq9]; rfl) ?_
  refine hg_8_0 hx hb hts hin_X8 hown kl_72 hI hk10 dX0_spanByRow_11 ?_
  obtain ⟨b11, hd12, hf⟩ := bnd_b hf
  obtain ⟨hq13, hk14⟩ := dr_e hd12
  refine W.eq (g2 := F0 m 14 ls [va_rf (gR s0 800 b7), .ref b11]) (by rw [hq13]; rfl) ?_
  obtain ⟨x15, hc16, hf⟩ := bnd_b hf
  refine hcall_Vv (ex2 := True) (As := [va_rf (gR s0 800 b7)]) (rest := []) (n := 1) (by rw [hk14]; decide) (hC_10 hk14) rfl ⟨hx, hb, hml, hown, hts⟩ (ch_X9_become l D cy b11 (gR s0 800 b7) s0 x15 hc16) (cwV 1 hts gX0_spanByRow_X9_become rfl rfl rfl ⟨rfl, nd_X9_become⟩ ⟨Nat.le_of_ble_eq_true rfl, Nat.le_of_ble_eq_true rfl⟩) hI (fun h => h.elim) (fun _ => ⟨trivial, trivial⟩) rfl hl.1 (Nat.le_of_ble_eq_true rfl) dX0_spanByRow_14 ⟨Nat.le_of_ble_eq_true rfl, Nat.le_of_ble_eq_true rfl⟩ (fun H locs hI => ?_)
  refine lv_iconst (v := 0) hx hb dX0_spanByRow_17 (by decide) ?_
  refine lv_istore (lv' := [(6, .int (0 : Int32)), (5, va_rf (gQ s0 b2 (0 : Int32).toNatClampNeg)), (0, .ref h), (1, va_rf a1), (2, va_rf a2), (3, va_rf a3), (4, .int a4)]) hx hb dX0_spanByRow_18 hl (by decide) (by first | rfl | (simp [cat_rf, cat_i, cat_l, cat_r]; done) | (simp [cat_rf, cat_i, cat_l, cat_r]; decide)) (fun ls hl => ?_)
  exact L_20 a1 a2 a3 a4 (gQ s0 b2 (0 : Int32).toNatClampNeg) mFuel (0 : Int32) x15 H locs ls hI (lv_sub hl [2, 3, 4, 5, 6, 1, 0] rfl) (asc_b hf)

theorem nd_X0_spanTried : yX0_spanTried.cls ≠ "java/lang/invoke/MethodHandle" ∧ yX0_spanTried.cls ≠ "java/lang/invoke/VarHandle" ∧ (parseMethodDescriptor yX0_spanTried.desc).map (fun d => d.parameters.length) = some 5 := by decide +kernel
set_option maxHeartbeats 4000000 in
set_option maxRecDepth 100000 in
theorem ch_X0_spanTried (l : Launch) (D : va_G) (cy : Nat → ClassId) (h : Nat) (a1 : Option Nat) (a2 : Option Nat) (a3 : Option Nat) (a4 : Int32) (a5 : Int32) (s0 : HSt) (out : HSt × Option Nat) (hf : fh_X0_spanTried h a1 a2 a3 a4 a5 s0 = some out) : CHq l D cy yX0_spanTried wsX0_spanTried { frames := 5, cells := 0, slots := 0, locals := 144 } 0 0 False True [.ref h, va_rf a1, va_rf a2, va_rf a3, .int a4, .int a5] s0 out := by
  refine Met.ofW (cc := cX0_spanTried) (maxL := 8) (ret := (some (.object "HalfBridge$Span"))) (by decide) rfl ?_
  intro p e s m args below meth c s₁ B hml hv
  obtain ⟨rfl, hP, hK, hD0, hkx, hsz, hal⟩ := hv
  have hx := B.exec
  have hb := B.bytes
  have hr := B.returns
  have hts := atoms_spec (ws := wsX0_spanTried) B.pre
  have hown : s.vm.findClass RX0 = some m.cls := findClass_of_methodNamed B.named
  have hlocks := B.notSynchronized
  have hI : HI D cy s s0 s0 s.heap [] 0 False True := ⟨hK, hP, hD0.weaken (fun k q hk _ => Or.inl (pl_mem hk)), va_S.rf, hsz.1, hkx, ⟨hsz, hal⟩, fun _ => rfl, Nat.le_refl _⟩
  have hin_X0 : ∀ w ∈ u_ws RX0 TX0 11, w ∈ wsX0_spanTried := fun w hw => List.mem_cons_of_mem _ (List.mem_append_left _ (List.mem_append_left _ (List.mem_append_left _ (List.mem_append_left _ (List.mem_append_left _ (List.mem_append_right _ hw))))))
  have hin_X8 : ∀ w ∈ u_ws RX8 TX8 5, w ∈ wsX0_spanTried := fun w hw => List.mem_cons_of_mem _ (List.mem_append_left _ (List.mem_append_left _ (List.mem_append_left _ (List.mem_append_left _ (List.mem_append_right _ hw)))))
  have hin_X9 : ∀ w ∈ u_ws RX9 TX9 5, w ∈ wsX0_spanTried := fun w hw => List.mem_cons_of_mem _ (List.mem_append_left _ (List.mem_append_left _ (List.mem_append_left _ (List.mem_append_right _ hw))))
  have kl_20 : Cond.fieldLink RX0 20 "HalfBridge$Foresight" "spares" "[LHalfBridge$Span;" ∈ wsX0_spanTried := by decide +kernel
  have kl_47 : Cond.fieldLink RX0 47 "HalfBridge$Span" "day" "I" ∈ wsX0_spanTried := by decide +kernel
  have kl_72 : Cond.fieldLink RX0 72 "HalfBridge$Site" "span" "LHalfBridge$Span;" ∈ wsX0_spanTried := by decide +kernel
  have kl_99 : Cond.fieldLink RX0 99 "HalfBridge$Foresight" "x" "I" ∈ wsX0_spanTried := by decide +kernel
  have hl := lv_entry ([.ref h, va_rf a1, va_rf a2, va_rf a3, .int a4, .int a5]) (n := 8) (by simp [lg_sl, cat_rf, cat_i, cat_l, cat_r])
  rw [lg_entry_eq]
  generalize (lg_sl ([.ref h, va_rf a1, va_rf a2, va_rf a3, .int a4, .int a5]) ++ List.replicate (8 - (lg_sl ([.ref h, va_rf a1, va_rf a2, va_rf a3, .int a4, .int a5])).length) Slot.unset).toArray = ls at hl ⊢
  have hl : lv_has ls 8 [(0, .ref h), (1, va_rf a1), (2, va_rf a2), (3, va_rf a3), (4, .int a4), (5, .int a5)] := (by simpa [lv_args, cat_rf, cat_i, cat_l, cat_r] using hl)
  obtain ⟨K0, hK0, hf⟩ := top_e hf
  have B_125 : ∀ (v6 : Option Nat)  (st : HSt) (H : Heap) (locs : List Loc) (ls : Array Slot), HI D cy s s0 st H locs 0 False True → lv_has ls 8 [(6, va_rf v6)] → (fh_X0_spanTried_j125 h v6 st).bind K0 = some out → W p l e (headSpec wsX0_spanTried { frames := 5, cells := 0, slots := 0, locals := 144 }).room s m (([.ref h, va_rf a1, va_rf a2, va_rf a3, .int a4, .int a5] : List Value).toArray) below meth c H locs 0 0 (MQ below (HQq D cy s0 0 True out) ([.ref h, va_rf a1, va_rf a2, va_rf a3, .int a4, .int a5] : List Value).toArray s 0 0 (hF s0)) (F0 m 125 ls []) := by
    intro v6 st H locs ls hI hl hf
    unfold fh_X0_spanTried_j125 at hf
    refine hq_aload hx hb dX0_spanTried_125 (lv_at hl 0 rfl) ?_
    exact hret_q hx hb hr (by first | exact Or.inl ⟨_, rfl⟩ | exact Or.inr ⟨_, rfl⟩) hlocks hI (by decide) (by decide) (fun _ => ⟨trivial, rfl⟩) (ret_e hK0 hf) dX0_spanTried_127
  have L_20 : ∀ (v1 : Option Nat) (v2 : Option Nat) (v3 : Option Nat) (v4 : Int32) (v5 : Int32) (v6 : Option Nat) (n : Nat) (v7 : Int32) (st : HSt) (H : Heap) (locs : List Loc) (ls : Array Slot), HI D cy s s0 st H locs 0 False True → lv_has ls 8 [(0, .ref h), (1, va_rf v1), (2, va_rf v2), (3, va_rf v3), (4, .int v4), (5, .int v5), (6, va_rf v6), (7, .int v7)] → (iter (fun x : (Int32 × HSt) => fh_X0_spanTried_s20 h v1 v2 v3 v4 v5 v6 x.1 x.2) n (v7, st)).bind (fun x => ((Sum.elim (fun o : HSt × Option Nat => (some o : Option (HSt × Option Nat))) (fun x : (Int32 × HSt) => fh_X0_spanTried_j125 h v6 x.2)) x).bind K0) = some out → W p l e (headSpec wsX0_spanTried { frames := 5, cells := 0, slots := 0, locals := 144 }).room s m (([.ref h, va_rf a1, va_rf a2, va_rf a3, .int a4, .int a5] : List Value).toArray) below meth c H locs 0 0 (MQ below (HQq D cy s0 0 True out) ([.ref h, va_rf a1, va_rf a2, va_rf a3, .int a4, .int a5] : List Value).toArray s 0 0 (hF s0)) (F0 m 20 ls []) := by
    intro v1 v2 v3 v4 v5 v6 n
    induction n with
    | zero => intro v7 st H locs ls hI hl hf; exact (iter_0 hf).elim
    | succ n ih =>
      intro v7 st H locs ls hI hl hf
      obtain ⟨K1, hK1, hf⟩ := iter_e hf
      replace hf : (fh_X0_spanTried_s20 h v1 v2 v3 v4 v5 v6 v7 st).bind K1 = some out := hf
      unfold fh_X0_spanTried_s20 at hf
      refine lv_iload hx hb dX0_spanTried_20 (lv_at hl 7 rfl) ?_
      refine lv_iload hx hb dX0_spanTried_22 (lv_at hl 4 rfl) ?_
      refine lv_icmp_ge (tgt := 125) hx hb dX0_spanTried_24 (by decide) (fun c17 => ?_) (fun c17 => ?_)
      · replace hf := ifp c17 hf
        replace hf := exit_b hK1 hf
        exact B_125 v6 st H locs ls hI (lv_sub hl [6] rfl) hf
      · replace hf := ifn c17 hf
        refine hq_aload hx hb dX0_spanTried_27 (lv_at hl 6 rfl) ?_
        obtain ⟨b18, hd19, hf⟩ := bnd_b hf
        obtain ⟨hq20, hk21⟩ := dr_e hd19
        refine W.eq (g2 := F0 m 29 ls [.ref b18]) (by rw [hq20]; rfl) ?_
        obtain ⟨x22, hc23, hf⟩ := bnd_b hf
        refine hcall_Vi (ex2 := True) (As := []) (rest := []) (n := 0) (by rw [hk21]; decide) (hC_10 hk21) rfl ⟨hx, hb, hml, hown, hts⟩ (ch_X9_isMet l D cy b18 st x22 hc23) (cwV 0 hts gX0_spanTried_X9_isMet rfl rfl rfl ⟨rfl, nd_X9_isMet⟩ ⟨Nat.le_of_ble_eq_true rfl, Nat.le_of_ble_eq_true rfl⟩) hI (fun h => h.elim) (fun _ => ⟨trivial, trivial⟩) rfl hl.1 (Nat.le_of_ble_eq_true rfl) dX0_spanTried_29 ⟨Nat.le_of_ble_eq_true rfl, Nat.le_of_ble_eq_true rfl⟩ (fun H locs hI => ?_)
        refine lv_if_ne (tgt := 125) hx hb dX0_spanTried_32 (by decide) (fun c24 => ?_) (fun c24 => ?_)
        · replace hf := ifn c24 hf
          replace hf := exit_b hK1 hf
          exact B_125 v6 x22.1 H locs ls hI (lv_sub hl [6] rfl) hf
        · replace hf := ifp c24 hf
          refine lv_aload_n hx hb dX0_spanTried_35 rfl (lv_at hl 0 rfl) ?_
          refine hq_aload hx hb dX0_spanTried_36 (lv_at hl 6 rfl) ?_
          refine hq_aload_n hx hb dX0_spanTried_38 rfl (lv_at hl 2 rfl) ?_
          refine hq_aload_n hx hb dX0_spanTried_39 rfl (lv_at hl 3 rfl) ?_
          refine hq_aload_n hx hb dX0_spanTried_40 rfl (lv_at hl 1 rfl) ?_
          refine lv_iconst (v := 0) hx hb dX0_spanTried_41 (by decide) ?_
          refine hq_aload hx hb dX0_spanTried_42 (lv_at hl 6 rfl) ?_
          refine W.eq (g2 := F0 m 44 ls [.ref b18, .int (0 : Int32), va_rf v1, va_rf v3, va_rf v2, va_rf v6, .ref h]) (by rw [hq20]; rfl) ?_
          obtain ⟨k25, hf⟩ := chk_b hf
          refine hg_9_1 hx hb hts hin_X9 hown kl_47 hI (isk_k k25) dX0_spanTried_44 ?_
          obtain ⟨b26, hd27, hf⟩ := bnd_b hf
          obtain ⟨hq28, hk29⟩ := dr_e hd27
          refine W.eq (g2 := F0 m 47 ls [.int (gI x22.1 901 b18), .int (0 : Int32), .ref b26, va_rf v3, va_rf v2, va_rf v6, .ref h]) (by rw [hq28]; rfl) ?_
          obtain ⟨x30, hc31, hf⟩ := bnd_b hf
          refine hcall_Vi (ex2 := True) (As := [.int (0 : Int32), .int (gI x22.1 901 b18)]) (rest := [va_rf v3, va_rf v2, va_rf v6, .ref h]) (n := 2) (by rw [hk29]; decide) (hC_9 hk29) rfl ⟨hx, hb, hml, hown, hts⟩ (ch_X8_errorOn l D cy b26 (0 : Int32) (gI x22.1 901 b18) x22.1 x30 hc31) (cwV 2 hts gX0_spanTried_X8_errorOn rfl rfl rfl ⟨rfl, nd_X8_errorOn⟩ ⟨Nat.le_of_ble_eq_true rfl, Nat.le_of_ble_eq_true rfl⟩) hI (fun h => h.elim) (fun _ => ⟨trivial, trivial⟩) rfl hl.1 (by simp [cat_rf, cat_i, cat_l, cat_r]) dX0_spanTried_47 ⟨Nat.le_of_ble_eq_true rfl, Nat.le_of_ble_eq_true rfl⟩ (fun H locs hI => ?_)
          refine hq_aload_n hx hb dX0_spanTried_50 rfl (lv_at hl 1 rfl) ?_
          refine lv_iconst (v := 1) hx hb dX0_spanTried_51 (by decide) ?_
          refine hq_aload hx hb dX0_spanTried_52 (lv_at hl 6 rfl) ?_
          refine W.eq (g2 := F0 m 54 ls [.ref b18, .int (1 : Int32), va_rf v1, .int x30.2, va_rf v3, va_rf v2, va_rf v6, .ref h]) (by rw [hq20]; rfl) ?_
          obtain ⟨k32, hf⟩ := chk_b hf
          refine hg_9_1 hx hb hts hin_X9 hown kl_47 hI (isk_k k32) dX0_spanTried_54 ?_
          refine W.eq (g2 := F0 m 57 ls [.int (gI x30.1 901 b18), .int (1 : Int32), .ref b26, .int x30.2, va_rf v3, va_rf v2, va_rf v6, .ref h]) (by rw [hq28]; rfl) ?_
          obtain ⟨k33, hf⟩ := chk_b hf
          obtain ⟨x34, hc35, hf⟩ := bnd_b hf
          refine hcall_Vi (ex2 := True) (As := [.int (1 : Int32), .int (gI x30.1 901 b18)]) (rest := [.int x30.2, va_rf v3, va_rf v2, va_rf v6, .ref h]) (n := 2) (by rw [(isk_k k33)]; decide) (hC_9 (isk_k k33)) rfl ⟨hx, hb, hml, hown, hts⟩ (ch_X8_errorOn l D cy b26 (1 : Int32) (gI x30.1 901 b18) x30.1 x34 hc35) (cwV 2 hts gX0_spanTried_X8_errorOn rfl rfl rfl ⟨rfl, nd_X8_errorOn⟩ ⟨Nat.le_of_ble_eq_true rfl, Nat.le_of_ble_eq_true rfl⟩) hI (fun h => h.elim) (fun _ => ⟨trivial, trivial⟩) rfl hl.1 (by simp [cat_rf, cat_i, cat_l, cat_r]) dX0_spanTried_57 ⟨Nat.le_of_ble_eq_true rfl, Nat.le_of_ble_eq_true rfl⟩ (fun H locs hI => ?_)
          obtain ⟨k36, hf⟩ := chk_b hf
          obtain ⟨x37, hc38, hf⟩ := bnd_b hf
          refine hcall_Vv (ex2 := True) (As := [va_rf v6, va_rf v2, va_rf v3, .int x30.2, .int x34.2]) (rest := []) (n := 5) (by rw [(isk_k k36)]; decide) (hC_1 (isk_k k36)) rfl ⟨hx, hb, hml, hown, hts⟩ (ch_X0_actBoth l D cy h v6 v2 v3 x30.2 x34.2 x34.1 x37 hc38) (cwV 5 hts gX0_spanTried_X0_actBoth rfl rfl rfl ⟨rfl, nd_X0_actBoth⟩ ⟨Nat.le_of_ble_eq_true rfl, Nat.le_of_ble_eq_true rfl⟩) hI (fun h => h.elim) (fun _ => ⟨trivial, trivial⟩) rfl hl.1 (Nat.le_of_ble_eq_true rfl) dX0_spanTried_60 ⟨Nat.le_of_ble_eq_true rfl, Nat.le_of_ble_eq_true rfl⟩ (fun H locs hI => ?_)
          refine hq_aload hx hb dX0_spanTried_63 (lv_at hl 6 rfl) ?_
          refine W.eq (g2 := F0 m 65 ls [.ref b18]) (by rw [hq20]; rfl) ?_
          obtain ⟨k39, hf⟩ := chk_b hf
          obtain ⟨x40, hc41, hf⟩ := bnd_b hf
          refine hcall_Vv (ex2 := True) (As := []) (rest := []) (n := 0) (by rw [(isk_k k39)]; decide) (hC_10 (isk_k k39)) rfl ⟨hx, hb, hml, hown, hts⟩ (ch_X9_endDay l D cy b18 x37 x40 hc41) (cwV 0 hts gX0_spanTried_X9_endDay rfl rfl rfl ⟨rfl, nd_X9_endDay⟩ ⟨Nat.le_of_ble_eq_true rfl, Nat.le_of_ble_eq_true rfl⟩) hI (fun h => h.elim) (fun _ => ⟨trivial, trivial⟩) rfl hl.1 (Nat.le_of_ble_eq_true rfl) dX0_spanTried_65 ⟨Nat.le_of_ble_eq_true rfl, Nat.le_of_ble_eq_true rfl⟩ (fun H locs hI => ?_)
          refine lv_aload_n hx hb dX0_spanTried_68 rfl (lv_at hl 0 rfl) ?_
          refine lv_aload_n hx hb dX0_spanTried_69 rfl (lv_at hl 0 rfl) ?_
          obtain ⟨k42, hf⟩ := chk_b hf
          refine hg_0_3 hx hb hts hin_X0 hown kl_99 hI (isk_k k42) dX0_spanTried_70 ?_
          refine lv_i2l (v := ((gI x40 3 h).toInt64)) hx hb dX0_spanTried_73 rfl ?_
          refine lv_ldc2 (v := 1103515245) hx hb hown (hts (.constantLong RX0 102 (1103515245)) (by decide +kernel)) dX0_spanTried_74 ?_
          refine lv_lmul hx hb dX0_spanTried_77 ?_
          refine lv_ldc2 (v := 12345) hx hb hown (hts (.constantLong RX0 104 (12345)) (by decide +kernel)) dX0_spanTried_78 ?_
          refine lv_ladd hx hb dX0_spanTried_81 ?_
          refine lv_ldc2 (v := 2147483647) hx hb hown (hts (.constantLong RX0 106 (2147483647)) (by decide +kernel)) dX0_spanTried_82 ?_
          refine lv_land hx hb dX0_spanTried_85 ?_
          refine lv_l2i (v := ((((((gI x40 3 h).toInt64) * (1103515245 : Int64)) + (12345 : Int64)) &&& (2147483647 : Int64)).toInt32)) hx hb dX0_spanTried_86 rfl ?_
          refine hp_0_3 hx hb hts hin_X0 hown kl_99 hI (isk_k k42) dX0_spanTried_87 (fun H locs hI => ?_)
          obtain ⟨x43, hx43, hf⟩ := bnd_b hf
          replace hx43 := Option.some.inj hx43
          rw [hx43] at hI
          have hk44 : gK x43 h = 1 := by rw [← hx43]; exact (gK_sI.trans (isk_k k42))
          refine lv_aload_n hx hb dX0_spanTried_90 rfl (lv_at hl 0 rfl) ?_
          refine hg_0_3 hx hb hts hin_X0 hown kl_99 hI hk44 dX0_spanTried_91 ?_
          refine lv_ldc (v := 65536) hx hb hown (hts (.constant RX0 108 (65536)) (by decide +kernel)) dX0_spanTried_94 ?_
          refine lv_idiv hx hb dX0_spanTried_96 (by decide) ?_
          refine lv_bipush (v := 100) hx hb dX0_spanTried_97 (by decide) ?_
          refine lv_irem hx hb dX0_spanTried_99 (by decide) ?_
          refine lv_iload hx hb dX0_spanTried_100 (lv_at hl 5 rfl) ?_
          refine lv_icmp_ge (tgt := 119) hx hb dX0_spanTried_102 (by decide) (fun c45 => ?_) (fun c45 => ?_)
          · replace hf := ifp c45 hf
            refine lv_iinc (v := (v7 + 1)) (lv' := [(7, .int (v7 + 1)), (0, .ref h), (1, va_rf v1), (2, va_rf v2), (3, va_rf v3), (4, .int v4), (5, .int v5), (6, va_rf v6)]) hx hb dX0_spanTried_119 hl (k := 7) rfl (ci_ _ (by decide)) (by decide) (by first | rfl | (simp [cat_rf, cat_i, cat_l, cat_r]; done) | (simp [cat_rf, cat_i, cat_l, cat_r]; decide)) (fun ls hl => ?_)
            refine lv_goto (tgt := 20) hx hb dX0_spanTried_122 (by decide) ?_
            replace hf := cont_b hK1 hf
            exact ih (v7 + 1) x43 H locs ls hI (lv_sub hl [1, 2, 3, 4, 5, 6, 7, 0] rfl) hf
          · replace hf := ifn c45 hf
            refine hq_aload hx hb dX0_spanTried_105 (lv_at hl 6 rfl) ?_
            refine lv_iconst (v := 0) hx hb dX0_spanTried_107 (by decide) ?_
            refine lv_iconst (v := 1) hx hb dX0_spanTried_108 (by decide) ?_
            refine W.eq (g2 := F0 m 109 ls [.int (1 : Int32), .int (0 : Int32), .ref b18]) (by rw [hq20]; rfl) ?_
            obtain ⟨k46, hf⟩ := chk_b hf
            obtain ⟨x47, hc48, hf⟩ := bnd_b hf
            refine hcall_Vv (ex2 := True) (As := [.int (0 : Int32), .int (1 : Int32)]) (rest := []) (n := 2) (by rw [(isk_k k46)]; decide) (hC_10 (isk_k k46)) rfl ⟨hx, hb, hml, hown, hts⟩ (ch_X9_take l D cy b18 (0 : Int32) (1 : Int32) x43 x47 hc48) (cwV 2 hts gX0_spanTried_X9_take rfl rfl rfl ⟨rfl, nd_X9_take⟩ ⟨Nat.le_of_ble_eq_true rfl, Nat.le_of_ble_eq_true rfl⟩) hI (fun h => h.elim) (fun _ => ⟨trivial, trivial⟩) rfl hl.1 (Nat.le_of_ble_eq_true rfl) dX0_spanTried_109 ⟨Nat.le_of_ble_eq_true rfl, Nat.le_of_ble_eq_true rfl⟩ (fun H locs hI => ?_)
            refine hq_aload hx hb dX0_spanTried_112 (lv_at hl 6 rfl) ?_
            refine lv_iconst (v := 1) hx hb dX0_spanTried_114 (by decide) ?_
            refine lv_iconst (v := 1) hx hb dX0_spanTried_115 (by decide) ?_
            refine W.eq (g2 := F0 m 116 ls [.int (1 : Int32), .int (1 : Int32), .ref b18]) (by rw [hq20]; rfl) ?_
            obtain ⟨k49, hf⟩ := chk_b hf
            obtain ⟨x50, hc51, hf⟩ := bnd_b hf
            refine hcall_Vv (ex2 := True) (As := [.int (1 : Int32), .int (1 : Int32)]) (rest := []) (n := 2) (by rw [(isk_k k49)]; decide) (hC_10 (isk_k k49)) rfl ⟨hx, hb, hml, hown, hts⟩ (ch_X9_take l D cy b18 (1 : Int32) (1 : Int32) x47 x50 hc51) (cwV 2 hts gX0_spanTried_X9_take rfl rfl rfl ⟨rfl, nd_X9_take⟩ ⟨Nat.le_of_ble_eq_true rfl, Nat.le_of_ble_eq_true rfl⟩) hI (fun h => h.elim) (fun _ => ⟨trivial, trivial⟩) rfl hl.1 (Nat.le_of_ble_eq_true rfl) dX0_spanTried_116 ⟨Nat.le_of_ble_eq_true rfl, Nat.le_of_ble_eq_true rfl⟩ (fun H locs hI => ?_)
            refine lv_iinc (v := (v7 + 1)) (lv' := [(7, .int (v7 + 1)), (0, .ref h), (1, va_rf v1), (2, va_rf v2), (3, va_rf v3), (4, .int v4), (5, .int v5), (6, va_rf v6)]) hx hb dX0_spanTried_119 hl (k := 7) rfl (ci_ _ (by decide)) (by decide) (by first | rfl | (simp [cat_rf, cat_i, cat_l, cat_r]; done) | (simp [cat_rf, cat_i, cat_l, cat_r]; decide)) (fun ls hl => ?_)
            refine lv_goto (tgt := 20) hx hb dX0_spanTried_122 (by decide) ?_
            replace hf := cont_b hK1 hf
            exact ih (v7 + 1) x50 H locs ls hI (lv_sub hl [1, 2, 3, 4, 5, 6, 7, 0] rfl) hf
  unfold fh_X0_spanTried at hf
  refine lv_aload_n hx hb dX0_spanTried_0 rfl (lv_at hl 0 rfl) ?_
  obtain ⟨k1, hf⟩ := chk_b hf
  refine hg_0_6 hx hb hts hin_X0 hown kl_20 hI (isk_k k1) dX0_spanTried_1 ?_
  refine lv_iconst (v := 0) hx hb dX0_spanTried_4 (by decide) ?_
  obtain ⟨b2, hd3, hf⟩ := bnd_b hf
  obtain ⟨hq4, hk5⟩ := dr_e hd3
  refine W.eq (g2 := F0 m 5 ls [.int (0 : Int32), .ref b2]) (by rw [hq4]; rfl) ?_
  obtain ⟨k6, hf⟩ := chk_b hf
  refine hl_Span hx hb hI hk5 k6 dX0_spanTried_5 ?_
  refine hq_astore (lv' := [(6, va_rf (gQ s0 b2 (0 : Int32).toNatClampNeg)), (0, .ref h), (1, va_rf a1), (2, va_rf a2), (3, va_rf a3), (4, .int a4), (5, .int a5)]) hx hb dX0_spanTried_6 hl (by decide) (by first | rfl | (simp [cat_rf, cat_i, cat_l, cat_r]; done) | (simp [cat_rf, cat_i, cat_l, cat_r]; decide)) (fun ls hl => ?_)
  refine hq_aload hx hb dX0_spanTried_8 (lv_at hl 0 rfl) ?_
  refine hq_aload_n hx hb dX0_spanTried_10 rfl (lv_at hl 2 rfl) ?_
  obtain ⟨b7, hd8, hf⟩ := bnd_b hf
  obtain ⟨hq9, hk10⟩ := dr_e hd8
  refine W.eq (g2 := F0 m 11 ls [.ref b7, va_rf (gQ s0 b2 (0 : Int32).toNatClampNeg)]) (by rw [hq9]; rfl) ?_
  refine hg_8_0 hx hb hts hin_X8 hown kl_72 hI hk10 dX0_spanTried_11 ?_
  obtain ⟨b11, hd12, hf⟩ := bnd_b hf
  obtain ⟨hq13, hk14⟩ := dr_e hd12
  refine W.eq (g2 := F0 m 14 ls [va_rf (gR s0 800 b7), .ref b11]) (by rw [hq13]; rfl) ?_
  obtain ⟨x15, hc16, hf⟩ := bnd_b hf
  refine hcall_Vv (ex2 := True) (As := [va_rf (gR s0 800 b7)]) (rest := []) (n := 1) (by rw [hk14]; decide) (hC_10 hk14) rfl ⟨hx, hb, hml, hown, hts⟩ (ch_X9_become l D cy b11 (gR s0 800 b7) s0 x15 hc16) (cwV 1 hts gX0_spanTried_X9_become rfl rfl rfl ⟨rfl, nd_X9_become⟩ ⟨Nat.le_of_ble_eq_true rfl, Nat.le_of_ble_eq_true rfl⟩) hI (fun h => h.elim) (fun _ => ⟨trivial, trivial⟩) rfl hl.1 (Nat.le_of_ble_eq_true rfl) dX0_spanTried_14 ⟨Nat.le_of_ble_eq_true rfl, Nat.le_of_ble_eq_true rfl⟩ (fun H locs hI => ?_)
  refine lv_iconst (v := 0) hx hb dX0_spanTried_17 (by decide) ?_
  refine lv_istore (lv' := [(7, .int (0 : Int32)), (6, va_rf (gQ s0 b2 (0 : Int32).toNatClampNeg)), (0, .ref h), (1, va_rf a1), (2, va_rf a2), (3, va_rf a3), (4, .int a4), (5, .int a5)]) hx hb dX0_spanTried_18 hl (by decide) (by first | rfl | (simp [cat_rf, cat_i, cat_l, cat_r]; done) | (simp [cat_rf, cat_i, cat_l, cat_r]; decide)) (fun ls hl => ?_)
  exact L_20 a1 a2 a3 a4 a5 (gQ s0 b2 (0 : Int32).toNatClampNeg) mFuel (0 : Int32) x15 H locs ls hI (lv_sub hl [2, 3, 4, 5, 6, 7, 1, 0] rfl) (asc_b hf)

theorem nd_X0_tellRow : yX0_tellRow.cls ≠ "java/lang/invoke/MethodHandle" ∧ yX0_tellRow.cls ≠ "java/lang/invoke/VarHandle" ∧ (parseMethodDescriptor yX0_tellRow.desc).map (fun d => d.parameters.length) = some 4 := by decide +kernel
set_option maxHeartbeats 4000000 in
set_option maxRecDepth 100000 in
theorem ch_X0_tellRow (l : Launch) (D : va_G) (cy : Nat → ClassId) (h : Nat) (a1 : Int32) (a2 : Int32) (a3 : Int32) (a4 : Int32) (s0 : HSt) (out : HSt) (hf : fh_X0_tellRow h a1 a2 a3 a4 s0 = some out) : CHv l D cy yX0_tellRow wsX0_tellRow { frames := 1, cells := 0, slots := 0, locals := 40 } 0 0 False True [.ref h, .int a1, .int a2, .int a3, .int a4] s0 out := by
  refine Met.ofW (cc := cX0_tellRow) (maxL := 7) (ret := none) (by decide) rfl ?_
  intro p e s m args below meth c s₁ B hml hv
  obtain ⟨rfl, hP, hK, hD0, hkx, hsz, hal⟩ := hv
  have hx := B.exec
  have hb := B.bytes
  have hr := B.returns
  have hts := atoms_spec (ws := wsX0_tellRow) B.pre
  have hown : s.vm.findClass RX0 = some m.cls := findClass_of_methodNamed B.named
  have hlocks := B.notSynchronized
  have hI : HI D cy s s0 s0 s.heap [] 0 False True := ⟨hK, hP, hD0.weaken (fun k q hk _ => Or.inl (pl_mem hk)), va_S.rf, hsz.1, hkx, ⟨hsz, hal⟩, fun _ => rfl, Nat.le_refl _⟩
  have hin_X0 : ∀ w ∈ u_ws RX0 TX0 11, w ∈ wsX0_tellRow := fun w hw => List.mem_cons_of_mem _ (List.mem_append_right _ hw)
  have kl_24 : Cond.fieldLink RX0 24 "HalfBridge$Foresight" "row" "[I" ∈ wsX0_tellRow := by decide +kernel
  have kl_84 : Cond.fieldLink RX0 84 "HalfBridge$Foresight" "rowSide" "I" ∈ wsX0_tellRow := by decide +kernel
  have kl_92 : Cond.fieldLink RX0 92 "HalfBridge$Foresight" "rowDays" "I" ∈ wsX0_tellRow := by decide +kernel
  have hl := lv_entry ([.ref h, .int a1, .int a2, .int a3, .int a4]) (n := 7) (Nat.le_of_ble_eq_true rfl)
  rw [lg_entry_eq]
  generalize (lg_sl ([.ref h, .int a1, .int a2, .int a3, .int a4]) ++ List.replicate (7 - (lg_sl ([.ref h, .int a1, .int a2, .int a3, .int a4])).length) Slot.unset).toArray = ls at hl ⊢
  have hl : lv_has ls 7 [(0, .ref h), (1, .int a1), (2, .int a2), (3, .int a3), (4, .int a4)] := hl
  obtain ⟨K0, hK0, hf⟩ := top_e hf
  have B_61 : ∀   (st : HSt) (H : Heap) (locs : List Loc) (ls : Array Slot), HI D cy s s0 st H locs 0 False True → lv_has ls 7 [] → (fh_X0_tellRow_j61 h st).bind K0 = some out → W p l e (headSpec wsX0_tellRow { frames := 1, cells := 0, slots := 0, locals := 40 }).room s m (([.ref h, .int a1, .int a2, .int a3, .int a4] : List Value).toArray) below meth c H locs 0 0 (MQ below (HQv D cy s0 0 True out) ([.ref h, .int a1, .int a2, .int a3, .int a4] : List Value).toArray s 0 0 (hF s0)) (F0 m 61 ls []) := by
    intro st H locs ls hI hl hf
    unfold fh_X0_tellRow_j61 at hf
    exact hret_v hx hb hr hlocks hI (by decide) (by decide) (fun _ => ⟨trivial, rfl⟩) (ret_e hK0 hf) dX0_tellRow_61
  have L_24 : ∀ (v4 : Int32) (n : Nat) (v5 : Int32) (v6 : Int32) (st : HSt) (H : Heap) (locs : List Loc) (ls : Array Slot), HI D cy s s0 st H locs 0 False True → lv_has ls 7 [(0, .ref h), (4, .int v4), (5, .int v5), (6, .int v6)] → (iter (fun x : (Int32 × Int32 × HSt) => fh_X0_tellRow_s24 h v4 x.1 x.2.1 x.2.2) n (v5, v6, st)).bind (fun x => ((Sum.elim (fun o : HSt => (some o : Option (HSt))) (fun x : (Int32 × Int32 × HSt) => fh_X0_tellRow_j61 h x.2.2)) x).bind K0) = some out → W p l e (headSpec wsX0_tellRow { frames := 1, cells := 0, slots := 0, locals := 40 }).room s m (([.ref h, .int a1, .int a2, .int a3, .int a4] : List Value).toArray) below meth c H locs 0 0 (MQ below (HQv D cy s0 0 True out) ([.ref h, .int a1, .int a2, .int a3, .int a4] : List Value).toArray s 0 0 (hF s0)) (F0 m 24 ls []) := by
    intro v4 n
    induction n with
    | zero => intro v5 v6 st H locs ls hI hl hf; exact (iter_0 hf).elim
    | succ n ih =>
      intro v5 v6 st H locs ls hI hl hf
      obtain ⟨K1, hK1, hf⟩ := iter_e hf
      replace hf : (fh_X0_tellRow_s24 h v4 v5 v6 st).bind K1 = some out := hf
      unfold fh_X0_tellRow_s24 at hf
      refine lv_iload hx hb dX0_tellRow_24 (lv_at hl 3 rfl) ?_
      refine lv_aload_n hx hb dX0_tellRow_26 rfl (lv_at hl 0 rfl) ?_
      obtain ⟨k9, hf⟩ := chk_b hf
      refine hg_0_9 hx hb hts hin_X0 hown kl_92 hI (isk_k k9) dX0_tellRow_27 ?_
      refine lv_icmp_ge (tgt := 61) hx hb dX0_tellRow_30 (by decide) (fun c10 => ?_) (fun c10 => ?_)
      · replace hf := ifp c10 hf
        replace hf := exit_b hK1 hf
        exact B_61  st H locs ls hI (lv_sub hl [] rfl) hf
      · replace hf := ifn c10 hf
        refine lv_aload_n hx hb dX0_tellRow_33 rfl (lv_at hl 0 rfl) ?_
        refine hg_0_7 hx hb hts hin_X0 hown kl_24 hI (isk_k k9) dX0_tellRow_34 ?_
        refine lv_iload hx hb dX0_tellRow_37 (lv_at hl 3 rfl) ?_
        refine lv_iload hx hb dX0_tellRow_39 (lv_at hl 2 rfl) ?_
        refine lv_iconst (v := 3) hx hb dX0_tellRow_41 (by decide) ?_
        refine lv_irem hx hb dX0_tellRow_42 (by decide) ?_
        refine lv_iconst (v := 1) hx hb dX0_tellRow_43 (by decide) ?_
        refine lv_isub hx hb dX0_tellRow_44 ?_
        refine lv_iload hx hb dX0_tellRow_45 (lv_at hl 1 rfl) ?_
        refine lv_imul hx hb dX0_tellRow_47 ?_
        obtain ⟨b11, hd12, hf⟩ := bnd_b hf
        obtain ⟨hq13, hk14⟩ := dr_e hd12
        refine W.eq (g2 := F0 m 48 ls [.int (((v5 - v5 / (3 : Int32) * (3 : Int32)) - (1 : Int32)) * v4), .int v6, .ref b11]) (by rw [hq13]; rfl) ?_
        obtain ⟨k15, hf⟩ := chk_b hf
        refine hs_I hx hb hI hk14 k15 dX0_tellRow_48 (fun H locs hI => ?_)
        obtain ⟨x16, hx16, hf⟩ := bnd_b hf
        replace hx16 := Option.some.inj hx16
        rw [hx16] at hI
        have hk17 : gK x16 h = 1 := by rw [← hx16]; exact (gK_sA.trans (isk_k k9))
        have hk18 : gK x16 b11 = 22 := by rw [← hx16]; exact (gK_sA.trans hk14)
        refine lv_iload hx hb dX0_tellRow_49 (lv_at hl 2 rfl) ?_
        refine lv_iconst (v := 3) hx hb dX0_tellRow_51 (by decide) ?_
        refine lv_idiv hx hb dX0_tellRow_52 (by decide) ?_
        refine lv_istore (lv' := [(5, .int (v5 / (3 : Int32))), (0, .ref h), (4, .int v4), (6, .int v6)]) hx hb dX0_tellRow_53 hl (by decide) rfl (fun ls hl => ?_)
        refine lv_iinc (v := (v6 + 1)) (lv' := [(6, .int (v6 + 1)), (5, .int (v5 / (3 : Int32))), (0, .ref h), (4, .int v4)]) hx hb dX0_tellRow_55 hl (k := 3) rfl (ci_ _ (by decide)) (by decide) rfl (fun ls hl => ?_)
        refine lv_goto (tgt := 24) hx hb dX0_tellRow_58 (by decide) ?_
        replace hf := cont_b hK1 hf
        exact ih (v5 / (3 : Int32)) (v6 + 1) x16 H locs ls hI (lv_sub hl [2, 3, 1, 0] rfl) hf
  unfold fh_X0_tellRow at hf
  refine lv_aload_n hx hb dX0_tellRow_0 rfl (lv_at hl 0 rfl) ?_
  refine lv_iload_n hx hb dX0_tellRow_1 rfl (lv_at hl 1 rfl) ?_
  obtain ⟨k1, hf⟩ := chk_b hf
  refine hp_0_8 hx hb hts hin_X0 hown kl_84 hI (isk_k k1) dX0_tellRow_2 (fun H locs hI => ?_)
  refine lv_aload_n hx hb dX0_tellRow_5 rfl (lv_at hl 0 rfl) ?_
  refine lv_iload_n hx hb dX0_tellRow_6 rfl (lv_at hl 3 rfl) ?_
  refine lv_aload_n hx hb dX0_tellRow_7 rfl (lv_at hl 0 rfl) ?_
  refine hg_0_7 hx hb hts hin_X0 hown kl_24 hI (gK_sI.trans (isk_k k1)) dX0_tellRow_8 ?_
  obtain ⟨b2, hd3, hf⟩ := bnd_b hf
  obtain ⟨hq4, hk5⟩ := dr_e hd3
  refine W.eq (g2 := F0 m 11 ls [.ref b2, .int a3, .ref h]) (by rw [hq4]; rfl) ?_
  refine ha_22 hx hb hI (gK_sI.trans hk5) dX0_tellRow_11 ?_
  refine va_mmin hx hb (hml.trans hl.1.symm) hown (hts (.methodLink RX0 87 Lib.Math.min.name) (by decide +kernel)) (hts (.static Lib.Math.min.name) (by decide +kernel)) (hts (.initialized "java/lang/Math") (by decide +kernel)) (hts (.code Lib.Math.min.name Lib.Math.min.code 2 (some .int)) (by decide +kernel)) (Nat.le_of_ble_eq_true rfl) (Nat.le_of_ble_eq_true rfl) (Nat.le_of_ble_eq_true rfl) (Nat.le_of_ble_eq_true rfl) dX0_tellRow_12 ?_
  refine hp_0_9 hx hb hts hin_X0 hown kl_92 hI (gK_sI.trans (isk_k k1)) dX0_tellRow_15 (fun H locs hI => ?_)
  obtain ⟨x6, hx6, hf⟩ := bnd_b hf
  replace hx6 := Option.some.inj hx6
  rw [hx6] at hI
  have hk7 : gK x6 h = 1 := by rw [← hx6]; exact (gK_sI.trans (gK_sI.trans (isk_k k1)))
  have hk8 : gK x6 b2 = 22 := by rw [← hx6]; exact (gK_sI.trans (gK_sI.trans hk5))
  refine lv_iload_n hx hb dX0_tellRow_18 rfl (lv_at hl 2 rfl) ?_
  refine lv_istore (lv' := [(5, .int a2), (0, .ref h), (1, .int a1), (2, .int a2), (3, .int a3), (4, .int a4)]) hx hb dX0_tellRow_19 hl (by decide) rfl (fun ls hl => ?_)
  refine lv_iconst (v := 0) hx hb dX0_tellRow_21 (by decide) ?_
  refine lv_istore (lv' := [(6, .int (0 : Int32)), (5, .int a2), (0, .ref h), (1, .int a1), (2, .int a2), (3, .int a3), (4, .int a4)]) hx hb dX0_tellRow_22 hl (by decide) rfl (fun ls hl => ?_)
  exact L_24 a4 mFuel a2 (0 : Int32) x6 H locs ls hI (lv_sub hl [2, 6, 1, 0] rfl) (asc_b hf)

theorem nd_X1_beginBy : yX1_beginBy.cls ≠ "java/lang/invoke/MethodHandle" ∧ yX1_beginBy.cls ≠ "java/lang/invoke/VarHandle" ∧ (parseMethodDescriptor yX1_beginBy.desc).map (fun d => d.parameters.length) = some 3 := by decide +kernel
set_option maxHeartbeats 4000000 in
set_option maxRecDepth 100000 in
theorem ch_X1_beginBy (l : Launch) (D : va_G) (cy : Nat → ClassId) (h : Nat) (a1 : Option Nat) (a2 : Int32) (a3 : Option Nat) (s0 : HSt) (out : HSt) (hf : fh_X1_beginBy h a1 a2 a3 s0 = some out) : CHv l D cy yX1_beginBy wsX1_beginBy { frames := 2, cells := 0, slots := 0, locals := 82 } 0 0 False True [.ref h, va_rf a1, .int a2, va_rf a3] s0 out := by
  refine Met.ofW (cc := cX1_beginBy) (maxL := 4) (ret := none) (by decide) rfl ?_
  intro p e s m args below meth c s₁ B hml hv
  obtain ⟨rfl, hP, hK, hD0, hkx, hsz, hal⟩ := hv
  have hx := B.exec
  have hb := B.bytes
  have hr := B.returns
  have hts := atoms_spec (ws := wsX1_beginBy) B.pre
  have hown : s.vm.findClass RX1 = some m.cls := findClass_of_methodNamed B.named
  have hlocks := B.notSynchronized
  have hI : HI D cy s s0 s0 s.heap [] 0 False True := ⟨hK, hP, hD0.weaken (fun k q hk _ => Or.inl (pl_mem hk)), va_S.rf, hsz.1, hkx, ⟨hsz, hal⟩, fun _ => rfl, Nat.le_refl _⟩
  have hin_X1 : ∀ w ∈ u_ws RX1 TX1 12, w ∈ wsX1_beginBy := fun w hw => List.mem_cons_of_mem _ (List.mem_append_left _ (List.mem_append_left _ (List.mem_append_right _ hw)))
  have hin_X8 : ∀ w ∈ u_ws RX8 TX8 5, w ∈ wsX1_beginBy := fun w hw => List.mem_cons_of_mem _ (List.mem_append_left _ (List.mem_append_right _ hw))
  have kl_22 : Cond.fieldLink RX1 22 "HalfBridge$FreeHand" "spares" "[LHalfBridge$Span;" ∈ wsX1_beginBy := by decide +kernel
  have kl_45 : Cond.fieldLink RX1 45 "HalfBridge$FreeHand" "told" "LHalfBridge$Site;" ∈ wsX1_beginBy := by decide +kernel
  have kl_49 : Cond.fieldLink RX1 49 "HalfBridge$FreeHand" "side" "I" ∈ wsX1_beginBy := by decide +kernel
  have kl_52 : Cond.fieldLink RX1 52 "HalfBridge$FreeHand" "rule" "LHalfBridge$Rule;" ∈ wsX1_beginBy := by decide +kernel
  have kl_56 : Cond.fieldLink RX1 56 "HalfBridge$FreeHand" "found" "Z" ∈ wsX1_beginBy := by decide +kernel
  have kl_59 : Cond.fieldLink RX1 59 "HalfBridge$FreeHand" "best" "I" ∈ wsX1_beginBy := by decide +kernel
  have kl_62 : Cond.fieldLink RX1 62 "HalfBridge$Site" "span" "LHalfBridge$Span;" ∈ wsX1_beginBy := by decide +kernel
  have hl := lv_entry ([.ref h, va_rf a1, .int a2, va_rf a3]) (n := 4) (by simp [lg_sl, cat_rf, cat_i, cat_l, cat_r])
  rw [lg_entry_eq]
  generalize (lg_sl ([.ref h, va_rf a1, .int a2, va_rf a3]) ++ List.replicate (4 - (lg_sl ([.ref h, va_rf a1, .int a2, va_rf a3])).length) Slot.unset).toArray = ls at hl ⊢
  have hl : lv_has ls 4 [(0, .ref h), (1, va_rf a1), (2, .int a2), (3, va_rf a3)] := (by simpa [lv_args, cat_rf, cat_i, cat_l, cat_r] using hl)
  obtain ⟨K0, hK0, hf⟩ := top_e hf
  unfold fh_X1_beginBy at hf
  refine lv_aload_n hx hb dX1_beginBy_0 rfl (lv_at hl 0 rfl) ?_
  refine hq_aload_n hx hb dX1_beginBy_1 rfl (lv_at hl 1 rfl) ?_
  obtain ⟨k1, hf⟩ := chk_b hf
  refine hp_1_6 (x := a1) hx hb hts hin_X1 hown kl_45 hI (isk_k k1) dX1_beginBy_2 (fun H locs hI => ?_)
  refine lv_aload_n hx hb dX1_beginBy_5 rfl (lv_at hl 0 rfl) ?_
  refine lv_iload_n hx hb dX1_beginBy_6 rfl (lv_at hl 2 rfl) ?_
  refine hp_1_8 hx hb hts hin_X1 hown kl_49 hI (gK_sR.trans (isk_k k1)) dX1_beginBy_7 (fun H locs hI => ?_)
  refine lv_aload_n hx hb dX1_beginBy_10 rfl (lv_at hl 0 rfl) ?_
  refine hq_aload_n hx hb dX1_beginBy_11 rfl (lv_at hl 3 rfl) ?_
  refine hp_1_7 (x := a3) hx hb hts hin_X1 hown kl_52 hI (gK_sI.trans (gK_sR.trans (isk_k k1))) dX1_beginBy_12 (fun H locs hI => ?_)
  refine lv_aload_n hx hb dX1_beginBy_15 rfl (lv_at hl 0 rfl) ?_
  refine lv_iconst (v := 0) hx hb dX1_beginBy_16 (by decide) ?_
  refine hp_1_0 hx hb hts hin_X1 hown kl_56 hI (gK_sR.trans (gK_sI.trans (gK_sR.trans (isk_k k1)))) (by decide) dX1_beginBy_17 (fun H locs hI => ?_)
  refine lv_aload_n hx hb dX1_beginBy_20 rfl (lv_at hl 0 rfl) ?_
  refine lv_iconst (v := 0) hx hb dX1_beginBy_21 (by decide) ?_
  refine hp_1_1 hx hb hts hin_X1 hown kl_59 hI (gK_sI.trans (gK_sR.trans (gK_sI.trans (gK_sR.trans (isk_k k1))))) dX1_beginBy_22 (fun H locs hI => ?_)
  obtain ⟨x2, hx2, hf⟩ := bnd_b hf
  replace hx2 := Option.some.inj hx2
  rw [hx2] at hI
  have hk3 : gK x2 h = 2 := by rw [← hx2]; exact (gK_sI.trans (gK_sI.trans (gK_sR.trans (gK_sI.trans (gK_sR.trans (isk_k k1))))))
  refine lv_aload_n hx hb dX1_beginBy_25 rfl (lv_at hl 0 rfl) ?_
  refine hg_1_3 hx hb hts hin_X1 hown kl_22 hI hk3 dX1_beginBy_26 ?_
  refine lv_iconst (v := 0) hx hb dX1_beginBy_29 (by decide) ?_
  obtain ⟨b4, hd5, hf⟩ := bnd_b hf
  obtain ⟨hq6, hk7⟩ := dr_e hd5
  refine W.eq (g2 := F0 m 30 ls [.int (0 : Int32), .ref b4]) (by rw [hq6]; rfl) ?_
  obtain ⟨k8, hf⟩ := chk_b hf
  refine hl_Span hx hb hI hk7 k8 dX1_beginBy_30 ?_
  refine hq_aload_n hx hb dX1_beginBy_31 rfl (lv_at hl 1 rfl) ?_
  obtain ⟨b9, hd10, hf⟩ := bnd_b hf
  obtain ⟨hq11, hk12⟩ := dr_e hd10
  refine W.eq (g2 := F0 m 32 ls [.ref b9, va_rf (gQ x2 b4 (0 : Int32).toNatClampNeg)]) (by rw [hq11]; rfl) ?_
  refine hg_8_0 hx hb hts hin_X8 hown kl_62 hI hk12 dX1_beginBy_32 ?_
  obtain ⟨b13, hd14, hf⟩ := bnd_b hf
  obtain ⟨hq15, hk16⟩ := dr_e hd14
  refine W.eq (g2 := F0 m 35 ls [va_rf (gR x2 800 b9), .ref b13]) (by rw [hq15]; rfl) ?_
  obtain ⟨x17, hc18, hf⟩ := bnd_b hf
  refine hcall_Vv (ex2 := True) (As := [va_rf (gR x2 800 b9)]) (rest := []) (n := 1) (by rw [hk16]; decide) (hC_10 hk16) rfl ⟨hx, hb, hml, hown, hts⟩ (ch_X9_become l D cy b13 (gR x2 800 b9) x2 x17 hc18) (cwV 1 hts gX1_beginBy_X9_become rfl rfl rfl ⟨rfl, nd_X9_become⟩ ⟨Nat.le_of_ble_eq_true rfl, Nat.le_of_ble_eq_true rfl⟩) hI (fun h => h.elim) (fun _ => ⟨trivial, trivial⟩) rfl hl.1 (Nat.le_of_ble_eq_true rfl) dX1_beginBy_35 ⟨Nat.le_of_ble_eq_true rfl, Nat.le_of_ble_eq_true rfl⟩ (fun H locs hI => ?_)
  exact hret_v hx hb hr hlocks hI (by decide) (by decide) (fun _ => ⟨trivial, rfl⟩) (ret_e hK0 hf) dX1_beginBy_38

theorem nd_X1_bestTurnOn : yX1_bestTurnOn.cls ≠ "java/lang/invoke/MethodHandle" ∧ yX1_bestTurnOn.cls ≠ "java/lang/invoke/VarHandle" ∧ (parseMethodDescriptor yX1_bestTurnOn.desc).map (fun d => d.parameters.length) = some 1 := by decide +kernel
set_option maxHeartbeats 4000000 in
set_option maxRecDepth 100000 in
theorem ch_X1_bestTurnOn (l : Launch) (D : va_G) (cy : Nat → ClassId) (h : Nat) (a1 : Int32) (s0 : HSt) (out : HSt × Int32) (hf : fh_X1_bestTurnOn h a1 s0 = some out) : CHi l D cy yX1_bestTurnOn wsX1_bestTurnOn { frames := 0, cells := 0, slots := 0, locals := 0 } 0 0 False True [.ref h, .int a1] s0 out := by
  refine Met.ofW (cc := cX1_bestTurnOn) (maxL := 2) (ret := (some .int)) (by decide) rfl ?_
  intro p e s m args below meth c s₁ B hml hv
  obtain ⟨rfl, hP, hK, hD0, hkx, hsz, hal⟩ := hv
  have hx := B.exec
  have hb := B.bytes
  have hr := B.returns
  have hts := atoms_spec (ws := wsX1_bestTurnOn) B.pre
  have hown : s.vm.findClass RX1 = some m.cls := findClass_of_methodNamed B.named
  have hlocks := B.notSynchronized
  have hI : HI D cy s s0 s0 s.heap [] 0 False True := ⟨hK, hP, hD0.weaken (fun k q hk _ => Or.inl (pl_mem hk)), va_S.rf, hsz.1, hkx, ⟨hsz, hal⟩, fun _ => rfl, Nat.le_refl _⟩
  have hin_X1 : ∀ w ∈ u_ws RX1 TX1 12, w ∈ wsX1_bestTurnOn := fun w hw => List.mem_cons_of_mem _ (List.mem_append_right _ hw)
  have kl_15 : Cond.fieldLink RX1 15 "HalfBridge$FreeHand" "bestTurns" "[I" ∈ wsX1_bestTurnOn := by decide +kernel
  have hl := lv_entry ([.ref h, .int a1]) (n := 2) (Nat.le_of_ble_eq_true rfl)
  rw [lg_entry_eq]
  generalize (lg_sl ([.ref h, .int a1]) ++ List.replicate (2 - (lg_sl ([.ref h, .int a1])).length) Slot.unset).toArray = ls at hl ⊢
  have hl : lv_has ls 2 [(0, .ref h), (1, .int a1)] := hl
  obtain ⟨K0, hK0, hf⟩ := top_e hf
  unfold fh_X1_bestTurnOn at hf
  refine lv_iload_n hx hb dX1_bestTurnOn_0 rfl (lv_at hl 1 rfl) ?_
  refine lv_if_lt (tgt := 22) hx hb dX1_bestTurnOn_1 (by decide) (fun c1 => ?_) (fun c1 => ?_)
  · replace hf := ifp c1 hf
    refine lv_bipush (v := -100) hx hb dX1_bestTurnOn_22 (by decide) ?_
    exact hret_i hx hb hr hlocks hI (by decide) (by decide) (fun _ => ⟨trivial, rfl⟩) (ret_e hK0 hf) dX1_bestTurnOn_24
  · replace hf := ifn c1 hf
    refine lv_iload_n hx hb dX1_bestTurnOn_4 rfl (lv_at hl 1 rfl) ?_
    refine lv_aload_n hx hb dX1_bestTurnOn_5 rfl (lv_at hl 0 rfl) ?_
    obtain ⟨k2, hf⟩ := chk_b hf
    refine hg_1_5 hx hb hts hin_X1 hown kl_15 hI (isk_k k2) dX1_bestTurnOn_6 ?_
    obtain ⟨b3, hd4, hf⟩ := bnd_b hf
    obtain ⟨hq5, hk6⟩ := dr_e hd4
    refine W.eq (g2 := F0 m 9 ls [.ref b3, .int a1]) (by rw [hq5]; rfl) ?_
    refine ha_22 hx hb hI hk6 dX1_bestTurnOn_9 ?_
    refine lv_icmp_ge (tgt := 22) hx hb dX1_bestTurnOn_10 (by decide) (fun c7 => ?_) (fun c7 => ?_)
    · replace hf := ifp c7 hf
      refine lv_bipush (v := -100) hx hb dX1_bestTurnOn_22 (by decide) ?_
      exact hret_i hx hb hr hlocks hI (by decide) (by decide) (fun _ => ⟨trivial, rfl⟩) (ret_e hK0 hf) dX1_bestTurnOn_24
    · replace hf := ifn c7 hf
      refine lv_aload_n hx hb dX1_bestTurnOn_13 rfl (lv_at hl 0 rfl) ?_
      refine hg_1_5 hx hb hts hin_X1 hown kl_15 hI (isk_k k2) dX1_bestTurnOn_14 ?_
      refine lv_iload_n hx hb dX1_bestTurnOn_17 rfl (lv_at hl 1 rfl) ?_
      refine W.eq (g2 := F0 m 18 ls [.int a1, .ref b3]) (by rw [hq5]; rfl) ?_
      obtain ⟨k8, hf⟩ := chk_b hf
      refine hl_I hx hb hI hk6 k8 dX1_bestTurnOn_18 ?_
      refine lv_goto (tgt := 24) hx hb dX1_bestTurnOn_19 (by decide) ?_
      exact hret_i hx hb hr hlocks hI (by decide) (by decide) (fun _ => ⟨trivial, rfl⟩) (ret_e hK0 hf) dX1_bestTurnOn_24
