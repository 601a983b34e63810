theorem nd_X1_goDay : yX1_goDay.cls ≠ "java/lang/invoke/MethodHandle" ∧ yX1_goDay.cls ≠ "java/lang/invoke/VarHandle" ∧ (parseMethodDescriptor yX1_goDay.desc).map (fun d => d.parameters.length) = some 4 := by decide +kernel
set_option maxHeartbeats 4000000 in
set_option maxRecDepth 100000 in
theorem ch_X1_goDay (l : Launch) (D : va_G) (cy : Nat → ClassId) (h : Nat) (a1 : Option Nat) (a2 : Option Nat) (a3 : Int32) (a4 : Int32) (s0 : HSt) (out : HSt × Int32) (hf : fh_X1_goDay h a1 a2 a3 a4 s0 = some out) : CHi l D cy yX1_goDay wsX1_goDay { frames := 3, cells := 0, slots := 0, locals := 84 } 0 0 False True [.ref h, va_rf a1, va_rf a2, .int a3, .int a4] s0 out := by
  refine Met.ofW (cc := cX1_goDay) (maxL := 6) (ret := (some .boolean)) (by decide) rfl ?_
  intro p e s m args below meth c s₁ B hml hv
  obtain ⟨rfl, hP, hK, hD0, hkx, hsz, hal⟩ := hv
  have hx := B.exec
  have hb := B.bytes
  have hr := B.returns
  have hts := atoms_spec (ws := wsX1_goDay) B.pre
  have hown : s.vm.findClass RX1 = some m.cls := findClass_of_methodNamed B.named
  have hlocks := B.notSynchronized
  have hI : HI D cy s s0 s0 s.heap [] 0 False True := ⟨hK, hP, hD0.weaken (fun k q hk _ => Or.inl (pl_mem hk)), va_S.rf, hsz.1, hkx, ⟨hsz, hal⟩, fun _ => rfl, Nat.le_refl _⟩
  have hin_X1 : ∀ w ∈ u_ws RX1 TX1 12, w ∈ wsX1_goDay := fun w hw => List.mem_cons_of_mem _ (List.mem_append_left _ (List.mem_append_left _ (List.mem_append_right _ hw)))
  have kl_49 : Cond.fieldLink RX1 49 "HalfBridge$FreeHand" "side" "I" ∈ wsX1_goDay := by decide +kernel
  have hl := lv_entry ([.ref h, va_rf a1, va_rf a2, .int a3, .int a4]) (n := 6) (by simp [lg_sl, cat_rf, cat_i, cat_l, cat_r])
  rw [lg_entry_eq]
  generalize (lg_sl ([.ref h, va_rf a1, va_rf a2, .int a3, .int a4]) ++ List.replicate (6 - (lg_sl ([.ref h, va_rf a1, va_rf a2, .int a3, .int a4])).length) Slot.unset).toArray = ls at hl ⊢
  have hl : lv_has ls 6 [(0, .ref h), (1, va_rf a1), (2, va_rf a2), (3, .int a3), (4, .int a4)] := (by simpa [lv_args, cat_rf, cat_i, cat_l, cat_r] using hl)
  obtain ⟨K0, hK0, hf⟩ := top_e hf
  unfold fh_X1_goDay at hf
  refine hq_aload_n hx hb dX1_goDay_0 rfl (lv_at hl 2 rfl) ?_
  refine hq_aload_n hx hb dX1_goDay_1 rfl (lv_at hl 1 rfl) ?_
  obtain ⟨b1, hd2, hf⟩ := bnd_b hf
  obtain ⟨hq3, hk4⟩ := dr_e hd2
  refine W.eq (g2 := F0 m 2 ls [va_rf a1, .ref b1]) (by rw [hq3]; rfl) ?_
  obtain ⟨x5, hc6, hf⟩ := bnd_b hf
  refine hcall_Vv (ex2 := True) (As := [va_rf a1]) (rest := []) (n := 1) (by rw [hk4]; decide) (hC_10 hk4) rfl ⟨hx, hb, hml, hown, hts⟩ (ch_X9_become l D cy b1 a1 s0 x5 hc6) (cwV 1 hts gX1_goDay_X9_become rfl rfl rfl ⟨rfl, nd_X9_become⟩ ⟨Nat.le_of_ble_eq_true rfl, Nat.le_of_ble_eq_true rfl⟩) hI (fun h => h.elim) (fun _ => ⟨trivial, trivial⟩) rfl hl.1 (Nat.le_of_ble_eq_true rfl) dX1_goDay_2 ⟨Nat.le_of_ble_eq_true rfl, Nat.le_of_ble_eq_true rfl⟩ (fun H locs hI => ?_)
  refine lv_aload_n hx hb dX1_goDay_5 rfl (lv_at hl 0 rfl) ?_
  obtain ⟨k7, hf⟩ := chk_b hf
  refine hg_1_8 hx hb hts hin_X1 hown kl_49 hI (isk_k k7) dX1_goDay_6 ?_
  refine lv_if_ne (tgt := 31) hx hb dX1_goDay_9 (by decide) (fun c8 => ?_) (fun c8 => ?_)
  · replace hf := ifn c8 hf
    refine hq_aload_n hx hb dX1_goDay_31 rfl (lv_at hl 2 rfl) ?_
    refine lv_iconst (v := 0) hx hb dX1_goDay_32 (by decide) ?_
    refine lv_iload hx hb dX1_goDay_33 (lv_at hl 4 rfl) ?_
    refine W.eq (g2 := F0 m 35 ls [.int a4, .int (0 : Int32), .ref b1]) (by rw [hq3]; rfl) ?_
    obtain ⟨k9, hf⟩ := chk_b hf
    obtain ⟨x10, hc11, hf⟩ := bnd_b hf
    refine hcall_Vv (ex2 := True) (As := [.int (0 : Int32), .int a4]) (rest := []) (n := 2) (by rw [(isk_k k9)]; decide) (hC_10 (isk_k k9)) rfl ⟨hx, hb, hml, hown, hts⟩ (ch_X9_act l D cy b1 (0 : Int32) a4 x5 x10 hc11) (cwV 2 hts gX1_goDay_X9_act rfl rfl rfl ⟨rfl, nd_X9_act⟩ ⟨Nat.le_of_ble_eq_true rfl, Nat.le_of_ble_eq_true rfl⟩) hI (fun h => h.elim) (fun _ => ⟨trivial, trivial⟩) rfl hl.1 (Nat.le_of_ble_eq_true rfl) dX1_goDay_35 ⟨Nat.le_of_ble_eq_true rfl, Nat.le_of_ble_eq_true rfl⟩ (fun H locs hI => ?_)
    refine hq_aload_n hx hb dX1_goDay_38 rfl (lv_at hl 2 rfl) ?_
    refine lv_iconst (v := 1) hx hb dX1_goDay_39 (by decide) ?_
    refine lv_iload_n hx hb dX1_goDay_40 rfl (lv_at hl 3 rfl) ?_
    refine lv_iconst (v := 0) hx hb dX1_goDay_41 (by decide) ?_
    refine W.eq (g2 := F0 m 42 ls [.int (0 : Int32), .int a3, .int (1 : Int32), .ref b1]) (by rw [hq3]; rfl) ?_
    obtain ⟨k12, hf⟩ := chk_b hf
    obtain ⟨x13, hc14, hf⟩ := bnd_b hf
    refine hcall_Vi (ex2 := True) (As := [.int (1 : Int32), .int a3, .int (0 : Int32)]) (rest := []) (n := 3) (by rw [(isk_k k12)]; decide) (hC_10 (isk_k k12)) rfl ⟨hx, hb, hml, hown, hts⟩ (ch_X9_add l D cy b1 (1 : Int32) a3 (0 : Int32) x10 x13 hc14) (cwV 3 hts gX1_goDay_X9_add rfl rfl rfl ⟨rfl, nd_X9_add⟩ ⟨Nat.le_of_ble_eq_true rfl, Nat.le_of_ble_eq_true rfl⟩) hI (fun h => h.elim) (fun _ => ⟨trivial, trivial⟩) rfl hl.1 (Nat.le_of_ble_eq_true rfl) dX1_goDay_42 ⟨Nat.le_of_ble_eq_true rfl, Nat.le_of_ble_eq_true rfl⟩ (fun H locs hI => ?_)
    refine lv_istore (lv' := [(5, .int x13.2), (0, .ref h), (1, va_rf a1), (2, va_rf a2), (3, .int a3), (4, .int a4)]) hx hb dX1_goDay_45 hl (by decide) (by first | rfl | (simp [cat_rf, cat_i, cat_l, cat_r]; done) | (simp [cat_rf, cat_i, cat_l, cat_r]; decide)) (fun ls hl => ?_)
    refine hq_aload_n hx hb dX1_goDay_47 rfl (lv_at hl 3 rfl) ?_
    refine W.eq (g2 := F0 m 48 ls [.ref b1]) (by rw [hq3]; rfl) ?_
    obtain ⟨k15, hf⟩ := chk_b hf
    obtain ⟨x16, hc17, hf⟩ := bnd_b hf
    refine hcall_Vv (ex2 := True) (As := []) (rest := []) (n := 0) (by rw [(isk_k k15)]; decide) (hC_10 (isk_k k15)) rfl ⟨hx, hb, hml, hown, hts⟩ (ch_X9_endDay l D cy b1 x13.1 x16 hc17) (cwV 0 hts gX1_goDay_X9_endDay rfl rfl rfl ⟨rfl, nd_X9_endDay⟩ ⟨Nat.le_of_ble_eq_true rfl, Nat.le_of_ble_eq_true rfl⟩) hI (fun h => h.elim) (fun _ => ⟨trivial, trivial⟩) rfl hl.1 (Nat.le_of_ble_eq_true rfl) dX1_goDay_48 ⟨Nat.le_of_ble_eq_true rfl, Nat.le_of_ble_eq_true rfl⟩ (fun H locs hI => ?_)
    refine lv_iload hx hb dX1_goDay_51 (lv_at hl 0 rfl) ?_
    obtain ⟨k18, hf⟩ := chk_b hf
    exact hret_z hx hb hr (isb_nar k18) hlocks hI (by decide) (by decide) (fun _ => ⟨trivial, rfl⟩) (ret_e hK0 hf) dX1_goDay_53
  · replace hf := ifp c8 hf
    refine hq_aload_n hx hb dX1_goDay_12 rfl (lv_at hl 2 rfl) ?_
    refine lv_iconst (v := 0) hx hb dX1_goDay_13 (by decide) ?_
    refine lv_iload_n hx hb dX1_goDay_14 rfl (lv_at hl 3 rfl) ?_
    refine lv_iconst (v := 0) hx hb dX1_goDay_15 (by decide) ?_
    refine W.eq (g2 := F0 m 16 ls [.int (0 : Int32), .int a3, .int (0 : Int32), .ref b1]) (by rw [hq3]; rfl) ?_
    obtain ⟨k19, hf⟩ := chk_b hf
    obtain ⟨x20, hc21, hf⟩ := bnd_b hf
    refine hcall_Vi (ex2 := True) (As := [.int (0 : Int32), .int a3, .int (0 : Int32)]) (rest := []) (n := 3) (by rw [(isk_k k19)]; decide) (hC_10 (isk_k k19)) rfl ⟨hx, hb, hml, hown, hts⟩ (ch_X9_add l D cy b1 (0 : Int32) a3 (0 : Int32) x5 x20 hc21) (cwV 3 hts gX1_goDay_X9_add rfl rfl rfl ⟨rfl, nd_X9_add⟩ ⟨Nat.le_of_ble_eq_true rfl, Nat.le_of_ble_eq_true rfl⟩) hI (fun h => h.elim) (fun _ => ⟨trivial, trivial⟩) rfl hl.1 (Nat.le_of_ble_eq_true rfl) dX1_goDay_16 ⟨Nat.le_of_ble_eq_true rfl, Nat.le_of_ble_eq_true rfl⟩ (fun H locs hI => ?_)
    refine lv_istore (lv' := [(5, .int x20.2), (0, .ref h), (1, va_rf a1), (2, va_rf a2), (3, .int a3), (4, .int a4)]) hx hb dX1_goDay_19 hl (by decide) (by first | rfl | (simp [cat_rf, cat_i, cat_l, cat_r]; done) | (simp [cat_rf, cat_i, cat_l, cat_r]; decide)) (fun ls hl => ?_)
    refine hq_aload_n hx hb dX1_goDay_21 rfl (lv_at hl 3 rfl) ?_
    refine lv_iconst (v := 1) hx hb dX1_goDay_22 (by decide) ?_
    refine lv_iload hx hb dX1_goDay_23 (lv_at hl 5 rfl) ?_
    refine W.eq (g2 := F0 m 25 ls [.int a4, .int (1 : Int32), .ref b1]) (by rw [hq3]; rfl) ?_
    obtain ⟨k22, hf⟩ := chk_b hf
    obtain ⟨x23, hc24, hf⟩ := bnd_b hf
    refine hcall_Vv (ex2 := True) (As := [.int (1 : Int32), .int a4]) (rest := []) (n := 2) (by rw [(isk_k k22)]; decide) (hC_10 (isk_k k22)) rfl ⟨hx, hb, hml, hown, hts⟩ (ch_X9_act l D cy b1 (1 : Int32) a4 x20.1 x23 hc24) (cwV 2 hts gX1_goDay_X9_act rfl rfl rfl ⟨rfl, nd_X9_act⟩ ⟨Nat.le_of_ble_eq_true rfl, Nat.le_of_ble_eq_true rfl⟩) hI (fun h => h.elim) (fun _ => ⟨trivial, trivial⟩) rfl hl.1 (Nat.le_of_ble_eq_true rfl) dX1_goDay_25 ⟨Nat.le_of_ble_eq_true rfl, Nat.le_of_ble_eq_true rfl⟩ (fun H locs hI => ?_)
    refine lv_goto (tgt := 47) hx hb dX1_goDay_28 (by decide) ?_
    refine hq_aload_n hx hb dX1_goDay_47 rfl (lv_at hl 3 rfl) ?_
    refine W.eq (g2 := F0 m 48 ls [.ref b1]) (by rw [hq3]; rfl) ?_
    obtain ⟨k25, hf⟩ := chk_b hf
    obtain ⟨x26, hc27, hf⟩ := bnd_b hf
    refine hcall_Vv (ex2 := True) (As := []) (rest := []) (n := 0) (by rw [(isk_k k25)]; decide) (hC_10 (isk_k k25)) rfl ⟨hx, hb, hml, hown, hts⟩ (ch_X9_endDay l D cy b1 x23 x26 hc27) (cwV 0 hts gX1_goDay_X9_endDay rfl rfl rfl ⟨rfl, nd_X9_endDay⟩ ⟨Nat.le_of_ble_eq_true rfl, Nat.le_of_ble_eq_true rfl⟩) hI (fun h => h.elim) (fun _ => ⟨trivial, trivial⟩) rfl hl.1 (Nat.le_of_ble_eq_true rfl) dX1_goDay_48 ⟨Nat.le_of_ble_eq_true rfl, Nat.le_of_ble_eq_true rfl⟩ (fun H locs hI => ?_)
    refine lv_iload hx hb dX1_goDay_51 (lv_at hl 0 rfl) ?_
    obtain ⟨k28, hf⟩ := chk_b hf
    exact hret_z hx hb hr (isb_nar k28) hlocks hI (by decide) (by decide) (fun _ => ⟨trivial, rfl⟩) (ret_e hK0 hf) dX1_goDay_53

theorem nd_X9_crookedness : yX9_crookedness.cls ≠ "java/lang/invoke/MethodHandle" ∧ yX9_crookedness.cls ≠ "java/lang/invoke/VarHandle" ∧ (parseMethodDescriptor yX9_crookedness.desc).map (fun d => d.parameters.length) = some 1 := by decide +kernel
set_option maxHeartbeats 4000000 in
set_option maxRecDepth 100000 in
theorem ch_X9_crookedness (l : Launch) (D : va_G) (cy : Nat → ClassId) (h : Nat) (a1 : Int32) (s0 : HSt) (out : HSt × Int32) (hf : fh_X9_crookedness h a1 s0 = some out) : CHi l D cy yX9_crookedness wsX9_crookedness { frames := 1, cells := 0, slots := 0, locals := 40 } 0 0 False True [.ref h, .int a1] s0 out := by
  refine Met.ofW (cc := cX9_crookedness) (maxL := 4) (ret := (some .int)) (by decide) rfl ?_
  intro p e s m args below meth c s₁ B hml hv
  obtain ⟨rfl, hP, hK, hD0, hkx, hsz, hal⟩ := hv
  have hx := B.exec
  have hb := B.bytes
  have hr := B.returns
  have hts := atoms_spec (ws := wsX9_crookedness) B.pre
  have hown : s.vm.findClass RX9 = some m.cls := findClass_of_methodNamed B.named
  have hlocks := B.notSynchronized
  have hI : HI D cy s s0 s0 s.heap [] 0 False True := ⟨hK, hP, hD0.weaken (fun k q hk _ => Or.inl (pl_mem hk)), va_S.rf, hsz.1, hkx, ⟨hsz, hal⟩, fun _ => rfl, Nat.le_refl _⟩
  have hin_X9 : ∀ w ∈ u_ws RX9 TX9 5, w ∈ wsX9_crookedness := fun w hw => List.mem_cons_of_mem _ (List.mem_append_left _ (List.mem_append_right _ hw))
  have kl_16 : Cond.fieldLink RX9 16 "HalfBridge$Span" "yards" "[I" ∈ wsX9_crookedness := by decide +kernel
  have hl := lv_entry ([.ref h, .int a1]) (n := 4) (Nat.le_of_ble_eq_true rfl)
  rw [lg_entry_eq]
  generalize (lg_sl ([.ref h, .int a1]) ++ List.replicate (4 - (lg_sl ([.ref h, .int a1])).length) Slot.unset).toArray = ls at hl ⊢
  have hl : lv_has ls 4 [(0, .ref h), (1, .int a1)] := hl
  obtain ⟨K0, hK0, hf⟩ := top_e hf
  have B_62 : ∀ (v2 : Int32)  (st : HSt) (H : Heap) (locs : List Loc) (ls : Array Slot), HI D cy s s0 st H locs 0 False True → lv_has ls 4 [(2, .int v2)] → (fh_X9_crookedness_j62 h v2 st).bind K0 = some out → W p l e (headSpec wsX9_crookedness { frames := 1, cells := 0, slots := 0, locals := 40 }).room s m (([.ref h, .int a1] : List Value).toArray) below meth c H locs 0 0 (MQ below (HQi D cy s0 0 True out) ([.ref h, .int a1] : List Value).toArray s 0 0 (hF s0)) (F0 m 62 ls []) := by
    intro v2 st H locs ls hI hl hf
    unfold fh_X9_crookedness_j62 at hf
    refine lv_iload_n hx hb dX9_crookedness_62 rfl (lv_at hl 0 rfl) ?_
    exact hret_i hx hb hr hlocks hI (by decide) (by decide) (fun _ => ⟨trivial, rfl⟩) (ret_e hK0 hf) dX9_crookedness_63
  have L_4 : ∀ (v1 : Int32) (n : Nat) (v2 : Int32) (v3 : Int32) (st : HSt) (H : Heap) (locs : List Loc) (ls : Array Slot), HI D cy s s0 st H locs 0 False True → lv_has ls 4 [(0, .ref h), (1, .int v1), (2, .int v2), (3, .int v3)] → (iter (fun x : (Int32 × Int32 × HSt) => fh_X9_crookedness_s4 h v1 x.1 x.2.1 x.2.2) n (v2, v3, st)).bind (fun x => ((Sum.elim (fun o : HSt × Int32 => (some o : Option (HSt × Int32))) (fun x : (Int32 × Int32 × HSt) => fh_X9_crookedness_j62 h x.1 x.2.2)) x).bind K0) = some out → W p l e (headSpec wsX9_crookedness { frames := 1, cells := 0, slots := 0, locals := 40 }).room s m (([.ref h, .int a1] : List Value).toArray) below meth c H locs 0 0 (MQ below (HQi D cy s0 0 True out) ([.ref h, .int a1] : List Value).toArray s 0 0 (hF s0)) (F0 m 4 ls []) := by
    intro v1 n
    induction n with
    | zero => intro v2 v3 st H locs ls hI hl hf; exact (iter_0 hf).elim
    | succ n ih =>
      intro v2 v3 st H locs ls hI hl hf
      obtain ⟨K1, hK1, hf⟩ := iter_e hf
      replace hf : (fh_X9_crookedness_s4 h v1 v2 v3 st).bind K1 = some out := hf
      unfold fh_X9_crookedness_s4 at hf
      refine lv_iload_n hx hb dX9_crookedness_4 rfl (lv_at hl 3 rfl) ?_
      refine lv_aload_n hx hb dX9_crookedness_5 rfl (lv_at hl 0 rfl) ?_
      obtain ⟨k1, hf⟩ := chk_b hf
      refine hg_9_2 hx hb hts hin_X9 hown kl_16 hI (isk_k k1) dX9_crookedness_6 ?_
      refine lv_iload_n hx hb dX9_crookedness_9 rfl (lv_at hl 1 rfl) ?_
      obtain ⟨b2, hd3, hf⟩ := bnd_b hf
      obtain ⟨hq4, hk5⟩ := dr_e hd3
      refine W.eq (g2 := F0 m 10 ls [.int v1, .ref b2, .int v3]) (by rw [hq4]; rfl) ?_
      obtain ⟨k6, hf⟩ := chk_b hf
      refine hl_I hx hb hI hk5 k6 dX9_crookedness_10 ?_
      refine lv_icmp_ge (tgt := 62) hx hb dX9_crookedness_11 (by decide) (fun c7 => ?_) (fun c7 => ?_)
      · replace hf := ifp c7 hf
        replace hf := exit_b hK1 hf
        exact B_62 v2 st H locs ls hI (lv_sub hl [2] rfl) hf
      · replace hf := ifn c7 hf
        refine lv_iload_n hx hb dX9_crookedness_14 rfl (lv_at hl 2 rfl) ?_
        refine lv_aload_n hx hb dX9_crookedness_15 rfl (lv_at hl 0 rfl) ?_
        refine lv_iload_n hx hb dX9_crookedness_16 rfl (lv_at hl 1 rfl) ?_
        refine lv_iload_n hx hb dX9_crookedness_17 rfl (lv_at hl 3 rfl) ?_
        obtain ⟨x8, hc9, hf⟩ := bnd_b hf
        refine hcall_Vi (ex2 := True) (As := [.int v1, .int v3]) (rest := [.int v2]) (n := 2) (by rw [(isk_k k1)]; decide) (hC_10 (isk_k k1)) rfl ⟨hx, hb, hml, hown, hts⟩ (ch_X9_lineAt l D cy h v1 v3 st x8 hc9) (cwV 2 hts gX9_crookedness_X9_lineAt rfl rfl rfl ⟨rfl, nd_X9_lineAt⟩ ⟨Nat.le_of_ble_eq_true rfl, Nat.le_of_ble_eq_true rfl⟩) hI (fun h => h.elim) (fun _ => ⟨trivial, trivial⟩) rfl hl.1 (Nat.le_of_ble_eq_true rfl) dX9_crookedness_18 ⟨Nat.le_of_ble_eq_true rfl, Nat.le_of_ble_eq_true rfl⟩ (fun H locs hI => ?_)
        refine lv_aload_n hx hb dX9_crookedness_21 rfl (lv_at hl 0 rfl) ?_
        refine lv_iload_n hx hb dX9_crookedness_22 rfl (lv_at hl 1 rfl) ?_
        refine lv_iload_n hx hb dX9_crookedness_23 rfl (lv_at hl 3 rfl) ?_
        refine lv_iconst (v := 1) hx hb dX9_crookedness_24 (by decide) ?_
        refine lv_isub hx hb dX9_crookedness_25 ?_
        obtain ⟨k10, hf⟩ := chk_b hf
        obtain ⟨x11, hc12, hf⟩ := bnd_b hf
        refine hcall_Vi (ex2 := True) (As := [.int v1, .int (v3 - (1 : Int32))]) (rest := [.int x8.2, .int v2]) (n := 2) (by rw [(isk_k k10)]; decide) (hC_10 (isk_k k10)) rfl ⟨hx, hb, hml, hown, hts⟩ (ch_X9_lineAt l D cy h v1 (v3 - (1 : Int32)) x8.1 x11 hc12) (cwV 2 hts gX9_crookedness_X9_lineAt rfl rfl rfl ⟨rfl, nd_X9_lineAt⟩ ⟨Nat.le_of_ble_eq_true rfl, Nat.le_of_ble_eq_true rfl⟩) hI (fun h => h.elim) (fun _ => ⟨trivial, trivial⟩) rfl hl.1 (Nat.le_of_ble_eq_true rfl) dX9_crookedness_26 ⟨Nat.le_of_ble_eq_true rfl, Nat.le_of_ble_eq_true rfl⟩ (fun H locs hI => ?_)
        refine lv_isub hx hb dX9_crookedness_29 ?_
        refine va_mabs hx hb (hml.trans hl.1.symm) hown (hts (.methodLink RX9 57 Lib.Math.abs.name) (by decide +kernel)) (hts (.static Lib.Math.abs.name) (by decide +kernel)) (hts (.initialized "java/lang/Math") (by decide +kernel)) (hts (.code Lib.Math.abs.name Lib.Math.abs.code 1 (some .int)) (by decide +kernel)) (Nat.le_of_ble_eq_true rfl) (Nat.le_of_ble_eq_true rfl) (Nat.le_of_ble_eq_true rfl) (Nat.le_of_ble_eq_true rfl) dX9_crookedness_30 ?_
        refine lv_iadd hx hb dX9_crookedness_33 ?_
        refine lv_istore_n (lv' := [(2, .int (v2 + (if 0 ≤ (x8.2 - x11.2) then (x8.2 - x11.2) else 0 - (x8.2 - x11.2)))), (0, .ref h), (1, .int v1), (3, .int v3)]) hx hb dX9_crookedness_34 rfl hl (by decide) rfl (fun ls hl => ?_)
        refine lv_iload_n hx hb dX9_crookedness_35 rfl (lv_at hl 0 rfl) ?_
        refine lv_aload_n hx hb dX9_crookedness_36 rfl (lv_at hl 1 rfl) ?_
        refine lv_iload_n hx hb dX9_crookedness_37 rfl (lv_at hl 2 rfl) ?_
        refine lv_iload_n hx hb dX9_crookedness_38 rfl (lv_at hl 3 rfl) ?_
        obtain ⟨k13, hf⟩ := chk_b hf
        obtain ⟨x14, hc15, hf⟩ := bnd_b hf
        refine hcall_Vi (ex2 := True) (As := [.int v1, .int v3]) (rest := [.int (v2 + (if 0 ≤ (x8.2 - x11.2) then (x8.2 - x11.2) else 0 - (x8.2 - x11.2)))]) (n := 2) (by rw [(isk_k k13)]; decide) (hC_10 (isk_k k13)) rfl ⟨hx, hb, hml, hown, hts⟩ (ch_X9_heightAt l D cy h v1 v3 x11.1 x14 hc15) (cwV 2 hts gX9_crookedness_X9_heightAt rfl rfl rfl ⟨rfl, nd_X9_heightAt⟩ ⟨Nat.le_of_ble_eq_true rfl, Nat.le_of_ble_eq_true rfl⟩) hI (fun h => h.elim) (fun _ => ⟨trivial, trivial⟩) rfl hl.1 (Nat.le_of_ble_eq_true rfl) dX9_crookedness_39 ⟨Nat.le_of_ble_eq_true rfl, Nat.le_of_ble_eq_true rfl⟩ (fun H locs hI => ?_)
        refine lv_aload_n hx hb dX9_crookedness_42 rfl (lv_at hl 1 rfl) ?_
        refine lv_iload_n hx hb dX9_crookedness_43 rfl (lv_at hl 2 rfl) ?_
        refine lv_iload_n hx hb dX9_crookedness_44 rfl (lv_at hl 3 rfl) ?_
        refine lv_iconst (v := 1) hx hb dX9_crookedness_45 (by decide) ?_
        refine lv_isub hx hb dX9_crookedness_46 ?_
        obtain ⟨k16, hf⟩ := chk_b hf
        obtain ⟨x17, hc18, hf⟩ := bnd_b hf
        refine hcall_Vi (ex2 := True) (As := [.int v1, .int (v3 - (1 : Int32))]) (rest := [.int x14.2, .int (v2 + (if 0 ≤ (x8.2 - x11.2) then (x8.2 - x11.2) else 0 - (x8.2 - x11.2)))]) (n := 2) (by rw [(isk_k k16)]; decide) (hC_10 (isk_k k16)) rfl ⟨hx, hb, hml, hown, hts⟩ (ch_X9_heightAt l D cy h v1 (v3 - (1 : Int32)) x14.1 x17 hc18) (cwV 2 hts gX9_crookedness_X9_heightAt rfl rfl rfl ⟨rfl, nd_X9_heightAt⟩ ⟨Nat.le_of_ble_eq_true rfl, Nat.le_of_ble_eq_true rfl⟩) hI (fun h => h.elim) (fun _ => ⟨trivial, trivial⟩) rfl hl.1 (Nat.le_of_ble_eq_true rfl) dX9_crookedness_47 ⟨Nat.le_of_ble_eq_true rfl, Nat.le_of_ble_eq_true rfl⟩ (fun H locs hI => ?_)
        refine lv_isub hx hb dX9_crookedness_50 ?_
        refine va_mabs hx hb (hml.trans hl.1.symm) hown (hts (.methodLink RX9 57 Lib.Math.abs.name) (by decide +kernel)) (hts (.static Lib.Math.abs.name) (by decide +kernel)) (hts (.initialized "java/lang/Math") (by decide +kernel)) (hts (.code Lib.Math.abs.name Lib.Math.abs.code 1 (some .int)) (by decide +kernel)) (Nat.le_of_ble_eq_true rfl) (Nat.le_of_ble_eq_true rfl) (Nat.le_of_ble_eq_true rfl) (Nat.le_of_ble_eq_true rfl) dX9_crookedness_51 ?_
        refine lv_iadd hx hb dX9_crookedness_54 ?_
        refine lv_istore_n (lv' := [(2, .int ((v2 + (if 0 ≤ (x8.2 - x11.2) then (x8.2 - x11.2) else 0 - (x8.2 - x11.2))) + (if 0 ≤ (x14.2 - x17.2) then (x14.2 - x17.2) else 0 - (x14.2 - x17.2)))), (0, .ref h), (1, .int v1), (3, .int v3)]) hx hb dX9_crookedness_55 rfl hl (by decide) rfl (fun ls hl => ?_)
        refine lv_iinc (v := (v3 + 1)) (lv' := [(3, .int (v3 + 1)), (2, .int ((v2 + (if 0 ≤ (x8.2 - x11.2) then (x8.2 - x11.2) else 0 - (x8.2 - x11.2))) + (if 0 ≤ (x14.2 - x17.2) then (x14.2 - x17.2) else 0 - (x14.2 - x17.2)))), (0, .ref h), (1, .int v1)]) hx hb dX9_crookedness_56 hl (k := 3) rfl (ci_ _ (by decide)) (by decide) rfl (fun ls hl => ?_)
        refine lv_goto (tgt := 4) hx hb dX9_crookedness_59 (by decide) ?_
        replace hf := cont_b hK1 hf
        exact ih ((v2 + (if 0 ≤ (x8.2 - x11.2) then (x8.2 - x11.2) else 0 - (x8.2 - x11.2))) + (if 0 ≤ (x14.2 - x17.2) then (x14.2 - x17.2) else 0 - (x14.2 - x17.2))) (v3 + 1) x17.1 H locs ls hI (lv_sub hl [2, 3, 1, 0] rfl) hf
  unfold fh_X9_crookedness at hf
  refine lv_iconst (v := 0) hx hb dX9_crookedness_0 (by decide) ?_
  refine lv_istore_n (lv' := [(2, .int (0 : Int32)), (0, .ref h), (1, .int a1)]) hx hb dX9_crookedness_1 rfl hl (by decide) rfl (fun ls hl => ?_)
  refine lv_iconst (v := 0) hx hb dX9_crookedness_2 (by decide) ?_
  refine lv_istore_n (lv' := [(3, .int (0 : Int32)), (2, .int (0 : Int32)), (0, .ref h), (1, .int a1)]) hx hb dX9_crookedness_3 rfl hl (by decide) rfl (fun ls hl => ?_)
  exact L_4 a1 mFuel (0 : Int32) (0 : Int32) s0 s.heap [] ls hI (lv_sub hl [2, 3, 1, 0] rfl) (asc_b hf)

theorem nd_X1_keep : yX1_keep.cls ≠ "java/lang/invoke/MethodHandle" ∧ yX1_keep.cls ≠ "java/lang/invoke/VarHandle" ∧ (parseMethodDescriptor yX1_keep.desc).map (fun d => d.parameters.length) = some 2 := by decide +kernel
set_option maxHeartbeats 4000000 in
set_option maxRecDepth 100000 in
theorem ch_X1_keep (l : Launch) (D : va_G) (cy : Nat → ClassId) (h : Nat) (a1 : Int32) (a2 : Int32) (s0 : HSt) (out : HSt) (hf : fh_X1_keep h a1 a2 s0 = some out) : CHv l D cy yX1_keep wsX1_keep { frames := 0, cells := 0, slots := 0, locals := 0 } 0 0 False True [.ref h, .int a1, .int a2] s0 out := by
  refine Met.ofW (cc := cX1_keep) (maxL := 4) (ret := none) (by decide) rfl ?_
  intro p e s m args below meth c s₁ B hml hv
  obtain ⟨rfl, hP, hK, hD0, hkx, hsz, hal⟩ := hv
  have hx := B.exec
  have hb := B.bytes
  have hr := B.returns
  have hts := atoms_spec (ws := wsX1_keep) B.pre
  have hown : s.vm.findClass RX1 = some m.cls := findClass_of_methodNamed B.named
  have hlocks := B.notSynchronized
  have hI : HI D cy s s0 s0 s.heap [] 0 False True := ⟨hK, hP, hD0.weaken (fun k q hk _ => Or.inl (pl_mem hk)), va_S.rf, hsz.1, hkx, ⟨hsz, hal⟩, fun _ => rfl, Nat.le_refl _⟩
  have hin_X1 : ∀ w ∈ u_ws RX1 TX1 12, w ∈ wsX1_keep := fun w hw => List.mem_cons_of_mem _ (List.mem_append_right _ hw)
  have kl_11 : Cond.fieldLink RX1 11 "HalfBridge$FreeHand" "turns" "[I" ∈ wsX1_keep := by decide +kernel
  have kl_15 : Cond.fieldLink RX1 15 "HalfBridge$FreeHand" "bestTurns" "[I" ∈ wsX1_keep := by decide +kernel
  have kl_56 : Cond.fieldLink RX1 56 "HalfBridge$FreeHand" "found" "Z" ∈ wsX1_keep := by decide +kernel
  have kl_59 : Cond.fieldLink RX1 59 "HalfBridge$FreeHand" "best" "I" ∈ wsX1_keep := by decide +kernel
  have hl := lv_entry ([.ref h, .int a1, .int a2]) (n := 4) (Nat.le_of_ble_eq_true rfl)
  rw [lg_entry_eq]
  generalize (lg_sl ([.ref h, .int a1, .int a2]) ++ List.replicate (4 - (lg_sl ([.ref h, .int a1, .int a2])).length) Slot.unset).toArray = ls at hl ⊢
  have hl : lv_has ls 4 [(0, .ref h), (1, .int a1), (2, .int a2)] := hl
  obtain ⟨K0, hK0, hf⟩ := top_e hf
  have B_49 : ∀   (st : HSt) (H : Heap) (locs : List Loc) (ls : Array Slot), HI D cy s s0 st H locs 0 False True → lv_has ls 4 [] → (fh_X1_keep_j49 h st).bind K0 = some out → W p l e (headSpec wsX1_keep { frames := 0, cells := 0, slots := 0, locals := 0 }).room s m (([.ref h, .int a1, .int a2] : List Value).toArray) below meth c H locs 0 0 (MQ below (HQv D cy s0 0 True out) ([.ref h, .int a1, .int a2] : List Value).toArray s 0 0 (hF s0)) (F0 m 49 ls []) := by
    intro st H locs ls hI hl hf
    unfold fh_X1_keep_j49 at hf
    exact hret_v hx hb hr hlocks hI (by decide) (by decide) (fun _ => ⟨trivial, rfl⟩) (ret_e hK0 hf) dX1_keep_49
  have L_12 : ∀ (v1 : Int32) (n : Nat) (v3 : Int32) (st : HSt) (H : Heap) (locs : List Loc) (ls : Array Slot), HI D cy s s0 st H locs 0 False True → lv_has ls 4 [(0, .ref h), (1, .int v1), (3, .int v3)] → (iter (fun x : (Int32 × HSt) => fh_X1_keep_s12 h v1 x.1 x.2) n (v3, st)).bind (fun x => ((Sum.elim (fun o : HSt => (some o : Option (HSt))) (fun x : (Int32 × HSt) => fh_X1_keep_j49 h x.2)) x).bind K0) = some out → W p l e (headSpec wsX1_keep { frames := 0, cells := 0, slots := 0, locals := 0 }).room s m (([.ref h, .int a1, .int a2] : List Value).toArray) below meth c H locs 0 0 (MQ below (HQv D cy s0 0 True out) ([.ref h, .int a1, .int a2] : List Value).toArray s 0 0 (hF s0)) (F0 m 12 ls []) := by
    intro v1 n
    induction n with
    | zero => intro v3 st H locs ls hI hl hf; exact (iter_0 hf).elim
    | succ n ih =>
      intro v3 st H locs ls hI hl hf
      obtain ⟨K1, hK1, hf⟩ := iter_e hf
      replace hf : (fh_X1_keep_s12 h v1 v3 st).bind K1 = some out := hf
      unfold fh_X1_keep_s12 at hf
      refine lv_iload_n hx hb dX1_keep_12 rfl (lv_at hl 2 rfl) ?_
      refine lv_aload_n hx hb dX1_keep_13 rfl (lv_at hl 0 rfl) ?_
      obtain ⟨k2, hf⟩ := chk_b hf
      refine hg_1_5 hx hb hts hin_X1 hown kl_15 hI (isk_k k2) dX1_keep_14 ?_
      obtain ⟨b3, hd4, hf⟩ := bnd_b hf
      obtain ⟨hq5, hk6⟩ := dr_e hd4
      refine W.eq (g2 := F0 m 17 ls [.ref b3, .int v3]) (by rw [hq5]; rfl) ?_
      refine ha_22 hx hb hI hk6 dX1_keep_17 ?_
      refine lv_icmp_ge (tgt := 49) hx hb dX1_keep_18 (by decide) (fun c7 => ?_) (fun c7 => ?_)
      · replace hf := ifp c7 hf
        replace hf := exit_b hK1 hf
        exact B_49  st H locs ls hI (lv_sub hl [] rfl) hf
      · replace hf := ifn c7 hf
        refine lv_aload_n hx hb dX1_keep_21 rfl (lv_at hl 0 rfl) ?_
        refine hg_1_5 hx hb hts hin_X1 hown kl_15 hI (isk_k k2) dX1_keep_22 ?_
        refine lv_iload_n hx hb dX1_keep_25 rfl (lv_at hl 2 rfl) ?_
        refine lv_iload_n hx hb dX1_keep_26 rfl (lv_at hl 2 rfl) ?_
        refine lv_iload_n hx hb dX1_keep_27 rfl (lv_at hl 1 rfl) ?_
        refine lv_icmp_ge (tgt := 40) hx hb dX1_keep_28 (by decide) (fun c8 => ?_) (fun c8 => ?_)
        · replace hf := ifp c8 hf
          refine lv_bipush (v := -100) hx hb dX1_keep_40 (by decide) ?_
          refine W.eq (g2 := F0 m 42 ls [.int (-100 : Int32), .int v3, .ref b3]) (by rw [hq5]; rfl) ?_
          obtain ⟨k9, hf⟩ := chk_b hf
          refine hs_I hx hb hI hk6 k9 dX1_keep_42 (fun H locs hI => ?_)
          refine lv_iinc (v := (v3 + 1)) (lv' := [(3, .int (v3 + 1)), (0, .ref h), (1, .int v1)]) hx hb dX1_keep_43 hl (k := 2) rfl (ci_ _ (by decide)) (by decide) rfl (fun ls hl => ?_)
          refine lv_goto (tgt := 12) hx hb dX1_keep_46 (by decide) ?_
          replace hf := cont_b hK1 hf
          exact ih (v3 + 1) (sA st b3 v3.toNatClampNeg (-100 : Int32)) H locs ls hI (lv_sub hl [1, 2, 0] rfl) hf
        · replace hf := ifn c8 hf
          refine lv_aload_n hx hb dX1_keep_31 rfl (lv_at hl 0 rfl) ?_
          refine hg_1_4 hx hb hts hin_X1 hown kl_11 hI (isk_k k2) dX1_keep_32 ?_
          refine lv_iload_n hx hb dX1_keep_35 rfl (lv_at hl 2 rfl) ?_
          obtain ⟨b10, hd11, hf⟩ := bnd_b hf
          obtain ⟨hq12, hk13⟩ := dr_e hd11
          refine W.eq (g2 := F0 m 36 ls [.int v3, .ref b10, .int v3, va_rf (gR st 105 h)]) (by rw [hq12]; rfl) ?_
          obtain ⟨k14, hf⟩ := chk_b hf
          refine hl_I hx hb hI hk13 k14 dX1_keep_36 ?_
          refine lv_goto (tgt := 42) hx hb dX1_keep_37 (by decide) ?_
          refine W.eq (g2 := F0 m 42 ls [.int (gA st b10 v3.toNatClampNeg), .int v3, .ref b3]) (by rw [hq5]; rfl) ?_
          obtain ⟨k15, hf⟩ := chk_b hf
          refine hs_I hx hb hI hk6 k15 dX1_keep_42 (fun H locs hI => ?_)
          refine lv_iinc (v := (v3 + 1)) (lv' := [(3, .int (v3 + 1)), (0, .ref h), (1, .int v1)]) hx hb dX1_keep_43 hl (k := 2) rfl (ci_ _ (by decide)) (by decide) rfl (fun ls hl => ?_)
          refine lv_goto (tgt := 12) hx hb dX1_keep_46 (by decide) ?_
          replace hf := cont_b hK1 hf
          exact ih (v3 + 1) (sA st b3 v3.toNatClampNeg (gA st b10 v3.toNatClampNeg)) H locs ls hI (lv_sub hl [1, 2, 0] rfl) hf
  unfold fh_X1_keep at hf
  refine lv_aload_n hx hb dX1_keep_0 rfl (lv_at hl 0 rfl) ?_
  refine lv_iconst (v := 1) hx hb dX1_keep_1 (by decide) ?_
  obtain ⟨k1, hf⟩ := chk_b hf
  refine hp_1_0 hx hb hts hin_X1 hown kl_56 hI (isk_k k1) (by decide) dX1_keep_2 (fun H locs hI => ?_)
  refine lv_aload_n hx hb dX1_keep_5 rfl (lv_at hl 0 rfl) ?_
  refine lv_iload_n hx hb dX1_keep_6 rfl (lv_at hl 2 rfl) ?_
  refine hp_1_1 hx hb hts hin_X1 hown kl_59 hI (gK_sI.trans (isk_k k1)) dX1_keep_7 (fun H locs hI => ?_)
  refine lv_iconst (v := 0) hx hb dX1_keep_10 (by decide) ?_
  refine lv_istore_n (lv' := [(3, .int (0 : Int32)), (0, .ref h), (1, .int a1), (2, .int a2)]) hx hb dX1_keep_11 rfl hl (by decide) rfl (fun ls hl => ?_)
  exact L_12 a1 mFuel (0 : Int32) (sI (sI s0 100 h (1 : Int32)) 101 h a2) H locs ls hI (lv_sub hl [1, 2, 0] rfl) (asc_b hf)

theorem nd_X9_missOfLines : yX9_missOfLines.cls ≠ "java/lang/invoke/MethodHandle" ∧ yX9_missOfLines.cls ≠ "java/lang/invoke/VarHandle" ∧ (parseMethodDescriptor yX9_missOfLines.desc).map (fun d => d.parameters.length) = some 0 := by decide +kernel
set_option maxHeartbeats 4000000 in
set_option maxRecDepth 100000 in
theorem ch_X9_missOfLines (l : Launch) (D : va_G) (cy : Nat → ClassId) (h : Nat)  (s0 : HSt) (out : HSt × Int32) (hf : fh_X9_missOfLines h s0 = some out) : CHi l D cy yX9_missOfLines wsX9_missOfLines { frames := 1, cells := 0, slots := 0, locals := 40 } 0 0 False True [.ref h] s0 out := by
  refine Met.ofW (cc := cX9_missOfLines) (maxL := 1) (ret := (some .int)) (by decide) rfl ?_
  intro p e s m args below meth c s₁ B hml hv
  obtain ⟨rfl, hP, hK, hD0, hkx, hsz, hal⟩ := hv
  have hx := B.exec
  have hb := B.bytes
  have hr := B.returns
  have hts := atoms_spec (ws := wsX9_missOfLines) B.pre
  have hown : s.vm.findClass RX9 = some m.cls := findClass_of_methodNamed B.named
  have hlocks := B.notSynchronized
  have hI : HI D cy s s0 s0 s.heap [] 0 False True := ⟨hK, hP, hD0.weaken (fun k q hk _ => Or.inl (pl_mem hk)), va_S.rf, hsz.1, hkx, ⟨hsz, hal⟩, fun _ => rfl, Nat.le_refl _⟩
  have hl := lv_entry ([.ref h]) (n := 1) (Nat.le_of_ble_eq_true rfl)
  rw [lg_entry_eq]
  generalize (lg_sl ([.ref h]) ++ List.replicate (1 - (lg_sl ([.ref h])).length) Slot.unset).toArray = ls at hl ⊢
  have hl : lv_has ls 1 [(0, .ref h)] := hl
  obtain ⟨K0, hK0, hf⟩ := top_e hf
  unfold fh_X9_missOfLines at hf
  refine lv_aload_n hx hb dX9_missOfLines_0 rfl (lv_at hl 0 rfl) ?_
  refine lv_iconst (v := 0) hx hb dX9_missOfLines_1 (by decide) ?_
  obtain ⟨k1, hf⟩ := chk_b hf
  obtain ⟨x2, hc3, hf⟩ := bnd_b hf
  refine hcall_Vi (ex2 := True) (As := [.int (0 : Int32)]) (rest := []) (n := 1) (by rw [(isk_k k1)]; decide) (hC_10 (isk_k k1)) rfl ⟨hx, hb, hml, hown, hts⟩ (ch_X9_tipLine l D cy h (0 : Int32) s0 x2 hc3) (cwV 1 hts gX9_missOfLines_X9_tipLine rfl rfl rfl ⟨rfl, nd_X9_tipLine⟩ ⟨Nat.le_of_ble_eq_true rfl, Nat.le_of_ble_eq_true rfl⟩) hI (fun h => h.elim) (fun _ => ⟨trivial, trivial⟩) rfl hl.1 (Nat.le_of_ble_eq_true rfl) dX9_missOfLines_2 ⟨Nat.le_of_ble_eq_true rfl, Nat.le_of_ble_eq_true rfl⟩ (fun H locs hI => ?_)
  refine lv_aload_n hx hb dX9_missOfLines_5 rfl (lv_at hl 0 rfl) ?_
  refine lv_iconst (v := 1) hx hb dX9_missOfLines_6 (by decide) ?_
  obtain ⟨k4, hf⟩ := chk_b hf
  obtain ⟨x5, hc6, hf⟩ := bnd_b hf
  refine hcall_Vi (ex2 := True) (As := [.int (1 : Int32)]) (rest := [.int x2.2]) (n := 1) (by rw [(isk_k k4)]; decide) (hC_10 (isk_k k4)) rfl ⟨hx, hb, hml, hown, hts⟩ (ch_X9_tipLine l D cy h (1 : Int32) x2.1 x5 hc6) (cwV 1 hts gX9_missOfLines_X9_tipLine rfl rfl rfl ⟨rfl, nd_X9_tipLine⟩ ⟨Nat.le_of_ble_eq_true rfl, Nat.le_of_ble_eq_true rfl⟩) hI (fun h => h.elim) (fun _ => ⟨trivial, trivial⟩) rfl hl.1 (Nat.le_of_ble_eq_true rfl) dX9_missOfLines_7 ⟨Nat.le_of_ble_eq_true rfl, Nat.le_of_ble_eq_true rfl⟩ (fun H locs hI => ?_)
  refine lv_isub hx hb dX9_missOfLines_10 ?_
  refine va_mabs hx hb (hml.trans hl.1.symm) hown (hts (.methodLink RX9 57 Lib.Math.abs.name) (by decide +kernel)) (hts (.static Lib.Math.abs.name) (by decide +kernel)) (hts (.initialized "java/lang/Math") (by decide +kernel)) (hts (.code Lib.Math.abs.name Lib.Math.abs.code 1 (some .int)) (by decide +kernel)) (Nat.le_of_ble_eq_true rfl) (Nat.le_of_ble_eq_true rfl) (Nat.le_of_ble_eq_true rfl) (Nat.le_of_ble_eq_true rfl) dX9_missOfLines_11 ?_
  exact hret_i hx hb hr hlocks hI (by decide) (by decide) (fun _ => ⟨trivial, rfl⟩) (ret_e hK0 hf) dX9_missOfLines_14

theorem nd_X9_missOfHeights : yX9_missOfHeights.cls ≠ "java/lang/invoke/MethodHandle" ∧ yX9_missOfHeights.cls ≠ "java/lang/invoke/VarHandle" ∧ (parseMethodDescriptor yX9_missOfHeights.desc).map (fun d => d.parameters.length) = some 0 := by decide +kernel
set_option maxHeartbeats 4000000 in
set_option maxRecDepth 100000 in
theorem ch_X9_missOfHeights (l : Launch) (D : va_G) (cy : Nat → ClassId) (h : Nat)  (s0 : HSt) (out : HSt × Int32) (hf : fh_X9_missOfHeights h s0 = some out) : CHi l D cy yX9_missOfHeights wsX9_missOfHeights { frames := 1, cells := 0, slots := 0, locals := 40 } 0 0 False True [.ref h] s0 out := by
  refine Met.ofW (cc := cX9_missOfHeights) (maxL := 1) (ret := (some .int)) (by decide) rfl ?_
  intro p e s m args below meth c s₁ B hml hv
  obtain ⟨rfl, hP, hK, hD0, hkx, hsz, hal⟩ := hv
  have hx := B.exec
  have hb := B.bytes
  have hr := B.returns
  have hts := atoms_spec (ws := wsX9_missOfHeights) B.pre
  have hown : s.vm.findClass RX9 = some m.cls := findClass_of_methodNamed B.named
  have hlocks := B.notSynchronized
  have hI : HI D cy s s0 s0 s.heap [] 0 False True := ⟨hK, hP, hD0.weaken (fun k q hk _ => Or.inl (pl_mem hk)), va_S.rf, hsz.1, hkx, ⟨hsz, hal⟩, fun _ => rfl, Nat.le_refl _⟩
  have hl := lv_entry ([.ref h]) (n := 1) (Nat.le_of_ble_eq_true rfl)
  rw [lg_entry_eq]
  generalize (lg_sl ([.ref h]) ++ List.replicate (1 - (lg_sl ([.ref h])).length) Slot.unset).toArray = ls at hl ⊢
  have hl : lv_has ls 1 [(0, .ref h)] := hl
  obtain ⟨K0, hK0, hf⟩ := top_e hf
  unfold fh_X9_missOfHeights at hf
  refine lv_aload_n hx hb dX9_missOfHeights_0 rfl (lv_at hl 0 rfl) ?_
  refine lv_iconst (v := 0) hx hb dX9_missOfHeights_1 (by decide) ?_
  obtain ⟨k1, hf⟩ := chk_b hf
  obtain ⟨x2, hc3, hf⟩ := bnd_b hf
  refine hcall_Vi (ex2 := True) (As := [.int (0 : Int32)]) (rest := []) (n := 1) (by rw [(isk_k k1)]; decide) (hC_10 (isk_k k1)) rfl ⟨hx, hb, hml, hown, hts⟩ (ch_X9_tipHeight l D cy h (0 : Int32) s0 x2 hc3) (cwV 1 hts gX9_missOfHeights_X9_tipHeight rfl rfl rfl ⟨rfl, nd_X9_tipHeight⟩ ⟨Nat.le_of_ble_eq_true rfl, Nat.le_of_ble_eq_true rfl⟩) hI (fun h => h.elim) (fun _ => ⟨trivial, trivial⟩) rfl hl.1 (Nat.le_of_ble_eq_true rfl) dX9_missOfHeights_2 ⟨Nat.le_of_ble_eq_true rfl, Nat.le_of_ble_eq_true rfl⟩ (fun H locs hI => ?_)
  refine lv_aload_n hx hb dX9_missOfHeights_5 rfl (lv_at hl 0 rfl) ?_
  refine lv_iconst (v := 1) hx hb dX9_missOfHeights_6 (by decide) ?_
  obtain ⟨k4, hf⟩ := chk_b hf
  obtain ⟨x5, hc6, hf⟩ := bnd_b hf
  refine hcall_Vi (ex2 := True) (As := [.int (1 : Int32)]) (rest := [.int x2.2]) (n := 1) (by rw [(isk_k k4)]; decide) (hC_10 (isk_k k4)) rfl ⟨hx, hb, hml, hown, hts⟩ (ch_X9_tipHeight l D cy h (1 : Int32) x2.1 x5 hc6) (cwV 1 hts gX9_missOfHeights_X9_tipHeight rfl rfl rfl ⟨rfl, nd_X9_tipHeight⟩ ⟨Nat.le_of_ble_eq_true rfl, Nat.le_of_ble_eq_true rfl⟩) hI (fun h => h.elim) (fun _ => ⟨trivial, trivial⟩) rfl hl.1 (Nat.le_of_ble_eq_true rfl) dX9_missOfHeights_7 ⟨Nat.le_of_ble_eq_true rfl, Nat.le_of_ble_eq_true rfl⟩ (fun H locs hI => ?_)
  refine lv_isub hx hb dX9_missOfHeights_10 ?_
  refine va_mabs hx hb (hml.trans hl.1.symm) hown (hts (.methodLink RX9 57 Lib.Math.abs.name) (by decide +kernel)) (hts (.static Lib.Math.abs.name) (by decide +kernel)) (hts (.initialized "java/lang/Math") (by decide +kernel)) (hts (.code Lib.Math.abs.name Lib.Math.abs.code 1 (some .int)) (by decide +kernel)) (Nat.le_of_ble_eq_true rfl) (Nat.le_of_ble_eq_true rfl) (Nat.le_of_ble_eq_true rfl) (Nat.le_of_ble_eq_true rfl) dX9_missOfHeights_11 ?_
  exact hret_i hx hb hr hlocks hI (by decide) (by decide) (fun _ => ⟨trivial, rfl⟩) (ret_e hK0 hf) dX9_missOfHeights_14

theorem nd_X9_isInTime : yX9_isInTime.cls ≠ "java/lang/invoke/MethodHandle" ∧ yX9_isInTime.cls ≠ "java/lang/invoke/VarHandle" ∧ (parseMethodDescriptor yX9_isInTime.desc).map (fun d => d.parameters.length) = some 0 := by decide +kernel
set_option maxHeartbeats 4000000 in
set_option maxRecDepth 100000 in
theorem ch_X9_isInTime (l : Launch) (D : va_G) (cy : Nat → ClassId) (h : Nat)  (s0 : HSt) (out : HSt × Int32) (hf : fh_X9_isInTime h s0 = some out) : CHi l D cy yX9_isInTime wsX9_isInTime { frames := 2, cells := 0, slots := 0, locals := 60 } 0 0 False True [.ref h] s0 out := by
  refine Met.ofW (cc := cX9_isInTime) (maxL := 1) (ret := (some .boolean)) (by decide) rfl ?_
  intro p e s m args below meth c s₁ B hml hv
  obtain ⟨rfl, hP, hK, hD0, hkx, hsz, hal⟩ := hv
  have hx := B.exec
  have hb := B.bytes
  have hr := B.returns
  have hts := atoms_spec (ws := wsX9_isInTime) B.pre
  have hown : s.vm.findClass RX9 = some m.cls := findClass_of_methodNamed B.named
  have hlocks := B.notSynchronized
  have hI : HI D cy s s0 s0 s.heap [] 0 False True := ⟨hK, hP, hD0.weaken (fun k q hk _ => Or.inl (pl_mem hk)), va_S.rf, hsz.1, hkx, ⟨hsz, hal⟩, fun _ => rfl, Nat.le_refl _⟩
  have hin_X4 : ∀ w ∈ u_ws RX4 TX4 9, w ∈ wsX9_isInTime := fun w hw => List.mem_cons_of_mem _ (List.mem_append_right _ hw)
  have hin_X9 : ∀ w ∈ u_ws RX9 TX9 5, w ∈ wsX9_isInTime := fun w hw => List.mem_cons_of_mem _ (List.mem_append_left _ (List.mem_append_right _ hw))
  have kl_12 : Cond.fieldLink RX9 12 "HalfBridge$Span" "river" "LHalfBridge$River;" ∈ wsX9_isInTime := by decide +kernel
  have kl_78 : Cond.fieldLink RX9 78 "HalfBridge$River" "inches" "I" ∈ wsX9_isInTime := by decide +kernel
  have hl := lv_entry ([.ref h]) (n := 1) (Nat.le_of_ble_eq_true rfl)
  rw [lg_entry_eq]
  generalize (lg_sl ([.ref h]) ++ List.replicate (1 - (lg_sl ([.ref h])).length) Slot.unset).toArray = ls at hl ⊢
  have hl : lv_has ls 1 [(0, .ref h)] := hl
  obtain ⟨K0, hK0, hf⟩ := top_e hf
  unfold fh_X9_isInTime at hf
  refine lv_aload_n hx hb dX9_isInTime_0 rfl (lv_at hl 0 rfl) ?_
  obtain ⟨k1, hf⟩ := chk_b hf
  obtain ⟨x2, hc3, hf⟩ := bnd_b hf
  refine hcall_Vi (ex2 := True) (As := []) (rest := []) (n := 0) (by rw [(isk_k k1)]; decide) (hC_10 (isk_k k1)) rfl ⟨hx, hb, hml, hown, hts⟩ (ch_X9_isMet l D cy h s0 x2 hc3) (cwV 0 hts gX9_isInTime_X9_isMet rfl rfl rfl ⟨rfl, nd_X9_isMet⟩ ⟨Nat.le_of_ble_eq_true rfl, Nat.le_of_ble_eq_true rfl⟩) hI (fun h => h.elim) (fun _ => ⟨trivial, trivial⟩) rfl hl.1 (Nat.le_of_ble_eq_true rfl) dX9_isInTime_1 ⟨Nat.le_of_ble_eq_true rfl, Nat.le_of_ble_eq_true rfl⟩ (fun H locs hI => ?_)
  refine lv_if_eq (tgt := 39) hx hb dX9_isInTime_4 (by decide) (fun c4 => ?_) (fun c4 => ?_)
  · replace hf := ifp c4 hf
    refine lv_iconst (v := 0) hx hb dX9_isInTime_39 (by decide) ?_
    exact hret_z hx hb hr (by decide) hlocks hI (by decide) (by decide) (fun _ => ⟨trivial, rfl⟩) (ret_e hK0 hf) dX9_isInTime_40
  · replace hf := ifn c4 hf
    refine lv_aload_n hx hb dX9_isInTime_7 rfl (lv_at hl 0 rfl) ?_
    obtain ⟨k5, hf⟩ := chk_b hf
    obtain ⟨x6, hc7, hf⟩ := bnd_b hf
    refine hcall_Vi (ex2 := True) (As := []) (rest := []) (n := 0) (by rw [(isk_k k5)]; decide) (hC_10 (isk_k k5)) rfl ⟨hx, hb, hml, hown, hts⟩ (ch_X9_missOfLines l D cy h x2.1 x6 hc7) (cwV 0 hts gX9_isInTime_X9_missOfLines rfl rfl rfl ⟨rfl, nd_X9_missOfLines⟩ ⟨Nat.le_of_ble_eq_true rfl, Nat.le_of_ble_eq_true rfl⟩) hI (fun h => h.elim) (fun _ => ⟨trivial, trivial⟩) rfl hl.1 (Nat.le_of_ble_eq_true rfl) dX9_isInTime_8 ⟨Nat.le_of_ble_eq_true rfl, Nat.le_of_ble_eq_true rfl⟩ (fun H locs hI => ?_)
    refine lv_aload_n hx hb dX9_isInTime_11 rfl (lv_at hl 0 rfl) ?_
    obtain ⟨k8, hf⟩ := chk_b hf
    refine hg_9_0 hx hb hts hin_X9 hown kl_12 hI (isk_k k8) dX9_isInTime_12 ?_
    obtain ⟨b9, hd10, hf⟩ := bnd_b hf
    obtain ⟨hq11, hk12⟩ := dr_e hd10
    refine W.eq (g2 := F0 m 15 ls [.ref b9, .int x6.2]) (by rw [hq11]; rfl) ?_
    refine hg_4_2 hx hb hts hin_X4 hown kl_78 hI hk12 dX9_isInTime_15 ?_
    refine lv_icmp_gt (tgt := 39) hx hb dX9_isInTime_18 (by decide) (fun c13 => ?_) (fun c13 => ?_)
    · replace hf := ifp c13 hf
      refine lv_iconst (v := 0) hx hb dX9_isInTime_39 (by decide) ?_
      exact hret_z hx hb hr (by decide) hlocks hI (by decide) (by decide) (fun _ => ⟨trivial, rfl⟩) (ret_e hK0 hf) dX9_isInTime_40
    · replace hf := ifn c13 hf
      refine lv_aload_n hx hb dX9_isInTime_21 rfl (lv_at hl 0 rfl) ?_
      obtain ⟨x14, hc15, hf⟩ := bnd_b hf
      refine hcall_Vi (ex2 := True) (As := []) (rest := []) (n := 0) (by rw [(isk_k k8)]; decide) (hC_10 (isk_k k8)) rfl ⟨hx, hb, hml, hown, hts⟩ (ch_X9_missOfHeights l D cy h x6.1 x14 hc15) (cwV 0 hts gX9_isInTime_X9_missOfHeights rfl rfl rfl ⟨rfl, nd_X9_missOfHeights⟩ ⟨Nat.le_of_ble_eq_true rfl, Nat.le_of_ble_eq_true rfl⟩) hI (fun h => h.elim) (fun _ => ⟨trivial, trivial⟩) rfl hl.1 (Nat.le_of_ble_eq_true rfl) dX9_isInTime_22 ⟨Nat.le_of_ble_eq_true rfl, Nat.le_of_ble_eq_true rfl⟩ (fun H locs hI => ?_)
      refine lv_aload_n hx hb dX9_isInTime_25 rfl (lv_at hl 0 rfl) ?_
      obtain ⟨k16, hf⟩ := chk_b hf
      refine hg_9_0 hx hb hts hin_X9 hown kl_12 hI (isk_k k16) dX9_isInTime_26 ?_
      obtain ⟨b17, hd18, hf⟩ := bnd_b hf
      obtain ⟨hq19, hk20⟩ := dr_e hd18
      refine W.eq (g2 := F0 m 29 ls [.ref b17, .int x14.2]) (by rw [hq19]; rfl) ?_
      refine hg_4_2 hx hb hts hin_X4 hown kl_78 hI hk20 dX9_isInTime_29 ?_
      refine lv_icmp_gt (tgt := 39) hx hb dX9_isInTime_32 (by decide) (fun c21 => ?_) (fun c21 => ?_)
      · replace hf := ifp c21 hf
        refine lv_iconst (v := 0) hx hb dX9_isInTime_39 (by decide) ?_
        exact hret_z hx hb hr (by decide) hlocks hI (by decide) (by decide) (fun _ => ⟨trivial, rfl⟩) (ret_e hK0 hf) dX9_isInTime_40
      · replace hf := ifn c21 hf
        refine lv_iconst (v := 1) hx hb dX9_isInTime_35 (by decide) ?_
        refine lv_goto (tgt := 40) hx hb dX9_isInTime_36 (by decide) ?_
        exact hret_z hx hb hr (by decide) hlocks hI (by decide) (by decide) (fun _ => ⟨trivial, rfl⟩) (ret_e hK0 hf) dX9_isInTime_40

theorem nd_X1_weigh : yX1_weigh.cls ≠ "java/lang/invoke/MethodHandle" ∧ yX1_weigh.cls ≠ "java/lang/invoke/VarHandle" ∧ (parseMethodDescriptor yX1_weigh.desc).map (fun d => d.parameters.length) = some 3 := by decide +kernel
set_option maxHeartbeats 4000000 in
set_option maxRecDepth 100000 in
theorem ch_X1_weigh (l : Launch) (D : va_G) (cy : Nat → ClassId) (h : Nat) (a1 : Option Nat) (a2 : Int32) (a3 : Int32) (s0 : HSt) (out : HSt) (hf : fh_X1_weigh h a1 a2 a3 s0 = some out) : CHv l D cy yX1_weigh wsX1_weigh { frames := 3, cells := 0, slots := 0, locals := 80 } 0 0 False True [.ref h, va_rf a1, .int a2, .int a3] s0 out := by
  refine Met.ofW (cc := cX1_weigh) (maxL := 5) (ret := none) (by decide) rfl ?_
  intro p e s m args below meth c s₁ B hml hv
  obtain ⟨rfl, hP, hK, hD0, hkx, hsz, hal⟩ := hv
  have hx := B.exec
  have hb := B.bytes
  have hr := B.returns
  have hts := atoms_spec (ws := wsX1_weigh) B.pre
  have hown : s.vm.findClass RX1 = some m.cls := findClass_of_methodNamed B.named
  have hlocks := B.notSynchronized
  have hI : HI D cy s s0 s0 s.heap [] 0 False True := ⟨hK, hP, hD0.weaken (fun k q hk _ => Or.inl (pl_mem hk)), va_S.rf, hsz.1, hkx, ⟨hsz, hal⟩, fun _ => rfl, Nat.le_refl _⟩
  have hin_X1 : ∀ w ∈ u_ws RX1 TX1 12, w ∈ wsX1_weigh := fun w hw => List.mem_cons_of_mem _ (List.mem_append_left _ (List.mem_append_left _ (List.mem_append_right _ hw)))
  have kl_26 : Cond.fieldLink RX1 26 "HalfBridge$FreeHand" "isSpiteful" "Z" ∈ wsX1_weigh := by decide +kernel
  have kl_34 : Cond.fieldLink RX1 34 "HalfBridge$FreeHand" "purse" "I" ∈ wsX1_weigh := by decide +kernel
  have kl_49 : Cond.fieldLink RX1 49 "HalfBridge$FreeHand" "side" "I" ∈ wsX1_weigh := by decide +kernel
  have kl_56 : Cond.fieldLink RX1 56 "HalfBridge$FreeHand" "found" "Z" ∈ wsX1_weigh := by decide +kernel
  have kl_59 : Cond.fieldLink RX1 59 "HalfBridge$FreeHand" "best" "I" ∈ wsX1_weigh := by decide +kernel
  have hl := lv_entry ([.ref h, va_rf a1, .int a2, .int a3]) (n := 5) (by simp [lg_sl, cat_rf, cat_i, cat_l, cat_r])
  rw [lg_entry_eq]
  generalize (lg_sl ([.ref h, va_rf a1, .int a2, .int a3]) ++ List.replicate (5 - (lg_sl ([.ref h, va_rf a1, .int a2, .int a3])).length) Slot.unset).toArray = ls at hl ⊢
  have hl : lv_has ls 5 [(0, .ref h), (1, va_rf a1), (2, .int a2), (3, .int a3)] := (by simpa [lv_args, cat_rf, cat_i, cat_l, cat_r] using hl)
  obtain ⟨K0, hK0, hf⟩ := top_e hf
  unfold fh_X1_weigh at hf
  refine lv_aload_n hx hb dX1_weigh_0 rfl (lv_at hl 0 rfl) ?_
  obtain ⟨k1, hf⟩ := chk_b hf
  refine hg_1_10 hx hb hts hin_X1 hown kl_26 hI (isk_k k1) dX1_weigh_1 ?_
  refine lv_if_eq (tgt := 45) hx hb dX1_weigh_4 (by decide) (fun c2 => ?_) (fun c2 => ?_)
  · replace hf := ifp c2 hf
    refine hq_aload_n hx hb dX1_weigh_45 rfl (lv_at hl 1 rfl) ?_
    obtain ⟨b3, hd4, hf⟩ := bnd_b hf
    obtain ⟨hq5, hk6⟩ := dr_e hd4
    refine W.eq (g2 := F0 m 46 ls [.ref b3]) (by rw [hq5]; rfl) ?_
    obtain ⟨x7, hc8, hf⟩ := bnd_b hf
    refine hcall_Vi (ex2 := True) (As := []) (rest := []) (n := 0) (by rw [hk6]; decide) (hC_10 hk6) rfl ⟨hx, hb, hml, hown, hts⟩ (ch_X9_isInTime l D cy b3 s0 x7 hc8) (cwV 0 hts gX1_weigh_X9_isInTime rfl rfl rfl ⟨rfl, nd_X9_isInTime⟩ ⟨Nat.le_of_ble_eq_true rfl, Nat.le_of_ble_eq_true rfl⟩) hI (fun h => h.elim) (fun _ => ⟨trivial, trivial⟩) rfl hl.1 (Nat.le_of_ble_eq_true rfl) dX1_weigh_46 ⟨Nat.le_of_ble_eq_true rfl, Nat.le_of_ble_eq_true rfl⟩ (fun H locs hI => ?_)
    refine lv_if_eq (tgt := 73) hx hb dX1_weigh_49 (by decide) (fun c9 => ?_) (fun c9 => ?_)
    · replace hf := ifp c9 hf
      exact hret_v hx hb hr hlocks hI (by decide) (by decide) (fun _ => ⟨trivial, rfl⟩) (ret_e hK0 hf) dX1_weigh_73
    · replace hf := ifn c9 hf
      refine lv_iload_n hx hb dX1_weigh_52 rfl (lv_at hl 3 rfl) ?_
      refine lv_aload_n hx hb dX1_weigh_53 rfl (lv_at hl 0 rfl) ?_
      obtain ⟨k10, hf⟩ := chk_b hf
      refine hg_1_11 hx hb hts hin_X1 hown kl_34 hI (isk_k k10) dX1_weigh_54 ?_
      refine lv_icmp_gt (tgt := 73) hx hb dX1_weigh_57 (by decide) (fun c11 => ?_) (fun c11 => ?_)
      · replace hf := ifp c11 hf
        exact hret_v hx hb hr hlocks hI (by decide) (by decide) (fun _ => ⟨trivial, rfl⟩) (ret_e hK0 hf) dX1_weigh_73
      · replace hf := ifn c11 hf
        refine lv_aload_n hx hb dX1_weigh_60 rfl (lv_at hl 0 rfl) ?_
        refine lv_iload_n hx hb dX1_weigh_61 rfl (lv_at hl 2 rfl) ?_
        refine lv_iload_n hx hb dX1_weigh_62 rfl (lv_at hl 3 rfl) ?_
        obtain ⟨x12, hc13, hf⟩ := bnd_b hf
        refine hcall_Vv (ex2 := True) (As := [.int a2, .int a3]) (rest := []) (n := 2) (by rw [(isk_k k10)]; decide) (hC_2 (isk_k k10)) rfl ⟨hx, hb, hml, hown, hts⟩ (ch_X1_keep l D cy h a2 a3 x7.1 x12 hc13) (cwV 2 hts gX1_weigh_X1_keep rfl rfl rfl ⟨rfl, nd_X1_keep⟩ ⟨Nat.le_of_ble_eq_true rfl, Nat.le_of_ble_eq_true rfl⟩) hI (fun h => h.elim) (fun _ => ⟨trivial, trivial⟩) rfl hl.1 (Nat.le_of_ble_eq_true rfl) dX1_weigh_63 ⟨Nat.le_of_ble_eq_true rfl, Nat.le_of_ble_eq_true rfl⟩ (fun H locs hI => ?_)
        refine lv_aload_n hx hb dX1_weigh_66 rfl (lv_at hl 0 rfl) ?_
        refine lv_iload_n hx hb dX1_weigh_67 rfl (lv_at hl 3 rfl) ?_
        refine lv_iconst (v := 1) hx hb dX1_weigh_68 (by decide) ?_
        refine lv_isub hx hb dX1_weigh_69 ?_
        obtain ⟨k14, hf⟩ := chk_b hf
        refine hp_1_11 hx hb hts hin_X1 hown kl_34 hI (isk_k k14) dX1_weigh_70 (fun H locs hI => ?_)
        exact hret_v hx hb hr hlocks hI (by decide) (by decide) (fun _ => ⟨trivial, rfl⟩) (ret_e hK0 hf) dX1_weigh_73
  · replace hf := ifn c2 hf
    refine hq_aload_n hx hb dX1_weigh_7 rfl (lv_at hl 1 rfl) ?_
    refine lv_iconst (v := 1) hx hb dX1_weigh_8 (by decide) ?_
    refine lv_aload_n hx hb dX1_weigh_9 rfl (lv_at hl 0 rfl) ?_
    refine hg_1_8 hx hb hts hin_X1 hown kl_49 hI (isk_k k1) dX1_weigh_10 ?_
    refine lv_isub hx hb dX1_weigh_13 ?_
    obtain ⟨b15, hd16, hf⟩ := bnd_b hf
    obtain ⟨hq17, hk18⟩ := dr_e hd16
    refine W.eq (g2 := F0 m 14 ls [.int ((1 : Int32) - (gI s0 108 h)), .ref b15]) (by rw [hq17]; rfl) ?_
    obtain ⟨x19, hc20, hf⟩ := bnd_b hf
    refine hcall_Vi (ex2 := True) (As := [.int ((1 : Int32) - (gI s0 108 h))]) (rest := []) (n := 1) (by rw [hk18]; decide) (hC_10 hk18) rfl ⟨hx, hb, hml, hown, hts⟩ (ch_X9_crookedness l D cy b15 ((1 : Int32) - (gI s0 108 h)) s0 x19 hc20) (cwV 1 hts gX1_weigh_X9_crookedness rfl rfl rfl ⟨rfl, nd_X9_crookedness⟩ ⟨Nat.le_of_ble_eq_true rfl, Nat.le_of_ble_eq_true rfl⟩) hI (fun h => h.elim) (fun _ => ⟨trivial, trivial⟩) rfl hl.1 (Nat.le_of_ble_eq_true rfl) dX1_weigh_14 ⟨Nat.le_of_ble_eq_true rfl, Nat.le_of_ble_eq_true rfl⟩ (fun H locs hI => ?_)
    refine lv_istore (lv' := [(4, .int x19.2), (0, .ref h), (1, va_rf a1), (2, .int a2), (3, .int a3)]) hx hb dX1_weigh_17 hl (by decide) (by first | rfl | (simp [cat_rf, cat_i, cat_l, cat_r]; done) | (simp [cat_rf, cat_i, cat_l, cat_r]; decide)) (fun ls hl => ?_)
    refine lv_aload_n hx hb dX1_weigh_19 rfl (lv_at hl 1 rfl) ?_
    obtain ⟨k21, hf⟩ := chk_b hf
    refine hg_1_0 hx hb hts hin_X1 hown kl_56 hI (isk_k k21) dX1_weigh_20 ?_
    refine lv_if_eq (tgt := 35) hx hb dX1_weigh_23 (by decide) (fun c22 => ?_) (fun c22 => ?_)
    · replace hf := ifp c22 hf
      refine lv_aload_n hx hb dX1_weigh_35 rfl (lv_at hl 1 rfl) ?_
      refine lv_iload_n hx hb dX1_weigh_36 rfl (lv_at hl 3 rfl) ?_
      refine lv_iload hx hb dX1_weigh_37 (lv_at hl 0 rfl) ?_
      obtain ⟨x23, hc24, hf⟩ := bnd_b hf
      refine hcall_Vv (ex2 := True) (As := [.int a2, .int x19.2]) (rest := []) (n := 2) (by rw [(isk_k k21)]; decide) (hC_2 (isk_k k21)) rfl ⟨hx, hb, hml, hown, hts⟩ (ch_X1_keep l D cy h a2 x19.2 x19.1 x23 hc24) (cwV 2 hts gX1_weigh_X1_keep rfl rfl rfl ⟨rfl, nd_X1_keep⟩ ⟨Nat.le_of_ble_eq_true rfl, Nat.le_of_ble_eq_true rfl⟩) hI (fun h => h.elim) (fun _ => ⟨trivial, trivial⟩) rfl hl.1 (Nat.le_of_ble_eq_true rfl) dX1_weigh_39 ⟨Nat.le_of_ble_eq_true rfl, Nat.le_of_ble_eq_true rfl⟩ (fun H locs hI => ?_)
      refine lv_goto (tgt := 73) hx hb dX1_weigh_42 (by decide) ?_
      exact hret_v hx hb hr hlocks hI (by decide) (by decide) (fun _ => ⟨trivial, rfl⟩) (ret_e hK0 hf) dX1_weigh_73
    · replace hf := ifn c22 hf
      refine lv_iload hx hb dX1_weigh_26 (lv_at hl 0 rfl) ?_
      refine lv_aload_n hx hb dX1_weigh_28 rfl (lv_at hl 1 rfl) ?_
      refine hg_1_1 hx hb hts hin_X1 hown kl_59 hI (isk_k k21) dX1_weigh_29 ?_
      refine lv_icmp_le (tgt := 42) hx hb dX1_weigh_32 (by decide) (fun c25 => ?_) (fun c25 => ?_)
      · replace hf := ifp c25 hf
        refine lv_goto (tgt := 73) hx hb dX1_weigh_42 (by decide) ?_
        exact hret_v hx hb hr hlocks hI (by decide) (by decide) (fun _ => ⟨trivial, rfl⟩) (ret_e hK0 hf) dX1_weigh_73
      · replace hf := ifn c25 hf
        refine lv_aload_n hx hb dX1_weigh_35 rfl (lv_at hl 1 rfl) ?_
        refine lv_iload_n hx hb dX1_weigh_36 rfl (lv_at hl 3 rfl) ?_
        refine lv_iload hx hb dX1_weigh_37 (lv_at hl 0 rfl) ?_
        obtain ⟨x26, hc27, hf⟩ := bnd_b hf
        refine hcall_Vv (ex2 := True) (As := [.int a2, .int x19.2]) (rest := []) (n := 2) (by rw [(isk_k k21)]; decide) (hC_2 (isk_k k21)) rfl ⟨hx, hb, hml, hown, hts⟩ (ch_X1_keep l D cy h a2 x19.2 x19.1 x26 hc27) (cwV 2 hts gX1_weigh_X1_keep rfl rfl rfl ⟨rfl, nd_X1_keep⟩ ⟨Nat.le_of_ble_eq_true rfl, Nat.le_of_ble_eq_true rfl⟩) hI (fun h => h.elim) (fun _ => ⟨trivial, trivial⟩) rfl hl.1 (Nat.le_of_ble_eq_true rfl) dX1_weigh_39 ⟨Nat.le_of_ble_eq_true rfl, Nat.le_of_ble_eq_true rfl⟩ (fun H locs hI => ?_)
        refine lv_goto (tgt := 73) hx hb dX1_weigh_42 (by decide) ?_
        exact hret_v hx hb hr hlocks hI (by decide) (by decide) (fun _ => ⟨trivial, rfl⟩) (ret_e hK0 hf) dX1_weigh_73
