theorem nd_X9_seenHeight : yX9_seenHeight.cls ≠ "java/lang/invoke/MethodHandle" ∧ yX9_seenHeight.cls ≠ "java/lang/invoke/VarHandle" ∧ (parseMethodDescriptor yX9_seenHeight.desc).map (fun d => d.parameters.length) = some 2 := by decide +kernel
set_option maxHeartbeats 4000000 in
set_option maxRecDepth 100000 in
theorem ch_X9_seenHeight (l : Launch) (D : va_G) (cy : Nat → ClassId) (h : Nat) (a1 : Int32) (a2 : Int32) (s0 : HSt) (out : HSt × Int32) (hf : fh_X9_seenHeight h a1 a2 s0 = some out) : CHi l D cy yX9_seenHeight wsX9_seenHeight { frames := 1, cells := 0, slots := 0, locals := 22 } 0 0 False True [.ref h, .int a1, .int a2] s0 out := by
  refine Met.ofW (cc := cX9_seenHeight) (maxL := 3) (ret := (some .int)) (by decide) rfl ?_
  intro p e s m args below meth c s₁ B hml hv
  obtain ⟨rfl, hP, hK, hD0, hkx, hsz, hal⟩ := hv
  have hx := B.exec
  have hb := B.bytes
  have hr := B.returns
  have hts := atoms_spec (ws := wsX9_seenHeight) B.pre
  have hown : s.vm.findClass RX9 = some m.cls := findClass_of_methodNamed B.named
  have hlocks := B.notSynchronized
  have hI : HI D cy s s0 s0 s.heap [] 0 False True := ⟨hK, hP, hD0.weaken (fun k q hk _ => Or.inl (pl_mem hk)), va_S.rf, hsz.1, hkx, ⟨hsz, hal⟩, fun _ => rfl, Nat.le_refl _⟩
  have hin_X4 : ∀ w ∈ u_ws RX4 TX4 9, w ∈ wsX9_seenHeight := fun w hw => List.mem_cons_of_mem _ (List.mem_append_right _ hw)
  have hin_X9 : ∀ w ∈ u_ws RX9 TX9 5, w ∈ wsX9_seenHeight := fun w hw => List.mem_cons_of_mem _ (List.mem_append_left _ (List.mem_append_right _ hw))
  have kl_12 : Cond.fieldLink RX9 12 "HalfBridge$Span" "river" "LHalfBridge$River;" ∈ wsX9_seenHeight := by decide +kernel
  have kl_65 : Cond.fieldLink RX9 65 "HalfBridge$River" "eyes" "[I" ∈ wsX9_seenHeight := by decide +kernel
  have hl := lv_entry ([.ref h, .int a1, .int a2]) (n := 3) (Nat.le_of_ble_eq_true rfl)
  rw [lg_entry_eq]
  generalize (lg_sl ([.ref h, .int a1, .int a2]) ++ List.replicate (3 - (lg_sl ([.ref h, .int a1, .int a2])).length) Slot.unset).toArray = ls at hl ⊢
  have hl : lv_has ls 3 [(0, .ref h), (1, .int a1), (2, .int a2)] := hl
  obtain ⟨K0, hK0, hf⟩ := top_e hf
  unfold fh_X9_seenHeight at hf
  refine lv_aload_n hx hb dX9_seenHeight_0 rfl (lv_at hl 0 rfl) ?_
  refine lv_iconst (v := 1) hx hb dX9_seenHeight_1 (by decide) ?_
  refine lv_iload_n hx hb dX9_seenHeight_2 rfl (lv_at hl 1 rfl) ?_
  refine lv_isub hx hb dX9_seenHeight_3 ?_
  obtain ⟨k1, hf⟩ := chk_b hf
  obtain ⟨x2, hc3, hf⟩ := bnd_b hf
  refine hcall_Vi (ex2 := True) (As := [.int ((1 : Int32) - a1)]) (rest := []) (n := 1) (by rw [(isk_k k1)]; decide) (hC_10 (isk_k k1)) rfl ⟨hx, hb, hml, hown, hts⟩ (ch_X9_tipHeight l D cy h ((1 : Int32) - a1) s0 x2 hc3) (cwV 1 hts gX9_seenHeight_X9_tipHeight rfl rfl rfl ⟨rfl, nd_X9_tipHeight⟩ ⟨Nat.le_of_ble_eq_true rfl, Nat.le_of_ble_eq_true rfl⟩) hI (fun h => h.elim) (fun _ => ⟨trivial, trivial⟩) rfl hl.1 (Nat.le_of_ble_eq_true rfl) dX9_seenHeight_4 ⟨Nat.le_of_ble_eq_true rfl, Nat.le_of_ble_eq_true rfl⟩ (fun H locs hI => ?_)
  refine lv_iload_n hx hb dX9_seenHeight_7 rfl (lv_at hl 2 rfl) ?_
  refine lv_ineg hx hb dX9_seenHeight_8 ?_
  refine lv_aload_n hx hb dX9_seenHeight_9 rfl (lv_at hl 0 rfl) ?_
  obtain ⟨k4, hf⟩ := chk_b hf
  refine hg_9_0 hx hb hts hin_X9 hown kl_12 hI (isk_k k4) dX9_seenHeight_10 ?_
  obtain ⟨b5, hd6, hf⟩ := bnd_b hf
  obtain ⟨hq7, hk8⟩ := dr_e hd6
  refine W.eq (g2 := F0 m 13 ls [.ref b5, .int (-a2), .int x2.2]) (by rw [hq7]; rfl) ?_
  refine hg_4_6 hx hb hts hin_X4 hown kl_65 hI hk8 dX9_seenHeight_13 ?_
  refine lv_iload_n hx hb dX9_seenHeight_16 rfl (lv_at hl 1 rfl) ?_
  obtain ⟨b9, hd10, hf⟩ := bnd_b hf
  obtain ⟨hq11, hk12⟩ := dr_e hd10
  refine W.eq (g2 := F0 m 17 ls [.int a1, .ref b9, .int (-a2), .int x2.2]) (by rw [hq11]; rfl) ?_
  obtain ⟨k13, hf⟩ := chk_b hf
  refine hl_I hx hb hI hk12 k13 dX9_seenHeight_17 ?_
  refine lv_imul hx hb dX9_seenHeight_18 ?_
  refine lv_aload_n hx hb dX9_seenHeight_19 rfl (lv_at hl 0 rfl) ?_
  obtain ⟨x14, hc15, hf⟩ := bnd_b hf
  refine hcall_Vi (ex2 := True) (As := []) (rest := [.int ((-a2) * (gA x2.1 b9 a1.toNatClampNeg)), .int x2.2]) (n := 0) (by rw [(isk_k k4)]; decide) (hC_10 (isk_k k4)) rfl ⟨hx, hb, hml, hown, hts⟩ (ch_X9_gap l D cy h x2.1 x14 hc15) (cwV 0 hts gX9_seenHeight_X9_gap rfl rfl rfl ⟨rfl, nd_X9_gap⟩ ⟨Nat.le_of_ble_eq_true rfl, Nat.le_of_ble_eq_true rfl⟩) hI (fun h => h.elim) (fun _ => ⟨trivial, trivial⟩) rfl hl.1 (Nat.le_of_ble_eq_true rfl) dX9_seenHeight_20 ⟨Nat.le_of_ble_eq_true rfl, Nat.le_of_ble_eq_true rfl⟩ (fun H locs hI => ?_)
  refine lv_imul hx hb dX9_seenHeight_23 ?_
  refine lv_bipush (v := 90) hx hb dX9_seenHeight_24 (by decide) ?_
  refine lv_idiv hx hb dX9_seenHeight_26 (by decide) ?_
  refine lv_iadd hx hb dX9_seenHeight_27 ?_
  exact hret_i hx hb hr hlocks hI (by decide) (by decide) (fun _ => ⟨trivial, rfl⟩) (ret_e hK0 hf) dX9_seenHeight_28

theorem nd_X9_yardsOf : yX9_yardsOf.cls ≠ "java/lang/invoke/MethodHandle" ∧ yX9_yardsOf.cls ≠ "java/lang/invoke/VarHandle" ∧ (parseMethodDescriptor yX9_yardsOf.desc).map (fun d => d.parameters.length) = some 1 := by decide +kernel
set_option maxHeartbeats 4000000 in
set_option maxRecDepth 100000 in
theorem ch_X9_yardsOf (l : Launch) (D : va_G) (cy : Nat → ClassId) (h : Nat) (a1 : Int32) (s0 : HSt) (out : HSt × Int32) (hf : fh_X9_yardsOf h a1 s0 = some out) : CHi l D cy yX9_yardsOf wsX9_yardsOf { frames := 0, cells := 0, slots := 0, locals := 0 } 0 0 False True [.ref h, .int a1] s0 out := by
  refine Met.ofW (cc := cX9_yardsOf) (maxL := 2) (ret := (some .int)) (by decide) rfl ?_
  intro p e s m args below meth c s₁ B hml hv
  obtain ⟨rfl, hP, hK, hD0, hkx, hsz, hal⟩ := hv
  have hx := B.exec
  have hb := B.bytes
  have hr := B.returns
  have hts := atoms_spec (ws := wsX9_yardsOf) B.pre
  have hown : s.vm.findClass RX9 = some m.cls := findClass_of_methodNamed B.named
  have hlocks := B.notSynchronized
  have hI : HI D cy s s0 s0 s.heap [] 0 False True := ⟨hK, hP, hD0.weaken (fun k q hk _ => Or.inl (pl_mem hk)), va_S.rf, hsz.1, hkx, ⟨hsz, hal⟩, fun _ => rfl, Nat.le_refl _⟩
  have hin_X9 : ∀ w ∈ u_ws RX9 TX9 5, w ∈ wsX9_yardsOf := fun w hw => List.mem_cons_of_mem _ (List.mem_append_right _ hw)
  have kl_16 : Cond.fieldLink RX9 16 "HalfBridge$Span" "yards" "[I" ∈ wsX9_yardsOf := by decide +kernel
  have hl := lv_entry ([.ref h, .int a1]) (n := 2) (Nat.le_of_ble_eq_true rfl)
  rw [lg_entry_eq]
  generalize (lg_sl ([.ref h, .int a1]) ++ List.replicate (2 - (lg_sl ([.ref h, .int a1])).length) Slot.unset).toArray = ls at hl ⊢
  have hl : lv_has ls 2 [(0, .ref h), (1, .int a1)] := hl
  obtain ⟨K0, hK0, hf⟩ := top_e hf
  unfold fh_X9_yardsOf at hf
  refine lv_aload_n hx hb dX9_yardsOf_0 rfl (lv_at hl 0 rfl) ?_
  obtain ⟨k1, hf⟩ := chk_b hf
  refine hg_9_2 hx hb hts hin_X9 hown kl_16 hI (isk_k k1) dX9_yardsOf_1 ?_
  refine lv_iload_n hx hb dX9_yardsOf_4 rfl (lv_at hl 1 rfl) ?_
  obtain ⟨b2, hd3, hf⟩ := bnd_b hf
  obtain ⟨hq4, hk5⟩ := dr_e hd3
  refine W.eq (g2 := F0 m 5 ls [.int a1, .ref b2]) (by rw [hq4]; rfl) ?_
  obtain ⟨k6, hf⟩ := chk_b hf
  refine hl_I hx hb hI hk5 k6 dX9_yardsOf_5 ?_
  exact hret_i hx hb hr hlocks hI (by decide) (by decide) (fun _ => ⟨trivial, rfl⟩) (ret_e hK0 hf) dX9_yardsOf_6

theorem nd_X9_lineAt : yX9_lineAt.cls ≠ "java/lang/invoke/MethodHandle" ∧ yX9_lineAt.cls ≠ "java/lang/invoke/VarHandle" ∧ (parseMethodDescriptor yX9_lineAt.desc).map (fun d => d.parameters.length) = some 2 := by decide +kernel
set_option maxHeartbeats 4000000 in
set_option maxRecDepth 100000 in
theorem ch_X9_lineAt (l : Launch) (D : va_G) (cy : Nat → ClassId) (h : Nat) (a1 : Int32) (a2 : Int32) (s0 : HSt) (out : HSt × Int32) (hf : fh_X9_lineAt h a1 a2 s0 = some out) : CHi l D cy yX9_lineAt wsX9_lineAt { frames := 0, cells := 0, slots := 0, locals := 0 } 0 0 False True [.ref h, .int a1, .int a2] s0 out := by
  refine Met.ofW (cc := cX9_lineAt) (maxL := 3) (ret := (some .int)) (by decide) rfl ?_
  intro p e s m args below meth c s₁ B hml hv
  obtain ⟨rfl, hP, hK, hD0, hkx, hsz, hal⟩ := hv
  have hx := B.exec
  have hb := B.bytes
  have hr := B.returns
  have hts := atoms_spec (ws := wsX9_lineAt) B.pre
  have hown : s.vm.findClass RX9 = some m.cls := findClass_of_methodNamed B.named
  have hlocks := B.notSynchronized
  have hI : HI D cy s s0 s0 s.heap [] 0 False True := ⟨hK, hP, hD0.weaken (fun k q hk _ => Or.inl (pl_mem hk)), va_S.rf, hsz.1, hkx, ⟨hsz, hal⟩, fun _ => rfl, Nat.le_refl _⟩
  have hin_X4 : ∀ w ∈ u_ws RX4 TX4 9, w ∈ wsX9_lineAt := fun w hw => List.mem_cons_of_mem _ (List.mem_append_right _ hw)
  have hin_X9 : ∀ w ∈ u_ws RX9 TX9 5, w ∈ wsX9_lineAt := fun w hw => List.mem_cons_of_mem _ (List.mem_append_left _ (List.mem_append_right _ hw))
  have kl_12 : Cond.fieldLink RX9 12 "HalfBridge$Span" "river" "LHalfBridge$River;" ∈ wsX9_lineAt := by decide +kernel
  have kl_16 : Cond.fieldLink RX9 16 "HalfBridge$Span" "yards" "[I" ∈ wsX9_lineAt := by decide +kernel
  have kl_20 : Cond.fieldLink RX9 20 "HalfBridge$Span" "lines" "[I" ∈ wsX9_lineAt := by decide +kernel
  have kl_43 : Cond.fieldLink RX9 43 "HalfBridge$River" "bankLine" "[I" ∈ wsX9_lineAt := by decide +kernel
  have hl := lv_entry ([.ref h, .int a1, .int a2]) (n := 3) (Nat.le_of_ble_eq_true rfl)
  rw [lg_entry_eq]
  generalize (lg_sl ([.ref h, .int a1, .int a2]) ++ List.replicate (3 - (lg_sl ([.ref h, .int a1, .int a2])).length) Slot.unset).toArray = ls at hl ⊢
  have hl : lv_has ls 3 [(0, .ref h), (1, .int a1), (2, .int a2)] := hl
  obtain ⟨K0, hK0, hf⟩ := top_e hf
  unfold fh_X9_lineAt at hf
  refine lv_iload_n hx hb dX9_lineAt_0 rfl (lv_at hl 2 rfl) ?_
  refine lv_if_lt (tgt := 14) hx hb dX9_lineAt_1 (by decide) (fun c1 => ?_) (fun c1 => ?_)
  · replace hf := ifp c1 hf
    refine lv_aload_n hx hb dX9_lineAt_14 rfl (lv_at hl 0 rfl) ?_
    obtain ⟨k2, hf⟩ := chk_b hf
    refine hg_9_0 hx hb hts hin_X9 hown kl_12 hI (isk_k k2) dX9_lineAt_15 ?_
    obtain ⟨b3, hd4, hf⟩ := bnd_b hf
    obtain ⟨hq5, hk6⟩ := dr_e hd4
    refine W.eq (g2 := F0 m 18 ls [.ref b3]) (by rw [hq5]; rfl) ?_
    refine hg_4_4 hx hb hts hin_X4 hown kl_43 hI hk6 dX9_lineAt_18 ?_
    refine lv_iload_n hx hb dX9_lineAt_21 rfl (lv_at hl 1 rfl) ?_
    obtain ⟨b7, hd8, hf⟩ := bnd_b hf
    obtain ⟨hq9, hk10⟩ := dr_e hd8
    refine W.eq (g2 := F0 m 22 ls [.int a1, .ref b7]) (by rw [hq9]; rfl) ?_
    obtain ⟨k11, hf⟩ := chk_b hf
    refine hl_I hx hb hI hk10 k11 dX9_lineAt_22 ?_
    refine lv_goto (tgt := 37) hx hb dX9_lineAt_23 (by decide) ?_
    exact hret_i hx hb hr hlocks hI (by decide) (by decide) (fun _ => ⟨trivial, rfl⟩) (ret_e hK0 hf) dX9_lineAt_37
  · replace hf := ifn c1 hf
    refine lv_iload_n hx hb dX9_lineAt_4 rfl (lv_at hl 2 rfl) ?_
    refine lv_aload_n hx hb dX9_lineAt_5 rfl (lv_at hl 0 rfl) ?_
    obtain ⟨k12, hf⟩ := chk_b hf
    refine hg_9_2 hx hb hts hin_X9 hown kl_16 hI (isk_k k12) dX9_lineAt_6 ?_
    refine lv_iload_n hx hb dX9_lineAt_9 rfl (lv_at hl 1 rfl) ?_
    obtain ⟨b13, hd14, hf⟩ := bnd_b hf
    obtain ⟨hq15, hk16⟩ := dr_e hd14
    refine W.eq (g2 := F0 m 10 ls [.int a1, .ref b13, .int a2]) (by rw [hq15]; rfl) ?_
    obtain ⟨k17, hf⟩ := chk_b hf
    refine hl_I hx hb hI hk16 k17 dX9_lineAt_10 ?_
    refine lv_icmp_lt (tgt := 26) hx hb dX9_lineAt_11 (by decide) (fun c18 => ?_) (fun c18 => ?_)
    · replace hf := ifp c18 hf
      refine lv_aload_n hx hb dX9_lineAt_26 rfl (lv_at hl 0 rfl) ?_
      refine hg_9_3 hx hb hts hin_X9 hown kl_20 hI (isk_k k12) dX9_lineAt_27 ?_
      refine lv_iload_n hx hb dX9_lineAt_30 rfl (lv_at hl 1 rfl) ?_
      refine lv_bipush (v := 40) hx hb dX9_lineAt_31 (by decide) ?_
      refine lv_imul hx hb dX9_lineAt_33 ?_
      refine lv_iload_n hx hb dX9_lineAt_34 rfl (lv_at hl 2 rfl) ?_
      refine lv_iadd hx hb dX9_lineAt_35 ?_
      obtain ⟨b19, hd20, hf⟩ := bnd_b hf
      obtain ⟨hq21, hk22⟩ := dr_e hd20
      refine W.eq (g2 := F0 m 36 ls [.int ((a1 * (40 : Int32)) + a2), .ref b19]) (by rw [hq21]; rfl) ?_
      obtain ⟨k23, hf⟩ := chk_b hf
      refine hl_I hx hb hI hk22 k23 dX9_lineAt_36 ?_
      exact hret_i hx hb hr hlocks hI (by decide) (by decide) (fun _ => ⟨trivial, rfl⟩) (ret_e hK0 hf) dX9_lineAt_37
    · replace hf := ifn c18 hf
      refine lv_aload_n hx hb dX9_lineAt_14 rfl (lv_at hl 0 rfl) ?_
      refine hg_9_0 hx hb hts hin_X9 hown kl_12 hI (isk_k k12) dX9_lineAt_15 ?_
      obtain ⟨b24, hd25, hf⟩ := bnd_b hf
      obtain ⟨hq26, hk27⟩ := dr_e hd25
      refine W.eq (g2 := F0 m 18 ls [.ref b24]) (by rw [hq26]; rfl) ?_
      refine hg_4_4 hx hb hts hin_X4 hown kl_43 hI hk27 dX9_lineAt_18 ?_
      refine lv_iload_n hx hb dX9_lineAt_21 rfl (lv_at hl 1 rfl) ?_
      obtain ⟨b28, hd29, hf⟩ := bnd_b hf
      obtain ⟨hq30, hk31⟩ := dr_e hd29
      refine W.eq (g2 := F0 m 22 ls [.int a1, .ref b28]) (by rw [hq30]; rfl) ?_
      obtain ⟨k32, hf⟩ := chk_b hf
      refine hl_I hx hb hI hk31 k32 dX9_lineAt_22 ?_
      refine lv_goto (tgt := 37) hx hb dX9_lineAt_23 (by decide) ?_
      exact hret_i hx hb hr hlocks hI (by decide) (by decide) (fun _ => ⟨trivial, rfl⟩) (ret_e hK0 hf) dX9_lineAt_37

theorem nd_X9_lastTurn : yX9_lastTurn.cls ≠ "java/lang/invoke/MethodHandle" ∧ yX9_lastTurn.cls ≠ "java/lang/invoke/VarHandle" ∧ (parseMethodDescriptor yX9_lastTurn.desc).map (fun d => d.parameters.length) = some 1 := by decide +kernel
set_option maxHeartbeats 4000000 in
set_option maxRecDepth 100000 in
theorem ch_X9_lastTurn (l : Launch) (D : va_G) (cy : Nat → ClassId) (h : Nat) (a1 : Int32) (s0 : HSt) (out : HSt × Int32) (hf : fh_X9_lastTurn h a1 s0 = some out) : CHi l D cy yX9_lastTurn wsX9_lastTurn { frames := 1, cells := 0, slots := 0, locals := 22 } 0 0 False True [.ref h, .int a1] s0 out := by
  refine Met.ofW (cc := cX9_lastTurn) (maxL := 2) (ret := (some .int)) (by decide) rfl ?_
  intro p e s m args below meth c s₁ B hml hv
  obtain ⟨rfl, hP, hK, hD0, hkx, hsz, hal⟩ := hv
  have hx := B.exec
  have hb := B.bytes
  have hr := B.returns
  have hts := atoms_spec (ws := wsX9_lastTurn) B.pre
  have hown : s.vm.findClass RX9 = some m.cls := findClass_of_methodNamed B.named
  have hlocks := B.notSynchronized
  have hI : HI D cy s s0 s0 s.heap [] 0 False True := ⟨hK, hP, hD0.weaken (fun k q hk _ => Or.inl (pl_mem hk)), va_S.rf, hsz.1, hkx, ⟨hsz, hal⟩, fun _ => rfl, Nat.le_refl _⟩
  have hin_X9 : ∀ w ∈ u_ws RX9 TX9 5, w ∈ wsX9_lastTurn := fun w hw => List.mem_cons_of_mem _ (List.mem_append_left _ (List.mem_append_right _ hw))
  have kl_16 : Cond.fieldLink RX9 16 "HalfBridge$Span" "yards" "[I" ∈ wsX9_lastTurn := by decide +kernel
  have hl := lv_entry ([.ref h, .int a1]) (n := 2) (Nat.le_of_ble_eq_true rfl)
  rw [lg_entry_eq]
  generalize (lg_sl ([.ref h, .int a1]) ++ List.replicate (2 - (lg_sl ([.ref h, .int a1])).length) Slot.unset).toArray = ls at hl ⊢
  have hl : lv_has ls 2 [(0, .ref h), (1, .int a1)] := hl
  obtain ⟨K0, hK0, hf⟩ := top_e hf
  unfold fh_X9_lastTurn at hf
  refine lv_aload_n hx hb dX9_lastTurn_0 rfl (lv_at hl 0 rfl) ?_
  refine lv_iload_n hx hb dX9_lastTurn_1 rfl (lv_at hl 1 rfl) ?_
  obtain ⟨k1, hf⟩ := chk_b hf
  obtain ⟨x2, hc3, hf⟩ := bnd_b hf
  refine hcall_Vi (ex2 := True) (As := [.int a1]) (rest := []) (n := 1) (by rw [(isk_k k1)]; decide) (hC_10 (isk_k k1)) rfl ⟨hx, hb, hml, hown, hts⟩ (ch_X9_tipLine l D cy h a1 s0 x2 hc3) (cwV 1 hts gX9_lastTurn_X9_tipLine rfl rfl rfl ⟨rfl, nd_X9_tipLine⟩ ⟨Nat.le_of_ble_eq_true rfl, Nat.le_of_ble_eq_true rfl⟩) hI (fun h => h.elim) (fun _ => ⟨trivial, trivial⟩) rfl hl.1 (Nat.le_of_ble_eq_true rfl) dX9_lastTurn_2 ⟨Nat.le_of_ble_eq_true rfl, Nat.le_of_ble_eq_true rfl⟩ (fun H locs hI => ?_)
  refine lv_aload_n hx hb dX9_lastTurn_5 rfl (lv_at hl 0 rfl) ?_
  refine lv_iload_n hx hb dX9_lastTurn_6 rfl (lv_at hl 1 rfl) ?_
  refine lv_aload_n hx hb dX9_lastTurn_7 rfl (lv_at hl 0 rfl) ?_
  obtain ⟨k4, hf⟩ := chk_b hf
  refine hg_9_2 hx hb hts hin_X9 hown kl_16 hI (isk_k k4) dX9_lastTurn_8 ?_
  refine lv_iload_n hx hb dX9_lastTurn_11 rfl (lv_at hl 1 rfl) ?_
  obtain ⟨b5, hd6, hf⟩ := bnd_b hf
  obtain ⟨hq7, hk8⟩ := dr_e hd6
  refine W.eq (g2 := F0 m 12 ls [.int a1, .ref b5, .int a1, .ref h, .int x2.2]) (by rw [hq7]; rfl) ?_
  obtain ⟨k9, hf⟩ := chk_b hf
  refine hl_I hx hb hI hk8 k9 dX9_lastTurn_12 ?_
  refine lv_iconst (v := 2) hx hb dX9_lastTurn_13 (by decide) ?_
  refine lv_isub hx hb dX9_lastTurn_14 ?_
  obtain ⟨x10, hc11, hf⟩ := bnd_b hf
  refine hcall_Vi (ex2 := True) (As := [.int a1, .int ((gA x2.1 b5 a1.toNatClampNeg) - (2 : Int32))]) (rest := [.int x2.2]) (n := 2) (by rw [(isk_k k4)]; decide) (hC_10 (isk_k k4)) rfl ⟨hx, hb, hml, hown, hts⟩ (ch_X9_lineAt l D cy h a1 ((gA x2.1 b5 a1.toNatClampNeg) - (2 : Int32)) x2.1 x10 hc11) (cwV 2 hts gX9_lastTurn_X9_lineAt rfl rfl rfl ⟨rfl, nd_X9_lineAt⟩ ⟨Nat.le_of_ble_eq_true rfl, Nat.le_of_ble_eq_true rfl⟩) hI (fun h => h.elim) (fun _ => ⟨trivial, trivial⟩) rfl hl.1 (Nat.le_of_ble_eq_true rfl) dX9_lastTurn_15 ⟨Nat.le_of_ble_eq_true rfl, Nat.le_of_ble_eq_true rfl⟩ (fun H locs hI => ?_)
  refine lv_isub hx hb dX9_lastTurn_18 ?_
  exact hret_i hx hb hr hlocks hI (by decide) (by decide) (fun _ => ⟨trivial, rfl⟩) (ret_e hK0 hf) dX9_lastTurn_19

theorem nd_X3_look : yX3_look.cls ≠ "java/lang/invoke/MethodHandle" ∧ yX3_look.cls ≠ "java/lang/invoke/VarHandle" ∧ (parseMethodDescriptor yX3_look.desc).map (fun d => d.parameters.length) = some 3 := by decide +kernel
set_option maxHeartbeats 4000000 in
set_option maxRecDepth 100000 in
theorem ch_X3_look (l : Launch) (D : va_G) (cy : Nat → ClassId) (h : Nat) (a1 : Option Nat) (a2 : Int32) (a3 : Int32) (s0 : HSt) (out : HSt) (hf : fh_X3_look h a1 a2 a3 s0 = some out) : CHv l D cy yX3_look wsX3_look { frames := 2, cells := 0, slots := 0, locals := 44 } 0 0 False True [.ref h, va_rf a1, .int a2, .int a3] s0 out := by
  refine Met.ofW (cc := cX3_look) (maxL := 4) (ret := none) (by decide) rfl ?_
  intro p e s m args below meth c s₁ B hml hv
  obtain ⟨rfl, hP, hK, hD0, hkx, hsz, hal⟩ := hv
  have hx := B.exec
  have hb := B.bytes
  have hr := B.returns
  have hts := atoms_spec (ws := wsX3_look) B.pre
  have hown : s.vm.findClass RX3 = some m.cls := findClass_of_methodNamed B.named
  have hlocks := B.notSynchronized
  have hI : HI D cy s s0 s0 s.heap [] 0 False True := ⟨hK, hP, hD0.weaken (fun k q hk _ => Or.inl (pl_mem hk)), va_S.rf, hsz.1, hkx, ⟨hsz, hal⟩, fun _ => rfl, Nat.le_refl _⟩
  have hin_X3 : ∀ w ∈ u_ws RX3 TX3 2, w ∈ wsX3_look := fun w hw => List.mem_cons_of_mem _ (List.mem_append_left _ (List.mem_append_left _ (List.mem_append_right _ hw)))
  have hin_X9 : ∀ w ∈ u_ws RX9 TX9 5, w ∈ wsX3_look := fun w hw => List.mem_cons_of_mem _ (List.mem_append_left _ (List.mem_append_right _ hw))
  have kl_9 : Cond.fieldLink RX3 9 "HalfBridge$Looker" "words" "[J" ∈ wsX3_look := by decide +kernel
  have kl_63 : Cond.fieldLink RX3 63 "HalfBridge$Span" "day" "I" ∈ wsX3_look := by decide +kernel
  have hl := lv_entry ([.ref h, va_rf a1, .int a2, .int a3]) (n := 4) (by simp [lg_sl, cat_rf, cat_i, cat_l, cat_r])
  rw [lg_entry_eq]
  generalize (lg_sl ([.ref h, va_rf a1, .int a2, .int a3]) ++ List.replicate (4 - (lg_sl ([.ref h, va_rf a1, .int a2, .int a3])).length) Slot.unset).toArray = ls at hl ⊢
  have hl : lv_has ls 4 [(0, .ref h), (1, va_rf a1), (2, .int a2), (3, .int a3)] := (by simpa [lv_args, cat_rf, cat_i, cat_l, cat_r] using hl)
  obtain ⟨K0, hK0, hf⟩ := top_e hf
  unfold fh_X3_look at hf
  refine lv_aload_n hx hb dX3_look_0 rfl (lv_at hl 0 rfl) ?_
  obtain ⟨k1, hf⟩ := chk_b hf
  refine hg_3_0 hx hb hts hin_X3 hown kl_9 hI (isk_k k1) dX3_look_1 ?_
  refine lv_iconst (v := 0) hx hb dX3_look_4 (by decide) ?_
  refine lv_iload_n hx hb dX3_look_5 rfl (lv_at hl 2 rfl) ?_
  refine lv_i2l (v := (a2.toInt64)) hx hb dX3_look_6 rfl ?_
  obtain ⟨b2, hd3, hf⟩ := bnd_b hf
  obtain ⟨hq4, hk5⟩ := dr_e hd3
  refine W.eq (g2 := F0 m 7 ls [.long (a2.toInt64), .int (0 : Int32), .ref b2]) (by rw [hq4]; rfl) ?_
  obtain ⟨k6, hf⟩ := chk_b hf
  refine hs_J hx hb hI hk5 k6 dX3_look_7 (fun H locs hI => ?_)
  refine lv_aload_n hx hb dX3_look_8 rfl (lv_at hl 0 rfl) ?_
  refine hg_3_0 hx hb hts hin_X3 hown kl_9 hI (gK_sJ.trans (isk_k k1)) dX3_look_9 ?_
  refine lv_iconst (v := 1) hx hb dX3_look_12 (by decide) ?_
  refine hq_aload_n hx hb dX3_look_13 rfl (lv_at hl 1 rfl) ?_
  refine lv_iload_n hx hb dX3_look_14 rfl (lv_at hl 2 rfl) ?_
  obtain ⟨b7, hd8, hf⟩ := bnd_b hf
  obtain ⟨hq9, hk10⟩ := dr_e hd8
  refine W.eq (g2 := F0 m 15 ls [.int a2, .ref b7, .int (1 : Int32), va_rf (gR (sJ s0 b2 (0 : Int32).toNatClampNeg (a2.toInt64)) 300 h)]) (by rw [hq9]; rfl) ?_
  obtain ⟨x11, hc12, hf⟩ := bnd_b hf
  refine hcall_Vi (ex2 := True) (As := [.int a2]) (rest := [.int (1 : Int32), va_rf (gR (sJ s0 b2 (0 : Int32).toNatClampNeg (a2.toInt64)) 300 h)]) (n := 1) (by rw [(gK_sJ.trans hk10)]; decide) (hC_10 (gK_sJ.trans hk10)) rfl ⟨hx, hb, hml, hown, hts⟩ (ch_X9_tipLine l D cy b7 a2 (sJ s0 b2 (0 : Int32).toNatClampNeg (a2.toInt64)) x11 hc12) (cwV 1 hts gX3_look_X9_tipLine rfl rfl rfl ⟨rfl, nd_X9_tipLine⟩ ⟨Nat.le_of_ble_eq_true rfl, Nat.le_of_ble_eq_true rfl⟩) hI (fun h => h.elim) (fun _ => ⟨trivial, trivial⟩) rfl hl.1 (by simp [cat_rf, cat_i, cat_l, cat_r]) dX3_look_15 ⟨Nat.le_of_ble_eq_true rfl, Nat.le_of_ble_eq_true rfl⟩ (fun H locs hI => ?_)
  refine lv_i2l (v := (x11.2.toInt64)) hx hb dX3_look_18 rfl ?_
  obtain ⟨b13, hd14, hf⟩ := bnd_b hf
  obtain ⟨hq15, hk16⟩ := dr_e hd14
  refine W.eq (g2 := F0 m 19 ls [.long (x11.2.toInt64), .int (1 : Int32), .ref b13]) (by rw [hq15]; rfl) ?_
  obtain ⟨k17, hf⟩ := chk_b hf
  refine hs_J hx hb hI hk16 k17 dX3_look_19 (fun H locs hI => ?_)
  refine lv_aload_n hx hb dX3_look_20 rfl (lv_at hl 0 rfl) ?_
  obtain ⟨k18, hf⟩ := chk_b hf
  refine hg_3_0 hx hb hts hin_X3 hown kl_9 hI (gK_sJ.trans (isk_k k18)) dX3_look_21 ?_
  refine lv_iconst (v := 2) hx hb dX3_look_24 (by decide) ?_
  refine hq_aload_n hx hb dX3_look_25 rfl (lv_at hl 1 rfl) ?_
  refine lv_iload_n hx hb dX3_look_26 rfl (lv_at hl 2 rfl) ?_
  refine W.eq (g2 := F0 m 27 ls [.int a2, .ref b7, .int (2 : Int32), va_rf (gR (sJ x11.1 b13 (1 : Int32).toNatClampNeg (x11.2.toInt64)) 300 h)]) (by rw [hq9]; rfl) ?_
  obtain ⟨k19, hf⟩ := chk_b hf
  obtain ⟨x20, hc21, hf⟩ := bnd_b hf
  refine hcall_Vi (ex2 := True) (As := [.int a2]) (rest := [.int (2 : Int32), va_rf (gR (sJ x11.1 b13 (1 : Int32).toNatClampNeg (x11.2.toInt64)) 300 h)]) (n := 1) (by rw [(gK_sJ.trans (isk_k k19))]; decide) (hC_10 (gK_sJ.trans (isk_k k19))) rfl ⟨hx, hb, hml, hown, hts⟩ (ch_X9_tipHeight l D cy b7 a2 (sJ x11.1 b13 (1 : Int32).toNatClampNeg (x11.2.toInt64)) x20 hc21) (cwV 1 hts gX3_look_X9_tipHeight rfl rfl rfl ⟨rfl, nd_X9_tipHeight⟩ ⟨Nat.le_of_ble_eq_true rfl, Nat.le_of_ble_eq_true rfl⟩) hI (fun h => h.elim) (fun _ => ⟨trivial, trivial⟩) rfl hl.1 (by simp [cat_rf, cat_i, cat_l, cat_r]) dX3_look_27 ⟨Nat.le_of_ble_eq_true rfl, Nat.le_of_ble_eq_true rfl⟩ (fun H locs hI => ?_)
  refine lv_i2l (v := (x20.2.toInt64)) hx hb dX3_look_30 rfl ?_
  obtain ⟨b22, hd23, hf⟩ := bnd_b hf
  obtain ⟨hq24, hk25⟩ := dr_e hd23
  refine W.eq (g2 := F0 m 31 ls [.long (x20.2.toInt64), .int (2 : Int32), .ref b22]) (by rw [hq24]; rfl) ?_
  obtain ⟨k26, hf⟩ := chk_b hf
  refine hs_J hx hb hI hk25 k26 dX3_look_31 (fun H locs hI => ?_)
  refine lv_aload_n hx hb dX3_look_32 rfl (lv_at hl 0 rfl) ?_
  obtain ⟨k27, hf⟩ := chk_b hf
  refine hg_3_0 hx hb hts hin_X3 hown kl_9 hI (gK_sJ.trans (isk_k k27)) dX3_look_33 ?_
  refine lv_iconst (v := 3) hx hb dX3_look_36 (by decide) ?_
  refine hq_aload_n hx hb dX3_look_37 rfl (lv_at hl 1 rfl) ?_
  refine lv_iload_n hx hb dX3_look_38 rfl (lv_at hl 2 rfl) ?_
  refine lv_iload_n hx hb dX3_look_39 rfl (lv_at hl 3 rfl) ?_
  refine W.eq (g2 := F0 m 40 ls [.int a3, .int a2, .ref b7, .int (3 : Int32), va_rf (gR (sJ x20.1 b22 (2 : Int32).toNatClampNeg (x20.2.toInt64)) 300 h)]) (by rw [hq9]; rfl) ?_
  obtain ⟨k28, hf⟩ := chk_b hf
  obtain ⟨x29, hc30, hf⟩ := bnd_b hf
  refine hcall_Vi (ex2 := True) (As := [.int a2, .int a3]) (rest := [.int (3 : Int32), va_rf (gR (sJ x20.1 b22 (2 : Int32).toNatClampNeg (x20.2.toInt64)) 300 h)]) (n := 2) (by rw [(gK_sJ.trans (isk_k k28))]; decide) (hC_10 (gK_sJ.trans (isk_k k28))) rfl ⟨hx, hb, hml, hown, hts⟩ (ch_X9_seenLine l D cy b7 a2 a3 (sJ x20.1 b22 (2 : Int32).toNatClampNeg (x20.2.toInt64)) x29 hc30) (cwV 2 hts gX3_look_X9_seenLine rfl rfl rfl ⟨rfl, nd_X9_seenLine⟩ ⟨Nat.le_of_ble_eq_true rfl, Nat.le_of_ble_eq_true rfl⟩) hI (fun h => h.elim) (fun _ => ⟨trivial, trivial⟩) rfl hl.1 (by simp [cat_rf, cat_i, cat_l, cat_r]) dX3_look_40 ⟨Nat.le_of_ble_eq_true rfl, Nat.le_of_ble_eq_true rfl⟩ (fun H locs hI => ?_)
  refine lv_i2l (v := (x29.2.toInt64)) hx hb dX3_look_43 rfl ?_
  obtain ⟨b31, hd32, hf⟩ := bnd_b hf
  obtain ⟨hq33, hk34⟩ := dr_e hd32
  refine W.eq (g2 := F0 m 44 ls [.long (x29.2.toInt64), .int (3 : Int32), .ref b31]) (by rw [hq33]; rfl) ?_
  obtain ⟨k35, hf⟩ := chk_b hf
  refine hs_J hx hb hI hk34 k35 dX3_look_44 (fun H locs hI => ?_)
  refine lv_aload_n hx hb dX3_look_45 rfl (lv_at hl 0 rfl) ?_
  obtain ⟨k36, hf⟩ := chk_b hf
  refine hg_3_0 hx hb hts hin_X3 hown kl_9 hI (gK_sJ.trans (isk_k k36)) dX3_look_46 ?_
  refine lv_iconst (v := 4) hx hb dX3_look_49 (by decide) ?_
  refine hq_aload_n hx hb dX3_look_50 rfl (lv_at hl 1 rfl) ?_
  refine lv_iload_n hx hb dX3_look_51 rfl (lv_at hl 2 rfl) ?_
  refine lv_iload_n hx hb dX3_look_52 rfl (lv_at hl 3 rfl) ?_
  refine W.eq (g2 := F0 m 53 ls [.int a3, .int a2, .ref b7, .int (4 : Int32), va_rf (gR (sJ x29.1 b31 (3 : Int32).toNatClampNeg (x29.2.toInt64)) 300 h)]) (by rw [hq9]; rfl) ?_
  obtain ⟨k37, hf⟩ := chk_b hf
  obtain ⟨x38, hc39, hf⟩ := bnd_b hf
  refine hcall_Vi (ex2 := True) (As := [.int a2, .int a3]) (rest := [.int (4 : Int32), va_rf (gR (sJ x29.1 b31 (3 : Int32).toNatClampNeg (x29.2.toInt64)) 300 h)]) (n := 2) (by rw [(gK_sJ.trans (isk_k k37))]; decide) (hC_10 (gK_sJ.trans (isk_k k37))) rfl ⟨hx, hb, hml, hown, hts⟩ (ch_X9_seenHeight l D cy b7 a2 a3 (sJ x29.1 b31 (3 : Int32).toNatClampNeg (x29.2.toInt64)) x38 hc39) (cwV 2 hts gX3_look_X9_seenHeight rfl rfl rfl ⟨rfl, nd_X9_seenHeight⟩ ⟨Nat.le_of_ble_eq_true rfl, Nat.le_of_ble_eq_true rfl⟩) hI (fun h => h.elim) (fun _ => ⟨trivial, trivial⟩) rfl hl.1 (by simp [cat_rf, cat_i, cat_l, cat_r]) dX3_look_53 ⟨Nat.le_of_ble_eq_true rfl, Nat.le_of_ble_eq_true rfl⟩ (fun H locs hI => ?_)
  refine lv_i2l (v := (x38.2.toInt64)) hx hb dX3_look_56 rfl ?_
  obtain ⟨b40, hd41, hf⟩ := bnd_b hf
  obtain ⟨hq42, hk43⟩ := dr_e hd41
  refine W.eq (g2 := F0 m 57 ls [.long (x38.2.toInt64), .int (4 : Int32), .ref b40]) (by rw [hq42]; rfl) ?_
  obtain ⟨k44, hf⟩ := chk_b hf
  refine hs_J hx hb hI hk43 k44 dX3_look_57 (fun H locs hI => ?_)
  refine lv_aload_n hx hb dX3_look_58 rfl (lv_at hl 0 rfl) ?_
  obtain ⟨k45, hf⟩ := chk_b hf
  refine hg_3_0 hx hb hts hin_X3 hown kl_9 hI (gK_sJ.trans (isk_k k45)) dX3_look_59 ?_
  refine lv_iconst (v := 5) hx hb dX3_look_62 (by decide) ?_
  refine hq_aload_n hx hb dX3_look_63 rfl (lv_at hl 1 rfl) ?_
  refine W.eq (g2 := F0 m 64 ls [.ref b7, .int (5 : Int32), va_rf (gR (sJ x38.1 b40 (4 : Int32).toNatClampNeg (x38.2.toInt64)) 300 h)]) (by rw [hq9]; rfl) ?_
  obtain ⟨k46, hf⟩ := chk_b hf
  obtain ⟨x47, hc48, hf⟩ := bnd_b hf
  refine hcall_Vi (ex2 := True) (As := []) (rest := [.int (5 : Int32), va_rf (gR (sJ x38.1 b40 (4 : Int32).toNatClampNeg (x38.2.toInt64)) 300 h)]) (n := 0) (by rw [(gK_sJ.trans (isk_k k46))]; decide) (hC_10 (gK_sJ.trans (isk_k k46))) rfl ⟨hx, hb, hml, hown, hts⟩ (ch_X9_gap l D cy b7 (sJ x38.1 b40 (4 : Int32).toNatClampNeg (x38.2.toInt64)) x47 hc48) (cwV 0 hts gX3_look_X9_gap rfl rfl rfl ⟨rfl, nd_X9_gap⟩ ⟨Nat.le_of_ble_eq_true rfl, Nat.le_of_ble_eq_true rfl⟩) hI (fun h => h.elim) (fun _ => ⟨trivial, trivial⟩) rfl hl.1 (by simp [cat_rf, cat_i, cat_l, cat_r]) dX3_look_64 ⟨Nat.le_of_ble_eq_true rfl, Nat.le_of_ble_eq_true rfl⟩ (fun H locs hI => ?_)
  refine lv_i2l (v := (x47.2.toInt64)) hx hb dX3_look_67 rfl ?_
  obtain ⟨b49, hd50, hf⟩ := bnd_b hf
  obtain ⟨hq51, hk52⟩ := dr_e hd50
  refine W.eq (g2 := F0 m 68 ls [.long (x47.2.toInt64), .int (5 : Int32), .ref b49]) (by rw [hq51]; rfl) ?_
  obtain ⟨k53, hf⟩ := chk_b hf
  refine hs_J hx hb hI hk52 k53 dX3_look_68 (fun H locs hI => ?_)
  refine lv_aload_n hx hb dX3_look_69 rfl (lv_at hl 0 rfl) ?_
  obtain ⟨k54, hf⟩ := chk_b hf
  refine hg_3_0 hx hb hts hin_X3 hown kl_9 hI (gK_sJ.trans (isk_k k54)) dX3_look_70 ?_
  refine lv_bipush (v := 6) hx hb dX3_look_73 (by decide) ?_
  refine hq_aload_n hx hb dX3_look_75 rfl (lv_at hl 1 rfl) ?_
  refine W.eq (g2 := F0 m 76 ls [.ref b7, .int (6 : Int32), va_rf (gR (sJ x47.1 b49 (5 : Int32).toNatClampNeg (x47.2.toInt64)) 300 h)]) (by rw [hq9]; rfl) ?_
  obtain ⟨k55, hf⟩ := chk_b hf
  refine hg_9_1 hx hb hts hin_X9 hown kl_63 hI (gK_sJ.trans (isk_k k55)) dX3_look_76 ?_
  refine lv_i2l (v := ((gI (sJ x47.1 b49 (5 : Int32).toNatClampNeg (x47.2.toInt64)) 901 b7).toInt64)) hx hb dX3_look_79 rfl ?_
  obtain ⟨b56, hd57, hf⟩ := bnd_b hf
  obtain ⟨hq58, hk59⟩ := dr_e hd57
  refine W.eq (g2 := F0 m 80 ls [.long ((gI (sJ x47.1 b49 (5 : Int32).toNatClampNeg (x47.2.toInt64)) 901 b7).toInt64), .int (6 : Int32), .ref b56]) (by rw [hq58]; rfl) ?_
  obtain ⟨k60, hf⟩ := chk_b hf
  refine hs_J hx hb hI (gK_sJ.trans hk59) k60 dX3_look_80 (fun H locs hI => ?_)
  obtain ⟨x61, hx61, hf⟩ := bnd_b hf
  replace hx61 := Option.some.inj hx61
  rw [hx61] at hI
  have hk62 : gK x61 b49 = 23 := by rw [← hx61]; exact (gK_sJ.trans (gK_sJ.trans hk52))
  have hk63 : gK x61 h = 4 := by rw [← hx61]; exact (gK_sJ.trans (gK_sJ.trans (isk_k k54)))
  have hk64 : gK x61 b7 = 10 := by rw [← hx61]; exact (gK_sJ.trans (gK_sJ.trans (isk_k k55)))
  have hk65 : gK x61 b56 = 23 := by rw [← hx61]; exact (gK_sJ.trans (gK_sJ.trans hk59))
  refine lv_aload_n hx hb dX3_look_81 rfl (lv_at hl 0 rfl) ?_
  refine hg_3_0 hx hb hts hin_X3 hown kl_9 hI hk63 dX3_look_82 ?_
  refine lv_bipush (v := 7) hx hb dX3_look_85 (by decide) ?_
  refine hq_aload_n hx hb dX3_look_87 rfl (lv_at hl 1 rfl) ?_
  refine lv_iload_n hx hb dX3_look_88 rfl (lv_at hl 2 rfl) ?_
  refine W.eq (g2 := F0 m 89 ls [.int a2, .ref b7, .int (7 : Int32), va_rf (gR x61 300 h)]) (by rw [hq9]; rfl) ?_
  obtain ⟨x66, hc67, hf⟩ := bnd_b hf
  refine hcall_Vi (ex2 := True) (As := [.int a2]) (rest := [.int (7 : Int32), va_rf (gR x61 300 h)]) (n := 1) (by rw [hk64]; decide) (hC_10 hk64) rfl ⟨hx, hb, hml, hown, hts⟩ (ch_X9_yardsOf l D cy b7 a2 x61 x66 hc67) (cwV 1 hts gX3_look_X9_yardsOf rfl rfl rfl ⟨rfl, nd_X9_yardsOf⟩ ⟨Nat.le_of_ble_eq_true rfl, Nat.le_of_ble_eq_true rfl⟩) hI (fun h => h.elim) (fun _ => ⟨trivial, trivial⟩) rfl hl.1 (by simp [cat_rf, cat_i, cat_l, cat_r]) dX3_look_89 ⟨Nat.le_of_ble_eq_true rfl, Nat.le_of_ble_eq_true rfl⟩ (fun H locs hI => ?_)
  refine lv_i2l (v := (x66.2.toInt64)) hx hb dX3_look_92 rfl ?_
  obtain ⟨b68, hd69, hf⟩ := bnd_b hf
  obtain ⟨hq70, hk71⟩ := dr_e hd69
  refine W.eq (g2 := F0 m 93 ls [.long (x66.2.toInt64), .int (7 : Int32), .ref b68]) (by rw [hq70]; rfl) ?_
  obtain ⟨k72, hf⟩ := chk_b hf
  refine hs_J hx hb hI hk71 k72 dX3_look_93 (fun H locs hI => ?_)
  refine lv_aload_n hx hb dX3_look_94 rfl (lv_at hl 0 rfl) ?_
  obtain ⟨k73, hf⟩ := chk_b hf
  refine hg_3_0 hx hb hts hin_X3 hown kl_9 hI (gK_sJ.trans (isk_k k73)) dX3_look_95 ?_
  refine lv_bipush (v := 8) hx hb dX3_look_98 (by decide) ?_
  refine hq_aload_n hx hb dX3_look_100 rfl (lv_at hl 1 rfl) ?_
  refine lv_iload_n hx hb dX3_look_101 rfl (lv_at hl 2 rfl) ?_
  refine W.eq (g2 := F0 m 102 ls [.int a2, .ref b7, .int (8 : Int32), va_rf (gR (sJ x66.1 b68 (7 : Int32).toNatClampNeg (x66.2.toInt64)) 300 h)]) (by rw [hq9]; rfl) ?_
  obtain ⟨k74, hf⟩ := chk_b hf
  obtain ⟨x75, hc76, hf⟩ := bnd_b hf
  refine hcall_Vi (ex2 := True) (As := [.int a2]) (rest := [.int (8 : Int32), va_rf (gR (sJ x66.1 b68 (7 : Int32).toNatClampNeg (x66.2.toInt64)) 300 h)]) (n := 1) (by rw [(gK_sJ.trans (isk_k k74))]; decide) (hC_10 (gK_sJ.trans (isk_k k74))) rfl ⟨hx, hb, hml, hown, hts⟩ (ch_X9_lastTurn l D cy b7 a2 (sJ x66.1 b68 (7 : Int32).toNatClampNeg (x66.2.toInt64)) x75 hc76) (cwV 1 hts gX3_look_X9_lastTurn rfl rfl rfl ⟨rfl, nd_X9_lastTurn⟩ ⟨Nat.le_of_ble_eq_true rfl, Nat.le_of_ble_eq_true rfl⟩) hI (fun h => h.elim) (fun _ => ⟨trivial, trivial⟩) rfl hl.1 (by simp [cat_rf, cat_i, cat_l, cat_r]) dX3_look_102 ⟨Nat.le_of_ble_eq_true rfl, Nat.le_of_ble_eq_true rfl⟩ (fun H locs hI => ?_)
  refine lv_i2l (v := (x75.2.toInt64)) hx hb dX3_look_105 rfl ?_
  obtain ⟨b77, hd78, hf⟩ := bnd_b hf
  obtain ⟨hq79, hk80⟩ := dr_e hd78
  refine W.eq (g2 := F0 m 106 ls [.long (x75.2.toInt64), .int (8 : Int32), .ref b77]) (by rw [hq79]; rfl) ?_
  obtain ⟨k81, hf⟩ := chk_b hf
  refine hs_J hx hb hI hk80 k81 dX3_look_106 (fun H locs hI => ?_)
  exact hret_v hx hb hr hlocks hI (by decide) (by decide) (fun _ => ⟨trivial, rfl⟩) (ret_e hK0 hf) dX3_look_107

theorem nd_X3_wordOf : yX3_wordOf.cls ≠ "java/lang/invoke/MethodHandle" ∧ yX3_wordOf.cls ≠ "java/lang/invoke/VarHandle" ∧ (parseMethodDescriptor yX3_wordOf.desc).map (fun d => d.parameters.length) = some 1 := by decide +kernel
set_option maxHeartbeats 4000000 in
set_option maxRecDepth 100000 in
theorem ch_X3_wordOf (l : Launch) (D : va_G) (cy : Nat → ClassId) (h : Nat) (a1 : Int32) (s0 : HSt) (out : HSt × Int64) (hf : fh_X3_wordOf h a1 s0 = some out) : CHl l D cy yX3_wordOf wsX3_wordOf { frames := 0, cells := 0, slots := 0, locals := 0 } 0 0 False True [.ref h, .int a1] s0 out := by
  refine Met.ofW (cc := cX3_wordOf) (maxL := 3) (ret := (some .long)) (by decide) rfl ?_
  intro p e s m args below meth c s₁ B hml hv
  obtain ⟨rfl, hP, hK, hD0, hkx, hsz, hal⟩ := hv
  have hx := B.exec
  have hb := B.bytes
  have hr := B.returns
  have hts := atoms_spec (ws := wsX3_wordOf) B.pre
  have hown : s.vm.findClass RX3 = some m.cls := findClass_of_methodNamed B.named
  have hlocks := B.notSynchronized
  have hI : HI D cy s s0 s0 s.heap [] 0 False True := ⟨hK, hP, hD0.weaken (fun k q hk _ => Or.inl (pl_mem hk)), va_S.rf, hsz.1, hkx, ⟨hsz, hal⟩, fun _ => rfl, Nat.le_refl _⟩
  have hin_X3 : ∀ w ∈ u_ws RX3 TX3 2, w ∈ wsX3_wordOf := fun w hw => List.mem_cons_of_mem _ (List.mem_append_right _ hw)
  have kl_9 : Cond.fieldLink RX3 9 "HalfBridge$Looker" "words" "[J" ∈ wsX3_wordOf := by decide +kernel
  have hl := lv_entry ([.ref h, .int a1]) (n := 3) (Nat.le_of_ble_eq_true rfl)
  rw [lg_entry_eq]
  generalize (lg_sl ([.ref h, .int a1]) ++ List.replicate (3 - (lg_sl ([.ref h, .int a1])).length) Slot.unset).toArray = ls at hl ⊢
  have hl : lv_has ls 3 [(0, .ref h), (1, .int a1)] := hl
  obtain ⟨K0, hK0, hf⟩ := top_e hf
  unfold fh_X3_wordOf at hf
  refine lv_iload_n hx hb dX3_wordOf_0 rfl (lv_at hl 1 rfl) ?_
  refine lv_sipush (v := 270) hx hb dX3_wordOf_1 (by decide) ?_
  refine lv_isub hx hb dX3_wordOf_4 ?_
  refine lv_istore_n (lv' := [(2, .int (a1 - (270 : Int32))), (0, .ref h), (1, .int a1)]) hx hb dX3_wordOf_5 rfl hl (by decide) rfl (fun ls hl => ?_)
  refine lv_iload_n hx hb dX3_wordOf_6 rfl (lv_at hl 0 rfl) ?_
  refine lv_if_lt (tgt := 28) hx hb dX3_wordOf_7 (by decide) (fun c1 => ?_) (fun c1 => ?_)
  · replace hf := ifp c1 hf
    refine lv_lconst (v := 0) hx hb dX3_wordOf_28 (by decide) ?_
    exact hret_l hx hb hr hlocks hI (by decide) (by decide) (fun _ => ⟨trivial, rfl⟩) (ret_e hK0 hf) dX3_wordOf_29
  · replace hf := ifn c1 hf
    refine lv_iload_n hx hb dX3_wordOf_10 rfl (lv_at hl 0 rfl) ?_
    refine lv_aload_n hx hb dX3_wordOf_11 rfl (lv_at hl 1 rfl) ?_
    obtain ⟨k2, hf⟩ := chk_b hf
    refine hg_3_0 hx hb hts hin_X3 hown kl_9 hI (isk_k k2) dX3_wordOf_12 ?_
    obtain ⟨b3, hd4, hf⟩ := bnd_b hf
    obtain ⟨hq5, hk6⟩ := dr_e hd4
    refine W.eq (g2 := F0 m 15 ls [.ref b3, .int (a1 - (270 : Int32))]) (by rw [hq5]; rfl) ?_
    refine ha_23 hx hb hI hk6 dX3_wordOf_15 ?_
    refine lv_icmp_ge (tgt := 28) hx hb dX3_wordOf_16 (by decide) (fun c7 => ?_) (fun c7 => ?_)
    · replace hf := ifp c7 hf
      refine lv_lconst (v := 0) hx hb dX3_wordOf_28 (by decide) ?_
      exact hret_l hx hb hr hlocks hI (by decide) (by decide) (fun _ => ⟨trivial, rfl⟩) (ret_e hK0 hf) dX3_wordOf_29
    · replace hf := ifn c7 hf
      refine lv_aload_n hx hb dX3_wordOf_19 rfl (lv_at hl 1 rfl) ?_
      refine hg_3_0 hx hb hts hin_X3 hown kl_9 hI (isk_k k2) dX3_wordOf_20 ?_
      refine lv_iload_n hx hb dX3_wordOf_23 rfl (lv_at hl 0 rfl) ?_
      refine W.eq (g2 := F0 m 24 ls [.int (a1 - (270 : Int32)), .ref b3]) (by rw [hq5]; rfl) ?_
      obtain ⟨k8, hf⟩ := chk_b hf
      refine hl_J hx hb hI hk6 k8 dX3_wordOf_24 ?_
      refine lv_goto (tgt := 29) hx hb dX3_wordOf_25 (by decide) ?_
      exact hret_l hx hb hr hlocks hI (by decide) (by decide) (fun _ => ⟨trivial, rfl⟩) (ret_e hK0 hf) dX3_wordOf_29

theorem nd_X3_joined : yX3_joined.cls ≠ "java/lang/invoke/MethodHandle" ∧ yX3_joined.cls ≠ "java/lang/invoke/VarHandle" ∧ (parseMethodDescriptor yX3_joined.desc).map (fun d => d.parameters.length) = some 3 := by decide +kernel
set_option maxHeartbeats 4000000 in
set_option maxRecDepth 100000 in
theorem ch_X3_joined (l : Launch) (D : va_G) (cy : Nat → ClassId) (a0 : Int32) (a1 : Int64) (a3 : Int64) (s0 : HSt) (out : HSt × Int64) (hf : fh_X3_joined a0 a1 a3 s0 = some out) : CHl l D cy yX3_joined wsX3_joined { frames := 0, cells := 0, slots := 0, locals := 0 } 0 0 False True [.int a0, .long a1, .long a3] s0 out := by
  refine Met.ofW (cc := cX3_joined) (maxL := 5) (ret := (some .long)) (by decide) rfl ?_
  intro p e s m args below meth c s₁ B hml hv
  obtain ⟨rfl, hP, hK, hD0, hkx, hsz, hal⟩ := hv
  have hx := B.exec
  have hb := B.bytes
  have hr := B.returns
  have hts := atoms_spec (ws := wsX3_joined) B.pre
  have hown : s.vm.findClass RX3 = some m.cls := findClass_of_methodNamed B.named
  have hlocks := B.notSynchronized
  have hI : HI D cy s s0 s0 s.heap [] 0 False True := ⟨hK, hP, hD0.weaken (fun k q hk _ => Or.inl (pl_mem hk)), va_S.rf, hsz.1, hkx, ⟨hsz, hal⟩, fun _ => rfl, Nat.le_refl _⟩
  have hl := lv_entry ([.int a0, .long a1, .long a3]) (n := 5) (Nat.le_of_ble_eq_true rfl)
  rw [lg_entry_eq]
  generalize (lg_sl ([.int a0, .long a1, .long a3]) ++ List.replicate (5 - (lg_sl ([.int a0, .long a1, .long a3])).length) Slot.unset).toArray = ls at hl ⊢
  have hl : lv_has ls 5 [(0, .int a0), (1, .long a1), (3, .long a3)] := hl
  obtain ⟨K0, hK0, hf⟩ := top_e hf
  unfold fh_X3_joined at hf
  refine lv_iload_n hx hb dX3_joined_0 rfl (lv_at hl 0 rfl) ?_
  by_cases c1 : a0 = 3
  · replace hf := ifp c1 hf
    refine lv_lookup (off := 129) (tgt := 130) hx hb dX3_joined_1 (by decide) (by rw [c1]; decide) (by decide) ?_
    refine lv_lload_n hx hb dX3_joined_130 rfl (lv_at hl 1 rfl) ?_
    refine lv_lload_n hx hb dX3_joined_131 rfl (lv_at hl 2 rfl) ?_
    refine W.lcmp hx hb dX3_joined_132 ?_
    refine lv_if_gt (tgt := 140) hx hb dX3_joined_133 (by decide) (fun c11 => ?_) (fun c11 => ?_)
    · replace hf := ifp c11 hf
      refine lv_lconst (v := 0) hx hb dX3_joined_140 (by decide) ?_
      exact hret_l hx hb hr hlocks hI (by decide) (by decide) (fun _ => ⟨trivial, rfl⟩) (ret_e hK0 hf) dX3_joined_141
    · replace hf := ifn c11 hf
      refine lv_lconst (v := 1) hx hb dX3_joined_136 (by decide) ?_
      refine lv_goto (tgt := 141) hx hb dX3_joined_137 (by decide) ?_
      exact hret_l hx hb hr hlocks hI (by decide) (by decide) (fun _ => ⟨trivial, rfl⟩) (ret_e hK0 hf) dX3_joined_141
  replace hf := ifn c1 hf
  by_cases c2 : a0 = 4
  · replace hf := ifp c2 hf
    refine lv_lookup (off := 153) (tgt := 154) hx hb dX3_joined_1 (by decide) (by rw [c2]; decide) (by decide) ?_
    refine lv_lload_n hx hb dX3_joined_154 rfl (lv_at hl 1 rfl) ?_
    refine lv_lload_n hx hb dX3_joined_155 rfl (lv_at hl 2 rfl) ?_
    refine W.lcmp hx hb dX3_joined_156 ?_
    refine lv_if_lt (tgt := 164) hx hb dX3_joined_157 (by decide) (fun c12 => ?_) (fun c12 => ?_)
    · replace hf := ifp c12 hf
      refine lv_lconst (v := 0) hx hb dX3_joined_164 (by decide) ?_
      exact hret_l hx hb hr hlocks hI (by decide) (by decide) (fun _ => ⟨trivial, rfl⟩) (ret_e hK0 hf) dX3_joined_165
    · replace hf := ifn c12 hf
      refine lv_lconst (v := 1) hx hb dX3_joined_160 (by decide) ?_
      refine lv_goto (tgt := 165) hx hb dX3_joined_161 (by decide) ?_
      exact hret_l hx hb hr hlocks hI (by decide) (by decide) (fun _ => ⟨trivial, rfl⟩) (ret_e hK0 hf) dX3_joined_165
  replace hf := ifn c2 hf
  by_cases c3 : a0 = 42
  · replace hf := ifp c3 hf
    refine lv_lookup (off := 99) (tgt := 100) hx hb dX3_joined_1 (by decide) (by rw [c3]; decide) (by decide) ?_
    refine lv_lload_n hx hb dX3_joined_100 rfl (lv_at hl 1 rfl) ?_
    refine lv_lload_n hx hb dX3_joined_101 rfl (lv_at hl 2 rfl) ?_
    refine lv_lmul hx hb dX3_joined_102 ?_
    exact hret_l hx hb hr hlocks hI (by decide) (by decide) (fun _ => ⟨trivial, rfl⟩) (ret_e hK0 hf) dX3_joined_103
  replace hf := ifn c3 hf
  by_cases c4 : a0 = 43
  · replace hf := ifp c4 hf
    refine lv_lookup (off := 91) (tgt := 92) hx hb dX3_joined_1 (by decide) (by rw [c4]; decide) (by decide) ?_
    refine lv_lload_n hx hb dX3_joined_92 rfl (lv_at hl 1 rfl) ?_
    refine lv_lload_n hx hb dX3_joined_93 rfl (lv_at hl 2 rfl) ?_
    refine lv_ladd hx hb dX3_joined_94 ?_
    exact hret_l hx hb hr hlocks hI (by decide) (by decide) (fun _ => ⟨trivial, rfl⟩) (ret_e hK0 hf) dX3_joined_95
  replace hf := ifn c4 hf
  by_cases c5 : a0 = 45
  · replace hf := ifp c5 hf
    refine lv_lookup (off := 95) (tgt := 96) hx hb dX3_joined_1 (by decide) (by rw [c5]; decide) (by decide) ?_
    refine lv_lload_n hx hb dX3_joined_96 rfl (lv_at hl 1 rfl) ?_
    refine lv_lload_n hx hb dX3_joined_97 rfl (lv_at hl 2 rfl) ?_
    refine lv_lsub hx hb dX3_joined_98 ?_
    exact hret_l hx hb hr hlocks hI (by decide) (by decide) (fun _ => ⟨trivial, rfl⟩) (ret_e hK0 hf) dX3_joined_99
  replace hf := ifn c5 hf
  by_cases c6 : a0 = 47
  · replace hf := ifp c6 hf
    refine lv_lookup (off := 103) (tgt := 104) hx hb dX3_joined_1 (by decide) (by rw [c6]; decide) (by decide) ?_
    refine lv_lload_n hx hb dX3_joined_104 rfl (lv_at hl 2 rfl) ?_
    refine lv_lconst (v := 0) hx hb dX3_joined_105 (by decide) ?_
    refine W.lcmp hx hb dX3_joined_106 ?_
    refine lv_if_ne (tgt := 114) hx hb dX3_joined_107 (by decide) (fun c13 => ?_) (fun c13 => ?_)
    · replace hf := ifn c13 hf
      refine lv_lload_n hx hb dX3_joined_114 rfl (lv_at hl 1 rfl) ?_
      refine lv_lload_n hx hb dX3_joined_115 rfl (lv_at hl 2 rfl) ?_
      obtain ⟨k14, hf⟩ := chk_b hf
      refine lv_ldiv hx hb dX3_joined_116 (nzl_ne k14) ?_
      exact hret_l hx hb hr hlocks hI (by decide) (by decide) (fun _ => ⟨trivial, rfl⟩) (ret_e hK0 hf) dX3_joined_117
    · replace hf := ifp c13 hf
      refine lv_lconst (v := 0) hx hb dX3_joined_110 (by decide) ?_
      refine lv_goto (tgt := 117) hx hb dX3_joined_111 (by decide) ?_
      exact hret_l hx hb hr hlocks hI (by decide) (by decide) (fun _ => ⟨trivial, rfl⟩) (ret_e hK0 hf) dX3_joined_117
  replace hf := ifn c6 hf
  by_cases c7 : a0 = 60
  · replace hf := ifp c7 hf
    refine lv_lookup (off := 117) (tgt := 118) hx hb dX3_joined_1 (by decide) (by rw [c7]; decide) (by decide) ?_
    refine lv_lload_n hx hb dX3_joined_118 rfl (lv_at hl 1 rfl) ?_
    refine lv_lload_n hx hb dX3_joined_119 rfl (lv_at hl 2 rfl) ?_
    refine W.lcmp hx hb dX3_joined_120 ?_
    refine lv_if_ge (tgt := 128) hx hb dX3_joined_121 (by decide) (fun c15 => ?_) (fun c15 => ?_)
    · replace hf := ifp c15 hf
      refine lv_lconst (v := 0) hx hb dX3_joined_128 (by decide) ?_
      exact hret_l hx hb hr hlocks hI (by decide) (by decide) (fun _ => ⟨trivial, rfl⟩) (ret_e hK0 hf) dX3_joined_129
    · replace hf := ifn c15 hf
      refine lv_lconst (v := 1) hx hb dX3_joined_124 (by decide) ?_
      refine lv_goto (tgt := 129) hx hb dX3_joined_125 (by decide) ?_
      exact hret_l hx hb hr hlocks hI (by decide) (by decide) (fun _ => ⟨trivial, rfl⟩) (ret_e hK0 hf) dX3_joined_129
  replace hf := ifn c7 hf
  by_cases c8 : a0 = 61
  · replace hf := ifp c8 hf
    refine lv_lookup (off := 141) (tgt := 142) hx hb dX3_joined_1 (by decide) (by rw [c8]; decide) (by decide) ?_
    refine lv_lload_n hx hb dX3_joined_142 rfl (lv_at hl 1 rfl) ?_
    refine lv_lload_n hx hb dX3_joined_143 rfl (lv_at hl 2 rfl) ?_
    refine W.lcmp hx hb dX3_joined_144 ?_
    refine lv_if_ne (tgt := 152) hx hb dX3_joined_145 (by decide) (fun c16 => ?_) (fun c16 => ?_)
    · replace hf := ifn c16 hf
      refine lv_lconst (v := 0) hx hb dX3_joined_152 (by decide) ?_
      exact hret_l hx hb hr hlocks hI (by decide) (by decide) (fun _ => ⟨trivial, rfl⟩) (ret_e hK0 hf) dX3_joined_153
    · replace hf := ifp c16 hf
      refine lv_lconst (v := 1) hx hb dX3_joined_148 (by decide) ?_
      refine lv_goto (tgt := 153) hx hb dX3_joined_149 (by decide) ?_
      exact hret_l hx hb hr hlocks hI (by decide) (by decide) (fun _ => ⟨trivial, rfl⟩) (ret_e hK0 hf) dX3_joined_153
  replace hf := ifn c8 hf
  by_cases c9 : a0 = 62
  · replace hf := ifp c9 hf
    refine lv_lookup (off := 165) (tgt := 166) hx hb dX3_joined_1 (by decide) (by rw [c9]; decide) (by decide) ?_
    refine lv_lload_n hx hb dX3_joined_166 rfl (lv_at hl 1 rfl) ?_
    refine lv_lload_n hx hb dX3_joined_167 rfl (lv_at hl 2 rfl) ?_
    refine W.lcmp hx hb dX3_joined_168 ?_
    refine lv_if_le (tgt := 176) hx hb dX3_joined_169 (by decide) (fun c17 => ?_) (fun c17 => ?_)
    · replace hf := ifp c17 hf
      refine lv_lconst (v := 0) hx hb dX3_joined_176 (by decide) ?_
      exact hret_l hx hb hr hlocks hI (by decide) (by decide) (fun _ => ⟨trivial, rfl⟩) (ret_e hK0 hf) dX3_joined_177
    · replace hf := ifn c17 hf
      refine lv_lconst (v := 1) hx hb dX3_joined_172 (by decide) ?_
      refine lv_goto (tgt := 177) hx hb dX3_joined_173 (by decide) ?_
      exact hret_l hx hb hr hlocks hI (by decide) (by decide) (fun _ => ⟨trivial, rfl⟩) (ret_e hK0 hf) dX3_joined_177
  replace hf := ifn c9 hf
  by_cases c10 : a0 = 268
  · replace hf := ifp c10 hf
    refine lv_lookup (off := 177) (tgt := 178) hx hb dX3_joined_1 (by decide) (by rw [c10]; decide) (by decide) ?_
    refine lv_lload_n hx hb dX3_joined_178 rfl (lv_at hl 1 rfl) ?_
    refine lv_lload_n hx hb dX3_joined_179 rfl (lv_at hl 2 rfl) ?_
    refine lv_land hx hb dX3_joined_180 ?_
    exact hret_l hx hb hr hlocks hI (by decide) (by decide) (fun _ => ⟨trivial, rfl⟩) (ret_e hK0 hf) dX3_joined_181
  replace hf := ifn c10 hf
  refine lv_lookup (off := 181) (tgt := 182) hx hb dX3_joined_1 (by decide) (by simp only [Array.toList]; rw [lv_osw (k := 3) c1 (by decide)]; rw [lv_osw (k := 4) c2 (by decide)]; rw [lv_osw (k := 42) c3 (by decide)]; rw [lv_osw (k := 43) c4 (by decide)]; rw [lv_osw (k := 45) c5 (by decide)]; rw [lv_osw (k := 47) c6 (by decide)]; rw [lv_osw (k := 60) c7 (by decide)]; rw [lv_osw (k := 61) c8 (by decide)]; rw [lv_osw (k := 62) c9 (by decide)]; rw [lv_osw (k := 268) c10 (by decide)]; rfl) (by decide) ?_
  refine lv_lload_n hx hb dX3_joined_182 rfl (lv_at hl 1 rfl) ?_
  refine lv_lload_n hx hb dX3_joined_183 rfl (lv_at hl 2 rfl) ?_
  refine lv_lor hx hb dX3_joined_184 ?_
  exact hret_l hx hb hr hlocks hI (by decide) (by decide) (fun _ => ⟨trivial, rfl⟩) (ret_e hK0 hf) dX3_joined_185
