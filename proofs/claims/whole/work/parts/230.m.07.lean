theorem nd_isStepHere : yX12_isStepHere.cls ≠ "java/lang/invoke/MethodHandle" ∧ yX12_isStepHere.cls ≠ "java/lang/invoke/VarHandle" ∧ (parseMethodDescriptor yX12_isStepHere.desc).map (fun d => d.parameters.length) = some 1 := by decide +kernel
set_option maxHeartbeats 4000000 in
set_option maxRecDepth 100000 in
theorem cm_isStepHere (l : Launch) (D : va_G) (h : Nat) (ad : Nat → Nat) (cy : Nat → ClassId) (a1 : Int32) (s0 : MSt) (out : MSt × Int32) (hf : fm_isStepHere a1 s0 = some out) (sz : Nat) : CMi l D h ad cy yX12_isStepHere wsX12_isStepHere { frames := 2, cells := 0, slots := 0, locals := 49 } [.int a1] s0 out sz := by
  refine Met.ofW (cc := cX12_isStepHere) (maxL := 2) (ret := (some .boolean)) (by decide) rfl ?_
  intro p e s m args below meth c s₁ B hml hv
  obtain ⟨rfl, hsz, hP, hK, hD0⟩ := hv
  have hx := B.exec
  have hb := B.bytes
  have hr := B.returns
  have hts := atoms_spec (ws := wsX12_isStepHere) B.pre
  have hown : s.vm.findClass RX12 = some m.cls := findClass_of_methodNamed B.named
  have hlocks := B.notSynchronized
  subst hsz
  have hI : MI D (MA h ad cy s0 s.heap.size) h ad cy s s.heap s0 s.heap [] := ⟨hK, hP, hD0.self, va_S.rf⟩
  have hA : ∀ q : Nat, s.heap.size ≤ q → MA h ad cy s0 s.heap.size q := fun q hq => Or.inr hq
  have hin : ∀ w ∈ u_ws RX12 TX12 42, w ∈ wsX12_isStepHere := fun w hw => List.mem_cons_of_mem _ (List.mem_append_right _ hw)
  have k_number : Cond.fieldLink RX12 128 "HalfBridgeModel" "number" "I" ∈ wsX12_isStepHere := by decide +kernel
  have k_stepRead : Cond.fieldLink RX12 228 "HalfBridgeModel" "stepRead" "I" ∈ wsX12_isStepHere := by decide +kernel
  have hl := lv_entry ([.ref h, .int a1]) (n := 2) (Nat.le_of_ble_eq_true rfl)
  rw [lg_entry_eq]
  generalize (lg_sl ([.ref h, .int a1]) ++ List.replicate (2 - (lg_sl ([.ref h, .int a1])).length) Slot.unset).toArray = ls at hl ⊢
  have hl : lv_has ls 2 [(0, .ref h), (1, .int a1)] := hl
  obtain ⟨K0, hK0, hf⟩ := top_e hf
  unfold fm_isStepHere at hf
  refine lv_aload_n hx hb dX12_isStepHere_0 rfl (lv_at hl 0 rfl) ?_
  refine mg_stepRead hx hb hts hin hown k_stepRead hI dX12_isStepHere_1 ?_
  refine lv_if_lt (tgt := 14) hx hb dX12_isStepHere_4 (by decide) (fun c1 => ?_) (fun c1 => ?_)
  · replace hf := ifp c1 hf
    refine lv_aload_n hx hb dX12_isStepHere_14 rfl (lv_at hl 0 rfl) ?_
    obtain ⟨x2, hc3, hf⟩ := bnd_b hf
    refine mcall_v (As := []) (rest := []) (n := 0) ⟨hx, hb, hml, hown, hts⟩ (cm_passWord l D h ad cy  s0 x2 hc3 _) (cwV 0 hts gX12_isStepHere_X12_passWord rfl rfl rfl ⟨rfl, nd_passWord⟩ ⟨Nat.le_of_ble_eq_true rfl, Nat.le_of_ble_eq_true rfl⟩) hI hA rfl hl.1 (Nat.le_of_ble_eq_true rfl) dX12_isStepHere_15 ⟨Nat.zero_le _, Nat.zero_le _⟩ (fun H locs hI => ?_)
    refine lv_aload_n hx hb dX12_isStepHere_18 rfl (lv_at hl 0 rfl) ?_
    refine lv_iconst (v := 1) hx hb dX12_isStepHere_19 (by decide) ?_
    refine lv_bipush (v := 20) hx hb dX12_isStepHere_20 (by decide) ?_
    obtain ⟨x4, hc5, hf⟩ := bnd_b hf
    refine mcall_i (As := [.int (1 : Int32), .int (20 : Int32)]) (rest := []) (n := 2) ⟨hx, hb, hml, hown, hts⟩ (cm_numberHere l D h ad cy (1 : Int32) (20 : Int32) x2 x4 hc5 _) (cwV 2 hts gX12_isStepHere_X12_numberHere rfl rfl rfl ⟨rfl, nd_numberHere⟩ ⟨Nat.le_of_ble_eq_true rfl, Nat.le_of_ble_eq_true rfl⟩) hI hA rfl hl.1 (Nat.le_of_ble_eq_true rfl) dX12_isStepHere_22 ⟨Nat.zero_le _, Nat.zero_le _⟩ (fun H locs hI => ?_)
    refine lv_if_ne (tgt := 30) hx hb dX12_isStepHere_25 (by decide) (fun c6 => ?_) (fun c6 => ?_)
    · replace hf := ifn c6 hf
      refine lv_aload_n hx hb dX12_isStepHere_30 rfl (lv_at hl 0 rfl) ?_
      refine lv_aload_n hx hb dX12_isStepHere_31 rfl (lv_at hl 0 rfl) ?_
      refine mg_number hx hb hts hin hown k_number hI dX12_isStepHere_32 ?_
      refine mp_stepRead hx hb hts hin hown k_stepRead hI dX12_isStepHere_35 (fun H locs hI => ?_)
      refine lv_iconst (v := 1) hx hb dX12_isStepHere_38 (by decide) ?_
      exact mret_z hx hb hr (by decide) hlocks hI (ret_e hK0 hf) dX12_isStepHere_39
    · replace hf := ifp c6 hf
      refine lv_iconst (v := 0) hx hb dX12_isStepHere_28 (by decide) ?_
      exact mret_z hx hb hr (by decide) hlocks hI (ret_e hK0 hf) dX12_isStepHere_29
  · replace hf := ifn c1 hf
    refine lv_aload_n hx hb dX12_isStepHere_7 rfl (lv_at hl 0 rfl) ?_
    refine lv_iconst (v := 4) hx hb dX12_isStepHere_8 (by decide) ?_
    refine lv_iload_n hx hb dX12_isStepHere_9 rfl (lv_at hl 1 rfl) ?_
    obtain ⟨x7, hc8, hf⟩ := bnd_b hf
    refine mcall_i (As := [.int (4 : Int32), .int a1]) (rest := []) (n := 2) ⟨hx, hb, hml, hown, hts⟩ (cm_fails l D h ad cy (4 : Int32) a1 s0 x7 hc8 _) (cwV 2 hts gX12_isStepHere_X12_fails rfl rfl rfl ⟨rfl, nd_fails⟩ ⟨Nat.le_of_ble_eq_true rfl, Nat.le_of_ble_eq_true rfl⟩) hI hA rfl hl.1 (Nat.le_of_ble_eq_true rfl) dX12_isStepHere_10 ⟨Nat.zero_le _, Nat.zero_le _⟩ (fun H locs hI => ?_)
    obtain ⟨k9, hf⟩ := chk_b hf
    exact mret_z hx hb hr (isb_nar k9) hlocks hI (ret_e hK0 hf) dX12_isStepHere_13

theorem nd_areInchesHere : yX12_areInchesHere.cls ≠ "java/lang/invoke/MethodHandle" ∧ yX12_areInchesHere.cls ≠ "java/lang/invoke/VarHandle" ∧ (parseMethodDescriptor yX12_areInchesHere.desc).map (fun d => d.parameters.length) = some 1 := by decide +kernel
set_option maxHeartbeats 4000000 in
set_option maxRecDepth 100000 in
theorem cm_areInchesHere (l : Launch) (D : va_G) (h : Nat) (ad : Nat → Nat) (cy : Nat → ClassId) (a1 : Int32) (s0 : MSt) (out : MSt × Int32) (hf : fm_areInchesHere a1 s0 = some out) (sz : Nat) : CMi l D h ad cy yX12_areInchesHere wsX12_areInchesHere { frames := 2, cells := 0, slots := 0, locals := 49 } [.int a1] s0 out sz := by
  refine Met.ofW (cc := cX12_areInchesHere) (maxL := 2) (ret := (some .boolean)) (by decide) rfl ?_
  intro p e s m args below meth c s₁ B hml hv
  obtain ⟨rfl, hsz, hP, hK, hD0⟩ := hv
  have hx := B.exec
  have hb := B.bytes
  have hr := B.returns
  have hts := atoms_spec (ws := wsX12_areInchesHere) B.pre
  have hown : s.vm.findClass RX12 = some m.cls := findClass_of_methodNamed B.named
  have hlocks := B.notSynchronized
  subst hsz
  have hI : MI D (MA h ad cy s0 s.heap.size) h ad cy s s.heap s0 s.heap [] := ⟨hK, hP, hD0.self, va_S.rf⟩
  have hA : ∀ q : Nat, s.heap.size ≤ q → MA h ad cy s0 s.heap.size q := fun q hq => Or.inr hq
  have hin : ∀ w ∈ u_ws RX12 TX12 42, w ∈ wsX12_areInchesHere := fun w hw => List.mem_cons_of_mem _ (List.mem_append_right _ hw)
  have k_inchesRead : Cond.fieldLink RX12 231 "HalfBridgeModel" "inchesRead" "I" ∈ wsX12_areInchesHere := by decide +kernel
  have k_number : Cond.fieldLink RX12 128 "HalfBridgeModel" "number" "I" ∈ wsX12_areInchesHere := by decide +kernel
  have hl := lv_entry ([.ref h, .int a1]) (n := 2) (Nat.le_of_ble_eq_true rfl)
  rw [lg_entry_eq]
  generalize (lg_sl ([.ref h, .int a1]) ++ List.replicate (2 - (lg_sl ([.ref h, .int a1])).length) Slot.unset).toArray = ls at hl ⊢
  have hl : lv_has ls 2 [(0, .ref h), (1, .int a1)] := hl
  obtain ⟨K0, hK0, hf⟩ := top_e hf
  unfold fm_areInchesHere at hf
  refine lv_aload_n hx hb dX12_areInchesHere_0 rfl (lv_at hl 0 rfl) ?_
  refine mg_inchesRead hx hb hts hin hown k_inchesRead hI dX12_areInchesHere_1 ?_
  refine lv_if_lt (tgt := 14) hx hb dX12_areInchesHere_4 (by decide) (fun c1 => ?_) (fun c1 => ?_)
  · replace hf := ifp c1 hf
    refine lv_aload_n hx hb dX12_areInchesHere_14 rfl (lv_at hl 0 rfl) ?_
    obtain ⟨x2, hc3, hf⟩ := bnd_b hf
    refine mcall_v (As := []) (rest := []) (n := 0) ⟨hx, hb, hml, hown, hts⟩ (cm_passWord l D h ad cy  s0 x2 hc3 _) (cwV 0 hts gX12_areInchesHere_X12_passWord rfl rfl rfl ⟨rfl, nd_passWord⟩ ⟨Nat.le_of_ble_eq_true rfl, Nat.le_of_ble_eq_true rfl⟩) hI hA rfl hl.1 (Nat.le_of_ble_eq_true rfl) dX12_areInchesHere_15 ⟨Nat.zero_le _, Nat.zero_le _⟩ (fun H locs hI => ?_)
    refine lv_aload_n hx hb dX12_areInchesHere_18 rfl (lv_at hl 0 rfl) ?_
    refine lv_iconst (v := 0) hx hb dX12_areInchesHere_19 (by decide) ?_
    refine lv_bipush (v := 99) hx hb dX12_areInchesHere_20 (by decide) ?_
    obtain ⟨x4, hc5, hf⟩ := bnd_b hf
    refine mcall_i (As := [.int (0 : Int32), .int (99 : Int32)]) (rest := []) (n := 2) ⟨hx, hb, hml, hown, hts⟩ (cm_numberHere l D h ad cy (0 : Int32) (99 : Int32) x2 x4 hc5 _) (cwV 2 hts gX12_areInchesHere_X12_numberHere rfl rfl rfl ⟨rfl, nd_numberHere⟩ ⟨Nat.le_of_ble_eq_true rfl, Nat.le_of_ble_eq_true rfl⟩) hI hA rfl hl.1 (Nat.le_of_ble_eq_true rfl) dX12_areInchesHere_22 ⟨Nat.zero_le _, Nat.zero_le _⟩ (fun H locs hI => ?_)
    refine lv_if_ne (tgt := 30) hx hb dX12_areInchesHere_25 (by decide) (fun c6 => ?_) (fun c6 => ?_)
    · replace hf := ifn c6 hf
      refine lv_aload_n hx hb dX12_areInchesHere_30 rfl (lv_at hl 0 rfl) ?_
      refine lv_aload_n hx hb dX12_areInchesHere_31 rfl (lv_at hl 0 rfl) ?_
      refine mg_number hx hb hts hin hown k_number hI dX12_areInchesHere_32 ?_
      refine mp_inchesRead hx hb hts hin hown k_inchesRead hI dX12_areInchesHere_35 (fun H locs hI => ?_)
      refine lv_iconst (v := 1) hx hb dX12_areInchesHere_38 (by decide) ?_
      exact mret_z hx hb hr (by decide) hlocks hI (ret_e hK0 hf) dX12_areInchesHere_39
    · replace hf := ifp c6 hf
      refine lv_iconst (v := 0) hx hb dX12_areInchesHere_28 (by decide) ?_
      exact mret_z hx hb hr (by decide) hlocks hI (ret_e hK0 hf) dX12_areInchesHere_29
  · replace hf := ifn c1 hf
    refine lv_aload_n hx hb dX12_areInchesHere_7 rfl (lv_at hl 0 rfl) ?_
    refine lv_iconst (v := 4) hx hb dX12_areInchesHere_8 (by decide) ?_
    refine lv_iload_n hx hb dX12_areInchesHere_9 rfl (lv_at hl 1 rfl) ?_
    obtain ⟨x7, hc8, hf⟩ := bnd_b hf
    refine mcall_i (As := [.int (4 : Int32), .int a1]) (rest := []) (n := 2) ⟨hx, hb, hml, hown, hts⟩ (cm_fails l D h ad cy (4 : Int32) a1 s0 x7 hc8 _) (cwV 2 hts gX12_areInchesHere_X12_fails rfl rfl rfl ⟨rfl, nd_fails⟩ ⟨Nat.le_of_ble_eq_true rfl, Nat.le_of_ble_eq_true rfl⟩) hI hA rfl hl.1 (Nat.le_of_ble_eq_true rfl) dX12_areInchesHere_10 ⟨Nat.zero_le _, Nat.zero_le _⟩ (fun H locs hI => ?_)
    obtain ⟨k9, hf⟩ := chk_b hf
    exact mret_z hx hb hr (isb_nar k9) hlocks hI (ret_e hK0 hf) dX12_areInchesHere_13

theorem nd_isFloodHere : yX12_isFloodHere.cls ≠ "java/lang/invoke/MethodHandle" ∧ yX12_isFloodHere.cls ≠ "java/lang/invoke/VarHandle" ∧ (parseMethodDescriptor yX12_isFloodHere.desc).map (fun d => d.parameters.length) = some 1 := by decide +kernel
set_option maxHeartbeats 4000000 in
set_option maxRecDepth 100000 in
theorem cm_isFloodHere (l : Launch) (D : va_G) (h : Nat) (ad : Nat → Nat) (cy : Nat → ClassId) (a1 : Int32) (s0 : MSt) (out : MSt × Int32) (hf : fm_isFloodHere a1 s0 = some out) (sz : Nat) : CMi l D h ad cy yX12_isFloodHere wsX12_isFloodHere { frames := 2, cells := 0, slots := 0, locals := 49 } [.int a1] s0 out sz := by
  refine Met.ofW (cc := cX12_isFloodHere) (maxL := 2) (ret := (some .boolean)) (by decide) rfl ?_
  intro p e s m args below meth c s₁ B hml hv
  obtain ⟨rfl, hsz, hP, hK, hD0⟩ := hv
  have hx := B.exec
  have hb := B.bytes
  have hr := B.returns
  have hts := atoms_spec (ws := wsX12_isFloodHere) B.pre
  have hown : s.vm.findClass RX12 = some m.cls := findClass_of_methodNamed B.named
  have hlocks := B.notSynchronized
  subst hsz
  have hI : MI D (MA h ad cy s0 s.heap.size) h ad cy s s.heap s0 s.heap [] := ⟨hK, hP, hD0.self, va_S.rf⟩
  have hA : ∀ q : Nat, s.heap.size ≤ q → MA h ad cy s0 s.heap.size q := fun q hq => Or.inr hq
  have hin : ∀ w ∈ u_ws RX12 TX12 42, w ∈ wsX12_isFloodHere := fun w hw => List.mem_cons_of_mem _ (List.mem_append_right _ hw)
  have k_floodRead : Cond.fieldLink RX12 32 "HalfBridgeModel" "floodRead" "[I" ∈ wsX12_isFloodHere := by decide +kernel
  have k_floodsRead : Cond.fieldLink RX12 234 "HalfBridgeModel" "floodsRead" "I" ∈ wsX12_isFloodHere := by decide +kernel
  have k_number : Cond.fieldLink RX12 128 "HalfBridgeModel" "number" "I" ∈ wsX12_isFloodHere := by decide +kernel
  have hl := lv_entry ([.ref h, .int a1]) (n := 2) (Nat.le_of_ble_eq_true rfl)
  rw [lg_entry_eq]
  generalize (lg_sl ([.ref h, .int a1]) ++ List.replicate (2 - (lg_sl ([.ref h, .int a1])).length) Slot.unset).toArray = ls at hl ⊢
  have hl : lv_has ls 2 [(0, .ref h), (1, .int a1)] := hl
  obtain ⟨K0, hK0, hf⟩ := top_e hf
  unfold fm_isFloodHere at hf
  refine lv_aload_n hx hb dX12_isFloodHere_0 rfl (lv_at hl 0 rfl) ?_
  refine mg_floodsRead hx hb hts hin hown k_floodsRead hI dX12_isFloodHere_1 ?_
  refine lv_bipush (v := 8) hx hb dX12_isFloodHere_4 (by decide) ?_
  refine lv_icmp_ne (tgt := 16) hx hb dX12_isFloodHere_6 (by decide) (fun c1 => ?_) (fun c1 => ?_)
  · replace hf := ifn c1 hf
    refine lv_aload_n hx hb dX12_isFloodHere_16 rfl (lv_at hl 0 rfl) ?_
    obtain ⟨x2, hc3, hf⟩ := bnd_b hf
    refine mcall_v (As := []) (rest := []) (n := 0) ⟨hx, hb, hml, hown, hts⟩ (cm_passWord l D h ad cy  s0 x2 hc3 _) (cwV 0 hts gX12_isFloodHere_X12_passWord rfl rfl rfl ⟨rfl, nd_passWord⟩ ⟨Nat.le_of_ble_eq_true rfl, Nat.le_of_ble_eq_true rfl⟩) hI hA rfl hl.1 (Nat.le_of_ble_eq_true rfl) dX12_isFloodHere_17 ⟨Nat.zero_le _, Nat.zero_le _⟩ (fun H locs hI => ?_)
    refine lv_aload_n hx hb dX12_isFloodHere_20 rfl (lv_at hl 0 rfl) ?_
    refine lv_iconst (v := 0) hx hb dX12_isFloodHere_21 (by decide) ?_
    refine lv_sipush (v := 399) hx hb dX12_isFloodHere_22 (by decide) ?_
    obtain ⟨x4, hc5, hf⟩ := bnd_b hf
    refine mcall_i (As := [.int (0 : Int32), .int (399 : Int32)]) (rest := []) (n := 2) ⟨hx, hb, hml, hown, hts⟩ (cm_numberHere l D h ad cy (0 : Int32) (399 : Int32) x2 x4 hc5 _) (cwV 2 hts gX12_isFloodHere_X12_numberHere rfl rfl rfl ⟨rfl, nd_numberHere⟩ ⟨Nat.le_of_ble_eq_true rfl, Nat.le_of_ble_eq_true rfl⟩) hI hA rfl hl.1 (Nat.le_of_ble_eq_true rfl) dX12_isFloodHere_25 ⟨Nat.zero_le _, Nat.zero_le _⟩ (fun H locs hI => ?_)
    refine lv_if_ne (tgt := 33) hx hb dX12_isFloodHere_28 (by decide) (fun c6 => ?_) (fun c6 => ?_)
    · replace hf := ifn c6 hf
      refine lv_aload_n hx hb dX12_isFloodHere_33 rfl (lv_at hl 0 rfl) ?_
      refine mg_floodRead hx hb hts hin hown k_floodRead hI dX12_isFloodHere_34 ?_
      refine lv_iconst (v := 2) hx hb dX12_isFloodHere_37 (by decide) ?_
      refine lv_aload_n hx hb dX12_isFloodHere_38 rfl (lv_at hl 0 rfl) ?_
      refine mg_floodsRead hx hb hts hin hown k_floodsRead hI dX12_isFloodHere_39 ?_
      refine lv_imul hx hb dX12_isFloodHere_42 ?_
      refine lv_aload_n hx hb dX12_isFloodHere_43 rfl (lv_at hl 0 rfl) ?_
      refine mg_number hx hb hts hin hown k_number hI dX12_isFloodHere_44 ?_
      obtain ⟨k7, hf⟩ := chk_b hf
      refine ms_floodRead hx hb hI k7 dX12_isFloodHere_47 (fun H locs hI => ?_)
      refine lv_aload_n hx hb dX12_isFloodHere_48 rfl (lv_at hl 0 rfl) ?_
      refine lv_iconst (v := 1) hx hb dX12_isFloodHere_49 (by decide) ?_
      refine lv_bipush (v := 9) hx hb dX12_isFloodHere_50 (by decide) ?_
      obtain ⟨x8, hc9, hf⟩ := bnd_b hf
      refine mcall_i (As := [.int (1 : Int32), .int (9 : Int32)]) (rest := []) (n := 2) ⟨hx, hb, hml, hown, hts⟩ (cm_numberHere l D h ad cy (1 : Int32) (9 : Int32) (msa x4.1 13 ((2 : Int32) * (x4.1.1 10)).toNatClampNeg (x4.1.1 16)) x8 hc9 _) (cwV 2 hts gX12_isFloodHere_X12_numberHere rfl rfl rfl ⟨rfl, nd_numberHere⟩ ⟨Nat.le_of_ble_eq_true rfl, Nat.le_of_ble_eq_true rfl⟩) hI hA rfl hl.1 (Nat.le_of_ble_eq_true rfl) dX12_isFloodHere_52 ⟨Nat.zero_le _, Nat.zero_le _⟩ (fun H locs hI => ?_)
      refine lv_if_ne (tgt := 60) hx hb dX12_isFloodHere_55 (by decide) (fun c10 => ?_) (fun c10 => ?_)
      · replace hf := ifn c10 hf
        refine lv_aload_n hx hb dX12_isFloodHere_60 rfl (lv_at hl 0 rfl) ?_
        refine mg_floodRead hx hb hts hin hown k_floodRead hI dX12_isFloodHere_61 ?_
        refine lv_iconst (v := 2) hx hb dX12_isFloodHere_64 (by decide) ?_
        refine lv_aload_n hx hb dX12_isFloodHere_65 rfl (lv_at hl 0 rfl) ?_
        refine mg_floodsRead hx hb hts hin hown k_floodsRead hI dX12_isFloodHere_66 ?_
        refine lv_imul hx hb dX12_isFloodHere_69 ?_
        refine lv_iconst (v := 1) hx hb dX12_isFloodHere_70 (by decide) ?_
        refine lv_iadd hx hb dX12_isFloodHere_71 ?_
        refine lv_aload_n hx hb dX12_isFloodHere_72 rfl (lv_at hl 0 rfl) ?_
        refine mg_number hx hb hts hin hown k_number hI dX12_isFloodHere_73 ?_
        obtain ⟨k11, hf⟩ := chk_b hf
        refine ms_floodRead hx hb hI k11 dX12_isFloodHere_76 (fun H locs hI => ?_)
        refine lv_aload_n hx hb dX12_isFloodHere_77 rfl (lv_at hl 0 rfl) ?_
        refine lv_dup hx hb dX12_isFloodHere_78 rfl ?_
        refine mg_floodsRead hx hb hts hin hown k_floodsRead hI dX12_isFloodHere_79 ?_
        refine lv_iconst (v := 1) hx hb dX12_isFloodHere_82 (by decide) ?_
        refine lv_iadd hx hb dX12_isFloodHere_83 ?_
        refine mp_floodsRead hx hb hts hin hown k_floodsRead hI dX12_isFloodHere_84 (fun H locs hI => ?_)
        refine lv_iconst (v := 1) hx hb dX12_isFloodHere_87 (by decide) ?_
        exact mret_z hx hb hr (by decide) hlocks hI (ret_e hK0 hf) dX12_isFloodHere_88
      · replace hf := ifp c10 hf
        refine lv_iconst (v := 0) hx hb dX12_isFloodHere_58 (by decide) ?_
        exact mret_z hx hb hr (by decide) hlocks hI (ret_e hK0 hf) dX12_isFloodHere_59
    · replace hf := ifp c6 hf
      refine lv_iconst (v := 0) hx hb dX12_isFloodHere_31 (by decide) ?_
      exact mret_z hx hb hr (by decide) hlocks hI (ret_e hK0 hf) dX12_isFloodHere_32
  · replace hf := ifp c1 hf
    refine lv_aload_n hx hb dX12_isFloodHere_9 rfl (lv_at hl 0 rfl) ?_
    refine lv_iconst (v := 4) hx hb dX12_isFloodHere_10 (by decide) ?_
    refine lv_iload_n hx hb dX12_isFloodHere_11 rfl (lv_at hl 1 rfl) ?_
    obtain ⟨x12, hc13, hf⟩ := bnd_b hf
    refine mcall_i (As := [.int (4 : Int32), .int a1]) (rest := []) (n := 2) ⟨hx, hb, hml, hown, hts⟩ (cm_fails l D h ad cy (4 : Int32) a1 s0 x12 hc13 _) (cwV 2 hts gX12_isFloodHere_X12_fails rfl rfl rfl ⟨rfl, nd_fails⟩ ⟨Nat.le_of_ble_eq_true rfl, Nat.le_of_ble_eq_true rfl⟩) hI hA rfl hl.1 (Nat.le_of_ble_eq_true rfl) dX12_isFloodHere_12 ⟨Nat.zero_le _, Nat.zero_le _⟩ (fun H locs hI => ?_)
    obtain ⟨k14, hf⟩ := chk_b hf
    exact mret_z hx hb hr (isb_nar k14) hlocks hI (ret_e hK0 hf) dX12_isFloodHere_15

theorem nd_riverLineHere : yX12_riverLineHere.cls ≠ "java/lang/invoke/MethodHandle" ∧ yX12_riverLineHere.cls ≠ "java/lang/invoke/VarHandle" ∧ (parseMethodDescriptor yX12_riverLineHere.desc).map (fun d => d.parameters.length) = some 1 := by decide +kernel
set_option maxHeartbeats 4000000 in
set_option maxRecDepth 100000 in
theorem cm_riverLineHere (l : Launch) (D : va_G) (h : Nat) (ad : Nat → Nat) (cy : Nat → ClassId) (a1 : Int32) (s0 : MSt) (out : MSt × Int32) (hf : fm_riverLineHere a1 s0 = some out) (sz : Nat) : CMi l D h ad cy yX12_riverLineHere wsX12_riverLineHere { frames := 3, cells := 0, slots := 0, locals := 71 } [.int a1] s0 out sz := by
  refine Met.ofW (cc := cX12_riverLineHere) (maxL := 2) (ret := (some .boolean)) (by decide) rfl ?_
  intro p e s m args below meth c s₁ B hml hv
  obtain ⟨rfl, hsz, hP, hK, hD0⟩ := hv
  have hx := B.exec
  have hb := B.bytes
  have hr := B.returns
  have hts := atoms_spec (ws := wsX12_riverLineHere) B.pre
  have hown : s.vm.findClass RX12 = some m.cls := findClass_of_methodNamed B.named
  have hlocks := B.notSynchronized
  subst hsz
  have hI : MI D (MA h ad cy s0 s.heap.size) h ad cy s s.heap s0 s.heap [] := ⟨hK, hP, hD0.self, va_S.rf⟩
  have hA : ∀ q : Nat, s.heap.size ≤ q → MA h ad cy s0 s.heap.size q := fun q hq => Or.inr hq
  have hin : ∀ w ∈ u_ws RX12 TX12 42, w ∈ wsX12_riverLineHere := fun w hw => List.mem_cons_of_mem _ (List.mem_append_right _ hw)
  have k_wideRead : Cond.fieldLink RX12 225 "HalfBridgeModel" "wideRead" "I" ∈ wsX12_riverLineHere := by decide +kernel
  have hl := lv_entry ([.ref h, .int a1]) (n := 2) (Nat.le_of_ble_eq_true rfl)
  rw [lg_entry_eq]
  generalize (lg_sl ([.ref h, .int a1]) ++ List.replicate (2 - (lg_sl ([.ref h, .int a1])).length) Slot.unset).toArray = ls at hl ⊢
  have hl : lv_has ls 2 [(0, .ref h), (1, .int a1)] := hl
  obtain ⟨K0, hK0, hf⟩ := top_e hf
  unfold fm_riverLineHere at hf
  refine lv_aload_n hx hb dX12_riverLineHere_0 rfl (lv_at hl 0 rfl) ?_
  refine lv_ldc2 (v := 2003395685) hx hb hown (hts (.constantLong RX12 237 (2003395685)) (by decide +kernel)) dX12_riverLineHere_1 ?_
  obtain ⟨x1, hc2, hf⟩ := bnd_b hf
  refine mcall_i (As := [.long (2003395685 : Int64)]) (rest := []) (n := 1) ⟨hx, hb, hml, hown, hts⟩ (cm_isWord l D h ad cy (2003395685 : Int64) s0 x1 hc2 _) (cwV 1 hts gX12_riverLineHere_X12_isWord rfl rfl rfl ⟨rfl, nd_isWord⟩ ⟨Nat.le_of_ble_eq_true rfl, Nat.le_of_ble_eq_true rfl⟩) hI hA rfl hl.1 (Nat.le_of_ble_eq_true rfl) dX12_riverLineHere_4 ⟨Nat.zero_le _, Nat.zero_le _⟩ (fun H locs hI => ?_)
  refine lv_if_eq (tgt := 16) hx hb dX12_riverLineHere_7 (by decide) (fun c3 => ?_) (fun c3 => ?_)
  · replace hf := ifp c3 hf
    refine lv_aload_n hx hb dX12_riverLineHere_16 rfl (lv_at hl 0 rfl) ?_
    refine mg_wideRead hx hb hts hin hown k_wideRead hI dX12_riverLineHere_17 ?_
    refine lv_if_ne (tgt := 30) hx hb dX12_riverLineHere_20 (by decide) (fun c4 => ?_) (fun c4 => ?_)
    · replace hf := ifn c4 hf
      refine lv_aload_n hx hb dX12_riverLineHere_30 rfl (lv_at hl 0 rfl) ?_
      refine lv_ldc2 (v := 1650552427) hx hb hown (hts (.constantLong RX12 242 (1650552427)) (by decide +kernel)) dX12_riverLineHere_31 ?_
      obtain ⟨x5, hc6, hf⟩ := bnd_b hf
      refine mcall_i (As := [.long (1650552427 : Int64)]) (rest := []) (n := 1) ⟨hx, hb, hml, hown, hts⟩ (cm_isWord l D h ad cy (1650552427 : Int64) x1.1 x5 hc6 _) (cwV 1 hts gX12_riverLineHere_X12_isWord rfl rfl rfl ⟨rfl, nd_isWord⟩ ⟨Nat.le_of_ble_eq_true rfl, Nat.le_of_ble_eq_true rfl⟩) hI hA rfl hl.1 (Nat.le_of_ble_eq_true rfl) dX12_riverLineHere_34 ⟨Nat.zero_le _, Nat.zero_le _⟩ (fun H locs hI => ?_)
      refine lv_if_eq (tgt := 45) hx hb dX12_riverLineHere_37 (by decide) (fun c7 => ?_) (fun c7 => ?_)
      · replace hf := ifp c7 hf
        refine lv_aload_n hx hb dX12_riverLineHere_45 rfl (lv_at hl 0 rfl) ?_
        refine lv_ldc2 (v := 1702454643) hx hb hown (hts (.constantLong RX12 247 (1702454643)) (by decide +kernel)) dX12_riverLineHere_46 ?_
        obtain ⟨x8, hc9, hf⟩ := bnd_b hf
        refine mcall_i (As := [.long (1702454643 : Int64)]) (rest := []) (n := 1) ⟨hx, hb, hml, hown, hts⟩ (cm_isWord l D h ad cy (1702454643 : Int64) x5.1 x8 hc9 _) (cwV 1 hts gX12_riverLineHere_X12_isWord rfl rfl rfl ⟨rfl, nd_isWord⟩ ⟨Nat.le_of_ble_eq_true rfl, Nat.le_of_ble_eq_true rfl⟩) hI hA rfl hl.1 (Nat.le_of_ble_eq_true rfl) dX12_riverLineHere_49 ⟨Nat.zero_le _, Nat.zero_le _⟩ (fun H locs hI => ?_)
        refine lv_if_eq (tgt := 60) hx hb dX12_riverLineHere_52 (by decide) (fun c10 => ?_) (fun c10 => ?_)
        · replace hf := ifp c10 hf
          refine lv_aload_n hx hb dX12_riverLineHere_60 rfl (lv_at hl 0 rfl) ?_
          refine lv_ldc2 (v := 1937007984) hx hb hown (hts (.constantLong RX12 252 (1937007984)) (by decide +kernel)) dX12_riverLineHere_61 ?_
          obtain ⟨x11, hc12, hf⟩ := bnd_b hf
          refine mcall_i (As := [.long (1937007984 : Int64)]) (rest := []) (n := 1) ⟨hx, hb, hml, hown, hts⟩ (cm_isWord l D h ad cy (1937007984 : Int64) x8.1 x11 hc12 _) (cwV 1 hts gX12_riverLineHere_X12_isWord rfl rfl rfl ⟨rfl, nd_isWord⟩ ⟨Nat.le_of_ble_eq_true rfl, Nat.le_of_ble_eq_true rfl⟩) hI hA rfl hl.1 (Nat.le_of_ble_eq_true rfl) dX12_riverLineHere_64 ⟨Nat.zero_le _, Nat.zero_le _⟩ (fun H locs hI => ?_)
          refine lv_if_eq (tgt := 78) hx hb dX12_riverLineHere_67 (by decide) (fun c13 => ?_) (fun c13 => ?_)
          · replace hf := ifp c13 hf
            refine lv_aload_n hx hb dX12_riverLineHere_78 rfl (lv_at hl 0 rfl) ?_
            refine lv_ldc2 (v := 115922835105139) hx hb hown (hts (.constantLong RX12 257 (115922835105139)) (by decide +kernel)) dX12_riverLineHere_79 ?_
            obtain ⟨x14, hc15, hf⟩ := bnd_b hf
            refine mcall_i (As := [.long (115922835105139 : Int64)]) (rest := []) (n := 1) ⟨hx, hb, hml, hown, hts⟩ (cm_isWord l D h ad cy (115922835105139 : Int64) x11.1 x14 hc15 _) (cwV 1 hts gX12_riverLineHere_X12_isWord rfl rfl rfl ⟨rfl, nd_isWord⟩ ⟨Nat.le_of_ble_eq_true rfl, Nat.le_of_ble_eq_true rfl⟩) hI hA rfl hl.1 (Nat.le_of_ble_eq_true rfl) dX12_riverLineHere_82 ⟨Nat.zero_le _, Nat.zero_le _⟩ (fun H locs hI => ?_)
            refine lv_if_eq (tgt := 96) hx hb dX12_riverLineHere_85 (by decide) (fun c16 => ?_) (fun c16 => ?_)
            · replace hf := ifp c16 hf
              refine lv_aload_n hx hb dX12_riverLineHere_96 rfl (lv_at hl 0 rfl) ?_
              refine lv_iload_n hx hb dX12_riverLineHere_97 rfl (lv_at hl 1 rfl) ?_
              obtain ⟨x17, hc18, hf⟩ := bnd_b hf
              refine mcall_i (As := [.int a1]) (rest := []) (n := 1) ⟨hx, hb, hml, hown, hts⟩ (cm_isFloodHere l D h ad cy a1 x14.1 x17 hc18 _) (cwV 1 hts gX12_riverLineHere_X12_isFloodHere rfl rfl rfl ⟨rfl, nd_isFloodHere⟩ ⟨Nat.le_of_ble_eq_true rfl, Nat.le_of_ble_eq_true rfl⟩) hI hA rfl hl.1 (Nat.le_of_ble_eq_true rfl) dX12_riverLineHere_98 ⟨Nat.zero_le _, Nat.zero_le _⟩ (fun H locs hI => ?_)
              obtain ⟨k19, hf⟩ := chk_b hf
              exact mret_z hx hb hr (isb_nar k19) hlocks hI (ret_e hK0 hf) dX12_riverLineHere_101
            · replace hf := ifn c16 hf
              refine lv_aload_n hx hb dX12_riverLineHere_88 rfl (lv_at hl 0 rfl) ?_
              refine lv_iload_n hx hb dX12_riverLineHere_89 rfl (lv_at hl 1 rfl) ?_
              obtain ⟨x20, hc21, hf⟩ := bnd_b hf
              refine mcall_i (As := [.int a1]) (rest := []) (n := 1) ⟨hx, hb, hml, hown, hts⟩ (cm_areInchesHere l D h ad cy a1 x14.1 x20 hc21 _) (cwV 1 hts gX12_riverLineHere_X12_areInchesHere rfl rfl rfl ⟨rfl, nd_areInchesHere⟩ ⟨Nat.le_of_ble_eq_true rfl, Nat.le_of_ble_eq_true rfl⟩) hI hA rfl hl.1 (Nat.le_of_ble_eq_true rfl) dX12_riverLineHere_90 ⟨Nat.zero_le _, Nat.zero_le _⟩ (fun H locs hI => ?_)
              refine lv_goto (tgt := 101) hx hb dX12_riverLineHere_93 (by decide) ?_
              obtain ⟨k22, hf⟩ := chk_b hf
              exact mret_z hx hb hr (isb_nar k22) hlocks hI (ret_e hK0 hf) dX12_riverLineHere_101
          · replace hf := ifn c13 hf
            refine lv_aload_n hx hb dX12_riverLineHere_70 rfl (lv_at hl 0 rfl) ?_
            refine lv_iload_n hx hb dX12_riverLineHere_71 rfl (lv_at hl 1 rfl) ?_
            obtain ⟨x23, hc24, hf⟩ := bnd_b hf
            refine mcall_i (As := [.int a1]) (rest := []) (n := 1) ⟨hx, hb, hml, hown, hts⟩ (cm_isStepHere l D h ad cy a1 x11.1 x23 hc24 _) (cwV 1 hts gX12_riverLineHere_X12_isStepHere rfl rfl rfl ⟨rfl, nd_isStepHere⟩ ⟨Nat.le_of_ble_eq_true rfl, Nat.le_of_ble_eq_true rfl⟩) hI hA rfl hl.1 (Nat.le_of_ble_eq_true rfl) dX12_riverLineHere_72 ⟨Nat.zero_le _, Nat.zero_le _⟩ (fun H locs hI => ?_)
            refine lv_goto (tgt := 101) hx hb dX12_riverLineHere_75 (by decide) ?_
            obtain ⟨k25, hf⟩ := chk_b hf
            exact mret_z hx hb hr (isb_nar k25) hlocks hI (ret_e hK0 hf) dX12_riverLineHere_101
        · replace hf := ifn c10 hf
          refine lv_aload_n hx hb dX12_riverLineHere_55 rfl (lv_at hl 0 rfl) ?_
          obtain ⟨x26, hc27, hf⟩ := bnd_b hf
          refine mcall_i (As := []) (rest := []) (n := 0) ⟨hx, hb, hml, hown, hts⟩ (cm_areEyesHere l D h ad cy  x8.1 x26 hc27 _) (cwV 0 hts gX12_riverLineHere_X12_areEyesHere rfl rfl rfl ⟨rfl, nd_areEyesHere⟩ ⟨Nat.le_of_ble_eq_true rfl, Nat.le_of_ble_eq_true rfl⟩) hI hA rfl hl.1 (Nat.le_of_ble_eq_true rfl) dX12_riverLineHere_56 ⟨Nat.zero_le _, Nat.zero_le _⟩ (fun H locs hI => ?_)
          obtain ⟨k28, hf⟩ := chk_b hf
          exact mret_z hx hb hr (isb_nar k28) hlocks hI (ret_e hK0 hf) dX12_riverLineHere_59
      · replace hf := ifn c7 hf
        refine lv_aload_n hx hb dX12_riverLineHere_40 rfl (lv_at hl 0 rfl) ?_
        obtain ⟨x29, hc30, hf⟩ := bnd_b hf
        refine mcall_i (As := []) (rest := []) (n := 0) ⟨hx, hb, hml, hown, hts⟩ (cm_isBankHere l D h ad cy  x5.1 x29 hc30 _) (cwV 0 hts gX12_riverLineHere_X12_isBankHere rfl rfl rfl ⟨rfl, nd_isBankHere⟩ ⟨Nat.le_of_ble_eq_true rfl, Nat.le_of_ble_eq_true rfl⟩) hI hA rfl hl.1 (Nat.le_of_ble_eq_true rfl) dX12_riverLineHere_41 ⟨Nat.zero_le _, Nat.zero_le _⟩ (fun H locs hI => ?_)
        obtain ⟨k31, hf⟩ := chk_b hf
        exact mret_z hx hb hr (isb_nar k31) hlocks hI (ret_e hK0 hf) dX12_riverLineHere_44
    · replace hf := ifp c4 hf
      refine lv_aload_n hx hb dX12_riverLineHere_23 rfl (lv_at hl 0 rfl) ?_
      refine lv_iconst (v := 4) hx hb dX12_riverLineHere_24 (by decide) ?_
      refine lv_iload_n hx hb dX12_riverLineHere_25 rfl (lv_at hl 1 rfl) ?_
      obtain ⟨x32, hc33, hf⟩ := bnd_b hf
      refine mcall_i (As := [.int (4 : Int32), .int a1]) (rest := []) (n := 2) ⟨hx, hb, hml, hown, hts⟩ (cm_fails l D h ad cy (4 : Int32) a1 x1.1 x32 hc33 _) (cwV 2 hts gX12_riverLineHere_X12_fails rfl rfl rfl ⟨rfl, nd_fails⟩ ⟨Nat.le_of_ble_eq_true rfl, Nat.le_of_ble_eq_true rfl⟩) hI hA rfl hl.1 (Nat.le_of_ble_eq_true rfl) dX12_riverLineHere_26 ⟨Nat.zero_le _, Nat.zero_le _⟩ (fun H locs hI => ?_)
      obtain ⟨k34, hf⟩ := chk_b hf
      exact mret_z hx hb hr (isb_nar k34) hlocks hI (ret_e hK0 hf) dX12_riverLineHere_29
  · replace hf := ifn c3 hf
    refine lv_aload_n hx hb dX12_riverLineHere_10 rfl (lv_at hl 0 rfl) ?_
    refine lv_iload_n hx hb dX12_riverLineHere_11 rfl (lv_at hl 1 rfl) ?_
    obtain ⟨x35, hc36, hf⟩ := bnd_b hf
    refine mcall_i (As := [.int a1]) (rest := []) (n := 1) ⟨hx, hb, hml, hown, hts⟩ (cm_isWideHere l D h ad cy a1 x1.1 x35 hc36 _) (cwV 1 hts gX12_riverLineHere_X12_isWideHere rfl rfl rfl ⟨rfl, nd_isWideHere⟩ ⟨Nat.le_of_ble_eq_true rfl, Nat.le_of_ble_eq_true rfl⟩) hI hA rfl hl.1 (Nat.le_of_ble_eq_true rfl) dX12_riverLineHere_12 ⟨Nat.zero_le _, Nat.zero_le _⟩ (fun H locs hI => ?_)
    obtain ⟨k37, hf⟩ := chk_b hf
    exact mret_z hx hb hr (isb_nar k37) hlocks hI (ret_e hK0 hf) dX12_riverLineHere_15

theorem nd_isRiverWord : yX12_isRiverWord.cls ≠ "java/lang/invoke/MethodHandle" ∧ yX12_isRiverWord.cls ≠ "java/lang/invoke/VarHandle" ∧ (parseMethodDescriptor yX12_isRiverWord.desc).map (fun d => d.parameters.length) = some 0 := by decide +kernel
set_option maxHeartbeats 4000000 in
set_option maxRecDepth 100000 in
theorem cm_isRiverWord (l : Launch) (D : va_G) (h : Nat) (ad : Nat → Nat) (cy : Nat → ClassId)  (s0 : MSt) (out : MSt × Int32) (hf : fm_isRiverWord s0 = some out) (sz : Nat) : CMi l D h ad cy yX12_isRiverWord wsX12_isRiverWord { frames := 2, cells := 0, slots := 0, locals := 46 } [] s0 out sz := by
  refine Met.ofW (cc := cX12_isRiverWord) (maxL := 1) (ret := (some .boolean)) (by decide) rfl ?_
  intro p e s m args below meth c s₁ B hml hv
  obtain ⟨rfl, hsz, hP, hK, hD0⟩ := hv
  have hx := B.exec
  have hb := B.bytes
  have hr := B.returns
  have hts := atoms_spec (ws := wsX12_isRiverWord) B.pre
  have hown : s.vm.findClass RX12 = some m.cls := findClass_of_methodNamed B.named
  have hlocks := B.notSynchronized
  subst hsz
  have hI : MI D (MA h ad cy s0 s.heap.size) h ad cy s s.heap s0 s.heap [] := ⟨hK, hP, hD0.self, va_S.rf⟩
  have hA : ∀ q : Nat, s.heap.size ≤ q → MA h ad cy s0 s.heap.size q := fun q hq => Or.inr hq
  have hl := lv_entry ([.ref h]) (n := 1) (Nat.le_of_ble_eq_true rfl)
  rw [lg_entry_eq]
  generalize (lg_sl ([.ref h]) ++ List.replicate (1 - (lg_sl ([.ref h])).length) Slot.unset).toArray = ls at hl ⊢
  have hl : lv_has ls 1 [(0, .ref h)] := hl
  obtain ⟨K0, hK0, hf⟩ := top_e hf
  unfold fm_isRiverWord at hf
  refine lv_aload_n hx hb dX12_isRiverWord_0 rfl (lv_at hl 0 rfl) ?_
  refine lv_ldc2 (v := 2003395685) hx hb hown (hts (.constantLong RX12 237 (2003395685)) (by decide +kernel)) dX12_isRiverWord_1 ?_
  obtain ⟨x1, hc2, hf⟩ := bnd_b hf
  refine mcall_i (As := [.long (2003395685 : Int64)]) (rest := []) (n := 1) ⟨hx, hb, hml, hown, hts⟩ (cm_isWord l D h ad cy (2003395685 : Int64) s0 x1 hc2 _) (cwV 1 hts gX12_isRiverWord_X12_isWord rfl rfl rfl ⟨rfl, nd_isWord⟩ ⟨Nat.le_of_ble_eq_true rfl, Nat.le_of_ble_eq_true rfl⟩) hI hA rfl hl.1 (Nat.le_of_ble_eq_true rfl) dX12_isRiverWord_4 ⟨Nat.zero_le _, Nat.zero_le _⟩ (fun H locs hI => ?_)
  refine lv_if_ne (tgt := 60) hx hb dX12_isRiverWord_7 (by decide) (fun c3 => ?_) (fun c3 => ?_)
  · replace hf := ifn c3 hf
    refine lv_iconst (v := 1) hx hb dX12_isRiverWord_60 (by decide) ?_
    refine lv_goto (tgt := 65) hx hb dX12_isRiverWord_61 (by decide) ?_
    exact mret_z hx hb hr (by decide) hlocks hI (ret_e hK0 hf) dX12_isRiverWord_65
  · replace hf := ifp c3 hf
    refine lv_aload_n hx hb dX12_isRiverWord_10 rfl (lv_at hl 0 rfl) ?_
    refine lv_ldc2 (v := 1650552427) hx hb hown (hts (.constantLong RX12 242 (1650552427)) (by decide +kernel)) dX12_isRiverWord_11 ?_
    obtain ⟨x4, hc5, hf⟩ := bnd_b hf
    refine mcall_i (As := [.long (1650552427 : Int64)]) (rest := []) (n := 1) ⟨hx, hb, hml, hown, hts⟩ (cm_isWord l D h ad cy (1650552427 : Int64) x1.1 x4 hc5 _) (cwV 1 hts gX12_isRiverWord_X12_isWord rfl rfl rfl ⟨rfl, nd_isWord⟩ ⟨Nat.le_of_ble_eq_true rfl, Nat.le_of_ble_eq_true rfl⟩) hI hA rfl hl.1 (Nat.le_of_ble_eq_true rfl) dX12_isRiverWord_14 ⟨Nat.zero_le _, Nat.zero_le _⟩ (fun H locs hI => ?_)
    refine lv_if_ne (tgt := 60) hx hb dX12_isRiverWord_17 (by decide) (fun c6 => ?_) (fun c6 => ?_)
    · replace hf := ifn c6 hf
      refine lv_iconst (v := 1) hx hb dX12_isRiverWord_60 (by decide) ?_
      refine lv_goto (tgt := 65) hx hb dX12_isRiverWord_61 (by decide) ?_
      exact mret_z hx hb hr (by decide) hlocks hI (ret_e hK0 hf) dX12_isRiverWord_65
    · replace hf := ifp c6 hf
      refine lv_aload_n hx hb dX12_isRiverWord_20 rfl (lv_at hl 0 rfl) ?_
      refine lv_ldc2 (v := 1702454643) hx hb hown (hts (.constantLong RX12 247 (1702454643)) (by decide +kernel)) dX12_isRiverWord_21 ?_
      obtain ⟨x7, hc8, hf⟩ := bnd_b hf
      refine mcall_i (As := [.long (1702454643 : Int64)]) (rest := []) (n := 1) ⟨hx, hb, hml, hown, hts⟩ (cm_isWord l D h ad cy (1702454643 : Int64) x4.1 x7 hc8 _) (cwV 1 hts gX12_isRiverWord_X12_isWord rfl rfl rfl ⟨rfl, nd_isWord⟩ ⟨Nat.le_of_ble_eq_true rfl, Nat.le_of_ble_eq_true rfl⟩) hI hA rfl hl.1 (Nat.le_of_ble_eq_true rfl) dX12_isRiverWord_24 ⟨Nat.zero_le _, Nat.zero_le _⟩ (fun H locs hI => ?_)
      refine lv_if_ne (tgt := 60) hx hb dX12_isRiverWord_27 (by decide) (fun c9 => ?_) (fun c9 => ?_)
      · replace hf := ifn c9 hf
        refine lv_iconst (v := 1) hx hb dX12_isRiverWord_60 (by decide) ?_
        refine lv_goto (tgt := 65) hx hb dX12_isRiverWord_61 (by decide) ?_
        exact mret_z hx hb hr (by decide) hlocks hI (ret_e hK0 hf) dX12_isRiverWord_65
      · replace hf := ifp c9 hf
        refine lv_aload_n hx hb dX12_isRiverWord_30 rfl (lv_at hl 0 rfl) ?_
        refine lv_ldc2 (v := 1937007984) hx hb hown (hts (.constantLong RX12 252 (1937007984)) (by decide +kernel)) dX12_isRiverWord_31 ?_
        obtain ⟨x10, hc11, hf⟩ := bnd_b hf
        refine mcall_i (As := [.long (1937007984 : Int64)]) (rest := []) (n := 1) ⟨hx, hb, hml, hown, hts⟩ (cm_isWord l D h ad cy (1937007984 : Int64) x7.1 x10 hc11 _) (cwV 1 hts gX12_isRiverWord_X12_isWord rfl rfl rfl ⟨rfl, nd_isWord⟩ ⟨Nat.le_of_ble_eq_true rfl, Nat.le_of_ble_eq_true rfl⟩) hI hA rfl hl.1 (Nat.le_of_ble_eq_true rfl) dX12_isRiverWord_34 ⟨Nat.zero_le _, Nat.zero_le _⟩ (fun H locs hI => ?_)
        refine lv_if_ne (tgt := 60) hx hb dX12_isRiverWord_37 (by decide) (fun c12 => ?_) (fun c12 => ?_)
        · replace hf := ifn c12 hf
          refine lv_iconst (v := 1) hx hb dX12_isRiverWord_60 (by decide) ?_
          refine lv_goto (tgt := 65) hx hb dX12_isRiverWord_61 (by decide) ?_
          exact mret_z hx hb hr (by decide) hlocks hI (ret_e hK0 hf) dX12_isRiverWord_65
        · replace hf := ifp c12 hf
          refine lv_aload_n hx hb dX12_isRiverWord_40 rfl (lv_at hl 0 rfl) ?_
          refine lv_ldc2 (v := 115922835105139) hx hb hown (hts (.constantLong RX12 257 (115922835105139)) (by decide +kernel)) dX12_isRiverWord_41 ?_
          obtain ⟨x13, hc14, hf⟩ := bnd_b hf
          refine mcall_i (As := [.long (115922835105139 : Int64)]) (rest := []) (n := 1) ⟨hx, hb, hml, hown, hts⟩ (cm_isWord l D h ad cy (115922835105139 : Int64) x10.1 x13 hc14 _) (cwV 1 hts gX12_isRiverWord_X12_isWord rfl rfl rfl ⟨rfl, nd_isWord⟩ ⟨Nat.le_of_ble_eq_true rfl, Nat.le_of_ble_eq_true rfl⟩) hI hA rfl hl.1 (Nat.le_of_ble_eq_true rfl) dX12_isRiverWord_44 ⟨Nat.zero_le _, Nat.zero_le _⟩ (fun H locs hI => ?_)
          refine lv_if_ne (tgt := 60) hx hb dX12_isRiverWord_47 (by decide) (fun c15 => ?_) (fun c15 => ?_)
          · replace hf := ifn c15 hf
            refine lv_iconst (v := 1) hx hb dX12_isRiverWord_60 (by decide) ?_
            refine lv_goto (tgt := 65) hx hb dX12_isRiverWord_61 (by decide) ?_
            exact mret_z hx hb hr (by decide) hlocks hI (ret_e hK0 hf) dX12_isRiverWord_65
          · replace hf := ifp c15 hf
            refine lv_aload_n hx hb dX12_isRiverWord_50 rfl (lv_at hl 0 rfl) ?_
            refine lv_ldc2 (v := 439905906532) hx hb hown (hts (.constantLong RX12 265 (439905906532)) (by decide +kernel)) dX12_isRiverWord_51 ?_
            obtain ⟨x16, hc17, hf⟩ := bnd_b hf
            refine mcall_i (As := [.long (439905906532 : Int64)]) (rest := []) (n := 1) ⟨hx, hb, hml, hown, hts⟩ (cm_isWord l D h ad cy (439905906532 : Int64) x13.1 x16 hc17 _) (cwV 1 hts gX12_isRiverWord_X12_isWord rfl rfl rfl ⟨rfl, nd_isWord⟩ ⟨Nat.le_of_ble_eq_true rfl, Nat.le_of_ble_eq_true rfl⟩) hI hA rfl hl.1 (Nat.le_of_ble_eq_true rfl) dX12_isRiverWord_54 ⟨Nat.zero_le _, Nat.zero_le _⟩ (fun H locs hI => ?_)
            refine lv_if_eq (tgt := 64) hx hb dX12_isRiverWord_57 (by decide) (fun c18 => ?_) (fun c18 => ?_)
            · replace hf := ifp c18 hf
              refine lv_iconst (v := 0) hx hb dX12_isRiverWord_64 (by decide) ?_
              exact mret_z hx hb hr (by decide) hlocks hI (ret_e hK0 hf) dX12_isRiverWord_65
            · replace hf := ifn c18 hf
              refine lv_iconst (v := 1) hx hb dX12_isRiverWord_60 (by decide) ?_
              refine lv_goto (tgt := 65) hx hb dX12_isRiverWord_61 (by decide) ?_
              exact mret_z hx hb hr (by decide) hlocks hI (ret_e hK0 hf) dX12_isRiverWord_65
