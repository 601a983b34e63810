theorem nd_mostTurn : yX12_mostTurn.cls ≠ "java/lang/invoke/MethodHandle" ∧ yX12_mostTurn.cls ≠ "java/lang/invoke/VarHandle" ∧ (parseMethodDescriptor yX12_mostTurn.desc).map (fun d => d.parameters.length) = some 0 := by decide +kernel
set_option maxHeartbeats 4000000 in
set_option maxRecDepth 100000 in
theorem cm_mostTurn (l : Launch) (D : va_G) (h : Nat) (ad : Nat → Nat) (cy : Nat → ClassId)  (s0 : MSt) (out : MSt × Int32) (hf : fm_mostTurn s0 = some out) (sz : Nat) : CMi l D h ad cy yX12_mostTurn wsX12_mostTurn { frames := 1, cells := 0, slots := 0, locals := 21 } [] s0 out sz := by
  refine Met.ofW (cc := cX12_mostTurn) (maxL := 1) (ret := (some .int)) (by decide) rfl ?_
  intro p e s m args below meth c s₁ B hml hv
  obtain ⟨rfl, hsz, hP, hK, hD0⟩ := hv
  have hx := B.exec
  have hb := B.bytes
  have hr := B.returns
  have hts := atoms_spec (ws := wsX12_mostTurn) B.pre
  have hown : s.vm.findClass RX12 = some m.cls := findClass_of_methodNamed B.named
  have hlocks := B.notSynchronized
  subst hsz
  have hI : MI D (MA h ad cy s0 s.heap.size) h ad cy s s.heap s0 s.heap [] := ⟨hK, hP, hD0.self, va_S.rf⟩
  have hA : ∀ q : Nat, s.heap.size ≤ q → MA h ad cy s0 s.heap.size q := fun q hq => Or.inr hq
  have hin : ∀ w ∈ u_ws RX12 TX12 42, w ∈ wsX12_mostTurn := fun w hw => List.mem_cons_of_mem _ (List.mem_append_right _ hw)
  have k_said : Cond.fieldLink RX12 45 "HalfBridgeModel" "said" "[I" ∈ wsX12_mostTurn := by decide +kernel
  have hl := lv_entry ([.ref h]) (n := 1) (Nat.le_of_ble_eq_true rfl)
  rw [lg_entry_eq]
  generalize (lg_sl ([.ref h]) ++ List.replicate (1 - (lg_sl ([.ref h])).length) Slot.unset).toArray = ls at hl ⊢
  have hl : lv_has ls 1 [(0, .ref h)] := hl
  obtain ⟨K0, hK0, hf⟩ := top_e hf
  unfold fm_mostTurn at hf
  refine lv_aload_n hx hb dX12_mostTurn_0 rfl (lv_at hl 0 rfl) ?_
  refine mg_said hx hb hts hin hown k_said hI dX12_mostTurn_1 ?_
  refine lv_iconst (v := 2) hx hb dX12_mostTurn_4 (by decide) ?_
  obtain ⟨k1, hf⟩ := chk_b hf
  refine ml_said hx hb hI k1 dX12_mostTurn_5 ?_
  refine lv_iconst (v := 2) hx hb dX12_mostTurn_6 (by decide) ?_
  obtain ⟨x2, hc3, hf⟩ := bnd_b hf
  refine mst_i (As := [.int (s0.2.1 26 (2 : Int32).toNatClampNeg), .int (2 : Int32)]) (rest := []) (n := 2) ⟨hx, hb, hml, hown, hts⟩ (cs_lesser l (s0.2.1 26 (2 : Int32).toNatClampNeg) (2 : Int32) x2 hc3 _) (va_cwS 2 hts gX12_mostTurn_X12_lesser rfl rfl rfl nd_lesser ⟨Nat.le_of_ble_eq_true rfl, Nat.le_of_ble_eq_true rfl⟩) hI hA rfl hl.1 (Nat.le_of_ble_eq_true rfl) dX12_mostTurn_7 ⟨Nat.zero_le _, Nat.zero_le _⟩ (fun H locs hI => ?_)
  exact mret_i hx hb hr hlocks hI (ret_e hK0 hf) dX12_mostTurn_10

theorem nd_passesAs : yX12_passesAs.cls ≠ "java/lang/invoke/MethodHandle" ∧ yX12_passesAs.cls ≠ "java/lang/invoke/VarHandle" ∧ (parseMethodDescriptor yX12_passesAs.desc).map (fun d => d.parameters.length) = some 3 := by decide +kernel
set_option maxHeartbeats 4000000 in
set_option maxRecDepth 100000 in
theorem cm_passesAs (l : Launch) (D : va_G) (h : Nat) (ad : Nat → Nat) (cy : Nat → ClassId) (a1 : Int32) (a2 : Int32) (a3 : Int32) (s0 : MSt) (out : MSt × Int32) (hf : fm_passesAs a1 a2 a3 s0 = some out) (sz : Nat) : CMi l D h ad cy yX12_passesAs wsX12_passesAs { frames := 5, cells := 0, slots := 0, locals := 123 } [.int a1, .int a2, .int a3] s0 out sz := by
  refine Met.ofW (cc := cX12_passesAs) (maxL := 5) (ret := (some .boolean)) (by decide) rfl ?_
  intro p e s m args below meth c s₁ B hml hv
  obtain ⟨rfl, hsz, hP, hK, hD0⟩ := hv
  have hx := B.exec
  have hb := B.bytes
  have hr := B.returns
  have hts := atoms_spec (ws := wsX12_passesAs) B.pre
  have hown : s.vm.findClass RX12 = some m.cls := findClass_of_methodNamed B.named
  have hlocks := B.notSynchronized
  subst hsz
  have hI : MI D (MA h ad cy s0 s.heap.size) h ad cy s s.heap s0 s.heap [] := ⟨hK, hP, hD0.self, va_S.rf⟩
  have hA : ∀ q : Nat, s.heap.size ≤ q → MA h ad cy s0 s.heap.size q := fun q hq => Or.inr hq
  have hin : ∀ w ∈ u_ws RX12 TX12 42, w ∈ wsX12_passesAs := fun w hw => List.mem_cons_of_mem _ (List.mem_append_right _ hw)
  have k_said : Cond.fieldLink RX12 45 "HalfBridgeModel" "said" "[I" ∈ wsX12_passesAs := by decide +kernel
  have k_turnBy : Cond.fieldLink RX12 54 "HalfBridgeModel" "turnBy" "[I" ∈ wsX12_passesAs := by decide +kernel
  have hl := lv_entry ([.ref h, .int a1, .int a2, .int a3]) (n := 5) (Nat.le_of_ble_eq_true rfl)
  rw [lg_entry_eq]
  generalize (lg_sl ([.ref h, .int a1, .int a2, .int a3]) ++ List.replicate (5 - (lg_sl ([.ref h, .int a1, .int a2, .int a3])).length) Slot.unset).toArray = ls at hl ⊢
  have hl : lv_has ls 5 [(0, .ref h), (1, .int a1), (2, .int a2), (3, .int a3)] := hl
  obtain ⟨K0, hK0, hf⟩ := top_e hf
  have B_61_3 : ∀  (t0 : Int32) (st : MSt) (H : Heap) (locs : List Loc) (ls : Array Slot), MI D (MA h ad cy s0 s.heap.size) h ad cy s s.heap st H locs → lv_has ls 5 [(0, .ref h)] → (fm_passesAs_j61 t0 st).bind K0 = some out → W p l e (headSpec wsX12_passesAs { frames := 5, cells := 0, slots := 0, locals := 123 }).room s m (([.ref h, .int a1, .int a2, .int a3] : List Value).toArray) below meth c H locs 0 0 (MQ below (MQi D h ad cy s0 out s.heap.size) ([.ref h, .int a1, .int a2, .int a3] : List Value).toArray s 0 0 (MA h ad cy s0 s.heap.size)) (F0 m 61 ls [.int t0]) := by
    intro t0 st H locs ls hI hl hf
    unfold fm_passesAs_j61 at hf
    refine lv_istore (lv' := [(4, .int t0), (0, .ref h)]) hx hb dX12_passesAs_61 hl (by decide) rfl (fun ls hl => ?_)
    refine lv_aload_n hx hb dX12_passesAs_63 rfl (lv_at hl 1 rfl) ?_
    refine lv_iconst (v := 1) hx hb dX12_passesAs_64 (by decide) ?_
    obtain ⟨x13, hc14, hf⟩ := bnd_b hf
    refine mcall_v (As := [.int (1 : Int32)]) (rest := []) (n := 1) ⟨hx, hb, hml, hown, hts⟩ (cm_acts l D h ad cy (1 : Int32) st x13 hc14 _) (cwV 1 hts gX12_passesAs_X12_acts rfl rfl rfl ⟨rfl, nd_acts⟩ ⟨Nat.le_of_ble_eq_true rfl, Nat.le_of_ble_eq_true rfl⟩) hI hA rfl hl.1 (Nat.le_of_ble_eq_true rfl) dX12_passesAs_65 ⟨Nat.zero_le _, Nat.zero_le _⟩ (fun H locs hI => ?_)
    refine lv_aload_n hx hb dX12_passesAs_68 rfl (lv_at hl 1 rfl) ?_
    obtain ⟨x15, hc16, hf⟩ := bnd_b hf
    refine mcall_v (As := []) (rest := []) (n := 0) ⟨hx, hb, hml, hown, hts⟩ (cm_floods l D h ad cy  x13 x15 hc16 _) (cwV 0 hts gX12_passesAs_X12_floods rfl rfl rfl ⟨rfl, nd_floods⟩ ⟨Nat.le_of_ble_eq_true rfl, Nat.le_of_ble_eq_true rfl⟩) hI hA rfl hl.1 (Nat.le_of_ble_eq_true rfl) dX12_passesAs_69 ⟨Nat.zero_le _, Nat.zero_le _⟩ (fun H locs hI => ?_)
    refine lv_aload_n hx hb dX12_passesAs_72 rfl (lv_at hl 1 rfl) ?_
    refine mg_said hx hb hts hin hown k_said hI dX12_passesAs_73 ?_
    refine lv_iconst (v := 1) hx hb dX12_passesAs_76 (by decide) ?_
    refine lv_dup2_11 hx hb dX12_passesAs_77 rfl rfl ?_
    obtain ⟨k17, hf⟩ := chk_b hf
    refine ml_said hx hb hI k17 dX12_passesAs_78 ?_
    refine lv_iconst (v := 1) hx hb dX12_passesAs_79 (by decide) ?_
    refine lv_iadd hx hb dX12_passesAs_80 ?_
    obtain ⟨k18, hf⟩ := chk_b hf
    refine ms_said hx hb hI k18 dX12_passesAs_81 (fun H locs hI => ?_)
    refine lv_iload hx hb dX12_passesAs_82 (lv_at hl 0 rfl) ?_
    obtain ⟨k19, hf⟩ := chk_b hf
    exact mret_z hx hb hr (isb_nar k19) hlocks hI (ret_e hK0 hf) dX12_passesAs_84
  have B_56 : ∀   (st : MSt) (H : Heap) (locs : List Loc) (ls : Array Slot), MI D (MA h ad cy s0 s.heap.size) h ad cy s s.heap st H locs → lv_has ls 5 [(0, .ref h)] → (fm_passesAs_j56 st).bind K0 = some out → W p l e (headSpec wsX12_passesAs { frames := 5, cells := 0, slots := 0, locals := 123 }).room s m (([.ref h, .int a1, .int a2, .int a3] : List Value).toArray) below meth c H locs 0 0 (MQ below (MQi D h ad cy s0 out s.heap.size) ([.ref h, .int a1, .int a2, .int a3] : List Value).toArray s 0 0 (MA h ad cy s0 s.heap.size)) (F0 m 56 ls []) := by
    intro st H locs ls hI hl hf
    unfold fm_passesAs_j56 at hf
    refine lv_iconst (v := 1) hx hb dX12_passesAs_56 (by decide) ?_
    refine lv_goto (tgt := 61) hx hb dX12_passesAs_57 (by decide) ?_
    exact B_61_3 (1 : Int32) st H locs ls hI (lv_sub hl [0] rfl) hf
  have B_30_1 : ∀ (v1 : Int32) (v3 : Int32) (t0 : Int32) (t1 : Int32) (st : MSt) (H : Heap) (locs : List Loc) (ls : Array Slot), MI D (MA h ad cy s0 s.heap.size) h ad cy s s.heap st H locs → lv_has ls 5 [(0, .ref h), (1, .int v1), (3, .int v3)] → (fm_passesAs_j30 v1 v3 t0 t1 st).bind K0 = some out → W p l e (headSpec wsX12_passesAs { frames := 5, cells := 0, slots := 0, locals := 123 }).room s m (([.ref h, .int a1, .int a2, .int a3] : List Value).toArray) below meth c H locs 0 0 (MQ below (MQi D h ad cy s0 out s.heap.size) ([.ref h, .int a1, .int a2, .int a3] : List Value).toArray s 0 0 (MA h ad cy s0 s.heap.size)) (F0 m 30 ls [.int t0, .int t1, .ref h]) := by
    intro v1 v3 t0 t1 st H locs ls hI hl hf
    unfold fm_passesAs_j30 at hf
    obtain ⟨x7, hc8, hf⟩ := bnd_b hf
    refine mcall_v (As := [.int t1, .int t0]) (rest := []) (n := 2) ⟨hx, hb, hml, hown, hts⟩ (cm_looks l D h ad cy t1 t0 st x7 hc8 _) (cwV 2 hts gX12_passesAs_X12_looks rfl rfl rfl ⟨rfl, nd_looks⟩ ⟨Nat.le_of_ble_eq_true rfl, Nat.le_of_ble_eq_true rfl⟩) hI hA rfl hl.1 (Nat.le_of_ble_eq_true rfl) dX12_passesAs_30 ⟨Nat.zero_le _, Nat.zero_le _⟩ (fun H locs hI => ?_)
    refine lv_aload_n hx hb dX12_passesAs_33 rfl (lv_at hl 0 rfl) ?_
    refine mg_turnBy hx hb hts hin hown k_turnBy hI dX12_passesAs_34 ?_
    refine lv_iload_n hx hb dX12_passesAs_37 rfl (lv_at hl 1 rfl) ?_
    refine lv_iload_n hx hb dX12_passesAs_38 rfl (lv_at hl 2 rfl) ?_
    obtain ⟨k9, hf⟩ := chk_b hf
    refine ms_turnBy hx hb hI k9 dX12_passesAs_39 (fun H locs hI => ?_)
    refine lv_aload_n hx hb dX12_passesAs_40 rfl (lv_at hl 0 rfl) ?_
    refine lv_iconst (v := 0) hx hb dX12_passesAs_41 (by decide) ?_
    obtain ⟨x10, hc11, hf⟩ := bnd_b hf
    refine mcall_v (As := [.int (0 : Int32)]) (rest := []) (n := 1) ⟨hx, hb, hml, hown, hts⟩ (cm_acts l D h ad cy (0 : Int32) (msa x7 29 v1.toNatClampNeg v3) x10 hc11 _) (cwV 1 hts gX12_passesAs_X12_acts rfl rfl rfl ⟨rfl, nd_acts⟩ ⟨Nat.le_of_ble_eq_true rfl, Nat.le_of_ble_eq_true rfl⟩) hI hA rfl hl.1 (Nat.le_of_ble_eq_true rfl) dX12_passesAs_42 ⟨Nat.zero_le _, Nat.zero_le _⟩ (fun H locs hI => ?_)
    refine lv_iload_n hx hb dX12_passesAs_45 rfl (lv_at hl 1 rfl) ?_
    refine lv_if_eq (tgt := 56) hx hb dX12_passesAs_46 (by decide) (fun c12 => ?_) (fun c12 => ?_)
    · replace hf := ifp c12 hf
      exact B_56  x10 H locs ls hI (lv_sub hl [0] rfl) hf
    · replace hf := ifn c12 hf
      refine lv_aload_n hx hb dX12_passesAs_49 rfl (lv_at hl 0 rfl) ?_
      obtain ⟨x20, hc21, hf⟩ := bnd_b hf
      refine mcall_i (As := []) (rest := []) (n := 0) ⟨hx, hb, hml, hown, hts⟩ (cm_gap l D h ad cy  x10 x20 hc21 _) (cwV 0 hts gX12_passesAs_X12_gap rfl rfl rfl ⟨rfl, nd_gap⟩ ⟨Nat.le_of_ble_eq_true rfl, Nat.le_of_ble_eq_true rfl⟩) hI hA rfl hl.1 (Nat.le_of_ble_eq_true rfl) dX12_passesAs_50 ⟨Nat.zero_le _, Nat.zero_le _⟩ (fun H locs hI => ?_)
      refine lv_if_le (tgt := 60) hx hb dX12_passesAs_53 (by decide) (fun c22 => ?_) (fun c22 => ?_)
      · replace hf := ifp c22 hf
        refine lv_iconst (v := 0) hx hb dX12_passesAs_60 (by decide) ?_
        exact B_61_3 (0 : Int32) x20.1 H locs ls hI (lv_sub hl [0] rfl) hf
      · replace hf := ifn c22 hf
        exact B_56  x20.1 H locs ls hI (lv_sub hl [0] rfl) hf
  have B_15_0 : ∀ (v1 : Int32) (v2 : Int32) (v3 : Int32) (t0 : Int32) (t1 : Int32) (st : MSt) (H : Heap) (locs : List Loc) (ls : Array Slot), MI D (MA h ad cy s0 s.heap.size) h ad cy s s.heap st H locs → lv_has ls 5 [(0, .ref h), (1, .int v1), (2, .int v2), (3, .int v3)] → (fm_passesAs_j15 v1 v2 v3 t0 t1 st).bind K0 = some out → W p l e (headSpec wsX12_passesAs { frames := 5, cells := 0, slots := 0, locals := 123 }).room s m (([.ref h, .int a1, .int a2, .int a3] : List Value).toArray) below meth c H locs 0 0 (MQ below (MQi D h ad cy s0 out s.heap.size) ([.ref h, .int a1, .int a2, .int a3] : List Value).toArray s 0 0 (MA h ad cy s0 s.heap.size)) (F0 m 15 ls [.int t0, .int t1, .ref h]) := by
    intro v1 v2 v3 t0 t1 st H locs ls hI hl hf
    unfold fm_passesAs_j15 at hf
    obtain ⟨x4, hc5, hf⟩ := bnd_b hf
    refine mcall_v (As := [.int t1, .int t0]) (rest := []) (n := 2) ⟨hx, hb, hml, hown, hts⟩ (cm_looks l D h ad cy t1 t0 st x4 hc5 _) (cwV 2 hts gX12_passesAs_X12_looks rfl rfl rfl ⟨rfl, nd_looks⟩ ⟨Nat.le_of_ble_eq_true rfl, Nat.le_of_ble_eq_true rfl⟩) hI hA rfl hl.1 (Nat.le_of_ble_eq_true rfl) dX12_passesAs_15 ⟨Nat.zero_le _, Nat.zero_le _⟩ (fun H locs hI => ?_)
    refine lv_aload_n hx hb dX12_passesAs_18 rfl (lv_at hl 0 rfl) ?_
    refine lv_iconst (v := 1) hx hb dX12_passesAs_19 (by decide) ?_
    refine lv_iload_n hx hb dX12_passesAs_20 rfl (lv_at hl 1 rfl) ?_
    refine lv_iconst (v := 1) hx hb dX12_passesAs_21 (by decide) ?_
    refine lv_icmp_ne (tgt := 29) hx hb dX12_passesAs_22 (by decide) (fun c6 => ?_) (fun c6 => ?_)
    · replace hf := ifn c6 hf
      refine lv_iload_n hx hb dX12_passesAs_29 rfl (lv_at hl 2 rfl) ?_
      exact B_30_1 v1 v3 v2 (1 : Int32) x4 H locs ls hI (lv_sub hl [0, 1, 3] rfl) hf
    · replace hf := ifp c6 hf
      refine lv_iconst (v := -1) hx hb dX12_passesAs_25 (by decide) ?_
      refine lv_goto (tgt := 30) hx hb dX12_passesAs_26 (by decide) ?_
      exact B_30_1 v1 v3 (-1 : Int32) (1 : Int32) x4 H locs ls hI (lv_sub hl [0, 1, 3] rfl) hf
  unfold fm_passesAs at hf
  refine lv_aload_n hx hb dX12_passesAs_0 rfl (lv_at hl 0 rfl) ?_
  obtain ⟨x1, hc2, hf⟩ := bnd_b hf
  refine mcall_v (As := []) (rest := []) (n := 0) ⟨hx, hb, hml, hown, hts⟩ (cm_errsAsTold l D h ad cy  s0 x1 hc2 _) (cwV 0 hts gX12_passesAs_X12_errsAsTold rfl rfl rfl ⟨rfl, nd_errsAsTold⟩ ⟨Nat.le_of_ble_eq_true rfl, Nat.le_of_ble_eq_true rfl⟩) hI hA rfl hl.1 (Nat.le_of_ble_eq_true rfl) dX12_passesAs_1 ⟨Nat.zero_le _, Nat.zero_le _⟩ (fun H locs hI => ?_)
  refine lv_aload_n hx hb dX12_passesAs_4 rfl (lv_at hl 0 rfl) ?_
  refine lv_iconst (v := 0) hx hb dX12_passesAs_5 (by decide) ?_
  refine lv_iload_n hx hb dX12_passesAs_6 rfl (lv_at hl 1 rfl) ?_
  refine lv_if_ne (tgt := 14) hx hb dX12_passesAs_7 (by decide) (fun c3 => ?_) (fun c3 => ?_)
  · replace hf := ifn c3 hf
    refine lv_iload_n hx hb dX12_passesAs_14 rfl (lv_at hl 2 rfl) ?_
    exact B_15_0 a1 a2 a3 a2 (0 : Int32) x1 H locs ls hI (lv_sub hl [0, 1, 2, 3] rfl) hf
  · replace hf := ifp c3 hf
    refine lv_iconst (v := -1) hx hb dX12_passesAs_10 (by decide) ?_
    refine lv_goto (tgt := 15) hx hb dX12_passesAs_11 (by decide) ?_
    exact B_15_0 a1 a2 a3 (-1 : Int32) (0 : Int32) x1 H locs ls hI (lv_sub hl [0, 1, 2, 3] rfl) hf

theorem nd_takesRow : yX12_takesRow.cls ≠ "java/lang/invoke/MethodHandle" ∧ yX12_takesRow.cls ≠ "java/lang/invoke/VarHandle" ∧ (parseMethodDescriptor yX12_takesRow.desc).map (fun d => d.parameters.length) = some 1 := by decide +kernel
set_option maxHeartbeats 4000000 in
set_option maxRecDepth 100000 in
theorem cm_takesRow (l : Launch) (D : va_G) (h : Nat) (ad : Nat → Nat) (cy : Nat → ClassId) (a1 : Int32) (s0 : MSt) (out : MSt) (hf : fm_takesRow a1 s0 = some out) (sz : Nat) : CMv l D h ad cy yX12_takesRow wsX12_takesRow { frames := 0, cells := 0, slots := 0, locals := 0 } [.int a1] s0 out sz := by
  refine Met.ofW (cc := cX12_takesRow) (maxL := 3) (ret := none) (by decide) rfl ?_
  intro p e s m args below meth c s₁ B hml hv
  obtain ⟨rfl, hsz, hP, hK, hD0⟩ := hv
  have hx := B.exec
  have hb := B.bytes
  have hr := B.returns
  have hts := atoms_spec (ws := wsX12_takesRow) B.pre
  have hown : s.vm.findClass RX12 = some m.cls := findClass_of_methodNamed B.named
  have hlocks := B.notSynchronized
  subst hsz
  have hI : MI D (MA h ad cy s0 s.heap.size) h ad cy s s.heap s0 s.heap [] := ⟨hK, hP, hD0.self, va_S.rf⟩
  have hA : ∀ q : Nat, s.heap.size ≤ q → MA h ad cy s0 s.heap.size q := fun q hq => Or.inr hq
  have hin : ∀ w ∈ u_ws RX12 TX12 42, w ∈ wsX12_takesRow := fun w hw => List.mem_cons_of_mem _ (List.mem_append_right _ hw)
  have k_chosen : Cond.fieldLink RX12 79 "HalfBridgeModel" "chosen" "[I" ∈ wsX12_takesRow := by decide +kernel
  have k_tries : Cond.fieldLink RX12 73 "HalfBridgeModel" "tries" "[I" ∈ wsX12_takesRow := by decide +kernel
  have hl := lv_entry ([.ref h, .int a1]) (n := 3) (Nat.le_of_ble_eq_true rfl)
  rw [lg_entry_eq]
  generalize (lg_sl ([.ref h, .int a1]) ++ List.replicate (3 - (lg_sl ([.ref h, .int a1])).length) Slot.unset).toArray = ls at hl ⊢
  have hl : lv_has ls 3 [(0, .ref h), (1, .int a1)] := hl
  obtain ⟨K0, hK0, hf⟩ := top_e hf
  have B_36 : ∀   (st : MSt) (H : Heap) (locs : List Loc) (ls : Array Slot), MI D (MA h ad cy s0 s.heap.size) h ad cy s s.heap st H locs → lv_has ls 3 [] → (fm_takesRow_j36 st).bind K0 = some out → W p l e (headSpec wsX12_takesRow { frames := 0, cells := 0, slots := 0, locals := 0 }).room s m (([.ref h, .int a1] : List Value).toArray) below meth c H locs 0 0 (MQ below (MQv D h ad cy s0 out s.heap.size) ([.ref h, .int a1] : List Value).toArray s 0 0 (MA h ad cy s0 s.heap.size)) (F0 m 36 ls []) := by
    intro st H locs ls hI hl hf
    unfold fm_takesRow_j36 at hf
    exact mret_v hx hb hr hlocks hI (ret_e hK0 hf) dX12_takesRow_36
  have L_2 : ∀ (v1 : Int32) (n : Nat) (v2 : Int32) (st : MSt) (H : Heap) (locs : List Loc) (ls : Array Slot), MI D (MA h ad cy s0 s.heap.size) h ad cy s s.heap st H locs → lv_has ls 3 [(0, .ref h), (1, .int v1), (2, .int v2)] → (iter (fun x : (Int32 × MSt) => fm_takesRow_s2 v1 x.1 x.2) n (v2, st)).bind (fun x => ((Sum.elim (fun o : MSt => (some o : Option (MSt))) (fun x : (Int32 × MSt) => fm_takesRow_j36 x.2)) x).bind K0) = some out → W p l e (headSpec wsX12_takesRow { frames := 0, cells := 0, slots := 0, locals := 0 }).room s m (([.ref h, .int a1] : List Value).toArray) below meth c H locs 0 0 (MQ below (MQv D h ad cy s0 out s.heap.size) ([.ref h, .int a1] : List Value).toArray s 0 0 (MA h ad cy s0 s.heap.size)) (F0 m 2 ls []) := by
    intro v1 n
    induction n with
    | zero => intro v2 st H locs ls hI hl hf; exact (iter_0 hf).elim
    | succ n ih =>
      intro v2 st H locs ls hI hl hf
      obtain ⟨K1, hK1, hf⟩ := iter_e hf
      replace hf : (fm_takesRow_s2 v1 v2 st).bind K1 = some out := hf
      unfold fm_takesRow_s2 at hf
      refine lv_iload_n hx hb dX12_takesRow_2 rfl (lv_at hl 2 rfl) ?_
      refine lv_bipush (v := 6) hx hb dX12_takesRow_3 (by decide) ?_
      refine lv_icmp_ge (tgt := 36) hx hb dX12_takesRow_5 (by decide) (fun c1 => ?_) (fun c1 => ?_)
      · replace hf := ifp c1 hf
        replace hf := exit_b hK1 hf
        exact B_36  st H locs ls hI (lv_sub hl [] rfl) hf
      · replace hf := ifn c1 hf
        refine lv_aload_n hx hb dX12_takesRow_8 rfl (lv_at hl 0 rfl) ?_
        refine mg_chosen hx hb hts hin hown k_chosen hI dX12_takesRow_9 ?_
        refine lv_iload_n hx hb dX12_takesRow_12 rfl (lv_at hl 2 rfl) ?_
        refine lv_iload_n hx hb dX12_takesRow_13 rfl (lv_at hl 2 rfl) ?_
        refine lv_iload_n hx hb dX12_takesRow_14 rfl (lv_at hl 1 rfl) ?_
        refine lv_icmp_ge (tgt := 27) hx hb dX12_takesRow_15 (by decide) (fun c2 => ?_) (fun c2 => ?_)
        · replace hf := ifp c2 hf
          refine lv_bipush (v := -100) hx hb dX12_takesRow_27 (by decide) ?_
          obtain ⟨k3, hf⟩ := chk_b hf
          refine ms_chosen hx hb hI k3 dX12_takesRow_29 (fun H locs hI => ?_)
          refine lv_iinc (v := (v2 + 1)) (lv' := [(2, .int (v2 + 1)), (0, .ref h), (1, .int v1)]) hx hb dX12_takesRow_30 hl (k := 2) rfl (ci_ _ (by decide)) (by decide) rfl (fun ls hl => ?_)
          refine lv_goto (tgt := 2) hx hb dX12_takesRow_33 (by decide) ?_
          replace hf := cont_b hK1 hf
          exact ih (v2 + 1) (msa st 37 v2.toNatClampNeg (-100 : Int32)) H locs ls hI (lv_sub hl [1, 2, 0] rfl) hf
        · replace hf := ifn c2 hf
          refine lv_aload_n hx hb dX12_takesRow_18 rfl (lv_at hl 0 rfl) ?_
          refine mg_tries hx hb hts hin hown k_tries hI dX12_takesRow_19 ?_
          refine lv_iload_n hx hb dX12_takesRow_22 rfl (lv_at hl 2 rfl) ?_
          obtain ⟨k4, hf⟩ := chk_b hf
          refine ml_tries hx hb hI k4 dX12_takesRow_23 ?_
          refine lv_goto (tgt := 29) hx hb dX12_takesRow_24 (by decide) ?_
          obtain ⟨k5, hf⟩ := chk_b hf
          refine ms_chosen hx hb hI k5 dX12_takesRow_29 (fun H locs hI => ?_)
          refine lv_iinc (v := (v2 + 1)) (lv' := [(2, .int (v2 + 1)), (0, .ref h), (1, .int v1)]) hx hb dX12_takesRow_30 hl (k := 2) rfl (ci_ _ (by decide)) (by decide) rfl (fun ls hl => ?_)
          refine lv_goto (tgt := 2) hx hb dX12_takesRow_33 (by decide) ?_
          replace hf := cont_b hK1 hf
          exact ih (v2 + 1) (msa st 37 v2.toNatClampNeg (st.2.1 35 v2.toNatClampNeg)) H locs ls hI (lv_sub hl [1, 2, 0] rfl) hf
  unfold fm_takesRow at hf
  refine lv_iconst (v := 0) hx hb dX12_takesRow_0 (by decide) ?_
  refine lv_istore_n (lv' := [(2, .int (0 : Int32)), (0, .ref h), (1, .int a1)]) hx hb dX12_takesRow_1 rfl hl (by decide) rfl (fun ls hl => ?_)
  exact L_2 a1 mFuel (0 : Int32) s0 s.heap [] ls hI (lv_sub hl [1, 2, 0] rfl) (asc_b hf)
