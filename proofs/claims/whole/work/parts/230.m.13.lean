theorem nd_pull : yX12_pull.cls ≠ "java/lang/invoke/MethodHandle" ∧ yX12_pull.cls ≠ "java/lang/invoke/VarHandle" ∧ (parseMethodDescriptor yX12_pull.desc).map (fun d => d.parameters.length) = some 1 := by decide +kernel
set_option maxHeartbeats 4000000 in
set_option maxRecDepth 100000 in
theorem cm_pull (l : Launch) (D : va_G) (h : Nat) (ad : Nat → Nat) (cy : Nat → ClassId) (a1 : Int32) (s0 : MSt) (out : MSt × Int32) (hf : fm_pull a1 s0 = some out) (sz : Nat) : CMi l D h ad cy yX12_pull wsX12_pull { frames := 2, cells := 0, slots := 0, locals := 43 } [.int a1] s0 out sz := by
  refine Met.ofW (cc := cX12_pull) (maxL := 2) (ret := (some .boolean)) (by decide) rfl ?_
  intro p e s m args below meth c s₁ B hml hv
  obtain ⟨rfl, hsz, hP, hK, hD0⟩ := hv
  have hx := B.exec
  have hb := B.bytes
  have hr := B.returns
  have hts := atoms_spec (ws := wsX12_pull) B.pre
  have hown : s.vm.findClass RX12 = some m.cls := findClass_of_methodNamed B.named
  have hlocks := B.notSynchronized
  subst hsz
  have hI : MI D (MA h ad cy s0 s.heap.size) h ad cy s s.heap s0 s.heap [] := ⟨hK, hP, hD0.self, va_S.rf⟩
  have hA : ∀ q : Nat, s.heap.size ≤ q → MA h ad cy s0 s.heap.size q := fun q hq => Or.inr hq
  have hin : ∀ w ∈ u_ws RX12 TX12 42, w ∈ wsX12_pull := fun w hw => List.mem_cons_of_mem _ (List.mem_append_right _ hw)
  have k_said : Cond.fieldLink RX12 45 "HalfBridgeModel" "said" "[I" ∈ wsX12_pull := by decide +kernel
  have hl := lv_entry ([.ref h, .int a1]) (n := 2) (Nat.le_of_ble_eq_true rfl)
  rw [lg_entry_eq]
  generalize (lg_sl ([.ref h, .int a1]) ++ List.replicate (2 - (lg_sl ([.ref h, .int a1])).length) Slot.unset).toArray = ls at hl ⊢
  have hl : lv_has ls 2 [(0, .ref h), (1, .int a1)] := hl
  obtain ⟨K0, hK0, hf⟩ := top_e hf
  unfold fm_pull at hf
  refine lv_aload_n hx hb dX12_pull_0 rfl (lv_at hl 0 rfl) ?_
  obtain ⟨x1, hc2, hf⟩ := bnd_b hf
  refine mcall_i (As := []) (rest := []) (n := 0) ⟨hx, hb, hml, hown, hts⟩ (cm_isRiver l D h ad cy  s0 x1 hc2 _) (cwV 0 hts gX12_pull_X12_isRiver rfl rfl rfl ⟨rfl, nd_isRiver⟩ ⟨Nat.le_of_ble_eq_true rfl, Nat.le_of_ble_eq_true rfl⟩) hI hA rfl hl.1 (Nat.le_of_ble_eq_true rfl) dX12_pull_1 ⟨Nat.zero_le _, Nat.zero_le _⟩ (fun H locs hI => ?_)
  refine lv_if_eq (tgt := 26) hx hb dX12_pull_4 (by decide) (fun c3 => ?_) (fun c3 => ?_)
  · replace hf := ifp c3 hf
    refine lv_iconst (v := 0) hx hb dX12_pull_26 (by decide) ?_
    exact mret_z hx hb hr (by decide) hlocks hI (ret_e hK0 hf) dX12_pull_27
  · replace hf := ifn c3 hf
    refine lv_iload_n hx hb dX12_pull_7 rfl (lv_at hl 1 rfl) ?_
    obtain ⟨x4, hc5, hf⟩ := bnd_b hf
    refine mst_i (As := [.int a1]) (rest := []) (n := 1) ⟨hx, hb, hml, hown, hts⟩ (cs_isSide l a1 x4 hc5 _) (va_cwS 1 hts gX12_pull_X12_isSide rfl rfl rfl nd_isSide ⟨Nat.le_of_ble_eq_true rfl, Nat.le_of_ble_eq_true rfl⟩) hI hA rfl hl.1 (Nat.le_of_ble_eq_true rfl) dX12_pull_8 ⟨Nat.zero_le _, Nat.zero_le _⟩ (fun H locs hI => ?_)
    refine lv_if_eq (tgt := 26) hx hb dX12_pull_11 (by decide) (fun c6 => ?_) (fun c6 => ?_)
    · replace hf := ifp c6 hf
      refine lv_iconst (v := 0) hx hb dX12_pull_26 (by decide) ?_
      exact mret_z hx hb hr (by decide) hlocks hI (ret_e hK0 hf) dX12_pull_27
    · replace hf := ifn c6 hf
      refine lv_aload_n hx hb dX12_pull_14 rfl (lv_at hl 0 rfl) ?_
      refine mg_said hx hb hts hin hown k_said hI dX12_pull_15 ?_
      refine lv_bipush (v := 6) hx hb dX12_pull_18 (by decide) ?_
      refine lv_iload_n hx hb dX12_pull_20 rfl (lv_at hl 1 rfl) ?_
      refine lv_iadd hx hb dX12_pull_21 ?_
      obtain ⟨k7, hf⟩ := chk_b hf
      refine ml_said hx hb hI k7 dX12_pull_22 ?_
      refine lv_if_ne (tgt := 28) hx hb dX12_pull_23 (by decide) (fun c8 => ?_) (fun c8 => ?_)
      · replace hf := ifn c8 hf
        refine lv_aload_n hx hb dX12_pull_28 rfl (lv_at hl 0 rfl) ?_
        refine lv_iload_n hx hb dX12_pull_29 rfl (lv_at hl 1 rfl) ?_
        refine lv_iconst (v := 1) hx hb dX12_pull_30 (by decide) ?_
        obtain ⟨x9, hc10, hf⟩ := bnd_b hf
        refine mcall_v (As := [.int a1, .int (1 : Int32)]) (rest := []) (n := 2) ⟨hx, hb, hml, hown, hts⟩ (cm_takesYards l D h ad cy a1 (1 : Int32) x1.1 x9 hc10 _) (cwV 2 hts gX12_pull_X12_takesYards rfl rfl rfl ⟨rfl, nd_takesYards⟩ ⟨Nat.le_of_ble_eq_true rfl, Nat.le_of_ble_eq_true rfl⟩) hI hA rfl hl.1 (Nat.le_of_ble_eq_true rfl) dX12_pull_31 ⟨Nat.zero_le _, Nat.zero_le _⟩ (fun H locs hI => ?_)
        refine lv_iconst (v := 1) hx hb dX12_pull_34 (by decide) ?_
        exact mret_z hx hb hr (by decide) hlocks hI (ret_e hK0 hf) dX12_pull_35
      · replace hf := ifp c8 hf
        refine lv_iconst (v := 0) hx hb dX12_pull_26 (by decide) ?_
        exact mret_z hx hb hr (by decide) hlocks hI (ret_e hK0 hf) dX12_pull_27

theorem nd_held : yX12_held.cls ≠ "java/lang/invoke/MethodHandle" ∧ yX12_held.cls ≠ "java/lang/invoke/VarHandle" ∧ (parseMethodDescriptor yX12_held.desc).map (fun d => d.parameters.length) = some 1 := by decide +kernel
set_option maxHeartbeats 4000000 in
set_option maxRecDepth 100000 in
theorem cm_held (l : Launch) (D : va_G) (h : Nat) (ad : Nat → Nat) (cy : Nat → ClassId) (a1 : Int64) (s0 : MSt) (out : MSt × Int32) (hf : fm_held a1 s0 = some out) (sz : Nat) : CMi l D h ad cy yX12_held wsX12_held { frames := 0, cells := 0, slots := 0, locals := 0 } [.long a1] s0 out sz := by
  refine Met.ofW (cc := cX12_held) (maxL := 3) (ret := (some .int)) (by decide) rfl ?_
  intro p e s m args below meth c s₁ B hml hv
  obtain ⟨rfl, hsz, hP, hK, hD0⟩ := hv
  have hx := B.exec
  have hb := B.bytes
  have hr := B.returns
  have hts := atoms_spec (ws := wsX12_held) B.pre
  have hown : s.vm.findClass RX12 = some m.cls := findClass_of_methodNamed B.named
  have hlocks := B.notSynchronized
  subst hsz
  have hI : MI D (MA h ad cy s0 s.heap.size) h ad cy s s.heap s0 s.heap [] := ⟨hK, hP, hD0.self, va_S.rf⟩
  have hA : ∀ q : Nat, s.heap.size ≤ q → MA h ad cy s0 s.heap.size q := fun q hq => Or.inr hq
  have hin : ∀ w ∈ u_ws RX12 TX12 42, w ∈ wsX12_held := fun w hw => List.mem_cons_of_mem _ (List.mem_append_right _ hw)
  have k_said : Cond.fieldLink RX12 45 "HalfBridgeModel" "said" "[I" ∈ wsX12_held := by decide +kernel
  have hl := lv_entry ([.ref h, .long a1]) (n := 3) (Nat.le_of_ble_eq_true rfl)
  rw [lg_entry_eq]
  generalize (lg_sl ([.ref h, .long a1]) ++ List.replicate (3 - (lg_sl ([.ref h, .long a1])).length) Slot.unset).toArray = ls at hl ⊢
  have hl : lv_has ls 3 [(0, .ref h), (1, .long a1)] := hl
  obtain ⟨K0, hK0, hf⟩ := top_e hf
  unfold fm_held at hf
  refine lv_lload_n hx hb dX12_held_0 rfl (lv_at hl 1 rfl) ?_
  refine lv_aload_n hx hb dX12_held_1 rfl (lv_at hl 0 rfl) ?_
  refine mg_said hx hb hts hin hown k_said hI dX12_held_2 ?_
  refine lv_iconst (v := 2) hx hb dX12_held_5 (by decide) ?_
  obtain ⟨k1, hf⟩ := chk_b hf
  refine ml_said hx hb hI k1 dX12_held_6 ?_
  refine lv_ineg hx hb dX12_held_7 ?_
  refine lv_i2l (v := ((-(s0.2.1 26 (2 : Int32).toNatClampNeg)).toInt64)) hx hb dX12_held_8 rfl ?_
  refine W.lcmp hx hb dX12_held_9 ?_
  refine lv_if_ge (tgt := 24) hx hb dX12_held_10 (by decide) (fun c2 => ?_) (fun c2 => ?_)
  · replace hf := ifp c2 hf
    refine lv_lload_n hx hb dX12_held_24 rfl (lv_at hl 1 rfl) ?_
    refine lv_aload_n hx hb dX12_held_25 rfl (lv_at hl 0 rfl) ?_
    refine mg_said hx hb hts hin hown k_said hI dX12_held_26 ?_
    refine lv_iconst (v := 2) hx hb dX12_held_29 (by decide) ?_
    obtain ⟨k3, hf⟩ := chk_b hf
    refine ml_said hx hb hI k3 dX12_held_30 ?_
    refine lv_i2l (v := ((s0.2.1 26 (2 : Int32).toNatClampNeg).toInt64)) hx hb dX12_held_31 rfl ?_
    refine W.lcmp hx hb dX12_held_32 ?_
    refine lv_if_le (tgt := 46) hx hb dX12_held_33 (by decide) (fun c4 => ?_) (fun c4 => ?_)
    · replace hf := ifp c4 hf
      refine lv_lload_n hx hb dX12_held_46 rfl (lv_at hl 1 rfl) ?_
      refine lv_l2i (v := (a1.toInt32)) hx hb dX12_held_47 rfl ?_
      exact mret_i hx hb hr hlocks hI (ret_e hK0 hf) dX12_held_48
    · replace hf := ifn c4 hf
      refine lv_aload_n hx hb dX12_held_36 rfl (lv_at hl 0 rfl) ?_
      refine mg_said hx hb hts hin hown k_said hI dX12_held_37 ?_
      refine lv_iconst (v := 2) hx hb dX12_held_40 (by decide) ?_
      obtain ⟨k5, hf⟩ := chk_b hf
      refine ml_said hx hb hI k5 dX12_held_41 ?_
      refine lv_i2l (v := ((s0.2.1 26 (2 : Int32).toNatClampNeg).toInt64)) hx hb dX12_held_42 rfl ?_
      refine lv_goto (tgt := 47) hx hb dX12_held_43 (by decide) ?_
      refine lv_l2i (v := (((s0.2.1 26 (2 : Int32).toNatClampNeg).toInt64).toInt32)) hx hb dX12_held_47 rfl ?_
      exact mret_i hx hb hr hlocks hI (ret_e hK0 hf) dX12_held_48
  · replace hf := ifn c2 hf
    refine lv_aload_n hx hb dX12_held_13 rfl (lv_at hl 0 rfl) ?_
    refine mg_said hx hb hts hin hown k_said hI dX12_held_14 ?_
    refine lv_iconst (v := 2) hx hb dX12_held_17 (by decide) ?_
    obtain ⟨k6, hf⟩ := chk_b hf
    refine ml_said hx hb hI k6 dX12_held_18 ?_
    refine lv_ineg hx hb dX12_held_19 ?_
    refine lv_i2l (v := ((-(s0.2.1 26 (2 : Int32).toNatClampNeg)).toInt64)) hx hb dX12_held_20 rfl ?_
    refine lv_goto (tgt := 47) hx hb dX12_held_21 (by decide) ?_
    refine lv_l2i (v := (((-(s0.2.1 26 (2 : Int32).toNatClampNeg)).toInt64).toInt32)) hx hb dX12_held_47 rfl ?_
    exact mret_i hx hb hr hlocks hI (ret_e hK0 hf) dX12_held_48

theorem nd_isSo : yX12_isSo.cls ≠ "java/lang/invoke/MethodHandle" ∧ yX12_isSo.cls ≠ "java/lang/invoke/VarHandle" ∧ (parseMethodDescriptor yX12_isSo.desc).map (fun d => d.parameters.length) = some 2 := by decide +kernel
set_option maxHeartbeats 4000000 in
set_option maxRecDepth 100000 in
theorem cm_isSo (l : Launch) (D : va_G) (h : Nat) (ad : Nat → Nat) (cy : Nat → ClassId) (a1 : Int32) (a2 : Int32) (s0 : MSt) (out : MSt × Int32) (hf : fm_isSo a1 a2 s0 = some out) (sz : Nat) : CMi l D h ad cy yX12_isSo wsX12_isSo { frames := 2, cells := 0, slots := 0, locals := 54 } [.int a1, .int a2] s0 out sz := by
  refine Met.ofW (cc := cX12_isSo) (maxL := 3) (ret := (some .boolean)) (by decide) rfl ?_
  intro p e s m args below meth c s₁ B hml hv
  obtain ⟨rfl, hsz, hP, hK, hD0⟩ := hv
  have hx := B.exec
  have hb := B.bytes
  have hr := B.returns
  have hts := atoms_spec (ws := wsX12_isSo) B.pre
  have hown : s.vm.findClass RX12 = some m.cls := findClass_of_methodNamed B.named
  have hlocks := B.notSynchronized
  subst hsz
  have hI : MI D (MA h ad cy s0 s.heap.size) h ad cy s s.heap s0 s.heap [] := ⟨hK, hP, hD0.self, va_S.rf⟩
  have hA : ∀ q : Nat, s.heap.size ≤ q → MA h ad cy s0 s.heap.size q := fun q hq => Or.inr hq
  have hin : ∀ w ∈ u_ws RX12 TX12 42, w ∈ wsX12_isSo := fun w hw => List.mem_cons_of_mem _ (List.mem_append_right _ hw)
  have k_clause : Cond.fieldLink RX12 20 "HalfBridgeModel" "clause" "[I" ∈ wsX12_isSo := by decide +kernel
  have hl := lv_entry ([.ref h, .int a1, .int a2]) (n := 3) (Nat.le_of_ble_eq_true rfl)
  rw [lg_entry_eq]
  generalize (lg_sl ([.ref h, .int a1, .int a2]) ++ List.replicate (3 - (lg_sl ([.ref h, .int a1, .int a2])).length) Slot.unset).toArray = ls at hl ⊢
  have hl : lv_has ls 3 [(0, .ref h), (1, .int a1), (2, .int a2)] := hl
  obtain ⟨K0, hK0, hf⟩ := top_e hf
  unfold fm_isSo at hf
  refine lv_aload_n hx hb dX12_isSo_0 rfl (lv_at hl 0 rfl) ?_
  refine lv_iload_n hx hb dX12_isSo_1 rfl (lv_at hl 1 rfl) ?_
  refine lv_aload_n hx hb dX12_isSo_2 rfl (lv_at hl 0 rfl) ?_
  refine mg_clause hx hb hts hin hown k_clause hI dX12_isSo_3 ?_
  refine lv_iload_n hx hb dX12_isSo_6 rfl (lv_at hl 2 rfl) ?_
  refine lv_iconst (v := 3) hx hb dX12_isSo_7 (by decide) ?_
  refine lv_iadd hx hb dX12_isSo_8 ?_
  obtain ⟨k1, hf⟩ := chk_b hf
  refine ml_clause hx hb hI k1 dX12_isSo_9 ?_
  refine lv_aload_n hx hb dX12_isSo_10 rfl (lv_at hl 0 rfl) ?_
  refine mg_clause hx hb hts hin hown k_clause hI dX12_isSo_11 ?_
  refine lv_iload_n hx hb dX12_isSo_14 rfl (lv_at hl 2 rfl) ?_
  refine lv_iconst (v := 4) hx hb dX12_isSo_15 (by decide) ?_
  refine lv_iadd hx hb dX12_isSo_16 ?_
  obtain ⟨k2, hf⟩ := chk_b hf
  refine ml_clause hx hb hI k2 dX12_isSo_17 ?_
  obtain ⟨x3, hc4, hf⟩ := bnd_b hf
  refine mcall_l (As := [.int a1, .int (s0.2.1 5 (a2 + (3 : Int32)).toNatClampNeg), .int (s0.2.1 5 (a2 + (4 : Int32)).toNatClampNeg)]) (rest := []) (n := 3) ⟨hx, hb, hml, hown, hts⟩ (cm_reckons l D h ad cy a1 (s0.2.1 5 (a2 + (3 : Int32)).toNatClampNeg) (s0.2.1 5 (a2 + (4 : Int32)).toNatClampNeg) s0 x3 hc4 _) (cwV 3 hts gX12_isSo_X12_reckons rfl rfl rfl ⟨rfl, nd_reckons⟩ ⟨Nat.le_of_ble_eq_true rfl, Nat.le_of_ble_eq_true rfl⟩) hI hA rfl hl.1 (Nat.le_of_ble_eq_true rfl) dX12_isSo_18 ⟨Nat.zero_le _, Nat.zero_le _⟩ (fun H locs hI => ?_)
  refine lv_lconst (v := 1) hx hb dX12_isSo_21 (by decide) ?_
  refine W.lcmp hx hb dX12_isSo_22 ?_
  refine lv_if_ne (tgt := 30) hx hb dX12_isSo_23 (by decide) (fun c5 => ?_) (fun c5 => ?_)
  · replace hf := ifn c5 hf
    refine lv_iconst (v := 0) hx hb dX12_isSo_30 (by decide) ?_
    exact mret_z hx hb hr (by decide) hlocks hI (ret_e hK0 hf) dX12_isSo_31
  · replace hf := ifp c5 hf
    refine lv_iconst (v := 1) hx hb dX12_isSo_26 (by decide) ?_
    refine lv_goto (tgt := 31) hx hb dX12_isSo_27 (by decide) ?_
    exact mret_z hx hb hr (by decide) hlocks hI (ret_e hK0 hf) dX12_isSo_31

theorem nd_isAny : yX12_isAny.cls ≠ "java/lang/invoke/MethodHandle" ∧ yX12_isAny.cls ≠ "java/lang/invoke/VarHandle" ∧ (parseMethodDescriptor yX12_isAny.desc).map (fun d => d.parameters.length) = some 2 := by decide +kernel
set_option maxHeartbeats 4000000 in
set_option maxRecDepth 100000 in
theorem cm_isAny (l : Launch) (D : va_G) (h : Nat) (ad : Nat → Nat) (cy : Nat → ClassId) (a1 : Int32) (a2 : Int32) (s0 : MSt) (out : MSt × Int32) (hf : fm_isAny a1 a2 s0 = some out) (sz : Nat) : CMi l D h ad cy yX12_isAny wsX12_isAny { frames := 3, cells := 0, slots := 0, locals := 76 } [.int a1, .int a2] s0 out sz := by
  refine Met.ofW (cc := cX12_isAny) (maxL := 5) (ret := (some .boolean)) (by decide) rfl ?_
  intro p e s m args below meth c s₁ B hml hv
  obtain ⟨rfl, hsz, hP, hK, hD0⟩ := hv
  have hx := B.exec
  have hb := B.bytes
  have hr := B.returns
  have hts := atoms_spec (ws := wsX12_isAny) B.pre
  have hown : s.vm.findClass RX12 = some m.cls := findClass_of_methodNamed B.named
  have hlocks := B.notSynchronized
  subst hsz
  have hI : MI D (MA h ad cy s0 s.heap.size) h ad cy s s.heap s0 s.heap [] := ⟨hK, hP, hD0.self, va_S.rf⟩
  have hA : ∀ q : Nat, s.heap.size ≤ q → MA h ad cy s0 s.heap.size q := fun q hq => Or.inr hq
  have hin : ∀ w ∈ u_ws RX12 TX12 42, w ∈ wsX12_isAny := fun w hw => List.mem_cons_of_mem _ (List.mem_append_right _ hw)
  have k_clause : Cond.fieldLink RX12 20 "HalfBridgeModel" "clause" "[I" ∈ wsX12_isAny := by decide +kernel
  have k_clauses : Cond.fieldLink RX12 23 "HalfBridgeModel" "clauses" "[I" ∈ wsX12_isAny := by decide +kernel
  have hl := lv_entry ([.ref h, .int a1, .int a2]) (n := 5) (Nat.le_of_ble_eq_true rfl)
  rw [lg_entry_eq]
  generalize (lg_sl ([.ref h, .int a1, .int a2]) ++ List.replicate (5 - (lg_sl ([.ref h, .int a1, .int a2])).length) Slot.unset).toArray = ls at hl ⊢
  have hl : lv_has ls 5 [(0, .ref h), (1, .int a1), (2, .int a2)] := hl
  obtain ⟨K0, hK0, hf⟩ := top_e hf
  have B_51 : ∀   (st : MSt) (H : Heap) (locs : List Loc) (ls : Array Slot), MI D (MA h ad cy s0 s.heap.size) h ad cy s s.heap st H locs → lv_has ls 5 [] → (fm_isAny_j51 st).bind K0 = some out → W p l e (headSpec wsX12_isAny { frames := 3, cells := 0, slots := 0, locals := 76 }).room s m (([.ref h, .int a1, .int a2] : List Value).toArray) below meth c H locs 0 0 (MQ below (MQi D h ad cy s0 out s.heap.size) ([.ref h, .int a1, .int a2] : List Value).toArray s 0 0 (MA h ad cy s0 s.heap.size)) (F0 m 51 ls []) := by
    intro st H locs ls hI hl hf
    unfold fm_isAny_j51 at hf
    refine lv_iconst (v := 0) hx hb dX12_isAny_51 (by decide) ?_
    exact mret_z hx hb hr (by decide) hlocks hI (ret_e hK0 hf) dX12_isAny_52
  have L_2 : ∀ (v1 : Int32) (v2 : Int32) (n : Nat) (v3 : Int32) (st : MSt) (H : Heap) (locs : List Loc) (ls : Array Slot), MI D (MA h ad cy s0 s.heap.size) h ad cy s s.heap st H locs → lv_has ls 5 [(0, .ref h), (1, .int v1), (2, .int v2), (3, .int v3)] → (iter (fun x : (Int32 × MSt) => fm_isAny_s2 v1 v2 x.1 x.2) n (v3, st)).bind (fun x => ((Sum.elim (fun o : MSt × Int32 => (some o : Option (MSt × Int32))) (fun x : (Int32 × MSt) => fm_isAny_j51 x.2)) x).bind K0) = some out → W p l e (headSpec wsX12_isAny { frames := 3, cells := 0, slots := 0, locals := 76 }).room s m (([.ref h, .int a1, .int a2] : List Value).toArray) below meth c H locs 0 0 (MQ below (MQi D h ad cy s0 out s.heap.size) ([.ref h, .int a1, .int a2] : List Value).toArray s 0 0 (MA h ad cy s0 s.heap.size)) (F0 m 2 ls []) := by
    intro v1 v2 n
    induction n with
    | zero => intro v3 st H locs ls hI hl hf; exact (iter_0 hf).elim
    | succ n ih =>
      intro v3 st H locs ls hI hl hf
      obtain ⟨K1, hK1, hf⟩ := iter_e hf
      replace hf : (fm_isAny_s2 v1 v2 v3 st).bind K1 = some out := hf
      unfold fm_isAny_s2 at hf
      refine lv_iload_n hx hb dX12_isAny_2 rfl (lv_at hl 3 rfl) ?_
      refine lv_aload_n hx hb dX12_isAny_3 rfl (lv_at hl 0 rfl) ?_
      refine mg_clauses hx hb hts hin hown k_clauses hI dX12_isAny_4 ?_
      refine lv_iload_n hx hb dX12_isAny_7 rfl (lv_at hl 1 rfl) ?_
      obtain ⟨k1, hf⟩ := chk_b hf
      refine ml_clauses hx hb hI k1 dX12_isAny_8 ?_
      refine lv_icmp_ge (tgt := 51) hx hb dX12_isAny_9 (by decide) (fun c2 => ?_) (fun c2 => ?_)
      · replace hf := ifp c2 hf
        replace hf := exit_b hK1 hf
        exact B_51  st H locs ls hI (lv_sub hl [] rfl) hf
      · replace hf := ifn c2 hf
        refine lv_bipush (v := 60) hx hb dX12_isAny_12 (by decide) ?_
        refine lv_iload_n hx hb dX12_isAny_14 rfl (lv_at hl 1 rfl) ?_
        refine lv_imul hx hb dX12_isAny_15 ?_
        refine lv_iconst (v := 5) hx hb dX12_isAny_16 (by decide) ?_
        refine lv_iload_n hx hb dX12_isAny_17 rfl (lv_at hl 3 rfl) ?_
        refine lv_imul hx hb dX12_isAny_18 ?_
        refine lv_iadd hx hb dX12_isAny_19 ?_
        refine lv_istore (lv' := [(4, .int (((60 : Int32) * v1) + ((5 : Int32) * v3))), (0, .ref h), (1, .int v1), (2, .int v2), (3, .int v3)]) hx hb dX12_isAny_20 hl (by decide) rfl (fun ls hl => ?_)
        refine lv_aload_n hx hb dX12_isAny_22 rfl (lv_at hl 1 rfl) ?_
        refine mg_clause hx hb hts hin hown k_clause hI dX12_isAny_23 ?_
        refine lv_iload hx hb dX12_isAny_26 (lv_at hl 0 rfl) ?_
        obtain ⟨k3, hf⟩ := chk_b hf
        refine ml_clause hx hb hI k3 dX12_isAny_28 ?_
        refine lv_iload_n hx hb dX12_isAny_29 rfl (lv_at hl 3 rfl) ?_
        refine lv_icmp_ne (tgt := 45) hx hb dX12_isAny_30 (by decide) (fun c4 => ?_) (fun c4 => ?_)
        · replace hf := ifn c4 hf
          refine lv_iinc (v := (v3 + 1)) (lv' := [(3, .int (v3 + 1)), (4, .int (((60 : Int32) * v1) + ((5 : Int32) * v3))), (0, .ref h), (1, .int v1), (2, .int v2)]) hx hb dX12_isAny_45 hl (k := 4) rfl (ci_ _ (by decide)) (by decide) rfl (fun ls hl => ?_)
          refine lv_goto (tgt := 2) hx hb dX12_isAny_48 (by decide) ?_
          replace hf := cont_b hK1 hf
          exact ih (v3 + 1) st H locs ls hI (lv_sub hl [2, 3, 4, 0] rfl) hf
        · replace hf := ifp c4 hf
          refine lv_aload_n hx hb dX12_isAny_33 rfl (lv_at hl 1 rfl) ?_
          refine lv_iload_n hx hb dX12_isAny_34 rfl (lv_at hl 2 rfl) ?_
          refine lv_iload hx hb dX12_isAny_35 (lv_at hl 0 rfl) ?_
          obtain ⟨x5, hc6, hf⟩ := bnd_b hf
          refine mcall_i (As := [.int v1, .int (((60 : Int32) * v1) + ((5 : Int32) * v3))]) (rest := []) (n := 2) ⟨hx, hb, hml, hown, hts⟩ (cm_isSo l D h ad cy v1 (((60 : Int32) * v1) + ((5 : Int32) * v3)) st x5 hc6 _) (cwV 2 hts gX12_isAny_X12_isSo rfl rfl rfl ⟨rfl, nd_isSo⟩ ⟨Nat.le_of_ble_eq_true rfl, Nat.le_of_ble_eq_true rfl⟩) hI hA rfl hl.1 (Nat.le_of_ble_eq_true rfl) dX12_isAny_37 ⟨Nat.zero_le _, Nat.zero_le _⟩ (fun H locs hI => ?_)
          refine lv_if_eq (tgt := 45) hx hb dX12_isAny_40 (by decide) (fun c7 => ?_) (fun c7 => ?_)
          · replace hf := ifp c7 hf
            refine lv_iinc (v := (v3 + 1)) (lv' := [(3, .int (v3 + 1)), (4, .int (((60 : Int32) * v1) + ((5 : Int32) * v3))), (0, .ref h), (1, .int v1), (2, .int v2)]) hx hb dX12_isAny_45 hl (k := 4) rfl (ci_ _ (by decide)) (by decide) rfl (fun ls hl => ?_)
            refine lv_goto (tgt := 2) hx hb dX12_isAny_48 (by decide) ?_
            replace hf := cont_b hK1 hf
            exact ih (v3 + 1) x5.1 H locs ls hI (lv_sub hl [2, 3, 4, 0] rfl) hf
          · replace hf := ifn c7 hf
            refine lv_iconst (v := 1) hx hb dX12_isAny_43 (by decide) ?_
            replace hf := inl_b hK1 hf
            replace hf : Option.bind (some (x5.1, (1 : Int32))) K0 = some out := hf
            exact mret_z hx hb hr (by decide) hlocks hI (ret_e hK0 hf) dX12_isAny_44
  unfold fm_isAny at hf
  refine lv_iconst (v := 0) hx hb dX12_isAny_0 (by decide) ?_
  refine lv_istore_n (lv' := [(3, .int (0 : Int32)), (0, .ref h), (1, .int a1), (2, .int a2)]) hx hb dX12_isAny_1 rfl hl (by decide) rfl (fun ls hl => ?_)
  exact L_2 a1 a2 mFuel (0 : Int32) s0 s.heap [] ls hI (lv_sub hl [1, 2, 3, 0] rfl) (asc_b hf)

theorem nd_first : yX12_first.cls ≠ "java/lang/invoke/MethodHandle" ∧ yX12_first.cls ≠ "java/lang/invoke/VarHandle" ∧ (parseMethodDescriptor yX12_first.desc).map (fun d => d.parameters.length) = some 2 := by decide +kernel
set_option maxHeartbeats 4000000 in
set_option maxRecDepth 100000 in
theorem cm_first (l : Launch) (D : va_G) (h : Nat) (ad : Nat → Nat) (cy : Nat → ClassId) (a1 : Int32) (a2 : Int32) (s0 : MSt) (out : MSt × Int32) (hf : fm_first a1 a2 s0 = some out) (sz : Nat) : CMi l D h ad cy yX12_first wsX12_first { frames := 3, cells := 0, slots := 0, locals := 76 } [.int a1, .int a2] s0 out sz := by
  refine Met.ofW (cc := cX12_first) (maxL := 5) (ret := (some .int)) (by decide) rfl ?_
  intro p e s m args below meth c s₁ B hml hv
  obtain ⟨rfl, hsz, hP, hK, hD0⟩ := hv
  have hx := B.exec
  have hb := B.bytes
  have hr := B.returns
  have hts := atoms_spec (ws := wsX12_first) B.pre
  have hown : s.vm.findClass RX12 = some m.cls := findClass_of_methodNamed B.named
  have hlocks := B.notSynchronized
  subst hsz
  have hI : MI D (MA h ad cy s0 s.heap.size) h ad cy s s.heap s0 s.heap [] := ⟨hK, hP, hD0.self, va_S.rf⟩
  have hA : ∀ q : Nat, s.heap.size ≤ q → MA h ad cy s0 s.heap.size q := fun q hq => Or.inr hq
  have hin : ∀ w ∈ u_ws RX12 TX12 42, w ∈ wsX12_first := fun w hw => List.mem_cons_of_mem _ (List.mem_append_right _ hw)
  have k_clause : Cond.fieldLink RX12 20 "HalfBridgeModel" "clause" "[I" ∈ wsX12_first := by decide +kernel
  have k_clauses : Cond.fieldLink RX12 23 "HalfBridgeModel" "clauses" "[I" ∈ wsX12_first := by decide +kernel
  have hl := lv_entry ([.ref h, .int a1, .int a2]) (n := 5) (Nat.le_of_ble_eq_true rfl)
  rw [lg_entry_eq]
  generalize (lg_sl ([.ref h, .int a1, .int a2]) ++ List.replicate (5 - (lg_sl ([.ref h, .int a1, .int a2])).length) Slot.unset).toArray = ls at hl ⊢
  have hl : lv_has ls 5 [(0, .ref h), (1, .int a1), (2, .int a2)] := hl
  obtain ⟨K0, hK0, hf⟩ := top_e hf
  have B_89 : ∀   (st : MSt) (H : Heap) (locs : List Loc) (ls : Array Slot), MI D (MA h ad cy s0 s.heap.size) h ad cy s s.heap st H locs → lv_has ls 5 [] → (fm_first_j89 st).bind K0 = some out → W p l e (headSpec wsX12_first { frames := 3, cells := 0, slots := 0, locals := 76 }).room s m (([.ref h, .int a1, .int a2] : List Value).toArray) below meth c H locs 0 0 (MQ below (MQi D h ad cy s0 out s.heap.size) ([.ref h, .int a1, .int a2] : List Value).toArray s 0 0 (MA h ad cy s0 s.heap.size)) (F0 m 89 ls []) := by
    intro st H locs ls hI hl hf
    unfold fm_first_j89 at hf
    refine lv_iconst (v := 0) hx hb dX12_first_89 (by decide) ?_
    exact mret_i hx hb hr hlocks hI (ret_e hK0 hf) dX12_first_90
  have L_2 : ∀ (v1 : Int32) (v2 : Int32) (n : Nat) (v3 : Int32) (st : MSt) (H : Heap) (locs : List Loc) (ls : Array Slot), MI D (MA h ad cy s0 s.heap.size) h ad cy s s.heap st H locs → lv_has ls 5 [(0, .ref h), (1, .int v1), (2, .int v2), (3, .int v3)] → (iter (fun x : (Int32 × MSt) => fm_first_s2 v1 v2 x.1 x.2) n (v3, st)).bind (fun x => ((Sum.elim (fun o : MSt × Int32 => (some o : Option (MSt × Int32))) (fun x : (Int32 × MSt) => fm_first_j89 x.2)) x).bind K0) = some out → W p l e (headSpec wsX12_first { frames := 3, cells := 0, slots := 0, locals := 76 }).room s m (([.ref h, .int a1, .int a2] : List Value).toArray) below meth c H locs 0 0 (MQ below (MQi D h ad cy s0 out s.heap.size) ([.ref h, .int a1, .int a2] : List Value).toArray s 0 0 (MA h ad cy s0 s.heap.size)) (F0 m 2 ls []) := by
    intro v1 v2 n
    induction n with
    | zero => intro v3 st H locs ls hI hl hf; exact (iter_0 hf).elim
    | succ n ih =>
      intro v3 st H locs ls hI hl hf
      obtain ⟨K1, hK1, hf⟩ := iter_e hf
      replace hf : (fm_first_s2 v1 v2 v3 st).bind K1 = some out := hf
      have B_2_55 : ∀ (v4 : Int32)  (st : MSt) (H : Heap) (locs : List Loc) (ls : Array Slot), MI D (MA h ad cy s0 s.heap.size) h ad cy s s.heap st H locs → lv_has ls 5 [(0, .ref h), (1, .int v1), (4, .int v4)] → (fm_first_j55 v1 v4 st).bind K1 = some out → W p l e (headSpec wsX12_first { frames := 3, cells := 0, slots := 0, locals := 76 }).room s m (([.ref h, .int a1, .int a2] : List Value).toArray) below meth c H locs 0 0 (MQ below (MQi D h ad cy s0 out s.heap.size) ([.ref h, .int a1, .int a2] : List Value).toArray s 0 0 (MA h ad cy s0 s.heap.size)) (F0 m 55 ls []) := by
        intro v4 st H locs ls hI hl hf
        unfold fm_first_j55 at hf
        refine lv_aload_n hx hb dX12_first_55 rfl (lv_at hl 0 rfl) ?_
        refine lv_aload_n hx hb dX12_first_56 rfl (lv_at hl 0 rfl) ?_
        refine lv_iload_n hx hb dX12_first_57 rfl (lv_at hl 1 rfl) ?_
        refine lv_aload_n hx hb dX12_first_58 rfl (lv_at hl 0 rfl) ?_
        refine mg_clause hx hb hts hin hown k_clause hI dX12_first_59 ?_
        refine lv_iload hx hb dX12_first_62 (lv_at hl 2 rfl) ?_
        refine lv_iconst (v := 1) hx hb dX12_first_64 (by decide) ?_
        refine lv_iadd hx hb dX12_first_65 ?_
        obtain ⟨k7, hf⟩ := chk_b hf
        refine ml_clause hx hb hI k7 dX12_first_66 ?_
        refine lv_aload_n hx hb dX12_first_67 rfl (lv_at hl 0 rfl) ?_
        refine mg_clause hx hb hts hin hown k_clause hI dX12_first_68 ?_
        refine lv_iload hx hb dX12_first_71 (lv_at hl 2 rfl) ?_
        refine lv_iconst (v := 2) hx hb dX12_first_73 (by decide) ?_
        refine lv_iadd hx hb dX12_first_74 ?_
        obtain ⟨k8, hf⟩ := chk_b hf
        refine ml_clause hx hb hI k8 dX12_first_75 ?_
        obtain ⟨x9, hc10, hf⟩ := bnd_b hf
        refine mcall_l (As := [.int v1, .int (st.2.1 5 (v4 + (1 : Int32)).toNatClampNeg), .int (st.2.1 5 (v4 + (2 : Int32)).toNatClampNeg)]) (rest := [.ref h]) (n := 3) ⟨hx, hb, hml, hown, hts⟩ (cm_reckons l D h ad cy v1 (st.2.1 5 (v4 + (1 : Int32)).toNatClampNeg) (st.2.1 5 (v4 + (2 : Int32)).toNatClampNeg) st x9 hc10 _) (cwV 3 hts gX12_first_X12_reckons rfl rfl rfl ⟨rfl, nd_reckons⟩ ⟨Nat.le_of_ble_eq_true rfl, Nat.le_of_ble_eq_true rfl⟩) hI hA rfl hl.1 (Nat.le_of_ble_eq_true rfl) dX12_first_76 ⟨Nat.zero_le _, Nat.zero_le _⟩ (fun H locs hI => ?_)
        obtain ⟨x11, hc12, hf⟩ := bnd_b hf
        refine mcall_i (As := [.long x9.2]) (rest := []) (n := 1) ⟨hx, hb, hml, hown, hts⟩ (cm_held l D h ad cy x9.2 x9.1 x11 hc12 _) (cwV 1 hts gX12_first_X12_held rfl rfl rfl ⟨rfl, nd_held⟩ ⟨Nat.le_of_ble_eq_true rfl, Nat.le_of_ble_eq_true rfl⟩) hI hA rfl hl.1 (Nat.le_of_ble_eq_true rfl) dX12_first_79 ⟨Nat.zero_le _, Nat.zero_le _⟩ (fun H locs hI => ?_)
        replace hf := inl_b hK1 hf
        replace hf : Option.bind (some (x11.1, x11.2)) K0 = some out := hf
        exact mret_i hx hb hr hlocks hI (ret_e hK0 hf) dX12_first_82
      unfold fm_first_s2 at hf
      refine lv_iload_n hx hb dX12_first_2 rfl (lv_at hl 3 rfl) ?_
      refine lv_aload_n hx hb dX12_first_3 rfl (lv_at hl 0 rfl) ?_
      refine mg_clauses hx hb hts hin hown k_clauses hI dX12_first_4 ?_
      refine lv_iload_n hx hb dX12_first_7 rfl (lv_at hl 1 rfl) ?_
      obtain ⟨k1, hf⟩ := chk_b hf
      refine ml_clauses hx hb hI k1 dX12_first_8 ?_
      refine lv_icmp_ge (tgt := 89) hx hb dX12_first_9 (by decide) (fun c2 => ?_) (fun c2 => ?_)
      · replace hf := ifp c2 hf
        replace hf := exit_b hK1 hf
        exact B_89  st H locs ls hI (lv_sub hl [] rfl) hf
      · replace hf := ifn c2 hf
        refine lv_bipush (v := 60) hx hb dX12_first_12 (by decide) ?_
        refine lv_iload_n hx hb dX12_first_14 rfl (lv_at hl 1 rfl) ?_
        refine lv_imul hx hb dX12_first_15 ?_
        refine lv_iconst (v := 5) hx hb dX12_first_16 (by decide) ?_
        refine lv_iload_n hx hb dX12_first_17 rfl (lv_at hl 3 rfl) ?_
        refine lv_imul hx hb dX12_first_18 ?_
        refine lv_iadd hx hb dX12_first_19 ?_
        refine lv_istore (lv' := [(4, .int (((60 : Int32) * v1) + ((5 : Int32) * v3))), (0, .ref h), (1, .int v1), (2, .int v2), (3, .int v3)]) hx hb dX12_first_20 hl (by decide) rfl (fun ls hl => ?_)
        refine lv_aload_n hx hb dX12_first_22 rfl (lv_at hl 1 rfl) ?_
        refine mg_clause hx hb hts hin hown k_clause hI dX12_first_23 ?_
        refine lv_iload hx hb dX12_first_26 (lv_at hl 0 rfl) ?_
        obtain ⟨k3, hf⟩ := chk_b hf
        refine ml_clause hx hb hI k3 dX12_first_28 ?_
        refine lv_iload_n hx hb dX12_first_29 rfl (lv_at hl 3 rfl) ?_
        refine lv_icmp_ne (tgt := 83) hx hb dX12_first_30 (by decide) (fun c4 => ?_) (fun c4 => ?_)
        · replace hf := ifn c4 hf
          refine lv_iinc (v := (v3 + 1)) (lv' := [(3, .int (v3 + 1)), (4, .int (((60 : Int32) * v1) + ((5 : Int32) * v3))), (0, .ref h), (1, .int v1), (2, .int v2)]) hx hb dX12_first_83 hl (k := 4) rfl (ci_ _ (by decide)) (by decide) rfl (fun ls hl => ?_)
          refine lv_goto (tgt := 2) hx hb dX12_first_86 (by decide) ?_
          replace hf := cont_b hK1 hf
          exact ih (v3 + 1) st H locs ls hI (lv_sub hl [2, 3, 4, 0] rfl) hf
        · replace hf := ifp c4 hf
          refine lv_aload_n hx hb dX12_first_33 rfl (lv_at hl 1 rfl) ?_
          refine mg_clause hx hb hts hin hown k_clause hI dX12_first_34 ?_
          refine lv_iload hx hb dX12_first_37 (lv_at hl 0 rfl) ?_
          refine lv_iconst (v := 3) hx hb dX12_first_39 (by decide) ?_
          refine lv_iadd hx hb dX12_first_40 ?_
          obtain ⟨k5, hf⟩ := chk_b hf
          refine ml_clause hx hb hI k5 dX12_first_41 ?_
          refine lv_if_lt (tgt := 55) hx hb dX12_first_42 (by decide) (fun c6 => ?_) (fun c6 => ?_)
          · replace hf := ifp c6 hf
            exact B_2_55 (((60 : Int32) * v1) + ((5 : Int32) * v3)) st H locs ls hI (lv_sub hl [1, 2, 0] rfl) hf
          · replace hf := ifn c6 hf
            refine lv_aload_n hx hb dX12_first_45 rfl (lv_at hl 1 rfl) ?_
            refine lv_iload_n hx hb dX12_first_46 rfl (lv_at hl 2 rfl) ?_
            refine lv_iload hx hb dX12_first_47 (lv_at hl 0 rfl) ?_
            obtain ⟨x13, hc14, hf⟩ := bnd_b hf
            refine mcall_i (As := [.int v1, .int (((60 : Int32) * v1) + ((5 : Int32) * v3))]) (rest := []) (n := 2) ⟨hx, hb, hml, hown, hts⟩ (cm_isSo l D h ad cy v1 (((60 : Int32) * v1) + ((5 : Int32) * v3)) st x13 hc14 _) (cwV 2 hts gX12_first_X12_isSo rfl rfl rfl ⟨rfl, nd_isSo⟩ ⟨Nat.le_of_ble_eq_true rfl, Nat.le_of_ble_eq_true rfl⟩) hI hA rfl hl.1 (Nat.le_of_ble_eq_true rfl) dX12_first_49 ⟨Nat.zero_le _, Nat.zero_le _⟩ (fun H locs hI => ?_)
            refine lv_if_eq (tgt := 83) hx hb dX12_first_52 (by decide) (fun c15 => ?_) (fun c15 => ?_)
            · replace hf := ifp c15 hf
              refine lv_iinc (v := (v3 + 1)) (lv' := [(3, .int (v3 + 1)), (4, .int (((60 : Int32) * v1) + ((5 : Int32) * v3))), (0, .ref h), (1, .int v1), (2, .int v2)]) hx hb dX12_first_83 hl (k := 4) rfl (ci_ _ (by decide)) (by decide) rfl (fun ls hl => ?_)
              refine lv_goto (tgt := 2) hx hb dX12_first_86 (by decide) ?_
              replace hf := cont_b hK1 hf
              exact ih (v3 + 1) x13.1 H locs ls hI (lv_sub hl [2, 3, 4, 0] rfl) hf
            · replace hf := ifn c15 hf
              exact B_2_55 (((60 : Int32) * v1) + ((5 : Int32) * v3)) x13.1 H locs ls hI (lv_sub hl [1, 2, 0] rfl) hf
  unfold fm_first at hf
  refine lv_iconst (v := 0) hx hb dX12_first_0 (by decide) ?_
  refine lv_istore_n (lv' := [(3, .int (0 : Int32)), (0, .ref h), (1, .int a1), (2, .int a2)]) hx hb dX12_first_1 rfl hl (by decide) rfl (fun ls hl => ?_)
  exact L_2 a1 a2 mFuel (0 : Int32) s0 s.heap [] ls hI (lv_sub hl [1, 2, 3, 0] rfl) (asc_b hf)
