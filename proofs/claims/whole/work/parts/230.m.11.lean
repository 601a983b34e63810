theorem nd_yardOf : yX12_yardOf.cls ≠ "java/lang/invoke/MethodHandle" ∧ yX12_yardOf.cls ≠ "java/lang/invoke/VarHandle" ∧ (parseMethodDescriptor yX12_yardOf.desc).map (fun d => d.parameters.length) = some 3 := by decide +kernel
set_option maxHeartbeats 4000000 in
set_option maxRecDepth 100000 in
theorem cm_yardOf (l : Launch) (D : va_G) (h : Nat) (ad : Nat → Nat) (cy : Nat → ClassId) (a1 : Int32) (a2 : Int32) (a3 : Int32) (s0 : MSt) (out : MSt × Int32) (hf : fm_yardOf a1 a2 a3 s0 = some out) (sz : Nat) : CMi l D h ad cy yX12_yardOf wsX12_yardOf { frames := 0, cells := 0, slots := 0, locals := 0 } [.int a1, .int a2, .int a3] s0 out sz := by
  refine Met.ofW (cc := cX12_yardOf) (maxL := 4) (ret := (some .int)) (by decide) rfl ?_
  intro p e s m args below meth c s₁ B hml hv
  obtain ⟨rfl, hsz, hP, hK, hD0⟩ := hv
  have hx := B.exec
  have hb := B.bytes
  have hr := B.returns
  have hts := atoms_spec (ws := wsX12_yardOf) B.pre
  have hown : s.vm.findClass RX12 = some m.cls := findClass_of_methodNamed B.named
  have hlocks := B.notSynchronized
  subst hsz
  have hI : MI D (MA h ad cy s0 s.heap.size) h ad cy s s.heap s0 s.heap [] := ⟨hK, hP, hD0.self, va_S.rf⟩
  have hA : ∀ q : Nat, s.heap.size ≤ q → MA h ad cy s0 s.heap.size q := fun q hq => Or.inr hq
  have hin : ∀ w ∈ u_ws RX12 TX12 42, w ∈ wsX12_yardOf := fun w hw => List.mem_cons_of_mem _ (List.mem_append_right _ hw)
  have k_said : Cond.fieldLink RX12 45 "HalfBridgeModel" "said" "[I" ∈ wsX12_yardOf := by decide +kernel
  have hl := lv_entry ([.ref h, .int a1, .int a2, .int a3]) (n := 4) (Nat.le_of_ble_eq_true rfl)
  rw [lg_entry_eq]
  generalize (lg_sl ([.ref h, .int a1, .int a2, .int a3]) ++ List.replicate (4 - (lg_sl ([.ref h, .int a1, .int a2, .int a3])).length) Slot.unset).toArray = ls at hl ⊢
  have hl : lv_has ls 4 [(0, .ref h), (1, .int a1), (2, .int a2), (3, .int a3)] := hl
  obtain ⟨K0, hK0, hf⟩ := top_e hf
  have B_36_0 : ∀ (v1 : Int32) (v2 : Int32) (t0 : Int32) (st : MSt) (H : Heap) (locs : List Loc) (ls : Array Slot), MI D (MA h ad cy s0 s.heap.size) h ad cy s s.heap st H locs → lv_has ls 4 [(1, .int v1), (2, .int v2)] → (fm_yardOf_j36 v1 v2 t0 st).bind K0 = some out → W p l e (headSpec wsX12_yardOf { frames := 0, cells := 0, slots := 0, locals := 0 }).room s m (([.ref h, .int a1, .int a2, .int a3] : List Value).toArray) below meth c H locs 0 0 (MQ below (MQi D h ad cy s0 out s.heap.size) ([.ref h, .int a1, .int a2, .int a3] : List Value).toArray s 0 0 (MA h ad cy s0 s.heap.size)) (F0 m 36 ls [.int t0, .ref (ad 26)]) := by
    intro v1 v2 t0 st H locs ls hI hl hf
    unfold fm_yardOf_j36 at hf
    refine lv_bipush (v := 40) hx hb dX12_yardOf_36 (by decide) ?_
    refine lv_iload_n hx hb dX12_yardOf_38 rfl (lv_at hl 0 rfl) ?_
    refine lv_imul hx hb dX12_yardOf_39 ?_
    refine lv_iadd hx hb dX12_yardOf_40 ?_
    refine lv_iload_n hx hb dX12_yardOf_41 rfl (lv_at hl 1 rfl) ?_
    refine lv_iadd hx hb dX12_yardOf_42 ?_
    obtain ⟨k3, hf⟩ := chk_b hf
    refine ml_said hx hb hI k3 dX12_yardOf_43 ?_
    exact mret_i hx hb hr hlocks hI (ret_e hK0 hf) dX12_yardOf_44
  unfold fm_yardOf at hf
  refine lv_iload_n hx hb dX12_yardOf_0 rfl (lv_at hl 2 rfl) ?_
  refine lv_if_ge (tgt := 20) hx hb dX12_yardOf_1 (by decide) (fun c1 => ?_) (fun c1 => ?_)
  · replace hf := ifp c1 hf
    refine lv_aload_n hx hb dX12_yardOf_20 rfl (lv_at hl 0 rfl) ?_
    refine mg_said hx hb hts hin hown k_said hI dX12_yardOf_21 ?_
    refine lv_iload_n hx hb dX12_yardOf_24 rfl (lv_at hl 3 rfl) ?_
    refine lv_if_ne (tgt := 33) hx hb dX12_yardOf_25 (by decide) (fun c2 => ?_) (fun c2 => ?_)
    · replace hf := ifn c2 hf
      refine lv_sipush (v := 206) hx hb dX12_yardOf_33 (by decide) ?_
      exact B_36_0 a1 a2 (206 : Int32) s0 s.heap [] ls hI (lv_sub hl [1, 2] rfl) hf
    · replace hf := ifp c2 hf
      refine lv_bipush (v := 126) hx hb dX12_yardOf_28 (by decide) ?_
      refine lv_goto (tgt := 36) hx hb dX12_yardOf_30 (by decide) ?_
      exact B_36_0 a1 a2 (126 : Int32) s0 s.heap [] ls hI (lv_sub hl [1, 2] rfl) hf
  · replace hf := ifn c1 hf
    refine lv_aload_n hx hb dX12_yardOf_4 rfl (lv_at hl 0 rfl) ?_
    refine mg_said hx hb hts hin hown k_said hI dX12_yardOf_5 ?_
    refine lv_bipush (v := 8) hx hb dX12_yardOf_8 (by decide) ?_
    refine lv_iconst (v := 2) hx hb dX12_yardOf_10 (by decide) ?_
    refine lv_iload_n hx hb dX12_yardOf_11 rfl (lv_at hl 1 rfl) ?_
    refine lv_imul hx hb dX12_yardOf_12 ?_
    refine lv_iadd hx hb dX12_yardOf_13 ?_
    refine lv_iload_n hx hb dX12_yardOf_14 rfl (lv_at hl 3 rfl) ?_
    refine lv_iadd hx hb dX12_yardOf_15 ?_
    obtain ⟨k4, hf⟩ := chk_b hf
    refine ml_said hx hb hI k4 dX12_yardOf_16 ?_
    refine lv_goto (tgt := 44) hx hb dX12_yardOf_17 (by decide) ?_
    exact mret_i hx hb hr hlocks hI (ret_e hK0 hf) dX12_yardOf_44

theorem nd_tipOf : yX12_tipOf.cls ≠ "java/lang/invoke/MethodHandle" ∧ yX12_tipOf.cls ≠ "java/lang/invoke/VarHandle" ∧ (parseMethodDescriptor yX12_tipOf.desc).map (fun d => d.parameters.length) = some 2 := by decide +kernel
set_option maxHeartbeats 4000000 in
set_option maxRecDepth 100000 in
theorem cm_tipOf (l : Launch) (D : va_G) (h : Nat) (ad : Nat → Nat) (cy : Nat → ClassId) (a1 : Int32) (a2 : Int32) (s0 : MSt) (out : MSt × Int32) (hf : fm_tipOf a1 a2 s0 = some out) (sz : Nat) : CMi l D h ad cy yX12_tipOf wsX12_tipOf { frames := 1, cells := 0, slots := 0, locals := 23 } [.int a1, .int a2] s0 out sz := by
  refine Met.ofW (cc := cX12_tipOf) (maxL := 3) (ret := (some .int)) (by decide) rfl ?_
  intro p e s m args below meth c s₁ B hml hv
  obtain ⟨rfl, hsz, hP, hK, hD0⟩ := hv
  have hx := B.exec
  have hb := B.bytes
  have hr := B.returns
  have hts := atoms_spec (ws := wsX12_tipOf) B.pre
  have hown : s.vm.findClass RX12 = some m.cls := findClass_of_methodNamed B.named
  have hlocks := B.notSynchronized
  subst hsz
  have hI : MI D (MA h ad cy s0 s.heap.size) h ad cy s s.heap s0 s.heap [] := ⟨hK, hP, hD0.self, va_S.rf⟩
  have hA : ∀ q : Nat, s.heap.size ≤ q → MA h ad cy s0 s.heap.size q := fun q hq => Or.inr hq
  have hin : ∀ w ∈ u_ws RX12 TX12 42, w ∈ wsX12_tipOf := fun w hw => List.mem_cons_of_mem _ (List.mem_append_right _ hw)
  have k_said : Cond.fieldLink RX12 45 "HalfBridgeModel" "said" "[I" ∈ wsX12_tipOf := by decide +kernel
  have hl := lv_entry ([.ref h, .int a1, .int a2]) (n := 3) (Nat.le_of_ble_eq_true rfl)
  rw [lg_entry_eq]
  generalize (lg_sl ([.ref h, .int a1, .int a2]) ++ List.replicate (3 - (lg_sl ([.ref h, .int a1, .int a2])).length) Slot.unset).toArray = ls at hl ⊢
  have hl : lv_has ls 3 [(0, .ref h), (1, .int a1), (2, .int a2)] := hl
  obtain ⟨K0, hK0, hf⟩ := top_e hf
  unfold fm_tipOf at hf
  refine lv_aload_n hx hb dX12_tipOf_0 rfl (lv_at hl 0 rfl) ?_
  refine lv_iload_n hx hb dX12_tipOf_1 rfl (lv_at hl 1 rfl) ?_
  refine lv_aload_n hx hb dX12_tipOf_2 rfl (lv_at hl 0 rfl) ?_
  refine mg_said hx hb hts hin hown k_said hI dX12_tipOf_3 ?_
  refine lv_bipush (v := 6) hx hb dX12_tipOf_6 (by decide) ?_
  refine lv_iload_n hx hb dX12_tipOf_8 rfl (lv_at hl 1 rfl) ?_
  refine lv_iadd hx hb dX12_tipOf_9 ?_
  obtain ⟨k1, hf⟩ := chk_b hf
  refine ml_said hx hb hI k1 dX12_tipOf_10 ?_
  refine lv_iconst (v := 1) hx hb dX12_tipOf_11 (by decide) ?_
  refine lv_isub hx hb dX12_tipOf_12 ?_
  refine lv_iload_n hx hb dX12_tipOf_13 rfl (lv_at hl 2 rfl) ?_
  obtain ⟨x2, hc3, hf⟩ := bnd_b hf
  refine mcall_i (As := [.int a1, .int ((s0.2.1 26 ((6 : Int32) + a1).toNatClampNeg) - (1 : Int32)), .int a2]) (rest := []) (n := 3) ⟨hx, hb, hml, hown, hts⟩ (cm_yardOf l D h ad cy a1 ((s0.2.1 26 ((6 : Int32) + a1).toNatClampNeg) - (1 : Int32)) a2 s0 x2 hc3 _) (cwV 3 hts gX12_tipOf_X12_yardOf rfl rfl rfl ⟨rfl, nd_yardOf⟩ ⟨Nat.le_of_ble_eq_true rfl, Nat.le_of_ble_eq_true rfl⟩) hI hA rfl hl.1 (Nat.le_of_ble_eq_true rfl) dX12_tipOf_14 ⟨Nat.zero_le _, Nat.zero_le _⟩ (fun H locs hI => ?_)
  exact mret_i hx hb hr hlocks hI (ret_e hK0 hf) dX12_tipOf_17

theorem nd_moreOf : yX12_moreOf.cls ≠ "java/lang/invoke/MethodHandle" ∧ yX12_moreOf.cls ≠ "java/lang/invoke/VarHandle" ∧ (parseMethodDescriptor yX12_moreOf.desc).map (fun d => d.parameters.length) = some 3 := by decide +kernel
set_option maxHeartbeats 4000000 in
set_option maxRecDepth 100000 in
theorem cm_moreOf (l : Launch) (D : va_G) (h : Nat) (ad : Nat → Nat) (cy : Nat → ClassId) (a1 : Int32) (a2 : Int32) (a3 : Int32) (s0 : MSt) (out : MSt × Int32) (hf : fm_moreOf a1 a2 a3 s0 = some out) (sz : Nat) : CMi l D h ad cy yX12_moreOf wsX12_moreOf { frames := 1, cells := 0, slots := 0, locals := 23 } [.int a1, .int a2, .int a3] s0 out sz := by
  refine Met.ofW (cc := cX12_moreOf) (maxL := 4) (ret := (some .int)) (by decide) rfl ?_
  intro p e s m args below meth c s₁ B hml hv
  obtain ⟨rfl, hsz, hP, hK, hD0⟩ := hv
  have hx := B.exec
  have hb := B.bytes
  have hr := B.returns
  have hts := atoms_spec (ws := wsX12_moreOf) B.pre
  have hown : s.vm.findClass RX12 = some m.cls := findClass_of_methodNamed B.named
  have hlocks := B.notSynchronized
  subst hsz
  have hI : MI D (MA h ad cy s0 s.heap.size) h ad cy s s.heap s0 s.heap [] := ⟨hK, hP, hD0.self, va_S.rf⟩
  have hA : ∀ q : Nat, s.heap.size ≤ q → MA h ad cy s0 s.heap.size q := fun q hq => Or.inr hq
  have hl := lv_entry ([.ref h, .int a1, .int a2, .int a3]) (n := 4) (Nat.le_of_ble_eq_true rfl)
  rw [lg_entry_eq]
  generalize (lg_sl ([.ref h, .int a1, .int a2, .int a3]) ++ List.replicate (4 - (lg_sl ([.ref h, .int a1, .int a2, .int a3])).length) Slot.unset).toArray = ls at hl ⊢
  have hl : lv_has ls 4 [(0, .ref h), (1, .int a1), (2, .int a2), (3, .int a3)] := hl
  obtain ⟨K0, hK0, hf⟩ := top_e hf
  unfold fm_moreOf at hf
  refine lv_aload_n hx hb dX12_moreOf_0 rfl (lv_at hl 0 rfl) ?_
  refine lv_iload_n hx hb dX12_moreOf_1 rfl (lv_at hl 1 rfl) ?_
  refine lv_iload_n hx hb dX12_moreOf_2 rfl (lv_at hl 2 rfl) ?_
  refine lv_iload_n hx hb dX12_moreOf_3 rfl (lv_at hl 3 rfl) ?_
  obtain ⟨x1, hc2, hf⟩ := bnd_b hf
  refine mcall_i (As := [.int a1, .int a2, .int a3]) (rest := []) (n := 3) ⟨hx, hb, hml, hown, hts⟩ (cm_yardOf l D h ad cy a1 a2 a3 s0 x1 hc2 _) (cwV 3 hts gX12_moreOf_X12_yardOf rfl rfl rfl ⟨rfl, nd_yardOf⟩ ⟨Nat.le_of_ble_eq_true rfl, Nat.le_of_ble_eq_true rfl⟩) hI hA rfl hl.1 (Nat.le_of_ble_eq_true rfl) dX12_moreOf_4 ⟨Nat.zero_le _, Nat.zero_le _⟩ (fun H locs hI => ?_)
  refine lv_aload_n hx hb dX12_moreOf_7 rfl (lv_at hl 0 rfl) ?_
  refine lv_iload_n hx hb dX12_moreOf_8 rfl (lv_at hl 1 rfl) ?_
  refine lv_iload_n hx hb dX12_moreOf_9 rfl (lv_at hl 2 rfl) ?_
  refine lv_iconst (v := 1) hx hb dX12_moreOf_10 (by decide) ?_
  refine lv_isub hx hb dX12_moreOf_11 ?_
  refine lv_iload_n hx hb dX12_moreOf_12 rfl (lv_at hl 3 rfl) ?_
  obtain ⟨x3, hc4, hf⟩ := bnd_b hf
  refine mcall_i (As := [.int a1, .int (a2 - (1 : Int32)), .int a3]) (rest := [.int x1.2]) (n := 3) ⟨hx, hb, hml, hown, hts⟩ (cm_yardOf l D h ad cy a1 (a2 - (1 : Int32)) a3 x1.1 x3 hc4 _) (cwV 3 hts gX12_moreOf_X12_yardOf rfl rfl rfl ⟨rfl, nd_yardOf⟩ ⟨Nat.le_of_ble_eq_true rfl, Nat.le_of_ble_eq_true rfl⟩) hI hA rfl hl.1 (Nat.le_of_ble_eq_true rfl) dX12_moreOf_13 ⟨Nat.zero_le _, Nat.zero_le _⟩ (fun H locs hI => ?_)
  refine lv_isub hx hb dX12_moreOf_16 ?_
  exact mret_i hx hb hr hlocks hI (ret_e hK0 hf) dX12_moreOf_17

theorem nd_crooked : yX12_crooked.cls ≠ "java/lang/invoke/MethodHandle" ∧ yX12_crooked.cls ≠ "java/lang/invoke/VarHandle" ∧ (parseMethodDescriptor yX12_crooked.desc).map (fun d => d.parameters.length) = some 1 := by decide +kernel
set_option maxHeartbeats 4000000 in
set_option maxRecDepth 100000 in
theorem cm_crooked (l : Launch) (D : va_G) (h : Nat) (ad : Nat → Nat) (cy : Nat → ClassId) (a1 : Int32) (s0 : MSt) (out : MSt × Int32) (hf : fm_crooked a1 s0 = some out) (sz : Nat) : CMi l D h ad cy yX12_crooked wsX12_crooked { frames := 2, cells := 0, slots := 0, locals := 46 } [.int a1] s0 out sz := by
  refine Met.ofW (cc := cX12_crooked) (maxL := 4) (ret := (some .int)) (by decide) rfl ?_
  intro p e s m args below meth c s₁ B hml hv
  obtain ⟨rfl, hsz, hP, hK, hD0⟩ := hv
  have hx := B.exec
  have hb := B.bytes
  have hr := B.returns
  have hts := atoms_spec (ws := wsX12_crooked) B.pre
  have hown : s.vm.findClass RX12 = some m.cls := findClass_of_methodNamed B.named
  have hlocks := B.notSynchronized
  subst hsz
  have hI : MI D (MA h ad cy s0 s.heap.size) h ad cy s s.heap s0 s.heap [] := ⟨hK, hP, hD0.self, va_S.rf⟩
  have hA : ∀ q : Nat, s.heap.size ≤ q → MA h ad cy s0 s.heap.size q := fun q hq => Or.inr hq
  have hin : ∀ w ∈ u_ws RX12 TX12 42, w ∈ wsX12_crooked := fun w hw => List.mem_cons_of_mem _ (List.mem_append_right _ hw)
  have k_said : Cond.fieldLink RX12 45 "HalfBridgeModel" "said" "[I" ∈ wsX12_crooked := by decide +kernel
  have hl := lv_entry ([.ref h, .int a1]) (n := 4) (Nat.le_of_ble_eq_true rfl)
  rw [lg_entry_eq]
  generalize (lg_sl ([.ref h, .int a1]) ++ List.replicate (4 - (lg_sl ([.ref h, .int a1])).length) Slot.unset).toArray = ls at hl ⊢
  have hl : lv_has ls 4 [(0, .ref h), (1, .int a1)] := hl
  obtain ⟨K0, hK0, hf⟩ := top_e hf
  have B_47 : ∀ (v2 : Int32)  (st : MSt) (H : Heap) (locs : List Loc) (ls : Array Slot), MI D (MA h ad cy s0 s.heap.size) h ad cy s s.heap st H locs → lv_has ls 4 [(2, .int v2)] → (fm_crooked_j47 v2 st).bind K0 = some out → W p l e (headSpec wsX12_crooked { frames := 2, cells := 0, slots := 0, locals := 46 }).room s m (([.ref h, .int a1] : List Value).toArray) below meth c H locs 0 0 (MQ below (MQi D h ad cy s0 out s.heap.size) ([.ref h, .int a1] : List Value).toArray s 0 0 (MA h ad cy s0 s.heap.size)) (F0 m 47 ls []) := by
    intro v2 st H locs ls hI hl hf
    unfold fm_crooked_j47 at hf
    refine lv_iload_n hx hb dX12_crooked_47 rfl (lv_at hl 0 rfl) ?_
    exact mret_i hx hb hr hlocks hI (ret_e hK0 hf) dX12_crooked_48
  have L_4 : ∀ (v1 : Int32) (n : Nat) (v2 : Int32) (v3 : Int32) (st : MSt) (H : Heap) (locs : List Loc) (ls : Array Slot), MI D (MA h ad cy s0 s.heap.size) h ad cy s s.heap st H locs → lv_has ls 4 [(0, .ref h), (1, .int v1), (2, .int v2), (3, .int v3)] → (iter (fun x : (Int32 × Int32 × MSt) => fm_crooked_s4 v1 x.1 x.2.1 x.2.2) n (v2, v3, st)).bind (fun x => ((Sum.elim (fun o : MSt × Int32 => (some o : Option (MSt × Int32))) (fun x : (Int32 × Int32 × MSt) => fm_crooked_j47 x.1 x.2.2)) x).bind K0) = some out → W p l e (headSpec wsX12_crooked { frames := 2, cells := 0, slots := 0, locals := 46 }).room s m (([.ref h, .int a1] : List Value).toArray) below meth c H locs 0 0 (MQ below (MQi D h ad cy s0 out s.heap.size) ([.ref h, .int a1] : List Value).toArray s 0 0 (MA h ad cy s0 s.heap.size)) (F0 m 4 ls []) := by
    intro v1 n
    induction n with
    | zero => intro v2 v3 st H locs ls hI hl hf; exact (iter_0 hf).elim
    | succ n ih =>
      intro v2 v3 st H locs ls hI hl hf
      obtain ⟨K1, hK1, hf⟩ := iter_e hf
      replace hf : (fm_crooked_s4 v1 v2 v3 st).bind K1 = some out := hf
      unfold fm_crooked_s4 at hf
      refine lv_iload_n hx hb dX12_crooked_4 rfl (lv_at hl 3 rfl) ?_
      refine lv_aload_n hx hb dX12_crooked_5 rfl (lv_at hl 0 rfl) ?_
      refine mg_said hx hb hts hin hown k_said hI dX12_crooked_6 ?_
      refine lv_bipush (v := 6) hx hb dX12_crooked_9 (by decide) ?_
      refine lv_iload_n hx hb dX12_crooked_11 rfl (lv_at hl 1 rfl) ?_
      refine lv_iadd hx hb dX12_crooked_12 ?_
      obtain ⟨k1, hf⟩ := chk_b hf
      refine ml_said hx hb hI k1 dX12_crooked_13 ?_
      refine lv_icmp_ge (tgt := 47) hx hb dX12_crooked_14 (by decide) (fun c2 => ?_) (fun c2 => ?_)
      · replace hf := ifp c2 hf
        replace hf := exit_b hK1 hf
        exact B_47 v2 st H locs ls hI (lv_sub hl [2] rfl) hf
      · replace hf := ifn c2 hf
        refine lv_iload_n hx hb dX12_crooked_17 rfl (lv_at hl 2 rfl) ?_
        refine lv_aload_n hx hb dX12_crooked_18 rfl (lv_at hl 0 rfl) ?_
        refine lv_iload_n hx hb dX12_crooked_19 rfl (lv_at hl 1 rfl) ?_
        refine lv_iload_n hx hb dX12_crooked_20 rfl (lv_at hl 3 rfl) ?_
        refine lv_iconst (v := 0) hx hb dX12_crooked_21 (by decide) ?_
        obtain ⟨x3, hc4, hf⟩ := bnd_b hf
        refine mcall_i (As := [.int v1, .int v3, .int (0 : Int32)]) (rest := [.int v2]) (n := 3) ⟨hx, hb, hml, hown, hts⟩ (cm_moreOf l D h ad cy v1 v3 (0 : Int32) st x3 hc4 _) (cwV 3 hts gX12_crooked_X12_moreOf rfl rfl rfl ⟨rfl, nd_moreOf⟩ ⟨Nat.le_of_ble_eq_true rfl, Nat.le_of_ble_eq_true rfl⟩) hI hA rfl hl.1 (Nat.le_of_ble_eq_true rfl) dX12_crooked_22 ⟨Nat.zero_le _, Nat.zero_le _⟩ (fun H locs hI => ?_)
        obtain ⟨x5, hc6, hf⟩ := bnd_b hf
        refine mst_i (As := [.int x3.2]) (rest := [.int v2]) (n := 1) ⟨hx, hb, hml, hown, hts⟩ (cs_plain l x3.2 x5 hc6 _) (va_cwS 1 hts gX12_crooked_X12_plain rfl rfl rfl nd_plain ⟨Nat.le_of_ble_eq_true rfl, Nat.le_of_ble_eq_true rfl⟩) hI hA rfl hl.1 (Nat.le_of_ble_eq_true rfl) dX12_crooked_25 ⟨Nat.zero_le _, Nat.zero_le _⟩ (fun H locs hI => ?_)
        refine lv_aload_n hx hb dX12_crooked_28 rfl (lv_at hl 0 rfl) ?_
        refine lv_iload_n hx hb dX12_crooked_29 rfl (lv_at hl 1 rfl) ?_
        refine lv_iload_n hx hb dX12_crooked_30 rfl (lv_at hl 3 rfl) ?_
        refine lv_iconst (v := 1) hx hb dX12_crooked_31 (by decide) ?_
        obtain ⟨x7, hc8, hf⟩ := bnd_b hf
        refine mcall_i (As := [.int v1, .int v3, .int (1 : Int32)]) (rest := [.int x5, .int v2]) (n := 3) ⟨hx, hb, hml, hown, hts⟩ (cm_moreOf l D h ad cy v1 v3 (1 : Int32) x3.1 x7 hc8 _) (cwV 3 hts gX12_crooked_X12_moreOf rfl rfl rfl ⟨rfl, nd_moreOf⟩ ⟨Nat.le_of_ble_eq_true rfl, Nat.le_of_ble_eq_true rfl⟩) hI hA rfl hl.1 (Nat.le_of_ble_eq_true rfl) dX12_crooked_32 ⟨Nat.zero_le _, Nat.zero_le _⟩ (fun H locs hI => ?_)
        obtain ⟨x9, hc10, hf⟩ := bnd_b hf
        refine mst_i (As := [.int x7.2]) (rest := [.int x5, .int v2]) (n := 1) ⟨hx, hb, hml, hown, hts⟩ (cs_plain l x7.2 x9 hc10 _) (va_cwS 1 hts gX12_crooked_X12_plain rfl rfl rfl nd_plain ⟨Nat.le_of_ble_eq_true rfl, Nat.le_of_ble_eq_true rfl⟩) hI hA rfl hl.1 (Nat.le_of_ble_eq_true rfl) dX12_crooked_35 ⟨Nat.zero_le _, Nat.zero_le _⟩ (fun H locs hI => ?_)
        refine lv_iadd hx hb dX12_crooked_38 ?_
        refine lv_iadd hx hb dX12_crooked_39 ?_
        refine lv_istore_n (lv' := [(2, .int (v2 + (x5 + x9))), (0, .ref h), (1, .int v1), (3, .int v3)]) hx hb dX12_crooked_40 rfl hl (by decide) rfl (fun ls hl => ?_)
        refine lv_iinc (v := (v3 + 1)) (lv' := [(3, .int (v3 + 1)), (2, .int (v2 + (x5 + x9))), (0, .ref h), (1, .int v1)]) hx hb dX12_crooked_41 hl (k := 3) rfl (ci_ _ (by decide)) (by decide) rfl (fun ls hl => ?_)
        refine lv_goto (tgt := 4) hx hb dX12_crooked_44 (by decide) ?_
        replace hf := cont_b hK1 hf
        exact ih (v2 + (x5 + x9)) (v3 + 1) x7.1 H locs ls hI (lv_sub hl [2, 3, 1, 0] rfl) hf
  unfold fm_crooked at hf
  refine lv_iconst (v := 0) hx hb dX12_crooked_0 (by decide) ?_
  refine lv_istore_n (lv' := [(2, .int (0 : Int32)), (0, .ref h), (1, .int a1)]) hx hb dX12_crooked_1 rfl hl (by decide) rfl (fun ls hl => ?_)
  refine lv_iconst (v := 0) hx hb dX12_crooked_2 (by decide) ?_
  refine lv_istore_n (lv' := [(3, .int (0 : Int32)), (2, .int (0 : Int32)), (0, .ref h), (1, .int a1)]) hx hb dX12_crooked_3 rfl hl (by decide) rfl (fun ls hl => ?_)
  exact L_4 a1 mFuel (0 : Int32) (0 : Int32) s0 s.heap [] ls hI (lv_sub hl [2, 3, 1, 0] rfl) (asc_b hf)

theorem nd_errsAsTold : yX12_errsAsTold.cls ≠ "java/lang/invoke/MethodHandle" ∧ yX12_errsAsTold.cls ≠ "java/lang/invoke/VarHandle" ∧ (parseMethodDescriptor yX12_errsAsTold.desc).map (fun d => d.parameters.length) = some 0 := by decide +kernel
set_option maxHeartbeats 4000000 in
set_option maxRecDepth 100000 in
theorem cm_errsAsTold (l : Launch) (D : va_G) (h : Nat) (ad : Nat → Nat) (cy : Nat → ClassId)  (s0 : MSt) (out : MSt) (hf : fm_errsAsTold s0 = some out) (sz : Nat) : CMv l D h ad cy yX12_errsAsTold wsX12_errsAsTold { frames := 0, cells := 0, slots := 0, locals := 0 } [] s0 out sz := by
  refine Met.ofW (cc := cX12_errsAsTold) (maxL := 2) (ret := none) (by decide) rfl ?_
  intro p e s m args below meth c s₁ B hml hv
  obtain ⟨rfl, hsz, hP, hK, hD0⟩ := hv
  have hx := B.exec
  have hb := B.bytes
  have hr := B.returns
  have hts := atoms_spec (ws := wsX12_errsAsTold) B.pre
  have hown : s.vm.findClass RX12 = some m.cls := findClass_of_methodNamed B.named
  have hlocks := B.notSynchronized
  subst hsz
  have hI : MI D (MA h ad cy s0 s.heap.size) h ad cy s s.heap s0 s.heap [] := ⟨hK, hP, hD0.self, va_S.rf⟩
  have hA : ∀ q : Nat, s.heap.size ≤ q → MA h ad cy s0 s.heap.size q := fun q hq => Or.inr hq
  have hin : ∀ w ∈ u_ws RX12 TX12 42, w ∈ wsX12_errsAsTold := fun w hw => List.mem_cons_of_mem _ (List.mem_append_right _ hw)
  have k_errNow : Cond.fieldLink RX12 48 "HalfBridgeModel" "errNow" "[I" ∈ wsX12_errsAsTold := by decide +kernel
  have k_said : Cond.fieldLink RX12 45 "HalfBridgeModel" "said" "[I" ∈ wsX12_errsAsTold := by decide +kernel
  have hl := lv_entry ([.ref h]) (n := 2) (Nat.le_of_ble_eq_true rfl)
  rw [lg_entry_eq]
  generalize (lg_sl ([.ref h]) ++ List.replicate (2 - (lg_sl ([.ref h])).length) Slot.unset).toArray = ls at hl ⊢
  have hl : lv_has ls 2 [(0, .ref h)] := hl
  obtain ⟨K0, hK0, hf⟩ := top_e hf
  have B_41 : ∀   (st : MSt) (H : Heap) (locs : List Loc) (ls : Array Slot), MI D (MA h ad cy s0 s.heap.size) h ad cy s s.heap st H locs → lv_has ls 2 [] → (fm_errsAsTold_j41 st).bind K0 = some out → W p l e (headSpec wsX12_errsAsTold { frames := 0, cells := 0, slots := 0, locals := 0 }).room s m (([.ref h] : List Value).toArray) below meth c H locs 0 0 (MQ below (MQv D h ad cy s0 out s.heap.size) ([.ref h] : List Value).toArray s 0 0 (MA h ad cy s0 s.heap.size)) (F0 m 41 ls []) := by
    intro st H locs ls hI hl hf
    unfold fm_errsAsTold_j41 at hf
    exact mret_v hx hb hr hlocks hI (ret_e hK0 hf) dX12_errsAsTold_41
  have L_2 : ∀  (n : Nat) (v1 : Int32) (st : MSt) (H : Heap) (locs : List Loc) (ls : Array Slot), MI D (MA h ad cy s0 s.heap.size) h ad cy s s.heap st H locs → lv_has ls 2 [(0, .ref h), (1, .int v1)] → (iter (fun x : (Int32 × MSt) => fm_errsAsTold_s2 x.1 x.2) n (v1, st)).bind (fun x => ((Sum.elim (fun o : MSt => (some o : Option (MSt))) (fun x : (Int32 × MSt) => fm_errsAsTold_j41 x.2)) x).bind K0) = some out → W p l e (headSpec wsX12_errsAsTold { frames := 0, cells := 0, slots := 0, locals := 0 }).room s m (([.ref h] : List Value).toArray) below meth c H locs 0 0 (MQ below (MQv D h ad cy s0 out s.heap.size) ([.ref h] : List Value).toArray s 0 0 (MA h ad cy s0 s.heap.size)) (F0 m 2 ls []) := by
    intro n
    induction n with
    | zero => intro v1 st H locs ls hI hl hf; exact (iter_0 hf).elim
    | succ n ih =>
      intro v1 st H locs ls hI hl hf
      obtain ⟨K1, hK1, hf⟩ := iter_e hf
      replace hf : (fm_errsAsTold_s2 v1 st).bind K1 = some out := hf
      unfold fm_errsAsTold_s2 at hf
      refine lv_iload_n hx hb dX12_errsAsTold_2 rfl (lv_at hl 1 rfl) ?_
      refine lv_iconst (v := 2) hx hb dX12_errsAsTold_3 (by decide) ?_
      refine lv_icmp_ge (tgt := 41) hx hb dX12_errsAsTold_4 (by decide) (fun c1 => ?_) (fun c1 => ?_)
      · replace hf := ifp c1 hf
        replace hf := exit_b hK1 hf
        exact B_41  st H locs ls hI (lv_sub hl [] rfl) hf
      · replace hf := ifn c1 hf
        refine lv_aload_n hx hb dX12_errsAsTold_7 rfl (lv_at hl 0 rfl) ?_
        refine mg_errNow hx hb hts hin hown k_errNow hI dX12_errsAsTold_8 ?_
        refine lv_iload_n hx hb dX12_errsAsTold_11 rfl (lv_at hl 1 rfl) ?_
        refine lv_aload_n hx hb dX12_errsAsTold_12 rfl (lv_at hl 0 rfl) ?_
        refine mg_said hx hb hts hin hown k_said hI dX12_errsAsTold_13 ?_
        refine lv_bipush (v := 30) hx hb dX12_errsAsTold_16 (by decide) ?_
        refine lv_bipush (v := 8) hx hb dX12_errsAsTold_18 (by decide) ?_
        refine lv_iload_n hx hb dX12_errsAsTold_20 rfl (lv_at hl 1 rfl) ?_
        refine lv_imul hx hb dX12_errsAsTold_21 ?_
        refine lv_iadd hx hb dX12_errsAsTold_22 ?_
        refine lv_aload_n hx hb dX12_errsAsTold_23 rfl (lv_at hl 0 rfl) ?_
        refine mg_said hx hb hts hin hown k_said hI dX12_errsAsTold_24 ?_
        refine lv_iconst (v := 1) hx hb dX12_errsAsTold_27 (by decide) ?_
        obtain ⟨k2, hf⟩ := chk_b hf
        refine ml_said hx hb hI k2 dX12_errsAsTold_28 ?_
        refine lv_bipush (v := 8) hx hb dX12_errsAsTold_29 (by decide) ?_
        refine lv_irem hx hb dX12_errsAsTold_31 (by decide) ?_
        refine lv_iadd hx hb dX12_errsAsTold_32 ?_
        obtain ⟨k3, hf⟩ := chk_b hf
        refine ml_said hx hb hI k3 dX12_errsAsTold_33 ?_
        obtain ⟨k4, hf⟩ := chk_b hf
        refine ms_errNow hx hb hI k4 dX12_errsAsTold_34 (fun H locs hI => ?_)
        refine lv_iinc (v := (v1 + 1)) (lv' := [(1, .int (v1 + 1)), (0, .ref h)]) hx hb dX12_errsAsTold_35 hl (k := 1) rfl (ci_ _ (by decide)) (by decide) rfl (fun ls hl => ?_)
        refine lv_goto (tgt := 2) hx hb dX12_errsAsTold_38 (by decide) ?_
        replace hf := cont_b hK1 hf
        exact ih (v1 + 1) (msa st 27 v1.toNatClampNeg (st.2.1 26 (((30 : Int32) + ((8 : Int32) * v1)) + ((st.2.1 26 (1 : Int32).toNatClampNeg) - (st.2.1 26 (1 : Int32).toNatClampNeg) / (8 : Int32) * (8 : Int32))).toNatClampNeg)) H locs ls hI (lv_sub hl [1, 0] rfl) hf
  unfold fm_errsAsTold at hf
  refine lv_iconst (v := 0) hx hb dX12_errsAsTold_0 (by decide) ?_
  refine lv_istore_n (lv' := [(1, .int (0 : Int32)), (0, .ref h)]) hx hb dX12_errsAsTold_1 rfl hl (by decide) rfl (fun ls hl => ?_)
  exact L_2  mFuel (0 : Int32) s0 s.heap [] ls hI (lv_sub hl [1, 0] rfl) (asc_b hf)

theorem nd_seen : yX12_seen.cls ≠ "java/lang/invoke/MethodHandle" ∧ yX12_seen.cls ≠ "java/lang/invoke/VarHandle" ∧ (parseMethodDescriptor yX12_seen.desc).map (fun d => d.parameters.length) = some 2 := by decide +kernel
set_option maxHeartbeats 4000000 in
set_option maxRecDepth 100000 in
theorem cm_seen (l : Launch) (D : va_G) (h : Nat) (ad : Nat → Nat) (cy : Nat → ClassId) (a1 : Int32) (a2 : Int32) (s0 : MSt) (out : MSt × Int32) (hf : fm_seen a1 a2 s0 = some out) (sz : Nat) : CMi l D h ad cy yX12_seen wsX12_seen { frames := 2, cells := 0, slots := 0, locals := 45 } [.int a1, .int a2] s0 out sz := by
  refine Met.ofW (cc := cX12_seen) (maxL := 4) (ret := (some .int)) (by decide) rfl ?_
  intro p e s m args below meth c s₁ B hml hv
  obtain ⟨rfl, hsz, hP, hK, hD0⟩ := hv
  have hx := B.exec
  have hb := B.bytes
  have hr := B.returns
  have hts := atoms_spec (ws := wsX12_seen) B.pre
  have hown : s.vm.findClass RX12 = some m.cls := findClass_of_methodNamed B.named
  have hlocks := B.notSynchronized
  subst hsz
  have hI : MI D (MA h ad cy s0 s.heap.size) h ad cy s s.heap s0 s.heap [] := ⟨hK, hP, hD0.self, va_S.rf⟩
  have hA : ∀ q : Nat, s.heap.size ≤ q → MA h ad cy s0 s.heap.size q := fun q hq => Or.inr hq
  have hin : ∀ w ∈ u_ws RX12 TX12 42, w ∈ wsX12_seen := fun w hw => List.mem_cons_of_mem _ (List.mem_append_right _ hw)
  have k_errNow : Cond.fieldLink RX12 48 "HalfBridgeModel" "errNow" "[I" ∈ wsX12_seen := by decide +kernel
  have k_said : Cond.fieldLink RX12 45 "HalfBridgeModel" "said" "[I" ∈ wsX12_seen := by decide +kernel
  have hl := lv_entry ([.ref h, .int a1, .int a2]) (n := 4) (Nat.le_of_ble_eq_true rfl)
  rw [lg_entry_eq]
  generalize (lg_sl ([.ref h, .int a1, .int a2]) ++ List.replicate (4 - (lg_sl ([.ref h, .int a1, .int a2])).length) Slot.unset).toArray = ls at hl ⊢
  have hl : lv_has ls 4 [(0, .ref h), (1, .int a1), (2, .int a2)] := hl
  obtain ⟨K0, hK0, hf⟩ := top_e hf
  unfold fm_seen at hf
  refine lv_aload_n hx hb dX12_seen_0 rfl (lv_at hl 0 rfl) ?_
  refine mg_errNow hx hb hts hin hown k_errNow hI dX12_seen_1 ?_
  refine lv_iload_n hx hb dX12_seen_4 rfl (lv_at hl 1 rfl) ?_
  obtain ⟨k1, hf⟩ := chk_b hf
  refine ml_errNow hx hb hI k1 dX12_seen_5 ?_
  refine lv_aload_n hx hb dX12_seen_6 rfl (lv_at hl 0 rfl) ?_
  refine mg_said hx hb hts hin hown k_said hI dX12_seen_7 ?_
  refine lv_bipush (v := 12) hx hb dX12_seen_10 (by decide) ?_
  refine lv_iload_n hx hb dX12_seen_12 rfl (lv_at hl 1 rfl) ?_
  refine lv_iadd hx hb dX12_seen_13 ?_
  obtain ⟨k2, hf⟩ := chk_b hf
  refine ml_said hx hb hI k2 dX12_seen_14 ?_
  refine lv_imul hx hb dX12_seen_15 ?_
  refine lv_aload_n hx hb dX12_seen_16 rfl (lv_at hl 0 rfl) ?_
  obtain ⟨x3, hc4, hf⟩ := bnd_b hf
  refine mcall_i (As := []) (rest := [.int ((s0.2.1 27 a1.toNatClampNeg) * (s0.2.1 26 ((12 : Int32) + a1).toNatClampNeg))]) (n := 0) ⟨hx, hb, hml, hown, hts⟩ (cm_gap l D h ad cy  s0 x3 hc4 _) (cwV 0 hts gX12_seen_X12_gap rfl rfl rfl ⟨rfl, nd_gap⟩ ⟨Nat.le_of_ble_eq_true rfl, Nat.le_of_ble_eq_true rfl⟩) hI hA rfl hl.1 (Nat.le_of_ble_eq_true rfl) dX12_seen_17 ⟨Nat.zero_le _, Nat.zero_le _⟩ (fun H locs hI => ?_)
  refine lv_imul hx hb dX12_seen_20 ?_
  refine lv_bipush (v := 90) hx hb dX12_seen_21 (by decide) ?_
  refine lv_idiv hx hb dX12_seen_23 (by decide) ?_
  refine lv_istore_n (lv' := [(3, .int ((((s0.2.1 27 a1.toNatClampNeg) * (s0.2.1 26 ((12 : Int32) + a1).toNatClampNeg)) * x3.2) / (90 : Int32))), (0, .ref h), (1, .int a1), (2, .int a2)]) hx hb dX12_seen_24 rfl hl (by decide) rfl (fun ls hl => ?_)
  refine lv_aload_n hx hb dX12_seen_25 rfl (lv_at hl 1 rfl) ?_
  refine lv_iconst (v := 1) hx hb dX12_seen_26 (by decide) ?_
  refine lv_iload_n hx hb dX12_seen_27 rfl (lv_at hl 2 rfl) ?_
  refine lv_isub hx hb dX12_seen_28 ?_
  refine lv_iload_n hx hb dX12_seen_29 rfl (lv_at hl 3 rfl) ?_
  obtain ⟨x5, hc6, hf⟩ := bnd_b hf
  refine mcall_i (As := [.int ((1 : Int32) - a1), .int a2]) (rest := []) (n := 2) ⟨hx, hb, hml, hown, hts⟩ (cm_tipOf l D h ad cy ((1 : Int32) - a1) a2 x3.1 x5 hc6 _) (cwV 2 hts gX12_seen_X12_tipOf rfl rfl rfl ⟨rfl, nd_tipOf⟩ ⟨Nat.le_of_ble_eq_true rfl, Nat.le_of_ble_eq_true rfl⟩) hI hA rfl hl.1 (Nat.le_of_ble_eq_true rfl) dX12_seen_30 ⟨Nat.zero_le _, Nat.zero_le _⟩ (fun H locs hI => ?_)
  refine lv_iload_n hx hb dX12_seen_33 rfl (lv_at hl 3 rfl) ?_
  refine lv_if_ne (tgt := 41) hx hb dX12_seen_34 (by decide) (fun c7 => ?_) (fun c7 => ?_)
  · replace hf := ifn c7 hf
    refine lv_iload_n hx hb dX12_seen_41 rfl (lv_at hl 0 rfl) ?_
    refine lv_ineg hx hb dX12_seen_42 ?_
    refine lv_iadd hx hb dX12_seen_43 ?_
    exact mret_i hx hb hr hlocks hI (ret_e hK0 hf) dX12_seen_44
  · replace hf := ifp c7 hf
    refine lv_iload_n hx hb dX12_seen_37 rfl (lv_at hl 0 rfl) ?_
    refine lv_goto (tgt := 43) hx hb dX12_seen_38 (by decide) ?_
    refine lv_iadd hx hb dX12_seen_43 ?_
    exact mret_i hx hb hr hlocks hI (ret_e hK0 hf) dX12_seen_44

theorem nd_yard : yX12_yard.cls ≠ "java/lang/invoke/MethodHandle" ∧ yX12_yard.cls ≠ "java/lang/invoke/VarHandle" ∧ (parseMethodDescriptor yX12_yard.desc).map (fun d => d.parameters.length) = some 3 := by decide +kernel
set_option maxHeartbeats 4000000 in
set_option maxRecDepth 100000 in
theorem cm_yard (l : Launch) (D : va_G) (h : Nat) (ad : Nat → Nat) (cy : Nat → ClassId) (a1 : Int32) (a2 : Int32) (a3 : Int32) (s0 : MSt) (out : MSt × Int32) (hf : fm_yard a1 a2 a3 s0 = some out) (sz : Nat) : CMi l D h ad cy yX12_yard wsX12_yard { frames := 2, cells := 0, slots := 0, locals := 46 } [.int a1, .int a2, .int a3] s0 out sz := by
  refine Met.ofW (cc := cX12_yard) (maxL := 4) (ret := (some .int)) (by decide) rfl ?_
  intro p e s m args below meth c s₁ B hml hv
  obtain ⟨rfl, hsz, hP, hK, hD0⟩ := hv
  have hx := B.exec
  have hb := B.bytes
  have hr := B.returns
  have hts := atoms_spec (ws := wsX12_yard) B.pre
  have hown : s.vm.findClass RX12 = some m.cls := findClass_of_methodNamed B.named
  have hlocks := B.notSynchronized
  subst hsz
  have hI : MI D (MA h ad cy s0 s.heap.size) h ad cy s s.heap s0 s.heap [] := ⟨hK, hP, hD0.self, va_S.rf⟩
  have hA : ∀ q : Nat, s.heap.size ≤ q → MA h ad cy s0 s.heap.size q := fun q hq => Or.inr hq
  have hin : ∀ w ∈ u_ws RX12 TX12 42, w ∈ wsX12_yard := fun w hw => List.mem_cons_of_mem _ (List.mem_append_right _ hw)
  have k_said : Cond.fieldLink RX12 45 "HalfBridgeModel" "said" "[I" ∈ wsX12_yard := by decide +kernel
  have hl := lv_entry ([.ref h, .int a1, .int a2, .int a3]) (n := 4) (Nat.le_of_ble_eq_true rfl)
  rw [lg_entry_eq]
  generalize (lg_sl ([.ref h, .int a1, .int a2, .int a3]) ++ List.replicate (4 - (lg_sl ([.ref h, .int a1, .int a2, .int a3])).length) Slot.unset).toArray = ls at hl ⊢
  have hl : lv_has ls 4 [(0, .ref h), (1, .int a1), (2, .int a2), (3, .int a3)] := hl
  obtain ⟨K0, hK0, hf⟩ := top_e hf
  unfold fm_yard at hf
  refine lv_aload_n hx hb dX12_yard_0 rfl (lv_at hl 0 rfl) ?_
  obtain ⟨x1, hc2, hf⟩ := bnd_b hf
  refine mcall_i (As := []) (rest := []) (n := 0) ⟨hx, hb, hml, hown, hts⟩ (cm_isRiver l D h ad cy  s0 x1 hc2 _) (cwV 0 hts gX12_yard_X12_isRiver rfl rfl rfl ⟨rfl, nd_isRiver⟩ ⟨Nat.le_of_ble_eq_true rfl, Nat.le_of_ble_eq_true rfl⟩) hI hA rfl hl.1 (Nat.le_of_ble_eq_true rfl) dX12_yard_1 ⟨Nat.zero_le _, Nat.zero_le _⟩ (fun H locs hI => ?_)
  refine lv_if_eq (tgt := 43) hx hb dX12_yard_4 (by decide) (fun c3 => ?_) (fun c3 => ?_)
  · replace hf := ifp c3 hf
    refine lv_ldcw (v := -100000) hx hb hown (hts (.constant RX12 339 (-100000)) (by decide +kernel)) dX12_yard_43 ?_
    exact mret_i hx hb hr hlocks hI (ret_e hK0 hf) dX12_yard_46
  · replace hf := ifn c3 hf
    refine lv_iload_n hx hb dX12_yard_7 rfl (lv_at hl 1 rfl) ?_
    obtain ⟨x4, hc5, hf⟩ := bnd_b hf
    refine mst_i (As := [.int a1]) (rest := []) (n := 1) ⟨hx, hb, hml, hown, hts⟩ (cs_isSide l a1 x4 hc5 _) (va_cwS 1 hts gX12_yard_X12_isSide rfl rfl rfl nd_isSide ⟨Nat.le_of_ble_eq_true rfl, Nat.le_of_ble_eq_true rfl⟩) hI hA rfl hl.1 (Nat.le_of_ble_eq_true rfl) dX12_yard_8 ⟨Nat.zero_le _, Nat.zero_le _⟩ (fun H locs hI => ?_)
    refine lv_if_eq (tgt := 43) hx hb dX12_yard_11 (by decide) (fun c6 => ?_) (fun c6 => ?_)
    · replace hf := ifp c6 hf
      refine lv_ldcw (v := -100000) hx hb hown (hts (.constant RX12 339 (-100000)) (by decide +kernel)) dX12_yard_43 ?_
      exact mret_i hx hb hr hlocks hI (ret_e hK0 hf) dX12_yard_46
    · replace hf := ifn c6 hf
      refine lv_iload_n hx hb dX12_yard_14 rfl (lv_at hl 2 rfl) ?_
      refine lv_if_lt (tgt := 43) hx hb dX12_yard_15 (by decide) (fun c7 => ?_) (fun c7 => ?_)
      · replace hf := ifp c7 hf
        refine lv_ldcw (v := -100000) hx hb hown (hts (.constant RX12 339 (-100000)) (by decide +kernel)) dX12_yard_43 ?_
        exact mret_i hx hb hr hlocks hI (ret_e hK0 hf) dX12_yard_46
      · replace hf := ifn c7 hf
        refine lv_iload_n hx hb dX12_yard_18 rfl (lv_at hl 2 rfl) ?_
        refine lv_aload_n hx hb dX12_yard_19 rfl (lv_at hl 0 rfl) ?_
        refine mg_said hx hb hts hin hown k_said hI dX12_yard_20 ?_
        refine lv_bipush (v := 6) hx hb dX12_yard_23 (by decide) ?_
        refine lv_iload_n hx hb dX12_yard_25 rfl (lv_at hl 1 rfl) ?_
        refine lv_iadd hx hb dX12_yard_26 ?_
        obtain ⟨k8, hf⟩ := chk_b hf
        refine ml_said hx hb hI k8 dX12_yard_27 ?_
        refine lv_icmp_ge (tgt := 43) hx hb dX12_yard_28 (by decide) (fun c9 => ?_) (fun c9 => ?_)
        · replace hf := ifp c9 hf
          refine lv_ldcw (v := -100000) hx hb hown (hts (.constant RX12 339 (-100000)) (by decide +kernel)) dX12_yard_43 ?_
          exact mret_i hx hb hr hlocks hI (ret_e hK0 hf) dX12_yard_46
        · replace hf := ifn c9 hf
          refine lv_iload_n hx hb dX12_yard_31 rfl (lv_at hl 3 rfl) ?_
          refine lv_i2l (v := (a3.toInt64)) hx hb dX12_yard_32 rfl ?_
          refine lv_lconst (v := 0) hx hb dX12_yard_33 (by decide) ?_
          refine lv_ldc2 (v := 3) hx hb hown (hts (.constantLong RX12 337 (3)) (by decide +kernel)) dX12_yard_34 ?_
          obtain ⟨x10, hc11, hf⟩ := bnd_b hf
          refine mst_i (As := [.long (a3.toInt64), .long (0 : Int64), .long (3 : Int64)]) (rest := []) (n := 3) ⟨hx, hb, hml, hown, hts⟩ (cs_in l (a3.toInt64) (0 : Int64) (3 : Int64) x10 hc11 _) (va_cwS 3 hts gX12_yard_X12_in rfl rfl rfl nd_in ⟨Nat.le_of_ble_eq_true rfl, Nat.le_of_ble_eq_true rfl⟩) hI hA rfl hl.1 (Nat.le_of_ble_eq_true rfl) dX12_yard_37 ⟨Nat.zero_le _, Nat.zero_le _⟩ (fun H locs hI => ?_)
          refine lv_if_ne (tgt := 47) hx hb dX12_yard_40 (by decide) (fun c12 => ?_) (fun c12 => ?_)
          · replace hf := ifn c12 hf
            refine lv_iload_n hx hb dX12_yard_47 rfl (lv_at hl 3 rfl) ?_
            refine lv_iconst (v := 2) hx hb dX12_yard_48 (by decide) ?_
            refine lv_icmp_ge (tgt := 62) hx hb dX12_yard_49 (by decide) (fun c13 => ?_) (fun c13 => ?_)
            · replace hf := ifp c13 hf
              refine lv_aload_n hx hb dX12_yard_62 rfl (lv_at hl 0 rfl) ?_
              refine lv_iload_n hx hb dX12_yard_63 rfl (lv_at hl 1 rfl) ?_
              refine lv_iload_n hx hb dX12_yard_64 rfl (lv_at hl 2 rfl) ?_
              refine lv_iload_n hx hb dX12_yard_65 rfl (lv_at hl 3 rfl) ?_
              refine lv_iconst (v := 2) hx hb dX12_yard_66 (by decide) ?_
              refine lv_isub hx hb dX12_yard_67 ?_
              obtain ⟨x14, hc15, hf⟩ := bnd_b hf
              refine mcall_i (As := [.int a1, .int a2, .int (a3 - (2 : Int32))]) (rest := []) (n := 3) ⟨hx, hb, hml, hown, hts⟩ (cm_moreOf l D h ad cy a1 a2 (a3 - (2 : Int32)) x1.1 x14 hc15 _) (cwV 3 hts gX12_yard_X12_moreOf rfl rfl rfl ⟨rfl, nd_moreOf⟩ ⟨Nat.le_of_ble_eq_true rfl, Nat.le_of_ble_eq_true rfl⟩) hI hA rfl hl.1 (Nat.le_of_ble_eq_true rfl) dX12_yard_68 ⟨Nat.zero_le _, Nat.zero_le _⟩ (fun H locs hI => ?_)
              exact mret_i hx hb hr hlocks hI (ret_e hK0 hf) dX12_yard_71
            · replace hf := ifn c13 hf
              refine lv_aload_n hx hb dX12_yard_52 rfl (lv_at hl 0 rfl) ?_
              refine lv_iload_n hx hb dX12_yard_53 rfl (lv_at hl 1 rfl) ?_
              refine lv_iload_n hx hb dX12_yard_54 rfl (lv_at hl 2 rfl) ?_
              refine lv_iload_n hx hb dX12_yard_55 rfl (lv_at hl 3 rfl) ?_
              obtain ⟨x16, hc17, hf⟩ := bnd_b hf
              refine mcall_i (As := [.int a1, .int a2, .int a3]) (rest := []) (n := 3) ⟨hx, hb, hml, hown, hts⟩ (cm_yardOf l D h ad cy a1 a2 a3 x1.1 x16 hc17 _) (cwV 3 hts gX12_yard_X12_yardOf rfl rfl rfl ⟨rfl, nd_yardOf⟩ ⟨Nat.le_of_ble_eq_true rfl, Nat.le_of_ble_eq_true rfl⟩) hI hA rfl hl.1 (Nat.le_of_ble_eq_true rfl) dX12_yard_56 ⟨Nat.zero_le _, Nat.zero_le _⟩ (fun H locs hI => ?_)
              refine lv_goto (tgt := 71) hx hb dX12_yard_59 (by decide) ?_
              exact mret_i hx hb hr hlocks hI (ret_e hK0 hf) dX12_yard_71
          · replace hf := ifp c12 hf
            refine lv_ldcw (v := -100000) hx hb hown (hts (.constant RX12 339 (-100000)) (by decide +kernel)) dX12_yard_43 ?_
            exact mret_i hx hb hr hlocks hI (ret_e hK0 hf) dX12_yard_46
