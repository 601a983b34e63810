theorem nd_closes : yX12_closes.cls ≠ "java/lang/invoke/MethodHandle" ∧ yX12_closes.cls ≠ "java/lang/invoke/VarHandle" ∧ (parseMethodDescriptor yX12_closes.desc).map (fun d => d.parameters.length) = some 0 := by decide +kernel
set_option maxHeartbeats 4000000 in
set_option maxRecDepth 100000 in
theorem cm_closes (l : Launch) (D : va_G) (h : Nat) (ad : Nat → Nat) (cy : Nat → ClassId)  (s0 : MSt) (out : MSt) (hf : fm_closes s0 = some out) (sz : Nat) : CMv l D h ad cy yX12_closes wsX12_closes { frames := 2, cells := 0, slots := 0, locals := 43 } [] s0 out sz := by
  refine Met.ofW (cc := cX12_closes) (maxL := 1) (ret := none) (by decide) rfl ?_
  intro p e s m args below meth c s₁ B hml hv
  obtain ⟨rfl, hsz, hP, hK, hD0⟩ := hv
  have hx := B.exec
  have hb := B.bytes
  have hr := B.returns
  have hts := atoms_spec (ws := wsX12_closes) B.pre
  have hown : s.vm.findClass RX12 = some m.cls := findClass_of_methodNamed B.named
  have hlocks := B.notSynchronized
  subst hsz
  have hI : MI D (MA h ad cy s0 s.heap.size) h ad cy s s.heap s0 s.heap [] := ⟨hK, hP, hD0.self, va_S.rf⟩
  have hA : ∀ q : Nat, s.heap.size ≤ q → MA h ad cy s0 s.heap.size q := fun q hq => Or.inr hq
  have hin : ∀ w ∈ u_ws RX12 TX12 42, w ∈ wsX12_closes := fun w hw => List.mem_cons_of_mem _ (List.mem_append_right _ hw)
  have k_deep : Cond.fieldLink RX12 159 "HalfBridgeModel" "deep" "I" ∈ wsX12_closes := by decide +kernel
  have k_next : Cond.fieldLink RX12 103 "HalfBridgeModel" "next" "I" ∈ wsX12_closes := by decide +kernel
  have k_opened : Cond.fieldLink RX12 162 "HalfBridgeModel" "opened" "I" ∈ wsX12_closes := by decide +kernel
  have hl := lv_entry ([.ref h]) (n := 1) (Nat.le_of_ble_eq_true rfl)
  rw [lg_entry_eq]
  generalize (lg_sl ([.ref h]) ++ List.replicate (1 - (lg_sl ([.ref h])).length) Slot.unset).toArray = ls at hl ⊢
  have hl : lv_has ls 1 [(0, .ref h)] := hl
  obtain ⟨K0, hK0, hf⟩ := top_e hf
  have B_64 : ∀   (st : MSt) (H : Heap) (locs : List Loc) (ls : Array Slot), MI D (MA h ad cy s0 s.heap.size) h ad cy s s.heap st H locs → lv_has ls 1 [] → (fm_closes_j64 st).bind K0 = some out → W p l e (headSpec wsX12_closes { frames := 2, cells := 0, slots := 0, locals := 43 }).room s m (([.ref h] : List Value).toArray) below meth c H locs 0 0 (MQ below (MQv D h ad cy s0 out s.heap.size) ([.ref h] : List Value).toArray s 0 0 (MA h ad cy s0 s.heap.size)) (F0 m 64 ls []) := by
    intro st H locs ls hI hl hf
    unfold fm_closes_j64 at hf
    exact mret_v hx hb hr hlocks hI (ret_e hK0 hf) dX12_closes_64
  have L_5 : ∀  (n : Nat)  (st : MSt) (H : Heap) (locs : List Loc) (ls : Array Slot), MI D (MA h ad cy s0 s.heap.size) h ad cy s s.heap st H locs → lv_has ls 1 [(0, .ref h)] → (iter (fun x : (MSt) => fm_closes_s5 x) n st).bind (fun x => ((Sum.elim (fun o : MSt => (some o : Option (MSt))) (fun x : (MSt) => fm_closes_j64 x)) x).bind K0) = some out → W p l e (headSpec wsX12_closes { frames := 2, cells := 0, slots := 0, locals := 43 }).room s m (([.ref h] : List Value).toArray) below meth c H locs 0 0 (MQ below (MQv D h ad cy s0 out s.heap.size) ([.ref h] : List Value).toArray s 0 0 (MA h ad cy s0 s.heap.size)) (F0 m 5 ls []) := by
    intro n
    induction n with
    | zero => intro st H locs ls hI hl hf; exact (iter_0 hf).elim
    | succ n ih =>
      intro st H locs ls hI hl hf
      obtain ⟨K1, hK1, hf⟩ := iter_e hf
      replace hf : (fm_closes_s5 st).bind K1 = some out := hf
      unfold fm_closes_s5 at hf
      refine lv_aload_n hx hb dX12_closes_5 rfl (lv_at hl 0 rfl) ?_
      obtain ⟨x3, hc4, hf⟩ := bnd_b hf
      refine mcall_i (As := []) (rest := []) (n := 0) ⟨hx, hb, hml, hown, hts⟩ (cm_see l D h ad cy  st x3 hc4 _) (cwV 0 hts gX12_closes_X12_see rfl rfl rfl ⟨rfl, nd_see⟩ ⟨Nat.le_of_ble_eq_true rfl, Nat.le_of_ble_eq_true rfl⟩) hI hA rfl hl.1 (Nat.le_of_ble_eq_true rfl) dX12_closes_6 ⟨Nat.zero_le _, Nat.zero_le _⟩ (fun H locs hI => ?_)
      refine lv_bipush (v := 93) hx hb dX12_closes_9 (by decide) ?_
      refine lv_icmp_ne (tgt := 64) hx hb dX12_closes_11 (by decide) (fun c5 => ?_) (fun c5 => ?_)
      · replace hf := ifn c5 hf
        replace hf := exit_b hK1 hf
        exact B_64  x3.1 H locs ls hI (lv_sub hl [] rfl) hf
      · replace hf := ifp c5 hf
        refine lv_aload_n hx hb dX12_closes_14 rfl (lv_at hl 0 rfl) ?_
        obtain ⟨x6, hc7, hf⟩ := bnd_b hf
        refine mcall_i (As := []) (rest := []) (n := 0) ⟨hx, hb, hml, hown, hts⟩ (cm_isInside l D h ad cy  x3.1 x6 hc7 _) (cwV 0 hts gX12_closes_X12_isInside rfl rfl rfl ⟨rfl, nd_isInside⟩ ⟨Nat.le_of_ble_eq_true rfl, Nat.le_of_ble_eq_true rfl⟩) hI hA rfl hl.1 (Nat.le_of_ble_eq_true rfl) dX12_closes_15 ⟨Nat.zero_le _, Nat.zero_le _⟩ (fun H locs hI => ?_)
        refine lv_if_eq (tgt := 64) hx hb dX12_closes_18 (by decide) (fun c8 => ?_) (fun c8 => ?_)
        · replace hf := ifp c8 hf
          replace hf := exit_b hK1 hf
          exact B_64  x6.1 H locs ls hI (lv_sub hl [] rfl) hf
        · replace hf := ifn c8 hf
          refine lv_aload_n hx hb dX12_closes_21 rfl (lv_at hl 0 rfl) ?_
          refine lv_iconst (v := 1) hx hb dX12_closes_22 (by decide) ?_
          obtain ⟨x9, hc10, hf⟩ := bnd_b hf
          refine mcall_v (As := [.int (1 : Int32)]) (rest := []) (n := 1) ⟨hx, hb, hml, hown, hts⟩ (cm_settles l D h ad cy (1 : Int32) x6.1 x9 hc10 _) (cwV 1 hts gX12_closes_X12_settles rfl rfl rfl ⟨rfl, nd_settles⟩ ⟨Nat.le_of_ble_eq_true rfl, Nat.le_of_ble_eq_true rfl⟩) hI hA rfl hl.1 (Nat.le_of_ble_eq_true rfl) dX12_closes_23 ⟨Nat.zero_le _, Nat.zero_le _⟩ (fun H locs hI => ?_)
          refine lv_aload_n hx hb dX12_closes_26 rfl (lv_at hl 0 rfl) ?_
          refine lv_dup hx hb dX12_closes_27 rfl ?_
          refine mg_opened hx hb hts hin hown k_opened hI dX12_closes_28 ?_
          refine lv_iconst (v := 1) hx hb dX12_closes_31 (by decide) ?_
          refine lv_isub hx hb dX12_closes_32 ?_
          refine mp_opened hx hb hts hin hown k_opened hI dX12_closes_33 (fun H locs hI => ?_)
          refine lv_aload_n hx hb dX12_closes_36 rfl (lv_at hl 0 rfl) ?_
          refine lv_dup hx hb dX12_closes_37 rfl ?_
          refine mg_deep hx hb hts hin hown k_deep hI dX12_closes_38 ?_
          refine lv_iconst (v := 1) hx hb dX12_closes_41 (by decide) ?_
          refine lv_isub hx hb dX12_closes_42 ?_
          refine mp_deep hx hb hts hin hown k_deep hI dX12_closes_43 (fun H locs hI => ?_)
          refine lv_aload_n hx hb dX12_closes_46 rfl (lv_at hl 0 rfl) ?_
          refine lv_dup hx hb dX12_closes_47 rfl ?_
          refine mg_next hx hb hts hin hown k_next hI dX12_closes_48 ?_
          refine lv_iconst (v := 1) hx hb dX12_closes_51 (by decide) ?_
          refine lv_iadd hx hb dX12_closes_52 ?_
          refine mp_next hx hb hts hin hown k_next hI dX12_closes_53 (fun H locs hI => ?_)
          refine lv_aload_n hx hb dX12_closes_56 rfl (lv_at hl 0 rfl) ?_
          refine lv_iconst (v := 3) hx hb dX12_closes_57 (by decide) ?_
          obtain ⟨x11, hc12, hf⟩ := bnd_b hf
          refine mcall_v (As := [.int (3 : Int32)]) (rest := []) (n := 1) ⟨hx, hb, hml, hown, hts⟩ (cm_settles l D h ad cy (3 : Int32) (msi (msi (msi x9 22 ((x9.1 22) - (1 : Int32))) 19 (((msi x9 22 ((x9.1 22) - (1 : Int32))).1 19) - (1 : Int32))) 14 (((msi (msi x9 22 ((x9.1 22) - (1 : Int32))) 19 (((msi x9 22 ((x9.1 22) - (1 : Int32))).1 19) - (1 : Int32))).1 14) + (1 : Int32))) x11 hc12 _) (cwV 1 hts gX12_closes_X12_settles rfl rfl rfl ⟨rfl, nd_settles⟩ ⟨Nat.le_of_ble_eq_true rfl, Nat.le_of_ble_eq_true rfl⟩) hI hA rfl hl.1 (Nat.le_of_ble_eq_true rfl) dX12_closes_58 ⟨Nat.zero_le _, Nat.zero_le _⟩ (fun H locs hI => ?_)
          refine lv_goto (tgt := 5) hx hb dX12_closes_61 (by decide) ?_
          replace hf := cont_b hK1 hf
          exact ih x11 H locs ls hI (lv_sub hl [0] rfl) hf
  unfold fm_closes at hf
  refine lv_aload_n hx hb dX12_closes_0 rfl (lv_at hl 0 rfl) ?_
  refine lv_iconst (v := 3) hx hb dX12_closes_1 (by decide) ?_
  obtain ⟨x1, hc2, hf⟩ := bnd_b hf
  refine mcall_v (As := [.int (3 : Int32)]) (rest := []) (n := 1) ⟨hx, hb, hml, hown, hts⟩ (cm_settles l D h ad cy (3 : Int32) s0 x1 hc2 _) (cwV 1 hts gX12_closes_X12_settles rfl rfl rfl ⟨rfl, nd_settles⟩ ⟨Nat.le_of_ble_eq_true rfl, Nat.le_of_ble_eq_true rfl⟩) hI hA rfl hl.1 (Nat.le_of_ble_eq_true rfl) dX12_closes_2 ⟨Nat.zero_le _, Nat.zero_le _⟩ (fun H locs hI => ?_)
  exact L_5  mFuel x1 H locs ls hI (lv_sub hl [0] rfl) (asc_b hf)

theorem nd_tested : yX12_tested.cls ≠ "java/lang/invoke/MethodHandle" ∧ yX12_tested.cls ≠ "java/lang/invoke/VarHandle" ∧ (parseMethodDescriptor yX12_tested.desc).map (fun d => d.parameters.length) = some 0 := by decide +kernel
set_option maxHeartbeats 4000000 in
set_option maxRecDepth 100000 in
theorem cm_tested (l : Launch) (D : va_G) (h : Nat) (ad : Nat → Nat) (cy : Nat → ClassId)  (s0 : MSt) (out : MSt × Int32) (hf : fm_tested s0 = some out) (sz : Nat) : CMi l D h ad cy yX12_tested wsX12_tested { frames := 8, cells := 0, slots := 0, locals := 176 } [] s0 out sz := by
  refine Met.ofW (cc := cX12_tested) (maxL := 3) (ret := (some .boolean)) (by decide) rfl ?_
  intro p e s m args below meth c s₁ B hml hv
  obtain ⟨rfl, hsz, hP, hK, hD0⟩ := hv
  have hx := B.exec
  have hb := B.bytes
  have hr := B.returns
  have hts := atoms_spec (ws := wsX12_tested) B.pre
  have hown : s.vm.findClass RX12 = some m.cls := findClass_of_methodNamed B.named
  have hlocks := B.notSynchronized
  subst hsz
  have hI : MI D (MA h ad cy s0 s.heap.size) h ad cy s s.heap s0 s.heap [] := ⟨hK, hP, hD0.self, va_S.rf⟩
  have hA : ∀ q : Nat, s.heap.size ≤ q → MA h ad cy s0 s.heap.size q := fun q hq => Or.inr hq
  have hin : ∀ w ∈ u_ws RX12 TX12 42, w ∈ wsX12_tested := fun w hw => List.mem_cons_of_mem _ (List.mem_append_right _ hw)
  have k_deep : Cond.fieldLink RX12 159 "HalfBridgeModel" "deep" "I" ∈ wsX12_tested := by decide +kernel
  have k_next : Cond.fieldLink RX12 103 "HalfBridgeModel" "next" "I" ∈ wsX12_tested := by decide +kernel
  have k_open : Cond.fieldLink RX12 35 "HalfBridgeModel" "open" "[I" ∈ wsX12_tested := by decide +kernel
  have k_opened : Cond.fieldLink RX12 162 "HalfBridgeModel" "opened" "I" ∈ wsX12_tested := by decide +kernel
  have hl := lv_entry ([.ref h]) (n := 3) (Nat.le_of_ble_eq_true rfl)
  rw [lg_entry_eq]
  generalize (lg_sl ([.ref h]) ++ List.replicate (3 - (lg_sl ([.ref h])).length) Slot.unset).toArray = ls at hl ⊢
  have hl : lv_has ls 3 [(0, .ref h)] := hl
  obtain ⟨K0, hK0, hf⟩ := top_e hf
  have B_112 : ∀   (st : MSt) (H : Heap) (locs : List Loc) (ls : Array Slot), MI D (MA h ad cy s0 s.heap.size) h ad cy s s.heap st H locs → lv_has ls 3 [(0, .ref h)] → (fm_tested_j112 st).bind K0 = some out → W p l e (headSpec wsX12_tested { frames := 8, cells := 0, slots := 0, locals := 176 }).room s m (([.ref h] : List Value).toArray) below meth c H locs 0 0 (MQ below (MQi D h ad cy s0 out s.heap.size) ([.ref h] : List Value).toArray s 0 0 (MA h ad cy s0 s.heap.size)) (F0 m 112 ls []) := by
    intro st H locs ls hI hl hf
    unfold fm_tested_j112 at hf
    refine lv_aload_n hx hb dX12_tested_112 rfl (lv_at hl 0 rfl) ?_
    obtain ⟨x1, hc2, hf⟩ := bnd_b hf
    refine mcall_i (As := []) (rest := []) (n := 0) ⟨hx, hb, hml, hown, hts⟩ (cm_isInside l D h ad cy  st x1 hc2 _) (cwV 0 hts gX12_tested_X12_isInside rfl rfl rfl ⟨rfl, nd_isInside⟩ ⟨Nat.le_of_ble_eq_true rfl, Nat.le_of_ble_eq_true rfl⟩) hI hA rfl hl.1 (Nat.le_of_ble_eq_true rfl) dX12_tested_113 ⟨Nat.zero_le _, Nat.zero_le _⟩ (fun H locs hI => ?_)
    refine lv_if_eq (tgt := 134) hx hb dX12_tested_116 (by decide) (fun c3 => ?_) (fun c3 => ?_)
    · replace hf := ifp c3 hf
      refine lv_aload_n hx hb dX12_tested_134 rfl (lv_at hl 0 rfl) ?_
      refine lv_iconst (v := 1) hx hb dX12_tested_135 (by decide) ?_
      obtain ⟨x4, hc5, hf⟩ := bnd_b hf
      refine mcall_v (As := [.int (1 : Int32)]) (rest := []) (n := 1) ⟨hx, hb, hml, hown, hts⟩ (cm_settles l D h ad cy (1 : Int32) x1.1 x4 hc5 _) (cwV 1 hts gX12_tested_X12_settles rfl rfl rfl ⟨rfl, nd_settles⟩ ⟨Nat.le_of_ble_eq_true rfl, Nat.le_of_ble_eq_true rfl⟩) hI hA rfl hl.1 (Nat.le_of_ble_eq_true rfl) dX12_tested_136 ⟨Nat.zero_le _, Nat.zero_le _⟩ (fun H locs hI => ?_)
      refine lv_iconst (v := 1) hx hb dX12_tested_139 (by decide) ?_
      exact mret_z hx hb hr (by decide) hlocks hI (ret_e hK0 hf) dX12_tested_140
    · replace hf := ifn c3 hf
      refine lv_aload_n hx hb dX12_tested_119 rfl (lv_at hl 0 rfl) ?_
      obtain ⟨x6, hc7, hf⟩ := bnd_b hf
      refine mcall_i (As := []) (rest := []) (n := 0) ⟨hx, hb, hml, hown, hts⟩ (cm_see l D h ad cy  x1.1 x6 hc7 _) (cwV 0 hts gX12_tested_X12_see rfl rfl rfl ⟨rfl, nd_see⟩ ⟨Nat.le_of_ble_eq_true rfl, Nat.le_of_ble_eq_true rfl⟩) hI hA rfl hl.1 (Nat.le_of_ble_eq_true rfl) dX12_tested_120 ⟨Nat.zero_le _, Nat.zero_le _⟩ (fun H locs hI => ?_)
      refine lv_pop hx hb dX12_tested_123 rfl ?_
      refine lv_aload_n hx hb dX12_tested_124 rfl (lv_at hl 0 rfl) ?_
      refine lv_iconst (v := 0) hx hb dX12_tested_125 (by decide) ?_
      refine lv_aload_n hx hb dX12_tested_126 rfl (lv_at hl 0 rfl) ?_
      refine mg_next hx hb hts hin hown k_next hI dX12_tested_127 ?_
      obtain ⟨x8, hc9, hf⟩ := bnd_b hf
      refine mcall_i (As := [.int (0 : Int32), .int (x6.1.1 14)]) (rest := []) (n := 2) ⟨hx, hb, hml, hown, hts⟩ (cm_fails l D h ad cy (0 : Int32) (x6.1.1 14) x6.1 x8 hc9 _) (cwV 2 hts gX12_tested_X12_fails rfl rfl rfl ⟨rfl, nd_fails⟩ ⟨Nat.le_of_ble_eq_true rfl, Nat.le_of_ble_eq_true rfl⟩) hI hA rfl hl.1 (Nat.le_of_ble_eq_true rfl) dX12_tested_130 ⟨Nat.zero_le _, Nat.zero_le _⟩ (fun H locs hI => ?_)
      obtain ⟨k10, hf⟩ := chk_b hf
      exact mret_z hx hb hr (isb_nar k10) hlocks hI (ret_e hK0 hf) dX12_tested_133
  have L_12 : ∀  (n : Nat) (v1 : Int32) (st : MSt) (H : Heap) (locs : List Loc) (ls : Array Slot), MI D (MA h ad cy s0 s.heap.size) h ad cy s s.heap st H locs → lv_has ls 3 [(0, .ref h), (1, .int v1)] → (iter (fun x : (Int32 × MSt) => fm_tested_s12 x.1 x.2) n (v1, st)).bind (fun x => ((Sum.elim (fun o : MSt × Int32 => (some o : Option (MSt × Int32))) (fun x : (Int32 × MSt) => fm_tested_j112 x.2)) x).bind K0) = some out → W p l e (headSpec wsX12_tested { frames := 8, cells := 0, slots := 0, locals := 176 }).room s m (([.ref h] : List Value).toArray) below meth c H locs 0 0 (MQ below (MQi D h ad cy s0 out s.heap.size) ([.ref h] : List Value).toArray s 0 0 (MA h ad cy s0 s.heap.size)) (F0 m 12 ls []) := by
    intro n
    induction n with
    | zero => intro v1 st H locs ls hI hl hf; exact (iter_0 hf).elim
    | succ n ih =>
      intro v1 st H locs ls hI hl hf
      obtain ⟨K1, hK1, hf⟩ := iter_e hf
      replace hf : (fm_tested_s12 v1 st).bind K1 = some out := hf
      have B_12_76_2 : ∀ (v1 : Int32) (t0 : Int32) (st : MSt) (H : Heap) (locs : List Loc) (ls : Array Slot), MI D (MA h ad cy s0 s.heap.size) h ad cy s s.heap st H locs → lv_has ls 3 [(0, .ref h), (1, .int v1)] → (fm_tested_j76 v1 t0 st).bind K1 = some out → W p l e (headSpec wsX12_tested { frames := 8, cells := 0, slots := 0, locals := 176 }).room s m (([.ref h] : List Value).toArray) below meth c H locs 0 0 (MQ below (MQi D h ad cy s0 out s.heap.size) ([.ref h] : List Value).toArray s 0 0 (MA h ad cy s0 s.heap.size)) (F0 m 76 ls [.int t0]) := by
        intro v1 t0 st H locs ls hI hl hf
        unfold fm_tested_j76 at hf
        refine lv_istore_n (lv' := [(2, .int t0), (0, .ref h), (1, .int v1)]) hx hb dX12_tested_76 rfl hl (by decide) rfl (fun ls hl => ?_)
        refine lv_aload_n hx hb dX12_tested_77 rfl (lv_at hl 1 rfl) ?_
        obtain ⟨x24, hc25, hf⟩ := bnd_b hf
        refine mcall_v (As := []) (rest := []) (n := 0) ⟨hx, hb, hml, hown, hts⟩ (cm_passWord l D h ad cy  st x24 hc25 _) (cwV 0 hts gX12_tested_X12_passWord rfl rfl rfl ⟨rfl, nd_passWord⟩ ⟨Nat.le_of_ble_eq_true rfl, Nat.le_of_ble_eq_true rfl⟩) hI hA rfl hl.1 (Nat.le_of_ble_eq_true rfl) dX12_tested_78 ⟨Nat.zero_le _, Nat.zero_le _⟩ (fun H locs hI => ?_)
        refine lv_aload_n hx hb dX12_tested_81 rfl (lv_at hl 1 rfl) ?_
        refine lv_iload_n hx hb dX12_tested_82 rfl (lv_at hl 0 rfl) ?_
        obtain ⟨x26, hc27, hf⟩ := bnd_b hf
        refine mst_i (As := [.int t0]) (rest := [.ref h]) (n := 1) ⟨hx, hb, hml, hown, hts⟩ (cs_strength l t0 x26 hc27 _) (va_cwS 1 hts gX12_tested_X12_strength rfl rfl rfl nd_strength ⟨Nat.le_of_ble_eq_true rfl, Nat.le_of_ble_eq_true rfl⟩) hI hA rfl hl.1 (Nat.le_of_ble_eq_true rfl) dX12_tested_83 ⟨Nat.zero_le _, Nat.zero_le _⟩ (fun H locs hI => ?_)
        obtain ⟨x28, hc29, hf⟩ := bnd_b hf
        refine mcall_v (As := [.int x26]) (rest := []) (n := 1) ⟨hx, hb, hml, hown, hts⟩ (cm_settles l D h ad cy x26 x24 x28 hc29 _) (cwV 1 hts gX12_tested_X12_settles rfl rfl rfl ⟨rfl, nd_settles⟩ ⟨Nat.le_of_ble_eq_true rfl, Nat.le_of_ble_eq_true rfl⟩) hI hA rfl hl.1 (Nat.le_of_ble_eq_true rfl) dX12_tested_86 ⟨Nat.zero_le _, Nat.zero_le _⟩ (fun H locs hI => ?_)
        refine lv_aload_n hx hb dX12_tested_89 rfl (lv_at hl 1 rfl) ?_
        refine mg_open hx hb hts hin hown k_open hI dX12_tested_90 ?_
        refine lv_aload_n hx hb dX12_tested_93 rfl (lv_at hl 1 rfl) ?_
        refine mg_opened hx hb hts hin hown k_opened hI dX12_tested_94 ?_
        refine lv_iload_n hx hb dX12_tested_97 rfl (lv_at hl 0 rfl) ?_
        obtain ⟨k30, hf⟩ := chk_b hf
        refine ms_open hx hb hI k30 dX12_tested_98 (fun H locs hI => ?_)
        refine lv_aload_n hx hb dX12_tested_99 rfl (lv_at hl 1 rfl) ?_
        refine lv_dup hx hb dX12_tested_100 rfl ?_
        refine mg_opened hx hb hts hin hown k_opened hI dX12_tested_101 ?_
        refine lv_iconst (v := 1) hx hb dX12_tested_104 (by decide) ?_
        refine lv_iadd hx hb dX12_tested_105 ?_
        refine mp_opened hx hb hts hin hown k_opened hI dX12_tested_106 (fun H locs hI => ?_)
        refine lv_goto (tgt := 12) hx hb dX12_tested_109 (by decide) ?_
        replace hf := cont_b hK1 hf
        exact ih v1 (msi (msa x28 21 (x28.1 22).toNatClampNeg t0) 22 (((msa x28 21 (x28.1 22).toNatClampNeg t0).1 22) + (1 : Int32))) H locs ls hI (lv_sub hl [1, 2] rfl) hf
      have B_12_54_1 : ∀  (t0 : Int32) (st : MSt) (H : Heap) (locs : List Loc) (ls : Array Slot), MI D (MA h ad cy s0 s.heap.size) h ad cy s s.heap st H locs → lv_has ls 3 [(0, .ref h)] → (fm_tested_j54 t0 st).bind K1 = some out → W p l e (headSpec wsX12_tested { frames := 8, cells := 0, slots := 0, locals := 176 }).room s m (([.ref h] : List Value).toArray) below meth c H locs 0 0 (MQ below (MQi D h ad cy s0 out s.heap.size) ([.ref h] : List Value).toArray s 0 0 (MA h ad cy s0 s.heap.size)) (F0 m 54 ls [.int t0]) := by
        intro t0 st H locs ls hI hl hf
        unfold fm_tested_j54 at hf
        refine lv_istore_n (lv' := [(1, .int t0), (0, .ref h)]) hx hb dX12_tested_54 rfl hl (by decide) rfl (fun ls hl => ?_)
        refine lv_iload_n hx hb dX12_tested_55 rfl (lv_at hl 0 rfl) ?_
        refine lv_if_eq (tgt := 12) hx hb dX12_tested_56 (by decide) (fun c20 => ?_) (fun c20 => ?_)
        · replace hf := ifp c20 hf
          replace hf := cont_b hK1 hf
          exact ih t0 st H locs ls hI (lv_sub hl [1, 0] rfl) hf
        · replace hf := ifn c20 hf
          refine lv_aload_n hx hb dX12_tested_59 rfl (lv_at hl 1 rfl) ?_
          refine lv_ldc2 (v := 6385252) hx hb hown (hts (.constantLong RX12 213 (6385252)) (by decide +kernel)) dX12_tested_60 ?_
          obtain ⟨x21, hc22, hf⟩ := bnd_b hf
          refine mcall_i (As := [.long (6385252 : Int64)]) (rest := []) (n := 1) ⟨hx, hb, hml, hown, hts⟩ (cm_isWord l D h ad cy (6385252 : Int64) st x21 hc22 _) (cwV 1 hts gX12_tested_X12_isWord rfl rfl rfl ⟨rfl, nd_isWord⟩ ⟨Nat.le_of_ble_eq_true rfl, Nat.le_of_ble_eq_true rfl⟩) hI hA rfl hl.1 (Nat.le_of_ble_eq_true rfl) dX12_tested_63 ⟨Nat.zero_le _, Nat.zero_le _⟩ (fun H locs hI => ?_)
          refine lv_if_eq (tgt := 74) hx hb dX12_tested_66 (by decide) (fun c23 => ?_) (fun c23 => ?_)
          · replace hf := ifp c23 hf
            refine lv_bipush (v := 13) hx hb dX12_tested_74 (by decide) ?_
            exact B_12_76_2 t0 (13 : Int32) x21.1 H locs ls hI (lv_sub hl [1, 0] rfl) hf
          · replace hf := ifn c23 hf
            refine lv_bipush (v := 12) hx hb dX12_tested_69 (by decide) ?_
            refine lv_goto (tgt := 76) hx hb dX12_tested_71 (by decide) ?_
            exact B_12_76_2 t0 (12 : Int32) x21.1 H locs ls hI (lv_sub hl [1, 0] rfl) hf
      have B_12_49 : ∀   (st : MSt) (H : Heap) (locs : List Loc) (ls : Array Slot), MI D (MA h ad cy s0 s.heap.size) h ad cy s s.heap st H locs → lv_has ls 3 [(0, .ref h)] → (fm_tested_j49 st).bind K1 = some out → W p l e (headSpec wsX12_tested { frames := 8, cells := 0, slots := 0, locals := 176 }).room s m (([.ref h] : List Value).toArray) below meth c H locs 0 0 (MQ below (MQi D h ad cy s0 out s.heap.size) ([.ref h] : List Value).toArray s 0 0 (MA h ad cy s0 s.heap.size)) (F0 m 49 ls []) := by
        intro st H locs ls hI hl hf
        unfold fm_tested_j49 at hf
        refine lv_iconst (v := 1) hx hb dX12_tested_49 (by decide) ?_
        refine lv_goto (tgt := 54) hx hb dX12_tested_50 (by decide) ?_
        exact B_12_54_1 (1 : Int32) st H locs ls hI (lv_sub hl [0] rfl) hf
      unfold fm_tested_s12 at hf
      refine lv_iload_n hx hb dX12_tested_12 rfl (lv_at hl 1 rfl) ?_
      refine lv_if_eq (tgt := 112) hx hb dX12_tested_13 (by decide) (fun c11 => ?_) (fun c11 => ?_)
      · replace hf := ifp c11 hf
        replace hf := exit_b hK1 hf
        exact B_112  st H locs ls hI (lv_sub hl [0] rfl) hf
      · replace hf := ifn c11 hf
        refine lv_aload_n hx hb dX12_tested_16 rfl (lv_at hl 0 rfl) ?_
        obtain ⟨x12, hc13, hf⟩ := bnd_b hf
        refine mcall_i (As := []) (rest := []) (n := 0) ⟨hx, hb, hml, hown, hts⟩ (cm_fact l D h ad cy  st x12 hc13 _) (cwV 0 hts gX12_tested_X12_fact rfl rfl rfl ⟨rfl, nd_fact⟩ ⟨Nat.le_of_ble_eq_true rfl, Nat.le_of_ble_eq_true rfl⟩) hI hA rfl hl.1 (Nat.le_of_ble_eq_true rfl) dX12_tested_17 ⟨Nat.zero_le _, Nat.zero_le _⟩ (fun H locs hI => ?_)
        refine lv_if_ne (tgt := 25) hx hb dX12_tested_20 (by decide) (fun c14 => ?_) (fun c14 => ?_)
        · replace hf := ifn c14 hf
          refine lv_aload_n hx hb dX12_tested_25 rfl (lv_at hl 0 rfl) ?_
          obtain ⟨x15, hc16, hf⟩ := bnd_b hf
          refine mcall_v (As := []) (rest := []) (n := 0) ⟨hx, hb, hml, hown, hts⟩ (cm_closes l D h ad cy  x12.1 x15 hc16 _) (cwV 0 hts gX12_tested_X12_closes rfl rfl rfl ⟨rfl, nd_closes⟩ ⟨Nat.le_of_ble_eq_true rfl, Nat.le_of_ble_eq_true rfl⟩) hI hA rfl hl.1 (Nat.le_of_ble_eq_true rfl) dX12_tested_26 ⟨Nat.zero_le _, Nat.zero_le _⟩ (fun H locs hI => ?_)
          refine lv_aload_n hx hb dX12_tested_29 rfl (lv_at hl 0 rfl) ?_
          refine lv_ldc2 (v := 6385252) hx hb hown (hts (.constantLong RX12 213 (6385252)) (by decide +kernel)) dX12_tested_30 ?_
          obtain ⟨x17, hc18, hf⟩ := bnd_b hf
          refine mcall_i (As := [.long (6385252 : Int64)]) (rest := []) (n := 1) ⟨hx, hb, hml, hown, hts⟩ (cm_isWord l D h ad cy (6385252 : Int64) x15 x17 hc18 _) (cwV 1 hts gX12_tested_X12_isWord rfl rfl rfl ⟨rfl, nd_isWord⟩ ⟨Nat.le_of_ble_eq_true rfl, Nat.le_of_ble_eq_true rfl⟩) hI hA rfl hl.1 (Nat.le_of_ble_eq_true rfl) dX12_tested_33 ⟨Nat.zero_le _, Nat.zero_le _⟩ (fun H locs hI => ?_)
          refine lv_if_ne (tgt := 49) hx hb dX12_tested_36 (by decide) (fun c19 => ?_) (fun c19 => ?_)
          · replace hf := ifn c19 hf
            exact B_12_49  x17.1 H locs ls hI (lv_sub hl [0] rfl) hf
          · replace hf := ifp c19 hf
            refine lv_aload_n hx hb dX12_tested_39 rfl (lv_at hl 0 rfl) ?_
            refine lv_ldc2 (v := 28530) hx hb hown (hts (.constantLong RX12 215 (28530)) (by decide +kernel)) dX12_tested_40 ?_
            obtain ⟨x31, hc32, hf⟩ := bnd_b hf
            refine mcall_i (As := [.long (28530 : Int64)]) (rest := []) (n := 1) ⟨hx, hb, hml, hown, hts⟩ (cm_isWord l D h ad cy (28530 : Int64) x17.1 x31 hc32 _) (cwV 1 hts gX12_tested_X12_isWord rfl rfl rfl ⟨rfl, nd_isWord⟩ ⟨Nat.le_of_ble_eq_true rfl, Nat.le_of_ble_eq_true rfl⟩) hI hA rfl hl.1 (Nat.le_of_ble_eq_true rfl) dX12_tested_43 ⟨Nat.zero_le _, Nat.zero_le _⟩ (fun H locs hI => ?_)
            refine lv_if_eq (tgt := 53) hx hb dX12_tested_46 (by decide) (fun c33 => ?_) (fun c33 => ?_)
            · replace hf := ifp c33 hf
              refine lv_iconst (v := 0) hx hb dX12_tested_53 (by decide) ?_
              exact B_12_54_1 (0 : Int32) x31.1 H locs ls hI (lv_sub hl [0] rfl) hf
            · replace hf := ifn c33 hf
              exact B_12_49  x31.1 H locs ls hI (lv_sub hl [0] rfl) hf
        · replace hf := ifp c14 hf
          refine lv_iconst (v := 0) hx hb dX12_tested_23 (by decide) ?_
          replace hf := inl_b hK1 hf
          replace hf : Option.bind (some (x12.1, (0 : Int32))) K0 = some out := hf
          exact mret_z hx hb hr (by decide) hlocks hI (ret_e hK0 hf) dX12_tested_24
  unfold fm_tested at hf
  refine lv_aload_n hx hb dX12_tested_0 rfl (lv_at hl 0 rfl) ?_
  refine lv_iconst (v := 0) hx hb dX12_tested_1 (by decide) ?_
  refine mp_opened hx hb hts hin hown k_opened hI dX12_tested_2 (fun H locs hI => ?_)
  refine lv_aload_n hx hb dX12_tested_5 rfl (lv_at hl 0 rfl) ?_
  refine lv_iconst (v := 0) hx hb dX12_tested_6 (by decide) ?_
  refine mp_deep hx hb hts hin hown k_deep hI dX12_tested_7 (fun H locs hI => ?_)
  refine lv_iconst (v := 1) hx hb dX12_tested_10 (by decide) ?_
  refine lv_istore_n (lv' := [(1, .int (1 : Int32)), (0, .ref h)]) hx hb dX12_tested_11 rfl hl (by decide) rfl (fun ls hl => ?_)
  exact L_12  mFuel (1 : Int32) (msi (msi s0 22 (0 : Int32)) 19 (0 : Int32)) H locs ls hI (lv_sub hl [1, 0] rfl) (asc_b hf)
