theorem nd_value : yX12_value.cls ≠ "java/lang/invoke/MethodHandle" ∧ yX12_value.cls ≠ "java/lang/invoke/VarHandle" ∧ (parseMethodDescriptor yX12_value.desc).map (fun d => d.parameters.length) = some 0 := by decide +kernel
set_option maxHeartbeats 4000000 in
set_option maxRecDepth 100000 in
theorem cm_value (l : Launch) (D : va_G) (h : Nat) (ad : Nat → Nat) (cy : Nat → ClassId)  (s0 : MSt) (out : MSt × Int32) (hf : fm_value s0 = some out) (sz : Nat) : CMi l D h ad cy yX12_value wsX12_value { frames := 3, cells := 0, slots := 0, locals := 66 } [] s0 out sz := by
  refine Met.ofW (cc := cX12_value) (maxL := 3) (ret := (some .boolean)) (by decide) rfl ?_
  intro p e s m args below meth c s₁ B hml hv
  obtain ⟨rfl, hsz, hP, hK, hD0⟩ := hv
  have hx := B.exec
  have hb := B.bytes
  have hr := B.returns
  have hts := atoms_spec (ws := wsX12_value) B.pre
  have hown : s.vm.findClass RX12 = some m.cls := findClass_of_methodNamed B.named
  have hlocks := B.notSynchronized
  subst hsz
  have hI : MI D (MA h ad cy s0 s.heap.size) h ad cy s s.heap s0 s.heap [] := ⟨hK, hP, hD0.self, va_S.rf⟩
  have hA : ∀ q : Nat, s.heap.size ≤ q → MA h ad cy s0 s.heap.size q := fun q hq => Or.inr hq
  have hin : ∀ w ∈ u_ws RX12 TX12 42, w ∈ wsX12_value := fun w hw => List.mem_cons_of_mem _ (List.mem_append_right _ hw)
  have k_next : Cond.fieldLink RX12 103 "HalfBridgeModel" "next" "I" ∈ wsX12_value := by decide +kernel
  have k_number : Cond.fieldLink RX12 128 "HalfBridgeModel" "number" "I" ∈ wsX12_value := by decide +kernel
  have hl := lv_entry ([.ref h]) (n := 3) (Nat.le_of_ble_eq_true rfl)
  rw [lg_entry_eq]
  generalize (lg_sl ([.ref h]) ++ List.replicate (3 - (lg_sl ([.ref h])).length) Slot.unset).toArray = ls at hl ⊢
  have hl : lv_has ls 3 [(0, .ref h)] := hl
  obtain ⟨K0, hK0, hf⟩ := top_e hf
  unfold fm_value at hf
  refine lv_aload_n hx hb dX12_value_0 rfl (lv_at hl 0 rfl) ?_
  obtain ⟨x1, hc2, hf⟩ := bnd_b hf
  refine mcall_i (As := []) (rest := []) (n := 0) ⟨hx, hb, hml, hown, hts⟩ (cm_see l D h ad cy  s0 x1 hc2 _) (cwV 0 hts gX12_value_X12_see rfl rfl rfl ⟨rfl, nd_see⟩ ⟨Nat.le_of_ble_eq_true rfl, Nat.le_of_ble_eq_true rfl⟩) hI hA rfl hl.1 (Nat.le_of_ble_eq_true rfl) dX12_value_1 ⟨Nat.zero_le _, Nat.zero_le _⟩ (fun H locs hI => ?_)
  refine lv_pop hx hb dX12_value_4 rfl ?_
  refine lv_aload_n hx hb dX12_value_5 rfl (lv_at hl 0 rfl) ?_
  refine mg_next hx hb hts hin hown k_next hI dX12_value_6 ?_
  refine lv_istore_n (lv' := [(1, .int (x1.1.1 14)), (0, .ref h)]) hx hb dX12_value_9 rfl hl (by decide) rfl (fun ls hl => ?_)
  refine lv_aload_n hx hb dX12_value_10 rfl (lv_at hl 1 rfl) ?_
  refine lv_aload_n hx hb dX12_value_11 rfl (lv_at hl 1 rfl) ?_
  refine mg_next hx hb hts hin hown k_next hI dX12_value_12 ?_
  obtain ⟨x3, hc4, hf⟩ := bnd_b hf
  refine mcall_i (As := [.int (x1.1.1 14)]) (rest := []) (n := 1) ⟨hx, hb, hml, hown, hts⟩ (cm_isDigit l D h ad cy (x1.1.1 14) x1.1 x3 hc4 _) (cwV 1 hts gX12_value_X12_isDigit rfl rfl rfl ⟨rfl, nd_isDigit⟩ ⟨Nat.le_of_ble_eq_true rfl, Nat.le_of_ble_eq_true rfl⟩) hI hA rfl hl.1 (Nat.le_of_ble_eq_true rfl) dX12_value_15 ⟨Nat.zero_le _, Nat.zero_le _⟩ (fun H locs hI => ?_)
  refine lv_if_eq (tgt := 52) hx hb dX12_value_18 (by decide) (fun c5 => ?_) (fun c5 => ?_)
  · replace hf := ifp c5 hf
    refine lv_aload_n hx hb dX12_value_52 rfl (lv_at hl 1 rfl) ?_
    obtain ⟨x6, hc7, hf⟩ := bnd_b hf
    refine mcall_i (As := []) (rest := []) (n := 0) ⟨hx, hb, hml, hown, hts⟩ (cm_wordHere l D h ad cy  x3.1 x6 hc7 _) (cwV 0 hts gX12_value_X12_wordHere rfl rfl rfl ⟨rfl, nd_wordHere⟩ ⟨Nat.le_of_ble_eq_true rfl, Nat.le_of_ble_eq_true rfl⟩) hI hA rfl hl.1 (Nat.le_of_ble_eq_true rfl) dX12_value_53 ⟨Nat.zero_le _, Nat.zero_le _⟩ (fun H locs hI => ?_)
    refine lv_istore_n (lv' := [(2, .int x6.2), (1, .int (x1.1.1 14)), (0, .ref h)]) hx hb dX12_value_56 rfl hl (by decide) rfl (fun ls hl => ?_)
    refine lv_iload_n hx hb dX12_value_57 rfl (lv_at hl 0 rfl) ?_
    refine lv_if_ge (tgt := 68) hx hb dX12_value_58 (by decide) (fun c8 => ?_) (fun c8 => ?_)
    · replace hf := ifp c8 hf
      refine lv_aload_n hx hb dX12_value_68 rfl (lv_at hl 2 rfl) ?_
      refine lv_iload_n hx hb dX12_value_69 rfl (lv_at hl 1 rfl) ?_
      obtain ⟨x9, hc10, hf⟩ := bnd_b hf
      refine mcall_i (As := [.int (x1.1.1 14)]) (rest := []) (n := 1) ⟨hx, hb, hml, hown, hts⟩ (cm_makes l D h ad cy (x1.1.1 14) x6.1 x9 hc10 _) (cwV 1 hts gX12_value_X12_makes rfl rfl rfl ⟨rfl, nd_makes⟩ ⟨Nat.le_of_ble_eq_true rfl, Nat.le_of_ble_eq_true rfl⟩) hI hA rfl hl.1 (Nat.le_of_ble_eq_true rfl) dX12_value_70 ⟨Nat.zero_le _, Nat.zero_le _⟩ (fun H locs hI => ?_)
      refine lv_if_ne (tgt := 78) hx hb dX12_value_73 (by decide) (fun c11 => ?_) (fun c11 => ?_)
      · replace hf := ifn c11 hf
        refine lv_aload_n hx hb dX12_value_78 rfl (lv_at hl 2 rfl) ?_
        obtain ⟨x12, hc13, hf⟩ := bnd_b hf
        refine mcall_v (As := []) (rest := []) (n := 0) ⟨hx, hb, hml, hown, hts⟩ (cm_passWord l D h ad cy  x9.1 x12 hc13 _) (cwV 0 hts gX12_value_X12_passWord rfl rfl rfl ⟨rfl, nd_passWord⟩ ⟨Nat.le_of_ble_eq_true rfl, Nat.le_of_ble_eq_true rfl⟩) hI hA rfl hl.1 (Nat.le_of_ble_eq_true rfl) dX12_value_79 ⟨Nat.zero_le _, Nat.zero_le _⟩ (fun H locs hI => ?_)
        refine lv_aload_n hx hb dX12_value_82 rfl (lv_at hl 2 rfl) ?_
        refine lv_iconst (v := 1) hx hb dX12_value_83 (by decide) ?_
        refine lv_iload_n hx hb dX12_value_84 rfl (lv_at hl 0 rfl) ?_
        obtain ⟨x14, hc15, hf⟩ := bnd_b hf
        refine mcall_v (As := [.int (1 : Int32), .int x6.2]) (rest := []) (n := 2) ⟨hx, hb, hml, hown, hts⟩ (cm_puts l D h ad cy (1 : Int32) x6.2 x12 x14 hc15 _) (cwV 2 hts gX12_value_X12_puts rfl rfl rfl ⟨rfl, nd_puts⟩ ⟨Nat.le_of_ble_eq_true rfl, Nat.le_of_ble_eq_true rfl⟩) hI hA rfl hl.1 (Nat.le_of_ble_eq_true rfl) dX12_value_85 ⟨Nat.zero_le _, Nat.zero_le _⟩ (fun H locs hI => ?_)
        refine lv_iconst (v := 1) hx hb dX12_value_88 (by decide) ?_
        exact mret_z hx hb hr (by decide) hlocks hI (ret_e hK0 hf) dX12_value_89
      · replace hf := ifp c11 hf
        refine lv_iconst (v := 0) hx hb dX12_value_76 (by decide) ?_
        exact mret_z hx hb hr (by decide) hlocks hI (ret_e hK0 hf) dX12_value_77
    · replace hf := ifn c8 hf
      refine lv_aload_n hx hb dX12_value_61 rfl (lv_at hl 2 rfl) ?_
      refine lv_iconst (v := 0) hx hb dX12_value_62 (by decide) ?_
      refine lv_iload_n hx hb dX12_value_63 rfl (lv_at hl 1 rfl) ?_
      obtain ⟨x16, hc17, hf⟩ := bnd_b hf
      refine mcall_i (As := [.int (0 : Int32), .int (x1.1.1 14)]) (rest := []) (n := 2) ⟨hx, hb, hml, hown, hts⟩ (cm_fails l D h ad cy (0 : Int32) (x1.1.1 14) x6.1 x16 hc17 _) (cwV 2 hts gX12_value_X12_fails rfl rfl rfl ⟨rfl, nd_fails⟩ ⟨Nat.le_of_ble_eq_true rfl, Nat.le_of_ble_eq_true rfl⟩) hI hA rfl hl.1 (Nat.le_of_ble_eq_true rfl) dX12_value_64 ⟨Nat.zero_le _, Nat.zero_le _⟩ (fun H locs hI => ?_)
      obtain ⟨k18, hf⟩ := chk_b hf
      exact mret_z hx hb hr (isb_nar k18) hlocks hI (ret_e hK0 hf) dX12_value_67
  · replace hf := ifn c5 hf
    refine lv_aload_n hx hb dX12_value_21 rfl (lv_at hl 1 rfl) ?_
    refine lv_iconst (v := 0) hx hb dX12_value_22 (by decide) ?_
    refine lv_ldc (v := 99999) hx hb hown (hts (.constant RX12 173 (99999)) (by decide +kernel)) dX12_value_23 ?_
    obtain ⟨x19, hc20, hf⟩ := bnd_b hf
    refine mcall_i (As := [.int (0 : Int32), .int (99999 : Int32)]) (rest := []) (n := 2) ⟨hx, hb, hml, hown, hts⟩ (cm_numberHere l D h ad cy (0 : Int32) (99999 : Int32) x3.1 x19 hc20 _) (cwV 2 hts gX12_value_X12_numberHere rfl rfl rfl ⟨rfl, nd_numberHere⟩ ⟨Nat.le_of_ble_eq_true rfl, Nat.le_of_ble_eq_true rfl⟩) hI hA rfl hl.1 (Nat.le_of_ble_eq_true rfl) dX12_value_25 ⟨Nat.zero_le _, Nat.zero_le _⟩ (fun H locs hI => ?_)
    refine lv_if_eq (tgt := 39) hx hb dX12_value_28 (by decide) (fun c21 => ?_) (fun c21 => ?_)
    · replace hf := ifp c21 hf
      refine lv_iconst (v := 0) hx hb dX12_value_39 (by decide) ?_
      exact mret_z hx hb hr (by decide) hlocks hI (ret_e hK0 hf) dX12_value_40
    · replace hf := ifn c21 hf
      refine lv_aload_n hx hb dX12_value_31 rfl (lv_at hl 1 rfl) ?_
      refine lv_iload_n hx hb dX12_value_32 rfl (lv_at hl 0 rfl) ?_
      obtain ⟨x22, hc23, hf⟩ := bnd_b hf
      refine mcall_i (As := [.int (x1.1.1 14)]) (rest := []) (n := 1) ⟨hx, hb, hml, hown, hts⟩ (cm_makes l D h ad cy (x1.1.1 14) x19.1 x22 hc23 _) (cwV 1 hts gX12_value_X12_makes rfl rfl rfl ⟨rfl, nd_makes⟩ ⟨Nat.le_of_ble_eq_true rfl, Nat.le_of_ble_eq_true rfl⟩) hI hA rfl hl.1 (Nat.le_of_ble_eq_true rfl) dX12_value_33 ⟨Nat.zero_le _, Nat.zero_le _⟩ (fun H locs hI => ?_)
      refine lv_if_ne (tgt := 41) hx hb dX12_value_36 (by decide) (fun c24 => ?_) (fun c24 => ?_)
      · replace hf := ifn c24 hf
        refine lv_aload_n hx hb dX12_value_41 rfl (lv_at hl 1 rfl) ?_
        refine lv_iconst (v := 0) hx hb dX12_value_42 (by decide) ?_
        refine lv_aload_n hx hb dX12_value_43 rfl (lv_at hl 1 rfl) ?_
        refine mg_number hx hb hts hin hown k_number hI dX12_value_44 ?_
        obtain ⟨x25, hc26, hf⟩ := bnd_b hf
        refine mcall_v (As := [.int (0 : Int32), .int (x22.1.1 16)]) (rest := []) (n := 2) ⟨hx, hb, hml, hown, hts⟩ (cm_puts l D h ad cy (0 : Int32) (x22.1.1 16) x22.1 x25 hc26 _) (cwV 2 hts gX12_value_X12_puts rfl rfl rfl ⟨rfl, nd_puts⟩ ⟨Nat.le_of_ble_eq_true rfl, Nat.le_of_ble_eq_true rfl⟩) hI hA rfl hl.1 (Nat.le_of_ble_eq_true rfl) dX12_value_47 ⟨Nat.zero_le _, Nat.zero_le _⟩ (fun H locs hI => ?_)
        refine lv_iconst (v := 1) hx hb dX12_value_50 (by decide) ?_
        exact mret_z hx hb hr (by decide) hlocks hI (ret_e hK0 hf) dX12_value_51
      · replace hf := ifp c24 hf
        refine lv_iconst (v := 0) hx hb dX12_value_39 (by decide) ?_
        exact mret_z hx hb hr (by decide) hlocks hI (ret_e hK0 hf) dX12_value_40

theorem nd_term : yX12_term.cls ≠ "java/lang/invoke/MethodHandle" ∧ yX12_term.cls ≠ "java/lang/invoke/VarHandle" ∧ (parseMethodDescriptor yX12_term.desc).map (fun d => d.parameters.length) = some 0 := by decide +kernel
set_option maxHeartbeats 4000000 in
set_option maxRecDepth 100000 in
theorem cm_term (l : Launch) (D : va_G) (h : Nat) (ad : Nat → Nat) (cy : Nat → ClassId)  (s0 : MSt) (out : MSt × Int32) (hf : fm_term s0 = some out) (sz : Nat) : CMi l D h ad cy yX12_term wsX12_term { frames := 4, cells := 0, slots := 0, locals := 88 } [] s0 out sz := by
  refine Met.ofW (cc := cX12_term) (maxL := 2) (ret := (some .boolean)) (by decide) rfl ?_
  intro p e s m args below meth c s₁ B hml hv
  obtain ⟨rfl, hsz, hP, hK, hD0⟩ := hv
  have hx := B.exec
  have hb := B.bytes
  have hr := B.returns
  have hts := atoms_spec (ws := wsX12_term) B.pre
  have hown : s.vm.findClass RX12 = some m.cls := findClass_of_methodNamed B.named
  have hlocks := B.notSynchronized
  subst hsz
  have hI : MI D (MA h ad cy s0 s.heap.size) h ad cy s s.heap s0 s.heap [] := ⟨hK, hP, hD0.self, va_S.rf⟩
  have hA : ∀ q : Nat, s.heap.size ≤ q → MA h ad cy s0 s.heap.size q := fun q hq => Or.inr hq
  have hin : ∀ w ∈ u_ws RX12 TX12 42, w ∈ wsX12_term := fun w hw => List.mem_cons_of_mem _ (List.mem_append_right _ hw)
  have k_next : Cond.fieldLink RX12 103 "HalfBridgeModel" "next" "I" ∈ wsX12_term := by decide +kernel
  have k_tape : Cond.fieldLink RX12 7 "HalfBridgeModel" "tape" "[B" ∈ wsX12_term := by decide +kernel
  have hl := lv_entry ([.ref h]) (n := 2) (Nat.le_of_ble_eq_true rfl)
  rw [lg_entry_eq]
  generalize (lg_sl ([.ref h]) ++ List.replicate (2 - (lg_sl ([.ref h])).length) Slot.unset).toArray = ls at hl ⊢
  have hl : lv_has ls 2 [(0, .ref h)] := hl
  obtain ⟨K0, hK0, hf⟩ := top_e hf
  have B_75 : ∀   (st : MSt) (H : Heap) (locs : List Loc) (ls : Array Slot), MI D (MA h ad cy s0 s.heap.size) h ad cy s s.heap st H locs → lv_has ls 2 [] → (fm_term_j75 st).bind K0 = some out → W p l e (headSpec wsX12_term { frames := 4, cells := 0, slots := 0, locals := 88 }).room s m (([.ref h] : List Value).toArray) below meth c H locs 0 0 (MQ below (MQi D h ad cy s0 out s.heap.size) ([.ref h] : List Value).toArray s 0 0 (MA h ad cy s0 s.heap.size)) (F0 m 75 ls []) := by
    intro st H locs ls hI hl hf
    unfold fm_term_j75 at hf
    refine lv_iconst (v := 1) hx hb dX12_term_75 (by decide) ?_
    exact mret_z hx hb hr (by decide) hlocks hI (ret_e hK0 hf) dX12_term_76
  have L_9 : ∀  (n : Nat)  (st : MSt) (H : Heap) (locs : List Loc) (ls : Array Slot), MI D (MA h ad cy s0 s.heap.size) h ad cy s s.heap st H locs → lv_has ls 2 [(0, .ref h)] → (iter (fun x : (MSt) => fm_term_s9 x) n st).bind (fun x => ((Sum.elim (fun o : MSt × Int32 => (some o : Option (MSt × Int32))) (fun x : (MSt) => fm_term_j75 x)) x).bind K0) = some out → W p l e (headSpec wsX12_term { frames := 4, cells := 0, slots := 0, locals := 88 }).room s m (([.ref h] : List Value).toArray) below meth c H locs 0 0 (MQ below (MQi D h ad cy s0 out s.heap.size) ([.ref h] : List Value).toArray s 0 0 (MA h ad cy s0 s.heap.size)) (F0 m 9 ls []) := by
    intro n
    induction n with
    | zero => intro st H locs ls hI hl hf; exact (iter_0 hf).elim
    | succ n ih =>
      intro st H locs ls hI hl hf
      obtain ⟨K1, hK1, hf⟩ := iter_e hf
      replace hf : (fm_term_s9 st).bind K1 = some out := hf
      have B_9_46_1 : ∀  (t0 : Int32) (st : MSt) (H : Heap) (locs : List Loc) (ls : Array Slot), MI D (MA h ad cy s0 s.heap.size) h ad cy s s.heap st H locs → lv_has ls 2 [(0, .ref h)] → (fm_term_j46 t0 st).bind K1 = some out → W p l e (headSpec wsX12_term { frames := 4, cells := 0, slots := 0, locals := 88 }).room s m (([.ref h] : List Value).toArray) below meth c H locs 0 0 (MQ below (MQi D h ad cy s0 out s.heap.size) ([.ref h] : List Value).toArray s 0 0 (MA h ad cy s0 s.heap.size)) (F0 m 46 ls [.int t0]) := by
        intro t0 st H locs ls hI hl hf
        unfold fm_term_j46 at hf
        refine lv_istore_n (lv' := [(1, .int t0), (0, .ref h)]) hx hb dX12_term_46 rfl hl (by decide) rfl (fun ls hl => ?_)
        refine lv_aload_n hx hb dX12_term_47 rfl (lv_at hl 1 rfl) ?_
        refine lv_dup hx hb dX12_term_48 rfl ?_
        refine mg_next hx hb hts hin hown k_next hI dX12_term_49 ?_
        refine lv_iconst (v := 1) hx hb dX12_term_52 (by decide) ?_
        refine lv_iadd hx hb dX12_term_53 ?_
        refine mp_next hx hb hts hin hown k_next hI dX12_term_54 (fun H locs hI => ?_)
        refine lv_aload_n hx hb dX12_term_57 rfl (lv_at hl 1 rfl) ?_
        obtain ⟨x9, hc10, hf⟩ := bnd_b hf
        refine mcall_i (As := []) (rest := []) (n := 0) ⟨hx, hb, hml, hown, hts⟩ (cm_value l D h ad cy  (msi st 14 ((st.1 14) + (1 : Int32))) x9 hc10 _) (cwV 0 hts gX12_term_X12_value rfl rfl rfl ⟨rfl, nd_value⟩ ⟨Nat.le_of_ble_eq_true rfl, Nat.le_of_ble_eq_true rfl⟩) hI hA rfl hl.1 (Nat.le_of_ble_eq_true rfl) dX12_term_58 ⟨Nat.zero_le _, Nat.zero_le _⟩ (fun H locs hI => ?_)
        refine lv_if_ne (tgt := 66) hx hb dX12_term_61 (by decide) (fun c11 => ?_) (fun c11 => ?_)
        · replace hf := ifn c11 hf
          refine lv_aload_n hx hb dX12_term_66 rfl (lv_at hl 1 rfl) ?_
          refine lv_iload_n hx hb dX12_term_67 rfl (lv_at hl 0 rfl) ?_
          refine lv_iconst (v := 0) hx hb dX12_term_68 (by decide) ?_
          obtain ⟨x12, hc13, hf⟩ := bnd_b hf
          refine mcall_v (As := [.int t0, .int (0 : Int32)]) (rest := []) (n := 2) ⟨hx, hb, hml, hown, hts⟩ (cm_puts l D h ad cy t0 (0 : Int32) x9.1 x12 hc13 _) (cwV 2 hts gX12_term_X12_puts rfl rfl rfl ⟨rfl, nd_puts⟩ ⟨Nat.le_of_ble_eq_true rfl, Nat.le_of_ble_eq_true rfl⟩) hI hA rfl hl.1 (Nat.le_of_ble_eq_true rfl) dX12_term_69 ⟨Nat.zero_le _, Nat.zero_le _⟩ (fun H locs hI => ?_)
          refine lv_goto (tgt := 9) hx hb dX12_term_72 (by decide) ?_
          replace hf := cont_b hK1 hf
          exact ih x12 H locs ls hI (lv_sub hl [1] rfl) hf
        · replace hf := ifp c11 hf
          refine lv_iconst (v := 0) hx hb dX12_term_64 (by decide) ?_
          replace hf := inl_b hK1 hf
          replace hf : Option.bind (some (x9.1, (0 : Int32))) K0 = some out := hf
          exact mret_z hx hb hr (by decide) hlocks hI (ret_e hK0 hf) dX12_term_65
      have B_9_27 : ∀   (st : MSt) (H : Heap) (locs : List Loc) (ls : Array Slot), MI D (MA h ad cy s0 s.heap.size) h ad cy s s.heap st H locs → lv_has ls 2 [(0, .ref h)] → (fm_term_j27 st).bind K1 = some out → W p l e (headSpec wsX12_term { frames := 4, cells := 0, slots := 0, locals := 88 }).room s m (([.ref h] : List Value).toArray) below meth c H locs 0 0 (MQ below (MQi D h ad cy s0 out s.heap.size) ([.ref h] : List Value).toArray s 0 0 (MA h ad cy s0 s.heap.size)) (F0 m 27 ls []) := by
        intro st H locs ls hI hl hf
        unfold fm_term_j27 at hf
        refine lv_aload_n hx hb dX12_term_27 rfl (lv_at hl 0 rfl) ?_
        refine mg_tape hx hb hts hin hown k_tape hI dX12_term_28 ?_
        refine lv_aload_n hx hb dX12_term_31 rfl (lv_at hl 0 rfl) ?_
        refine mg_next hx hb hts hin hown k_next hI dX12_term_32 ?_
        obtain ⟨k7, hf⟩ := chk_b hf
        refine ml_tape hx hb hI k7 dX12_term_35 ?_
        refine lv_bipush (v := 42) hx hb dX12_term_36 (by decide) ?_
        refine lv_icmp_ne (tgt := 45) hx hb dX12_term_38 (by decide) (fun c8 => ?_) (fun c8 => ?_)
        · replace hf := ifn c8 hf
          refine lv_iconst (v := 5) hx hb dX12_term_45 (by decide) ?_
          exact B_9_46_1 (5 : Int32) st H locs ls hI (lv_sub hl [0] rfl) hf
        · replace hf := ifp c8 hf
          refine lv_iconst (v := 4) hx hb dX12_term_41 (by decide) ?_
          refine lv_goto (tgt := 46) hx hb dX12_term_42 (by decide) ?_
          exact B_9_46_1 (4 : Int32) st H locs ls hI (lv_sub hl [0] rfl) hf
      unfold fm_term_s9 at hf
      refine lv_aload_n hx hb dX12_term_9 rfl (lv_at hl 0 rfl) ?_
      obtain ⟨x4, hc5, hf⟩ := bnd_b hf
      refine mcall_i (As := []) (rest := []) (n := 0) ⟨hx, hb, hml, hown, hts⟩ (cm_see l D h ad cy  st x4 hc5 _) (cwV 0 hts gX12_term_X12_see rfl rfl rfl ⟨rfl, nd_see⟩ ⟨Nat.le_of_ble_eq_true rfl, Nat.le_of_ble_eq_true rfl⟩) hI hA rfl hl.1 (Nat.le_of_ble_eq_true rfl) dX12_term_10 ⟨Nat.zero_le _, Nat.zero_le _⟩ (fun H locs hI => ?_)
      refine lv_bipush (v := 42) hx hb dX12_term_13 (by decide) ?_
      refine lv_icmp_eq (tgt := 27) hx hb dX12_term_15 (by decide) (fun c6 => ?_) (fun c6 => ?_)
      · replace hf := ifp c6 hf
        exact B_9_27  x4.1 H locs ls hI (lv_sub hl [0] rfl) hf
      · replace hf := ifn c6 hf
        refine lv_aload_n hx hb dX12_term_18 rfl (lv_at hl 0 rfl) ?_
        obtain ⟨x14, hc15, hf⟩ := bnd_b hf
        refine mcall_i (As := []) (rest := []) (n := 0) ⟨hx, hb, hml, hown, hts⟩ (cm_see l D h ad cy  x4.1 x14 hc15 _) (cwV 0 hts gX12_term_X12_see rfl rfl rfl ⟨rfl, nd_see⟩ ⟨Nat.le_of_ble_eq_true rfl, Nat.le_of_ble_eq_true rfl⟩) hI hA rfl hl.1 (Nat.le_of_ble_eq_true rfl) dX12_term_19 ⟨Nat.zero_le _, Nat.zero_le _⟩ (fun H locs hI => ?_)
        refine lv_bipush (v := 47) hx hb dX12_term_22 (by decide) ?_
        refine lv_icmp_ne (tgt := 75) hx hb dX12_term_24 (by decide) (fun c16 => ?_) (fun c16 => ?_)
        · replace hf := ifn c16 hf
          replace hf := exit_b hK1 hf
          exact B_75  x14.1 H locs ls hI (lv_sub hl [] rfl) hf
        · replace hf := ifp c16 hf
          exact B_9_27  x14.1 H locs ls hI (lv_sub hl [0] rfl) hf
  unfold fm_term at hf
  refine lv_aload_n hx hb dX12_term_0 rfl (lv_at hl 0 rfl) ?_
  obtain ⟨x1, hc2, hf⟩ := bnd_b hf
  refine mcall_i (As := []) (rest := []) (n := 0) ⟨hx, hb, hml, hown, hts⟩ (cm_value l D h ad cy  s0 x1 hc2 _) (cwV 0 hts gX12_term_X12_value rfl rfl rfl ⟨rfl, nd_value⟩ ⟨Nat.le_of_ble_eq_true rfl, Nat.le_of_ble_eq_true rfl⟩) hI hA rfl hl.1 (Nat.le_of_ble_eq_true rfl) dX12_term_1 ⟨Nat.zero_le _, Nat.zero_le _⟩ (fun H locs hI => ?_)
  refine lv_if_ne (tgt := 9) hx hb dX12_term_4 (by decide) (fun c3 => ?_) (fun c3 => ?_)
  · replace hf := ifn c3 hf
    exact L_9  mFuel x1.1 H locs ls hI (lv_sub hl [0] rfl) (asc_b hf)
  · replace hf := ifp c3 hf
    refine lv_iconst (v := 0) hx hb dX12_term_7 (by decide) ?_
    exact mret_z hx hb hr (by decide) hlocks hI (ret_e hK0 hf) dX12_term_8

theorem nd_sum : yX12_sum.cls ≠ "java/lang/invoke/MethodHandle" ∧ yX12_sum.cls ≠ "java/lang/invoke/VarHandle" ∧ (parseMethodDescriptor yX12_sum.desc).map (fun d => d.parameters.length) = some 0 := by decide +kernel
set_option maxHeartbeats 4000000 in
set_option maxRecDepth 100000 in
theorem cm_sum (l : Launch) (D : va_G) (h : Nat) (ad : Nat → Nat) (cy : Nat → ClassId)  (s0 : MSt) (out : MSt × Int32) (hf : fm_sum s0 = some out) (sz : Nat) : CMi l D h ad cy yX12_sum wsX12_sum { frames := 5, cells := 0, slots := 0, locals := 109 } [] s0 out sz := by
  refine Met.ofW (cc := cX12_sum) (maxL := 2) (ret := (some .boolean)) (by decide) rfl ?_
  intro p e s m args below meth c s₁ B hml hv
  obtain ⟨rfl, hsz, hP, hK, hD0⟩ := hv
  have hx := B.exec
  have hb := B.bytes
  have hr := B.returns
  have hts := atoms_spec (ws := wsX12_sum) B.pre
  have hown : s.vm.findClass RX12 = some m.cls := findClass_of_methodNamed B.named
  have hlocks := B.notSynchronized
  subst hsz
  have hI : MI D (MA h ad cy s0 s.heap.size) h ad cy s s.heap s0 s.heap [] := ⟨hK, hP, hD0.self, va_S.rf⟩
  have hA : ∀ q : Nat, s.heap.size ≤ q → MA h ad cy s0 s.heap.size q := fun q hq => Or.inr hq
  have hin : ∀ w ∈ u_ws RX12 TX12 42, w ∈ wsX12_sum := fun w hw => List.mem_cons_of_mem _ (List.mem_append_right _ hw)
  have k_next : Cond.fieldLink RX12 103 "HalfBridgeModel" "next" "I" ∈ wsX12_sum := by decide +kernel
  have k_tape : Cond.fieldLink RX12 7 "HalfBridgeModel" "tape" "[B" ∈ wsX12_sum := by decide +kernel
  have hl := lv_entry ([.ref h]) (n := 2) (Nat.le_of_ble_eq_true rfl)
  rw [lg_entry_eq]
  generalize (lg_sl ([.ref h]) ++ List.replicate (2 - (lg_sl ([.ref h])).length) Slot.unset).toArray = ls at hl ⊢
  have hl : lv_has ls 2 [(0, .ref h)] := hl
  obtain ⟨K0, hK0, hf⟩ := top_e hf
  have B_75 : ∀   (st : MSt) (H : Heap) (locs : List Loc) (ls : Array Slot), MI D (MA h ad cy s0 s.heap.size) h ad cy s s.heap st H locs → lv_has ls 2 [] → (fm_sum_j75 st).bind K0 = some out → W p l e (headSpec wsX12_sum { frames := 5, cells := 0, slots := 0, locals := 109 }).room s m (([.ref h] : List Value).toArray) below meth c H locs 0 0 (MQ below (MQi D h ad cy s0 out s.heap.size) ([.ref h] : List Value).toArray s 0 0 (MA h ad cy s0 s.heap.size)) (F0 m 75 ls []) := by
    intro st H locs ls hI hl hf
    unfold fm_sum_j75 at hf
    refine lv_iconst (v := 1) hx hb dX12_sum_75 (by decide) ?_
    exact mret_z hx hb hr (by decide) hlocks hI (ret_e hK0 hf) dX12_sum_76
  have L_9 : ∀  (n : Nat)  (st : MSt) (H : Heap) (locs : List Loc) (ls : Array Slot), MI D (MA h ad cy s0 s.heap.size) h ad cy s s.heap st H locs → lv_has ls 2 [(0, .ref h)] → (iter (fun x : (MSt) => fm_sum_s9 x) n st).bind (fun x => ((Sum.elim (fun o : MSt × Int32 => (some o : Option (MSt × Int32))) (fun x : (MSt) => fm_sum_j75 x)) x).bind K0) = some out → W p l e (headSpec wsX12_sum { frames := 5, cells := 0, slots := 0, locals := 109 }).room s m (([.ref h] : List Value).toArray) below meth c H locs 0 0 (MQ below (MQi D h ad cy s0 out s.heap.size) ([.ref h] : List Value).toArray s 0 0 (MA h ad cy s0 s.heap.size)) (F0 m 9 ls []) := by
    intro n
    induction n with
    | zero => intro st H locs ls hI hl hf; exact (iter_0 hf).elim
    | succ n ih =>
      intro st H locs ls hI hl hf
      obtain ⟨K1, hK1, hf⟩ := iter_e hf
      replace hf : (fm_sum_s9 st).bind K1 = some out := hf
      have B_9_46_1 : ∀  (t0 : Int32) (st : MSt) (H : Heap) (locs : List Loc) (ls : Array Slot), MI D (MA h ad cy s0 s.heap.size) h ad cy s s.heap st H locs → lv_has ls 2 [(0, .ref h)] → (fm_sum_j46 t0 st).bind K1 = some out → W p l e (headSpec wsX12_sum { frames := 5, cells := 0, slots := 0, locals := 109 }).room s m (([.ref h] : List Value).toArray) below meth c H locs 0 0 (MQ below (MQi D h ad cy s0 out s.heap.size) ([.ref h] : List Value).toArray s 0 0 (MA h ad cy s0 s.heap.size)) (F0 m 46 ls [.int t0]) := by
        intro t0 st H locs ls hI hl hf
        unfold fm_sum_j46 at hf
        refine lv_istore_n (lv' := [(1, .int t0), (0, .ref h)]) hx hb dX12_sum_46 rfl hl (by decide) rfl (fun ls hl => ?_)
        refine lv_aload_n hx hb dX12_sum_47 rfl (lv_at hl 1 rfl) ?_
        refine lv_dup hx hb dX12_sum_48 rfl ?_
        refine mg_next hx hb hts hin hown k_next hI dX12_sum_49 ?_
        refine lv_iconst (v := 1) hx hb dX12_sum_52 (by decide) ?_
        refine lv_iadd hx hb dX12_sum_53 ?_
        refine mp_next hx hb hts hin hown k_next hI dX12_sum_54 (fun H locs hI => ?_)
        refine lv_aload_n hx hb dX12_sum_57 rfl (lv_at hl 1 rfl) ?_
        obtain ⟨x9, hc10, hf⟩ := bnd_b hf
        refine mcall_i (As := []) (rest := []) (n := 0) ⟨hx, hb, hml, hown, hts⟩ (cm_term l D h ad cy  (msi st 14 ((st.1 14) + (1 : Int32))) x9 hc10 _) (cwV 0 hts gX12_sum_X12_term rfl rfl rfl ⟨rfl, nd_term⟩ ⟨Nat.le_of_ble_eq_true rfl, Nat.le_of_ble_eq_true rfl⟩) hI hA rfl hl.1 (Nat.le_of_ble_eq_true rfl) dX12_sum_58 ⟨Nat.zero_le _, Nat.zero_le _⟩ (fun H locs hI => ?_)
        refine lv_if_ne (tgt := 66) hx hb dX12_sum_61 (by decide) (fun c11 => ?_) (fun c11 => ?_)
        · replace hf := ifn c11 hf
          refine lv_aload_n hx hb dX12_sum_66 rfl (lv_at hl 1 rfl) ?_
          refine lv_iload_n hx hb dX12_sum_67 rfl (lv_at hl 0 rfl) ?_
          refine lv_iconst (v := 0) hx hb dX12_sum_68 (by decide) ?_
          obtain ⟨x12, hc13, hf⟩ := bnd_b hf
          refine mcall_v (As := [.int t0, .int (0 : Int32)]) (rest := []) (n := 2) ⟨hx, hb, hml, hown, hts⟩ (cm_puts l D h ad cy t0 (0 : Int32) x9.1 x12 hc13 _) (cwV 2 hts gX12_sum_X12_puts rfl rfl rfl ⟨rfl, nd_puts⟩ ⟨Nat.le_of_ble_eq_true rfl, Nat.le_of_ble_eq_true rfl⟩) hI hA rfl hl.1 (Nat.le_of_ble_eq_true rfl) dX12_sum_69 ⟨Nat.zero_le _, Nat.zero_le _⟩ (fun H locs hI => ?_)
          refine lv_goto (tgt := 9) hx hb dX12_sum_72 (by decide) ?_
          replace hf := cont_b hK1 hf
          exact ih x12 H locs ls hI (lv_sub hl [1] rfl) hf
        · replace hf := ifp c11 hf
          refine lv_iconst (v := 0) hx hb dX12_sum_64 (by decide) ?_
          replace hf := inl_b hK1 hf
          replace hf : Option.bind (some (x9.1, (0 : Int32))) K0 = some out := hf
          exact mret_z hx hb hr (by decide) hlocks hI (ret_e hK0 hf) dX12_sum_65
      have B_9_27 : ∀   (st : MSt) (H : Heap) (locs : List Loc) (ls : Array Slot), MI D (MA h ad cy s0 s.heap.size) h ad cy s s.heap st H locs → lv_has ls 2 [(0, .ref h)] → (fm_sum_j27 st).bind K1 = some out → W p l e (headSpec wsX12_sum { frames := 5, cells := 0, slots := 0, locals := 109 }).room s m (([.ref h] : List Value).toArray) below meth c H locs 0 0 (MQ below (MQi D h ad cy s0 out s.heap.size) ([.ref h] : List Value).toArray s 0 0 (MA h ad cy s0 s.heap.size)) (F0 m 27 ls []) := by
        intro st H locs ls hI hl hf
        unfold fm_sum_j27 at hf
        refine lv_aload_n hx hb dX12_sum_27 rfl (lv_at hl 0 rfl) ?_
        refine mg_tape hx hb hts hin hown k_tape hI dX12_sum_28 ?_
        refine lv_aload_n hx hb dX12_sum_31 rfl (lv_at hl 0 rfl) ?_
        refine mg_next hx hb hts hin hown k_next hI dX12_sum_32 ?_
        obtain ⟨k7, hf⟩ := chk_b hf
        refine ml_tape hx hb hI k7 dX12_sum_35 ?_
        refine lv_bipush (v := 43) hx hb dX12_sum_36 (by decide) ?_
        refine lv_icmp_ne (tgt := 45) hx hb dX12_sum_38 (by decide) (fun c8 => ?_) (fun c8 => ?_)
        · replace hf := ifn c8 hf
          refine lv_iconst (v := 3) hx hb dX12_sum_45 (by decide) ?_
          exact B_9_46_1 (3 : Int32) st H locs ls hI (lv_sub hl [0] rfl) hf
        · replace hf := ifp c8 hf
          refine lv_iconst (v := 2) hx hb dX12_sum_41 (by decide) ?_
          refine lv_goto (tgt := 46) hx hb dX12_sum_42 (by decide) ?_
          exact B_9_46_1 (2 : Int32) st H locs ls hI (lv_sub hl [0] rfl) hf
      unfold fm_sum_s9 at hf
      refine lv_aload_n hx hb dX12_sum_9 rfl (lv_at hl 0 rfl) ?_
      obtain ⟨x4, hc5, hf⟩ := bnd_b hf
      refine mcall_i (As := []) (rest := []) (n := 0) ⟨hx, hb, hml, hown, hts⟩ (cm_see l D h ad cy  st x4 hc5 _) (cwV 0 hts gX12_sum_X12_see rfl rfl rfl ⟨rfl, nd_see⟩ ⟨Nat.le_of_ble_eq_true rfl, Nat.le_of_ble_eq_true rfl⟩) hI hA rfl hl.1 (Nat.le_of_ble_eq_true rfl) dX12_sum_10 ⟨Nat.zero_le _, Nat.zero_le _⟩ (fun H locs hI => ?_)
      refine lv_bipush (v := 43) hx hb dX12_sum_13 (by decide) ?_
      refine lv_icmp_eq (tgt := 27) hx hb dX12_sum_15 (by decide) (fun c6 => ?_) (fun c6 => ?_)
      · replace hf := ifp c6 hf
        exact B_9_27  x4.1 H locs ls hI (lv_sub hl [0] rfl) hf
      · replace hf := ifn c6 hf
        refine lv_aload_n hx hb dX12_sum_18 rfl (lv_at hl 0 rfl) ?_
        obtain ⟨x14, hc15, hf⟩ := bnd_b hf
        refine mcall_i (As := []) (rest := []) (n := 0) ⟨hx, hb, hml, hown, hts⟩ (cm_see l D h ad cy  x4.1 x14 hc15 _) (cwV 0 hts gX12_sum_X12_see rfl rfl rfl ⟨rfl, nd_see⟩ ⟨Nat.le_of_ble_eq_true rfl, Nat.le_of_ble_eq_true rfl⟩) hI hA rfl hl.1 (Nat.le_of_ble_eq_true rfl) dX12_sum_19 ⟨Nat.zero_le _, Nat.zero_le _⟩ (fun H locs hI => ?_)
        refine lv_bipush (v := 45) hx hb dX12_sum_22 (by decide) ?_
        refine lv_icmp_ne (tgt := 75) hx hb dX12_sum_24 (by decide) (fun c16 => ?_) (fun c16 => ?_)
        · replace hf := ifn c16 hf
          replace hf := exit_b hK1 hf
          exact B_75  x14.1 H locs ls hI (lv_sub hl [] rfl) hf
        · replace hf := ifp c16 hf
          exact B_9_27  x14.1 H locs ls hI (lv_sub hl [0] rfl) hf
  unfold fm_sum at hf
  refine lv_aload_n hx hb dX12_sum_0 rfl (lv_at hl 0 rfl) ?_
  obtain ⟨x1, hc2, hf⟩ := bnd_b hf
  refine mcall_i (As := []) (rest := []) (n := 0) ⟨hx, hb, hml, hown, hts⟩ (cm_term l D h ad cy  s0 x1 hc2 _) (cwV 0 hts gX12_sum_X12_term rfl rfl rfl ⟨rfl, nd_term⟩ ⟨Nat.le_of_ble_eq_true rfl, Nat.le_of_ble_eq_true rfl⟩) hI hA rfl hl.1 (Nat.le_of_ble_eq_true rfl) dX12_sum_1 ⟨Nat.zero_le _, Nat.zero_le _⟩ (fun H locs hI => ?_)
  refine lv_if_ne (tgt := 9) hx hb dX12_sum_4 (by decide) (fun c3 => ?_) (fun c3 => ?_)
  · replace hf := ifn c3 hf
    exact L_9  mFuel x1.1 H locs ls hI (lv_sub hl [0] rfl) (asc_b hf)
  · replace hf := ifp c3 hf
    refine lv_iconst (v := 0) hx hb dX12_sum_7 (by decide) ?_
    exact mret_z hx hb hr (by decide) hlocks hI (ret_e hK0 hf) dX12_sum_8
