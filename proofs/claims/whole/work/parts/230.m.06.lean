theorem nd_isDoingHere : yX12_isDoingHere.cls ≠ "java/lang/invoke/MethodHandle" ∧ yX12_isDoingHere.cls ≠ "java/lang/invoke/VarHandle" ∧ (parseMethodDescriptor yX12_isDoingHere.desc).map (fun d => d.parameters.length) = some 1 := by decide +kernel
set_option maxHeartbeats 4000000 in
set_option maxRecDepth 100000 in
theorem cm_isDoingHere (l : Launch) (D : va_G) (h : Nat) (ad : Nat → Nat) (cy : Nat → ClassId) (a1 : Int32) (s0 : MSt) (out : MSt × Int32) (hf : fm_isDoingHere a1 s0 = some out) (sz : Nat) : CMi l D h ad cy yX12_isDoingHere wsX12_isDoingHere { frames := 9, cells := 0, slots := 0, locals := 198 } [.int a1] s0 out sz := by
  refine Met.ofW (cc := cX12_isDoingHere) (maxL := 3) (ret := (some .boolean)) (by decide) rfl ?_
  intro p e s m args below meth c s₁ B hml hv
  obtain ⟨rfl, hsz, hP, hK, hD0⟩ := hv
  have hx := B.exec
  have hb := B.bytes
  have hr := B.returns
  have hts := atoms_spec (ws := wsX12_isDoingHere) B.pre
  have hown : s.vm.findClass RX12 = some m.cls := findClass_of_methodNamed B.named
  have hlocks := B.notSynchronized
  subst hsz
  have hI : MI D (MA h ad cy s0 s.heap.size) h ad cy s s.heap s0 s.heap [] := ⟨hK, hP, hD0.self, va_S.rf⟩
  have hA : ∀ q : Nat, s.heap.size ≤ q → MA h ad cy s0 s.heap.size q := fun q hq => Or.inr hq
  have hin : ∀ w ∈ u_ws RX12 TX12 42, w ∈ wsX12_isDoingHere := fun w hw => List.mem_cons_of_mem _ (List.mem_append_right _ hw)
  have k_clause : Cond.fieldLink RX12 20 "HalfBridgeModel" "clause" "[I" ∈ wsX12_isDoingHere := by decide +kernel
  have k_clauses : Cond.fieldLink RX12 23 "HalfBridgeModel" "clauses" "[I" ∈ wsX12_isDoingHere := by decide +kernel
  have k_length : Cond.fieldLink RX12 17 "HalfBridgeModel" "length" "[I" ∈ wsX12_isDoingHere := by decide +kernel
  have k_text : Cond.fieldLink RX12 153 "HalfBridgeModel" "text" "I" ∈ wsX12_isDoingHere := by decide +kernel
  have hl := lv_entry ([.ref h, .int a1]) (n := 3) (Nat.le_of_ble_eq_true rfl)
  rw [lg_entry_eq]
  generalize (lg_sl ([.ref h, .int a1]) ++ List.replicate (3 - (lg_sl ([.ref h, .int a1])).length) Slot.unset).toArray = ls at hl ⊢
  have hl : lv_has ls 3 [(0, .ref h), (1, .int a1)] := hl
  obtain ⟨K0, hK0, hf⟩ := top_e hf
  have B_138 : ∀ (v2 : Int32)  (st : MSt) (H : Heap) (locs : List Loc) (ls : Array Slot), MI D (MA h ad cy s0 s.heap.size) h ad cy s s.heap st H locs → lv_has ls 3 [(0, .ref h), (2, .int v2)] → (fm_isDoingHere_j138 v2 st).bind K0 = some out → W p l e (headSpec wsX12_isDoingHere { frames := 9, cells := 0, slots := 0, locals := 198 }).room s m (([.ref h, .int a1] : List Value).toArray) below meth c H locs 0 0 (MQ below (MQi D h ad cy s0 out s.heap.size) ([.ref h, .int a1] : List Value).toArray s 0 0 (MA h ad cy s0 s.heap.size)) (F0 m 138 ls []) := by
    intro v2 st H locs ls hI hl hf
    unfold fm_isDoingHere_j138 at hf
    refine lv_aload_n hx hb dX12_isDoingHere_138 rfl (lv_at hl 0 rfl) ?_
    refine mg_clause hx hb hts hin hown k_clause hI dX12_isDoingHere_139 ?_
    refine lv_iload_n hx hb dX12_isDoingHere_142 rfl (lv_at hl 1 rfl) ?_
    refine lv_iconst (v := 4) hx hb dX12_isDoingHere_143 (by decide) ?_
    refine lv_iadd hx hb dX12_isDoingHere_144 ?_
    refine lv_aload_n hx hb dX12_isDoingHere_145 rfl (lv_at hl 0 rfl) ?_
    refine mg_length hx hb hts hin hown k_length hI dX12_isDoingHere_146 ?_
    refine lv_aload_n hx hb dX12_isDoingHere_149 rfl (lv_at hl 0 rfl) ?_
    refine mg_text hx hb hts hin hown k_text hI dX12_isDoingHere_150 ?_
    obtain ⟨k14, hf⟩ := chk_b hf
    refine ml_length hx hb hI k14 dX12_isDoingHere_153 ?_
    obtain ⟨k15, hf⟩ := chk_b hf
    refine ms_clause hx hb hI k15 dX12_isDoingHere_154 (fun H locs hI => ?_)
    refine lv_aload_n hx hb dX12_isDoingHere_155 rfl (lv_at hl 0 rfl) ?_
    refine mg_clauses hx hb hts hin hown k_clauses hI dX12_isDoingHere_156 ?_
    refine lv_aload_n hx hb dX12_isDoingHere_159 rfl (lv_at hl 0 rfl) ?_
    refine mg_text hx hb hts hin hown k_text hI dX12_isDoingHere_160 ?_
    refine lv_dup2_11 hx hb dX12_isDoingHere_163 rfl rfl ?_
    obtain ⟨k16, hf⟩ := chk_b hf
    refine ml_clauses hx hb hI k16 dX12_isDoingHere_164 ?_
    refine lv_iconst (v := 1) hx hb dX12_isDoingHere_165 (by decide) ?_
    refine lv_iadd hx hb dX12_isDoingHere_166 ?_
    obtain ⟨k17, hf⟩ := chk_b hf
    refine ms_clauses hx hb hI k17 dX12_isDoingHere_167 (fun H locs hI => ?_)
    refine lv_iconst (v := 1) hx hb dX12_isDoingHere_168 (by decide) ?_
    exact mret_z hx hb hr (by decide) hlocks hI (ret_e hK0 hf) dX12_isDoingHere_169
  have B_112 : ∀ (v2 : Int32)  (st : MSt) (H : Heap) (locs : List Loc) (ls : Array Slot), MI D (MA h ad cy s0 s.heap.size) h ad cy s s.heap st H locs → lv_has ls 3 [(0, .ref h), (2, .int v2)] → (fm_isDoingHere_j112 v2 st).bind K0 = some out → W p l e (headSpec wsX12_isDoingHere { frames := 9, cells := 0, slots := 0, locals := 198 }).room s m (([.ref h, .int a1] : List Value).toArray) below meth c H locs 0 0 (MQ below (MQi D h ad cy s0 out s.heap.size) ([.ref h, .int a1] : List Value).toArray s 0 0 (MA h ad cy s0 s.heap.size)) (F0 m 112 ls []) := by
    intro v2 st H locs ls hI hl hf
    unfold fm_isDoingHere_j112 at hf
    refine lv_aload_n hx hb dX12_isDoingHere_112 rfl (lv_at hl 0 rfl) ?_
    refine mg_clause hx hb hts hin hown k_clause hI dX12_isDoingHere_113 ?_
    refine lv_iload_n hx hb dX12_isDoingHere_116 rfl (lv_at hl 1 rfl) ?_
    refine lv_iconst (v := 3) hx hb dX12_isDoingHere_117 (by decide) ?_
    refine lv_iadd hx hb dX12_isDoingHere_118 ?_
    refine lv_aload_n hx hb dX12_isDoingHere_119 rfl (lv_at hl 0 rfl) ?_
    refine mg_length hx hb hts hin hown k_length hI dX12_isDoingHere_120 ?_
    refine lv_aload_n hx hb dX12_isDoingHere_123 rfl (lv_at hl 0 rfl) ?_
    refine mg_text hx hb hts hin hown k_text hI dX12_isDoingHere_124 ?_
    obtain ⟨k9, hf⟩ := chk_b hf
    refine ml_length hx hb hI k9 dX12_isDoingHere_127 ?_
    obtain ⟨k10, hf⟩ := chk_b hf
    refine ms_clause hx hb hI k10 dX12_isDoingHere_128 (fun H locs hI => ?_)
    refine lv_aload_n hx hb dX12_isDoingHere_129 rfl (lv_at hl 0 rfl) ?_
    obtain ⟨x11, hc12, hf⟩ := bnd_b hf
    refine mcall_i (As := []) (rest := []) (n := 0) ⟨hx, hb, hml, hown, hts⟩ (cm_tested l D h ad cy  (msa st 5 (v2 + (3 : Int32)).toNatClampNeg (st.2.1 4 (st.1 17).toNatClampNeg)) x11 hc12 _) (cwV 0 hts gX12_isDoingHere_X12_tested rfl rfl rfl ⟨rfl, nd_tested⟩ ⟨Nat.le_of_ble_eq_true rfl, Nat.le_of_ble_eq_true rfl⟩) hI hA rfl hl.1 (Nat.le_of_ble_eq_true rfl) dX12_isDoingHere_130 ⟨Nat.zero_le _, Nat.zero_le _⟩ (fun H locs hI => ?_)
    refine lv_if_ne (tgt := 138) hx hb dX12_isDoingHere_133 (by decide) (fun c13 => ?_) (fun c13 => ?_)
    · replace hf := ifn c13 hf
      exact B_138 v2 x11.1 H locs ls hI (lv_sub hl [0, 1] rfl) hf
    · replace hf := ifp c13 hf
      refine lv_iconst (v := 0) hx hb dX12_isDoingHere_136 (by decide) ?_
      exact mret_z hx hb hr (by decide) hlocks hI (ret_e hK0 hf) dX12_isDoingHere_137
  have B_97 : ∀ (v1 : Int32) (v2 : Int32)  (st : MSt) (H : Heap) (locs : List Loc) (ls : Array Slot), MI D (MA h ad cy s0 s.heap.size) h ad cy s s.heap st H locs → lv_has ls 3 [(0, .ref h), (1, .int v1), (2, .int v2)] → (fm_isDoingHere_j97 v1 v2 st).bind K0 = some out → W p l e (headSpec wsX12_isDoingHere { frames := 9, cells := 0, slots := 0, locals := 198 }).room s m (([.ref h, .int a1] : List Value).toArray) below meth c H locs 0 0 (MQ below (MQi D h ad cy s0 out s.heap.size) ([.ref h, .int a1] : List Value).toArray s 0 0 (MA h ad cy s0 s.heap.size)) (F0 m 97 ls []) := by
    intro v1 v2 st H locs ls hI hl hf
    unfold fm_isDoingHere_j97 at hf
    refine lv_iload_n hx hb dX12_isDoingHere_97 rfl (lv_at hl 1 rfl) ?_
    refine lv_iconst (v := 2) hx hb dX12_isDoingHere_98 (by decide) ?_
    refine lv_icmp_ge (tgt := 112) hx hb dX12_isDoingHere_99 (by decide) (fun c8 => ?_) (fun c8 => ?_)
    · replace hf := ifp c8 hf
      exact B_112 v2 st H locs ls hI (lv_sub hl [0, 2] rfl) hf
    · replace hf := ifn c8 hf
      refine lv_aload_n hx hb dX12_isDoingHere_102 rfl (lv_at hl 0 rfl) ?_
      refine lv_ldc2 (v := 26982) hx hb hown (hts (.constantLong RX12 217 (26982)) (by decide +kernel)) dX12_isDoingHere_103 ?_
      obtain ⟨x18, hc19, hf⟩ := bnd_b hf
      refine mcall_i (As := [.long (26982 : Int64)]) (rest := []) (n := 1) ⟨hx, hb, hml, hown, hts⟩ (cm_takesWord l D h ad cy (26982 : Int64) st x18 hc19 _) (cwV 1 hts gX12_isDoingHere_X12_takesWord rfl rfl rfl ⟨rfl, nd_takesWord⟩ ⟨Nat.le_of_ble_eq_true rfl, Nat.le_of_ble_eq_true rfl⟩) hI hA rfl hl.1 (Nat.le_of_ble_eq_true rfl) dX12_isDoingHere_106 ⟨Nat.zero_le _, Nat.zero_le _⟩ (fun H locs hI => ?_)
      refine lv_if_eq (tgt := 138) hx hb dX12_isDoingHere_109 (by decide) (fun c20 => ?_) (fun c20 => ?_)
      · replace hf := ifp c20 hf
        exact B_138 v2 x18.1 H locs ls hI (lv_sub hl [0, 2] rfl) hf
      · replace hf := ifn c20 hf
        exact B_112 v2 x18.1 H locs ls hI (lv_sub hl [0, 2] rfl) hf
  unfold fm_isDoingHere at hf
  refine lv_aload_n hx hb dX12_isDoingHere_0 rfl (lv_at hl 0 rfl) ?_
  obtain ⟨x1, hc2, hf⟩ := bnd_b hf
  refine mcall_v (As := []) (rest := []) (n := 0) ⟨hx, hb, hml, hown, hts⟩ (cm_passWord l D h ad cy  s0 x1 hc2 _) (cwV 0 hts gX12_isDoingHere_X12_passWord rfl rfl rfl ⟨rfl, nd_passWord⟩ ⟨Nat.le_of_ble_eq_true rfl, Nat.le_of_ble_eq_true rfl⟩) hI hA rfl hl.1 (Nat.le_of_ble_eq_true rfl) dX12_isDoingHere_1 ⟨Nat.zero_le _, Nat.zero_le _⟩ (fun H locs hI => ?_)
  refine lv_bipush (v := 60) hx hb dX12_isDoingHere_4 (by decide) ?_
  refine lv_aload_n hx hb dX12_isDoingHere_6 rfl (lv_at hl 0 rfl) ?_
  refine mg_text hx hb hts hin hown k_text hI dX12_isDoingHere_7 ?_
  refine lv_imul hx hb dX12_isDoingHere_10 ?_
  refine lv_iconst (v := 5) hx hb dX12_isDoingHere_11 (by decide) ?_
  refine lv_aload_n hx hb dX12_isDoingHere_12 rfl (lv_at hl 0 rfl) ?_
  refine mg_clauses hx hb hts hin hown k_clauses hI dX12_isDoingHere_13 ?_
  refine lv_aload_n hx hb dX12_isDoingHere_16 rfl (lv_at hl 0 rfl) ?_
  refine mg_text hx hb hts hin hown k_text hI dX12_isDoingHere_17 ?_
  obtain ⟨k3, hf⟩ := chk_b hf
  refine ml_clauses hx hb hI k3 dX12_isDoingHere_20 ?_
  refine lv_imul hx hb dX12_isDoingHere_21 ?_
  refine lv_iadd hx hb dX12_isDoingHere_22 ?_
  refine lv_istore_n (lv' := [(2, .int (((60 : Int32) * (x1.1 17)) + ((5 : Int32) * (x1.2.1 6 (x1.1 17).toNatClampNeg)))), (0, .ref h), (1, .int a1)]) hx hb dX12_isDoingHere_23 rfl hl (by decide) rfl (fun ls hl => ?_)
  refine lv_aload_n hx hb dX12_isDoingHere_24 rfl (lv_at hl 1 rfl) ?_
  refine mg_clause hx hb hts hin hown k_clause hI dX12_isDoingHere_25 ?_
  refine lv_iload_n hx hb dX12_isDoingHere_28 rfl (lv_at hl 0 rfl) ?_
  refine lv_iload_n hx hb dX12_isDoingHere_29 rfl (lv_at hl 2 rfl) ?_
  obtain ⟨k4, hf⟩ := chk_b hf
  refine ms_clause hx hb hI k4 dX12_isDoingHere_30 (fun H locs hI => ?_)
  refine lv_aload_n hx hb dX12_isDoingHere_31 rfl (lv_at hl 1 rfl) ?_
  refine mg_clause hx hb hts hin hown k_clause hI dX12_isDoingHere_32 ?_
  refine lv_iload_n hx hb dX12_isDoingHere_35 rfl (lv_at hl 0 rfl) ?_
  refine lv_iconst (v := 1) hx hb dX12_isDoingHere_36 (by decide) ?_
  refine lv_iadd hx hb dX12_isDoingHere_37 ?_
  refine lv_iconst (v := -1) hx hb dX12_isDoingHere_38 (by decide) ?_
  obtain ⟨k5, hf⟩ := chk_b hf
  refine ms_clause hx hb hI k5 dX12_isDoingHere_39 (fun H locs hI => ?_)
  refine lv_aload_n hx hb dX12_isDoingHere_40 rfl (lv_at hl 1 rfl) ?_
  refine mg_clause hx hb hts hin hown k_clause hI dX12_isDoingHere_41 ?_
  refine lv_iload_n hx hb dX12_isDoingHere_44 rfl (lv_at hl 0 rfl) ?_
  refine lv_iconst (v := 3) hx hb dX12_isDoingHere_45 (by decide) ?_
  refine lv_iadd hx hb dX12_isDoingHere_46 ?_
  refine lv_iconst (v := -1) hx hb dX12_isDoingHere_47 (by decide) ?_
  obtain ⟨k6, hf⟩ := chk_b hf
  refine ms_clause hx hb hI k6 dX12_isDoingHere_48 (fun H locs hI => ?_)
  refine lv_iload_n hx hb dX12_isDoingHere_49 rfl (lv_at hl 2 rfl) ?_
  refine lv_iconst (v := 2) hx hb dX12_isDoingHere_50 (by decide) ?_
  refine lv_icmp_ge (tgt := 97) hx hb dX12_isDoingHere_51 (by decide) (fun c7 => ?_) (fun c7 => ?_)
  · replace hf := ifp c7 hf
    exact B_97 a1 (((60 : Int32) * (x1.1 17)) + ((5 : Int32) * (x1.2.1 6 (x1.1 17).toNatClampNeg))) (msa (msa (msa x1 5 (((60 : Int32) * (x1.1 17)) + ((5 : Int32) * (x1.2.1 6 (x1.1 17).toNatClampNeg))).toNatClampNeg a1) 5 ((((60 : Int32) * (x1.1 17)) + ((5 : Int32) * (x1.2.1 6 (x1.1 17).toNatClampNeg))) + (1 : Int32)).toNatClampNeg (-1 : Int32)) 5 ((((60 : Int32) * (x1.1 17)) + ((5 : Int32) * (x1.2.1 6 (x1.1 17).toNatClampNeg))) + (3 : Int32)).toNatClampNeg (-1 : Int32)) H locs ls hI (lv_sub hl [1, 2, 0] rfl) hf
  · replace hf := ifn c7 hf
    refine lv_aload_n hx hb dX12_isDoingHere_54 rfl (lv_at hl 1 rfl) ?_
    refine mg_clause hx hb hts hin hown k_clause hI dX12_isDoingHere_55 ?_
    refine lv_iload_n hx hb dX12_isDoingHere_58 rfl (lv_at hl 0 rfl) ?_
    refine lv_iconst (v := 1) hx hb dX12_isDoingHere_59 (by decide) ?_
    refine lv_iadd hx hb dX12_isDoingHere_60 ?_
    refine lv_aload_n hx hb dX12_isDoingHere_61 rfl (lv_at hl 1 rfl) ?_
    refine mg_length hx hb hts hin hown k_length hI dX12_isDoingHere_62 ?_
    refine lv_aload_n hx hb dX12_isDoingHere_65 rfl (lv_at hl 1 rfl) ?_
    refine mg_text hx hb hts hin hown k_text hI dX12_isDoingHere_66 ?_
    obtain ⟨k21, hf⟩ := chk_b hf
    refine ml_length hx hb hI k21 dX12_isDoingHere_69 ?_
    obtain ⟨k22, hf⟩ := chk_b hf
    refine ms_clause hx hb hI k22 dX12_isDoingHere_70 (fun H locs hI => ?_)
    refine lv_aload_n hx hb dX12_isDoingHere_71 rfl (lv_at hl 1 rfl) ?_
    obtain ⟨x23, hc24, hf⟩ := bnd_b hf
    refine mcall_i (As := []) (rest := []) (n := 0) ⟨hx, hb, hml, hown, hts⟩ (cm_sum l D h ad cy  (msa (msa (msa (msa x1 5 (((60 : Int32) * (x1.1 17)) + ((5 : Int32) * (x1.2.1 6 (x1.1 17).toNatClampNeg))).toNatClampNeg a1) 5 ((((60 : Int32) * (x1.1 17)) + ((5 : Int32) * (x1.2.1 6 (x1.1 17).toNatClampNeg))) + (1 : Int32)).toNatClampNeg (-1 : Int32)) 5 ((((60 : Int32) * (x1.1 17)) + ((5 : Int32) * (x1.2.1 6 (x1.1 17).toNatClampNeg))) + (3 : Int32)).toNatClampNeg (-1 : Int32)) 5 ((((60 : Int32) * (x1.1 17)) + ((5 : Int32) * (x1.2.1 6 (x1.1 17).toNatClampNeg))) + (1 : Int32)).toNatClampNeg ((msa (msa (msa x1 5 (((60 : Int32) * (x1.1 17)) + ((5 : Int32) * (x1.2.1 6 (x1.1 17).toNatClampNeg))).toNatClampNeg a1) 5 ((((60 : Int32) * (x1.1 17)) + ((5 : Int32) * (x1.2.1 6 (x1.1 17).toNatClampNeg))) + (1 : Int32)).toNatClampNeg (-1 : Int32)) 5 ((((60 : Int32) * (x1.1 17)) + ((5 : Int32) * (x1.2.1 6 (x1.1 17).toNatClampNeg))) + (3 : Int32)).toNatClampNeg (-1 : Int32)).2.1 4 ((msa (msa (msa x1 5 (((60 : Int32) * (x1.1 17)) + ((5 : Int32) * (x1.2.1 6 (x1.1 17).toNatClampNeg))).toNatClampNeg a1) 5 ((((60 : Int32) * (x1.1 17)) + ((5 : Int32) * (x1.2.1 6 (x1.1 17).toNatClampNeg))) + (1 : Int32)).toNatClampNeg (-1 : Int32)) 5 ((((60 : Int32) * (x1.1 17)) + ((5 : Int32) * (x1.2.1 6 (x1.1 17).toNatClampNeg))) + (3 : Int32)).toNatClampNeg (-1 : Int32)).1 17).toNatClampNeg)) x23 hc24 _) (cwV 0 hts gX12_isDoingHere_X12_sum rfl rfl rfl ⟨rfl, nd_sum⟩ ⟨Nat.le_of_ble_eq_true rfl, Nat.le_of_ble_eq_true rfl⟩) hI hA rfl hl.1 (Nat.le_of_ble_eq_true rfl) dX12_isDoingHere_72 ⟨Nat.zero_le _, Nat.zero_le _⟩ (fun H locs hI => ?_)
    refine lv_if_ne (tgt := 80) hx hb dX12_isDoingHere_75 (by decide) (fun c25 => ?_) (fun c25 => ?_)
    · replace hf := ifn c25 hf
      refine lv_aload_n hx hb dX12_isDoingHere_80 rfl (lv_at hl 1 rfl) ?_
      refine mg_clause hx hb hts hin hown k_clause hI dX12_isDoingHere_81 ?_
      refine lv_iload_n hx hb dX12_isDoingHere_84 rfl (lv_at hl 0 rfl) ?_
      refine lv_iconst (v := 2) hx hb dX12_isDoingHere_85 (by decide) ?_
      refine lv_iadd hx hb dX12_isDoingHere_86 ?_
      refine lv_aload_n hx hb dX12_isDoingHere_87 rfl (lv_at hl 1 rfl) ?_
      refine mg_length hx hb hts hin hown k_length hI dX12_isDoingHere_88 ?_
      refine lv_aload_n hx hb dX12_isDoingHere_91 rfl (lv_at hl 1 rfl) ?_
      refine mg_text hx hb hts hin hown k_text hI dX12_isDoingHere_92 ?_
      obtain ⟨k26, hf⟩ := chk_b hf
      refine ml_length hx hb hI k26 dX12_isDoingHere_95 ?_
      obtain ⟨k27, hf⟩ := chk_b hf
      refine ms_clause hx hb hI k27 dX12_isDoingHere_96 (fun H locs hI => ?_)
      exact B_97 a1 (((60 : Int32) * (x1.1 17)) + ((5 : Int32) * (x1.2.1 6 (x1.1 17).toNatClampNeg))) (msa x23.1 5 ((((60 : Int32) * (x1.1 17)) + ((5 : Int32) * (x1.2.1 6 (x1.1 17).toNatClampNeg))) + (2 : Int32)).toNatClampNeg (x23.1.2.1 4 (x23.1.1 17).toNatClampNeg)) H locs ls hI (lv_sub hl [1, 2, 0] rfl) hf
    · replace hf := ifp c25 hf
      refine lv_iconst (v := 0) hx hb dX12_isDoingHere_78 (by decide) ?_
      exact mret_z hx hb hr (by decide) hlocks hI (ret_e hK0 hf) dX12_isDoingHere_79

theorem nd_isWideHere : yX12_isWideHere.cls ≠ "java/lang/invoke/MethodHandle" ∧ yX12_isWideHere.cls ≠ "java/lang/invoke/VarHandle" ∧ (parseMethodDescriptor yX12_isWideHere.desc).map (fun d => d.parameters.length) = some 1 := by decide +kernel
set_option maxHeartbeats 4000000 in
set_option maxRecDepth 100000 in
theorem cm_isWideHere (l : Launch) (D : va_G) (h : Nat) (ad : Nat → Nat) (cy : Nat → ClassId) (a1 : Int32) (s0 : MSt) (out : MSt × Int32) (hf : fm_isWideHere a1 s0 = some out) (sz : Nat) : CMi l D h ad cy yX12_isWideHere wsX12_isWideHere { frames := 2, cells := 0, slots := 0, locals := 49 } [.int a1] s0 out sz := by
  refine Met.ofW (cc := cX12_isWideHere) (maxL := 2) (ret := (some .boolean)) (by decide) rfl ?_
  intro p e s m args below meth c s₁ B hml hv
  obtain ⟨rfl, hsz, hP, hK, hD0⟩ := hv
  have hx := B.exec
  have hb := B.bytes
  have hr := B.returns
  have hts := atoms_spec (ws := wsX12_isWideHere) B.pre
  have hown : s.vm.findClass RX12 = some m.cls := findClass_of_methodNamed B.named
  have hlocks := B.notSynchronized
  subst hsz
  have hI : MI D (MA h ad cy s0 s.heap.size) h ad cy s s.heap s0 s.heap [] := ⟨hK, hP, hD0.self, va_S.rf⟩
  have hA : ∀ q : Nat, s.heap.size ≤ q → MA h ad cy s0 s.heap.size q := fun q hq => Or.inr hq
  have hin : ∀ w ∈ u_ws RX12 TX12 42, w ∈ wsX12_isWideHere := fun w hw => List.mem_cons_of_mem _ (List.mem_append_right _ hw)
  have k_number : Cond.fieldLink RX12 128 "HalfBridgeModel" "number" "I" ∈ wsX12_isWideHere := by decide +kernel
  have k_wideRead : Cond.fieldLink RX12 225 "HalfBridgeModel" "wideRead" "I" ∈ wsX12_isWideHere := by decide +kernel
  have hl := lv_entry ([.ref h, .int a1]) (n := 2) (Nat.le_of_ble_eq_true rfl)
  rw [lg_entry_eq]
  generalize (lg_sl ([.ref h, .int a1]) ++ List.replicate (2 - (lg_sl ([.ref h, .int a1])).length) Slot.unset).toArray = ls at hl ⊢
  have hl : lv_has ls 2 [(0, .ref h), (1, .int a1)] := hl
  obtain ⟨K0, hK0, hf⟩ := top_e hf
  unfold fm_isWideHere at hf
  refine lv_aload_n hx hb dX12_isWideHere_0 rfl (lv_at hl 0 rfl) ?_
  refine mg_wideRead hx hb hts hin hown k_wideRead hI dX12_isWideHere_1 ?_
  refine lv_if_le (tgt := 14) hx hb dX12_isWideHere_4 (by decide) (fun c1 => ?_) (fun c1 => ?_)
  · replace hf := ifp c1 hf
    refine lv_aload_n hx hb dX12_isWideHere_14 rfl (lv_at hl 0 rfl) ?_
    obtain ⟨x2, hc3, hf⟩ := bnd_b hf
    refine mcall_v (As := []) (rest := []) (n := 0) ⟨hx, hb, hml, hown, hts⟩ (cm_passWord l D h ad cy  s0 x2 hc3 _) (cwV 0 hts gX12_isWideHere_X12_passWord rfl rfl rfl ⟨rfl, nd_passWord⟩ ⟨Nat.le_of_ble_eq_true rfl, Nat.le_of_ble_eq_true rfl⟩) hI hA rfl hl.1 (Nat.le_of_ble_eq_true rfl) dX12_isWideHere_15 ⟨Nat.zero_le _, Nat.zero_le _⟩ (fun H locs hI => ?_)
    refine lv_aload_n hx hb dX12_isWideHere_18 rfl (lv_at hl 0 rfl) ?_
    refine lv_iconst (v := 2) hx hb dX12_isWideHere_19 (by decide) ?_
    refine lv_bipush (v := 40) hx hb dX12_isWideHere_20 (by decide) ?_
    obtain ⟨x4, hc5, hf⟩ := bnd_b hf
    refine mcall_i (As := [.int (2 : Int32), .int (40 : Int32)]) (rest := []) (n := 2) ⟨hx, hb, hml, hown, hts⟩ (cm_numberHere l D h ad cy (2 : Int32) (40 : Int32) x2 x4 hc5 _) (cwV 2 hts gX12_isWideHere_X12_numberHere rfl rfl rfl ⟨rfl, nd_numberHere⟩ ⟨Nat.le_of_ble_eq_true rfl, Nat.le_of_ble_eq_true rfl⟩) hI hA rfl hl.1 (Nat.le_of_ble_eq_true rfl) dX12_isWideHere_22 ⟨Nat.zero_le _, Nat.zero_le _⟩ (fun H locs hI => ?_)
    refine lv_if_ne (tgt := 30) hx hb dX12_isWideHere_25 (by decide) (fun c6 => ?_) (fun c6 => ?_)
    · replace hf := ifn c6 hf
      refine lv_aload_n hx hb dX12_isWideHere_30 rfl (lv_at hl 0 rfl) ?_
      refine lv_aload_n hx hb dX12_isWideHere_31 rfl (lv_at hl 0 rfl) ?_
      refine mg_number hx hb hts hin hown k_number hI dX12_isWideHere_32 ?_
      refine mp_wideRead hx hb hts hin hown k_wideRead hI dX12_isWideHere_35 (fun H locs hI => ?_)
      refine lv_iconst (v := 1) hx hb dX12_isWideHere_38 (by decide) ?_
      exact mret_z hx hb hr (by decide) hlocks hI (ret_e hK0 hf) dX12_isWideHere_39
    · replace hf := ifp c6 hf
      refine lv_iconst (v := 0) hx hb dX12_isWideHere_28 (by decide) ?_
      exact mret_z hx hb hr (by decide) hlocks hI (ret_e hK0 hf) dX12_isWideHere_29
  · replace hf := ifn c1 hf
    refine lv_aload_n hx hb dX12_isWideHere_7 rfl (lv_at hl 0 rfl) ?_
    refine lv_iconst (v := 4) hx hb dX12_isWideHere_8 (by decide) ?_
    refine lv_iload_n hx hb dX12_isWideHere_9 rfl (lv_at hl 1 rfl) ?_
    obtain ⟨x7, hc8, hf⟩ := bnd_b hf
    refine mcall_i (As := [.int (4 : Int32), .int a1]) (rest := []) (n := 2) ⟨hx, hb, hml, hown, hts⟩ (cm_fails l D h ad cy (4 : Int32) a1 s0 x7 hc8 _) (cwV 2 hts gX12_isWideHere_X12_fails rfl rfl rfl ⟨rfl, nd_fails⟩ ⟨Nat.le_of_ble_eq_true rfl, Nat.le_of_ble_eq_true rfl⟩) hI hA rfl hl.1 (Nat.le_of_ble_eq_true rfl) dX12_isWideHere_10 ⟨Nat.zero_le _, Nat.zero_le _⟩ (fun H locs hI => ?_)
    obtain ⟨k9, hf⟩ := chk_b hf
    exact mret_z hx hb hr (isb_nar k9) hlocks hI (ret_e hK0 hf) dX12_isWideHere_13

theorem nd_isBankHere : yX12_isBankHere.cls ≠ "java/lang/invoke/MethodHandle" ∧ yX12_isBankHere.cls ≠ "java/lang/invoke/VarHandle" ∧ (parseMethodDescriptor yX12_isBankHere.desc).map (fun d => d.parameters.length) = some 0 := by decide +kernel
set_option maxHeartbeats 4000000 in
set_option maxRecDepth 100000 in
theorem cm_isBankHere (l : Launch) (D : va_G) (h : Nat) (ad : Nat → Nat) (cy : Nat → ClassId)  (s0 : MSt) (out : MSt × Int32) (hf : fm_isBankHere s0 = some out) (sz : Nat) : CMi l D h ad cy yX12_isBankHere wsX12_isBankHere { frames := 2, cells := 0, slots := 0, locals := 49 } [] s0 out sz := by
  refine Met.ofW (cc := cX12_isBankHere) (maxL := 3) (ret := (some .boolean)) (by decide) rfl ?_
  intro p e s m args below meth c s₁ B hml hv
  obtain ⟨rfl, hsz, hP, hK, hD0⟩ := hv
  have hx := B.exec
  have hb := B.bytes
  have hr := B.returns
  have hts := atoms_spec (ws := wsX12_isBankHere) B.pre
  have hown : s.vm.findClass RX12 = some m.cls := findClass_of_methodNamed B.named
  have hlocks := B.notSynchronized
  subst hsz
  have hI : MI D (MA h ad cy s0 s.heap.size) h ad cy s s.heap s0 s.heap [] := ⟨hK, hP, hD0.self, va_S.rf⟩
  have hA : ∀ q : Nat, s.heap.size ≤ q → MA h ad cy s0 s.heap.size q := fun q hq => Or.inr hq
  have hin : ∀ w ∈ u_ws RX12 TX12 42, w ∈ wsX12_isBankHere := fun w hw => List.mem_cons_of_mem _ (List.mem_append_right _ hw)
  have k_bankRead : Cond.fieldLink RX12 26 "HalfBridgeModel" "bankRead" "[I" ∈ wsX12_isBankHere := by decide +kernel
  have k_number : Cond.fieldLink RX12 128 "HalfBridgeModel" "number" "I" ∈ wsX12_isBankHere := by decide +kernel
  have hl := lv_entry ([.ref h]) (n := 3) (Nat.le_of_ble_eq_true rfl)
  rw [lg_entry_eq]
  generalize (lg_sl ([.ref h]) ++ List.replicate (3 - (lg_sl ([.ref h])).length) Slot.unset).toArray = ls at hl ⊢
  have hl : lv_has ls 3 [(0, .ref h)] := hl
  obtain ⟨K0, hK0, hf⟩ := top_e hf
  have B_59 : ∀   (st : MSt) (H : Heap) (locs : List Loc) (ls : Array Slot), MI D (MA h ad cy s0 s.heap.size) h ad cy s s.heap st H locs → lv_has ls 3 [] → (fm_isBankHere_j59 st).bind K0 = some out → W p l e (headSpec wsX12_isBankHere { frames := 2, cells := 0, slots := 0, locals := 49 }).room s m (([.ref h] : List Value).toArray) below meth c H locs 0 0 (MQ below (MQi D h ad cy s0 out s.heap.size) ([.ref h] : List Value).toArray s 0 0 (MA h ad cy s0 s.heap.size)) (F0 m 59 ls []) := by
    intro st H locs ls hI hl hf
    unfold fm_isBankHere_j59 at hf
    refine lv_iconst (v := 1) hx hb dX12_isBankHere_59 (by decide) ?_
    exact mret_z hx hb hr (by decide) hlocks hI (ret_e hK0 hf) dX12_isBankHere_60
  have L_22 : ∀ (v1 : Int32) (n : Nat) (v2 : Int32) (st : MSt) (H : Heap) (locs : List Loc) (ls : Array Slot), MI D (MA h ad cy s0 s.heap.size) h ad cy s s.heap st H locs → lv_has ls 3 [(0, .ref h), (1, .int v1), (2, .int v2)] → (iter (fun x : (Int32 × MSt) => fm_isBankHere_s22 v1 x.1 x.2) n (v2, st)).bind (fun x => ((Sum.elim (fun o : MSt × Int32 => (some o : Option (MSt × Int32))) (fun x : (Int32 × MSt) => fm_isBankHere_j59 x.2)) x).bind K0) = some out → W p l e (headSpec wsX12_isBankHere { frames := 2, cells := 0, slots := 0, locals := 49 }).room s m (([.ref h] : List Value).toArray) below meth c H locs 0 0 (MQ below (MQi D h ad cy s0 out s.heap.size) ([.ref h] : List Value).toArray s 0 0 (MA h ad cy s0 s.heap.size)) (F0 m 22 ls []) := by
    intro v1 n
    induction n with
    | zero => intro v2 st H locs ls hI hl hf; exact (iter_0 hf).elim
    | succ n ih =>
      intro v2 st H locs ls hI hl hf
      obtain ⟨K1, hK1, hf⟩ := iter_e hf
      replace hf : (fm_isBankHere_s22 v1 v2 st).bind K1 = some out := hf
      unfold fm_isBankHere_s22 at hf
      refine lv_iload_n hx hb dX12_isBankHere_22 rfl (lv_at hl 2 rfl) ?_
      refine lv_iconst (v := 2) hx hb dX12_isBankHere_23 (by decide) ?_
      refine lv_icmp_ge (tgt := 59) hx hb dX12_isBankHere_24 (by decide) (fun c6 => ?_) (fun c6 => ?_)
      · replace hf := ifp c6 hf
        replace hf := exit_b hK1 hf
        exact B_59  st H locs ls hI (lv_sub hl [] rfl) hf
      · replace hf := ifn c6 hf
        refine lv_aload_n hx hb dX12_isBankHere_27 rfl (lv_at hl 0 rfl) ?_
        refine lv_iconst (v := 0) hx hb dX12_isBankHere_28 (by decide) ?_
        refine lv_bipush (v := 99) hx hb dX12_isBankHere_29 (by decide) ?_
        obtain ⟨x7, hc8, hf⟩ := bnd_b hf
        refine mcall_i (As := [.int (0 : Int32), .int (99 : Int32)]) (rest := []) (n := 2) ⟨hx, hb, hml, hown, hts⟩ (cm_numberHere l D h ad cy (0 : Int32) (99 : Int32) st x7 hc8 _) (cwV 2 hts gX12_isBankHere_X12_numberHere rfl rfl rfl ⟨rfl, nd_numberHere⟩ ⟨Nat.le_of_ble_eq_true rfl, Nat.le_of_ble_eq_true rfl⟩) hI hA rfl hl.1 (Nat.le_of_ble_eq_true rfl) dX12_isBankHere_31 ⟨Nat.zero_le _, Nat.zero_le _⟩ (fun H locs hI => ?_)
        refine lv_if_ne (tgt := 39) hx hb dX12_isBankHere_34 (by decide) (fun c9 => ?_) (fun c9 => ?_)
        · replace hf := ifn c9 hf
          refine lv_aload_n hx hb dX12_isBankHere_39 rfl (lv_at hl 0 rfl) ?_
          refine mg_bankRead hx hb hts hin hown k_bankRead hI dX12_isBankHere_40 ?_
          refine lv_iconst (v := 2) hx hb dX12_isBankHere_43 (by decide) ?_
          refine lv_iload_n hx hb dX12_isBankHere_44 rfl (lv_at hl 1 rfl) ?_
          refine lv_imul hx hb dX12_isBankHere_45 ?_
          refine lv_iload_n hx hb dX12_isBankHere_46 rfl (lv_at hl 2 rfl) ?_
          refine lv_iadd hx hb dX12_isBankHere_47 ?_
          refine lv_aload_n hx hb dX12_isBankHere_48 rfl (lv_at hl 0 rfl) ?_
          refine mg_number hx hb hts hin hown k_number hI dX12_isBankHere_49 ?_
          obtain ⟨k10, hf⟩ := chk_b hf
          refine ms_bankRead hx hb hI k10 dX12_isBankHere_52 (fun H locs hI => ?_)
          refine lv_iinc (v := (v2 + 1)) (lv' := [(2, .int (v2 + 1)), (0, .ref h), (1, .int v1)]) hx hb dX12_isBankHere_53 hl (k := 2) rfl (ci_ _ (by decide)) (by decide) rfl (fun ls hl => ?_)
          refine lv_goto (tgt := 22) hx hb dX12_isBankHere_56 (by decide) ?_
          replace hf := cont_b hK1 hf
          exact ih (v2 + 1) (msa x7.1 11 (((2 : Int32) * v1) + v2).toNatClampNeg (x7.1.1 16)) H locs ls hI (lv_sub hl [1, 2, 0] rfl) hf
        · replace hf := ifp c9 hf
          refine lv_iconst (v := 0) hx hb dX12_isBankHere_37 (by decide) ?_
          replace hf := inl_b hK1 hf
          replace hf : Option.bind (some (x7.1, (0 : Int32))) K0 = some out := hf
          exact mret_z hx hb hr (by decide) hlocks hI (ret_e hK0 hf) dX12_isBankHere_38
  unfold fm_isBankHere at hf
  refine lv_aload_n hx hb dX12_isBankHere_0 rfl (lv_at hl 0 rfl) ?_
  obtain ⟨x1, hc2, hf⟩ := bnd_b hf
  refine mcall_v (As := []) (rest := []) (n := 0) ⟨hx, hb, hml, hown, hts⟩ (cm_passWord l D h ad cy  s0 x1 hc2 _) (cwV 0 hts gX12_isBankHere_X12_passWord rfl rfl rfl ⟨rfl, nd_passWord⟩ ⟨Nat.le_of_ble_eq_true rfl, Nat.le_of_ble_eq_true rfl⟩) hI hA rfl hl.1 (Nat.le_of_ble_eq_true rfl) dX12_isBankHere_1 ⟨Nat.zero_le _, Nat.zero_le _⟩ (fun H locs hI => ?_)
  refine lv_aload_n hx hb dX12_isBankHere_4 rfl (lv_at hl 0 rfl) ?_
  refine lv_iconst (v := 0) hx hb dX12_isBankHere_5 (by decide) ?_
  refine lv_iconst (v := 1) hx hb dX12_isBankHere_6 (by decide) ?_
  obtain ⟨x3, hc4, hf⟩ := bnd_b hf
  refine mcall_i (As := [.int (0 : Int32), .int (1 : Int32)]) (rest := []) (n := 2) ⟨hx, hb, hml, hown, hts⟩ (cm_numberHere l D h ad cy (0 : Int32) (1 : Int32) x1 x3 hc4 _) (cwV 2 hts gX12_isBankHere_X12_numberHere rfl rfl rfl ⟨rfl, nd_numberHere⟩ ⟨Nat.le_of_ble_eq_true rfl, Nat.le_of_ble_eq_true rfl⟩) hI hA rfl hl.1 (Nat.le_of_ble_eq_true rfl) dX12_isBankHere_7 ⟨Nat.zero_le _, Nat.zero_le _⟩ (fun H locs hI => ?_)
  refine lv_if_ne (tgt := 15) hx hb dX12_isBankHere_10 (by decide) (fun c5 => ?_) (fun c5 => ?_)
  · replace hf := ifn c5 hf
    refine lv_aload_n hx hb dX12_isBankHere_15 rfl (lv_at hl 0 rfl) ?_
    refine mg_number hx hb hts hin hown k_number hI dX12_isBankHere_16 ?_
    refine lv_istore_n (lv' := [(1, .int (x3.1.1 16)), (0, .ref h)]) hx hb dX12_isBankHere_19 rfl hl (by decide) rfl (fun ls hl => ?_)
    refine lv_iconst (v := 0) hx hb dX12_isBankHere_20 (by decide) ?_
    refine lv_istore_n (lv' := [(2, .int (0 : Int32)), (1, .int (x3.1.1 16)), (0, .ref h)]) hx hb dX12_isBankHere_21 rfl hl (by decide) rfl (fun ls hl => ?_)
    exact L_22 (x3.1.1 16) mFuel (0 : Int32) x3.1 H locs ls hI (lv_sub hl [2, 1, 0] rfl) (asc_b hf)
  · replace hf := ifp c5 hf
    refine lv_iconst (v := 0) hx hb dX12_isBankHere_13 (by decide) ?_
    exact mret_z hx hb hr (by decide) hlocks hI (ret_e hK0 hf) dX12_isBankHere_14

theorem nd_areEyesHere : yX12_areEyesHere.cls ≠ "java/lang/invoke/MethodHandle" ∧ yX12_areEyesHere.cls ≠ "java/lang/invoke/VarHandle" ∧ (parseMethodDescriptor yX12_areEyesHere.desc).map (fun d => d.parameters.length) = some 0 := by decide +kernel
set_option maxHeartbeats 4000000 in
set_option maxRecDepth 100000 in
theorem cm_areEyesHere (l : Launch) (D : va_G) (h : Nat) (ad : Nat → Nat) (cy : Nat → ClassId)  (s0 : MSt) (out : MSt × Int32) (hf : fm_areEyesHere s0 = some out) (sz : Nat) : CMi l D h ad cy yX12_areEyesHere wsX12_areEyesHere { frames := 2, cells := 0, slots := 0, locals := 49 } [] s0 out sz := by
  refine Met.ofW (cc := cX12_areEyesHere) (maxL := 2) (ret := (some .boolean)) (by decide) rfl ?_
  intro p e s m args below meth c s₁ B hml hv
  obtain ⟨rfl, hsz, hP, hK, hD0⟩ := hv
  have hx := B.exec
  have hb := B.bytes
  have hr := B.returns
  have hts := atoms_spec (ws := wsX12_areEyesHere) B.pre
  have hown : s.vm.findClass RX12 = some m.cls := findClass_of_methodNamed B.named
  have hlocks := B.notSynchronized
  subst hsz
  have hI : MI D (MA h ad cy s0 s.heap.size) h ad cy s s.heap s0 s.heap [] := ⟨hK, hP, hD0.self, va_S.rf⟩
  have hA : ∀ q : Nat, s.heap.size ≤ q → MA h ad cy s0 s.heap.size q := fun q hq => Or.inr hq
  have hin : ∀ w ∈ u_ws RX12 TX12 42, w ∈ wsX12_areEyesHere := fun w hw => List.mem_cons_of_mem _ (List.mem_append_right _ hw)
  have k_eyesRead : Cond.fieldLink RX12 29 "HalfBridgeModel" "eyesRead" "[I" ∈ wsX12_areEyesHere := by decide +kernel
  have k_number : Cond.fieldLink RX12 128 "HalfBridgeModel" "number" "I" ∈ wsX12_areEyesHere := by decide +kernel
  have hl := lv_entry ([.ref h]) (n := 2) (Nat.le_of_ble_eq_true rfl)
  rw [lg_entry_eq]
  generalize (lg_sl ([.ref h]) ++ List.replicate (2 - (lg_sl ([.ref h])).length) Slot.unset).toArray = ls at hl ⊢
  have hl : lv_has ls 2 [(0, .ref h)] := hl
  obtain ⟨K0, hK0, hf⟩ := top_e hf
  unfold fm_areEyesHere at hf
  refine lv_aload_n hx hb dX12_areEyesHere_0 rfl (lv_at hl 0 rfl) ?_
  obtain ⟨x1, hc2, hf⟩ := bnd_b hf
  refine mcall_v (As := []) (rest := []) (n := 0) ⟨hx, hb, hml, hown, hts⟩ (cm_passWord l D h ad cy  s0 x1 hc2 _) (cwV 0 hts gX12_areEyesHere_X12_passWord rfl rfl rfl ⟨rfl, nd_passWord⟩ ⟨Nat.le_of_ble_eq_true rfl, Nat.le_of_ble_eq_true rfl⟩) hI hA rfl hl.1 (Nat.le_of_ble_eq_true rfl) dX12_areEyesHere_1 ⟨Nat.zero_le _, Nat.zero_le _⟩ (fun H locs hI => ?_)
  refine lv_aload_n hx hb dX12_areEyesHere_4 rfl (lv_at hl 0 rfl) ?_
  refine lv_iconst (v := 0) hx hb dX12_areEyesHere_5 (by decide) ?_
  refine lv_iconst (v := 1) hx hb dX12_areEyesHere_6 (by decide) ?_
  obtain ⟨x3, hc4, hf⟩ := bnd_b hf
  refine mcall_i (As := [.int (0 : Int32), .int (1 : Int32)]) (rest := []) (n := 2) ⟨hx, hb, hml, hown, hts⟩ (cm_numberHere l D h ad cy (0 : Int32) (1 : Int32) x1 x3 hc4 _) (cwV 2 hts gX12_areEyesHere_X12_numberHere rfl rfl rfl ⟨rfl, nd_numberHere⟩ ⟨Nat.le_of_ble_eq_true rfl, Nat.le_of_ble_eq_true rfl⟩) hI hA rfl hl.1 (Nat.le_of_ble_eq_true rfl) dX12_areEyesHere_7 ⟨Nat.zero_le _, Nat.zero_le _⟩ (fun H locs hI => ?_)
  refine lv_if_ne (tgt := 15) hx hb dX12_areEyesHere_10 (by decide) (fun c5 => ?_) (fun c5 => ?_)
  · replace hf := ifn c5 hf
    refine lv_aload_n hx hb dX12_areEyesHere_15 rfl (lv_at hl 0 rfl) ?_
    refine mg_number hx hb hts hin hown k_number hI dX12_areEyesHere_16 ?_
    refine lv_istore_n (lv' := [(1, .int (x3.1.1 16)), (0, .ref h)]) hx hb dX12_areEyesHere_19 rfl hl (by decide) rfl (fun ls hl => ?_)
    refine lv_aload_n hx hb dX12_areEyesHere_20 rfl (lv_at hl 1 rfl) ?_
    refine lv_iconst (v := 0) hx hb dX12_areEyesHere_21 (by decide) ?_
    refine lv_bipush (v := 9) hx hb dX12_areEyesHere_22 (by decide) ?_
    obtain ⟨x6, hc7, hf⟩ := bnd_b hf
    refine mcall_i (As := [.int (0 : Int32), .int (9 : Int32)]) (rest := []) (n := 2) ⟨hx, hb, hml, hown, hts⟩ (cm_numberHere l D h ad cy (0 : Int32) (9 : Int32) x3.1 x6 hc7 _) (cwV 2 hts gX12_areEyesHere_X12_numberHere rfl rfl rfl ⟨rfl, nd_numberHere⟩ ⟨Nat.le_of_ble_eq_true rfl, Nat.le_of_ble_eq_true rfl⟩) hI hA rfl hl.1 (Nat.le_of_ble_eq_true rfl) dX12_areEyesHere_24 ⟨Nat.zero_le _, Nat.zero_le _⟩ (fun H locs hI => ?_)
    refine lv_if_ne (tgt := 32) hx hb dX12_areEyesHere_27 (by decide) (fun c8 => ?_) (fun c8 => ?_)
    · replace hf := ifn c8 hf
      refine lv_aload_n hx hb dX12_areEyesHere_32 rfl (lv_at hl 1 rfl) ?_
      refine mg_eyesRead hx hb hts hin hown k_eyesRead hI dX12_areEyesHere_33 ?_
      refine lv_iload_n hx hb dX12_areEyesHere_36 rfl (lv_at hl 0 rfl) ?_
      refine lv_aload_n hx hb dX12_areEyesHere_37 rfl (lv_at hl 1 rfl) ?_
      refine mg_number hx hb hts hin hown k_number hI dX12_areEyesHere_38 ?_
      obtain ⟨k9, hf⟩ := chk_b hf
      refine ms_eyesRead hx hb hI k9 dX12_areEyesHere_41 (fun H locs hI => ?_)
      refine lv_iconst (v := 1) hx hb dX12_areEyesHere_42 (by decide) ?_
      exact mret_z hx hb hr (by decide) hlocks hI (ret_e hK0 hf) dX12_areEyesHere_43
    · replace hf := ifp c8 hf
      refine lv_iconst (v := 0) hx hb dX12_areEyesHere_30 (by decide) ?_
      exact mret_z hx hb hr (by decide) hlocks hI (ret_e hK0 hf) dX12_areEyesHere_31
  · replace hf := ifp c5 hf
    refine lv_iconst (v := 0) hx hb dX12_areEyesHere_13 (by decide) ?_
    exact mret_z hx hb hr (by decide) hlocks hI (ret_e hK0 hf) dX12_areEyesHere_14
