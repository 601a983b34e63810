theorem nd_compare : yX12_compare.cls ≠ "java/lang/invoke/MethodHandle" ∧ yX12_compare.cls ≠ "java/lang/invoke/VarHandle" ∧ (parseMethodDescriptor yX12_compare.desc).map (fun d => d.parameters.length) = some 0 := by decide +kernel
set_option maxHeartbeats 4000000 in
set_option maxRecDepth 100000 in
theorem cm_compare (l : Launch) (D : va_G) (h : Nat) (ad : Nat → Nat) (cy : Nat → ClassId)  (s0 : MSt) (out : MSt × Int32) (hf : fm_compare s0 = some out) (sz : Nat) : CMi l D h ad cy yX12_compare wsX12_compare { frames := 6, cells := 0, slots := 0, locals := 130 } [] s0 out sz := by
  refine Met.ofW (cc := cX12_compare) (maxL := 5) (ret := (some .boolean)) (by decide) rfl ?_
  intro p e s m args below meth c s₁ B hml hv
  obtain ⟨rfl, hsz, hP, hK, hD0⟩ := hv
  have hx := B.exec
  have hb := B.bytes
  have hr := B.returns
  have hts := atoms_spec (ws := wsX12_compare) B.pre
  have hown : s.vm.findClass RX12 = some m.cls := findClass_of_methodNamed B.named
  have hlocks := B.notSynchronized
  subst hsz
  have hI : MI D (MA h ad cy s0 s.heap.size) h ad cy s s.heap s0 s.heap [] := ⟨hK, hP, hD0.self, va_S.rf⟩
  have hA : ∀ q : Nat, s.heap.size ≤ q → MA h ad cy s0 s.heap.size q := fun q hq => Or.inr hq
  have hin : ∀ w ∈ u_ws RX12 TX12 42, w ∈ wsX12_compare := fun w hw => List.mem_cons_of_mem _ (List.mem_append_right _ hw)
  have k_next : Cond.fieldLink RX12 103 "HalfBridgeModel" "next" "I" ∈ wsX12_compare := by decide +kernel
  have k_tape : Cond.fieldLink RX12 7 "HalfBridgeModel" "tape" "[B" ∈ wsX12_compare := by decide +kernel
  have k_taped : Cond.fieldLink RX12 92 "HalfBridgeModel" "taped" "I" ∈ wsX12_compare := by decide +kernel
  have hl := lv_entry ([.ref h]) (n := 5) (Nat.le_of_ble_eq_true rfl)
  rw [lg_entry_eq]
  generalize (lg_sl ([.ref h]) ++ List.replicate (5 - (lg_sl ([.ref h])).length) Slot.unset).toArray = ls at hl ⊢
  have hl : lv_has ls 5 [(0, .ref h)] := hl
  obtain ⟨K0, hK0, hf⟩ := top_e hf
  have B_152_4 : ∀  (t0 : Int32) (st : MSt) (H : Heap) (locs : List Loc) (ls : Array Slot), MI D (MA h ad cy s0 s.heap.size) h ad cy s s.heap st H locs → lv_has ls 5 [(0, .ref h)] → (fm_compare_j152 t0 st).bind K0 = some out → W p l e (headSpec wsX12_compare { frames := 6, cells := 0, slots := 0, locals := 130 }).room s m (([.ref h] : List Value).toArray) below meth c H locs 0 0 (MQ below (MQi D h ad cy s0 out s.heap.size) ([.ref h] : List Value).toArray s 0 0 (MA h ad cy s0 s.heap.size)) (F0 m 152 ls [.int t0]) := by
    intro t0 st H locs ls hI hl hf
    unfold fm_compare_j152 at hf
    refine lv_istore (lv' := [(4, .int t0), (0, .ref h)]) hx hb dX12_compare_152 hl (by decide) rfl (fun ls hl => ?_)
    refine lv_aload_n hx hb dX12_compare_154 rfl (lv_at hl 1 rfl) ?_
    obtain ⟨x15, hc16, hf⟩ := bnd_b hf
    refine mcall_i (As := []) (rest := []) (n := 0) ⟨hx, hb, hml, hown, hts⟩ (cm_sum l D h ad cy  st x15 hc16 _) (cwV 0 hts gX12_compare_X12_sum rfl rfl rfl ⟨rfl, nd_sum⟩ ⟨Nat.le_of_ble_eq_true rfl, Nat.le_of_ble_eq_true rfl⟩) hI hA rfl hl.1 (Nat.le_of_ble_eq_true rfl) dX12_compare_155 ⟨Nat.zero_le _, Nat.zero_le _⟩ (fun H locs hI => ?_)
    refine lv_if_ne (tgt := 163) hx hb dX12_compare_158 (by decide) (fun c17 => ?_) (fun c17 => ?_)
    · replace hf := ifn c17 hf
      refine lv_aload_n hx hb dX12_compare_163 rfl (lv_at hl 1 rfl) ?_
      refine lv_bipush (v := 6) hx hb dX12_compare_164 (by decide) ?_
      refine lv_iload hx hb dX12_compare_166 (lv_at hl 0 rfl) ?_
      refine lv_iadd hx hb dX12_compare_168 ?_
      refine lv_iconst (v := 0) hx hb dX12_compare_169 (by decide) ?_
      obtain ⟨x18, hc19, hf⟩ := bnd_b hf
      refine mcall_v (As := [.int ((6 : Int32) + t0), .int (0 : Int32)]) (rest := []) (n := 2) ⟨hx, hb, hml, hown, hts⟩ (cm_puts l D h ad cy ((6 : Int32) + t0) (0 : Int32) x15.1 x18 hc19 _) (cwV 2 hts gX12_compare_X12_puts rfl rfl rfl ⟨rfl, nd_puts⟩ ⟨Nat.le_of_ble_eq_true rfl, Nat.le_of_ble_eq_true rfl⟩) hI hA rfl hl.1 (Nat.le_of_ble_eq_true rfl) dX12_compare_170 ⟨Nat.zero_le _, Nat.zero_le _⟩ (fun H locs hI => ?_)
      refine lv_iconst (v := 1) hx hb dX12_compare_173 (by decide) ?_
      exact mret_z hx hb hr (by decide) hlocks hI (ret_e hK0 hf) dX12_compare_174
    · replace hf := ifp c17 hf
      refine lv_iconst (v := 0) hx hb dX12_compare_161 (by decide) ?_
      exact mret_z hx hb hr (by decide) hlocks hI (ret_e hK0 hf) dX12_compare_162
  have B_105 : ∀ (v1 : Int32) (v2 : Int32) (v3 : Int32)  (st : MSt) (H : Heap) (locs : List Loc) (ls : Array Slot), MI D (MA h ad cy s0 s.heap.size) h ad cy s s.heap st H locs → lv_has ls 5 [(0, .ref h), (1, .int v1), (2, .int v2), (3, .int v3)] → (fm_compare_j105 v1 v2 v3 st).bind K0 = some out → W p l e (headSpec wsX12_compare { frames := 6, cells := 0, slots := 0, locals := 130 }).room s m (([.ref h] : List Value).toArray) below meth c H locs 0 0 (MQ below (MQi D h ad cy s0 out s.heap.size) ([.ref h] : List Value).toArray s 0 0 (MA h ad cy s0 s.heap.size)) (F0 m 105 ls []) := by
    intro v1 v2 v3 st H locs ls hI hl hf
    unfold fm_compare_j105 at hf
    refine lv_aload_n hx hb dX12_compare_105 rfl (lv_at hl 0 rfl) ?_
    refine lv_iload_n hx hb dX12_compare_106 rfl (lv_at hl 2 rfl) ?_
    obtain ⟨x9, hc10, hf⟩ := bnd_b hf
    refine mcall_i (As := [.int v2]) (rest := []) (n := 1) ⟨hx, hb, hml, hown, hts⟩ (cm_makes l D h ad cy v2 st x9 hc10 _) (cwV 1 hts gX12_compare_X12_makes rfl rfl rfl ⟨rfl, nd_makes⟩ ⟨Nat.le_of_ble_eq_true rfl, Nat.le_of_ble_eq_true rfl⟩) hI hA rfl hl.1 (Nat.le_of_ble_eq_true rfl) dX12_compare_107 ⟨Nat.zero_le _, Nat.zero_le _⟩ (fun H locs hI => ?_)
    refine lv_if_ne (tgt := 115) hx hb dX12_compare_110 (by decide) (fun c11 => ?_) (fun c11 => ?_)
    · replace hf := ifn c11 hf
      refine lv_iload_n hx hb dX12_compare_115 rfl (lv_at hl 1 rfl) ?_
      refine lv_bipush (v := 60) hx hb dX12_compare_116 (by decide) ?_
      refine lv_icmp_ne (tgt := 133) hx hb dX12_compare_118 (by decide) (fun c12 => ?_) (fun c12 => ?_)
      · replace hf := ifn c12 hf
        refine lv_iload_n hx hb dX12_compare_133 rfl (lv_at hl 1 rfl) ?_
        refine lv_bipush (v := 61) hx hb dX12_compare_134 (by decide) ?_
        refine lv_icmp_ne (tgt := 143) hx hb dX12_compare_136 (by decide) (fun c13 => ?_) (fun c13 => ?_)
        · replace hf := ifn c13 hf
          refine lv_iload_n hx hb dX12_compare_143 rfl (lv_at hl 3 rfl) ?_
          refine lv_if_eq (tgt := 151) hx hb dX12_compare_144 (by decide) (fun c14 => ?_) (fun c14 => ?_)
          · replace hf := ifp c14 hf
            refine lv_iconst (v := 4) hx hb dX12_compare_151 (by decide) ?_
            exact B_152_4 (4 : Int32) x9.1 H locs ls hI (lv_sub hl [0] rfl) hf
          · replace hf := ifn c14 hf
            refine lv_iconst (v := 3) hx hb dX12_compare_147 (by decide) ?_
            refine lv_goto (tgt := 152) hx hb dX12_compare_148 (by decide) ?_
            exact B_152_4 (3 : Int32) x9.1 H locs ls hI (lv_sub hl [0] rfl) hf
        · replace hf := ifp c13 hf
          refine lv_iconst (v := 2) hx hb dX12_compare_139 (by decide) ?_
          refine lv_goto (tgt := 152) hx hb dX12_compare_140 (by decide) ?_
          exact B_152_4 (2 : Int32) x9.1 H locs ls hI (lv_sub hl [0] rfl) hf
      · replace hf := ifp c12 hf
        refine lv_iload_n hx hb dX12_compare_121 rfl (lv_at hl 3 rfl) ?_
        refine lv_if_eq (tgt := 129) hx hb dX12_compare_122 (by decide) (fun c20 => ?_) (fun c20 => ?_)
        · replace hf := ifp c20 hf
          refine lv_iconst (v := 0) hx hb dX12_compare_129 (by decide) ?_
          refine lv_goto (tgt := 152) hx hb dX12_compare_130 (by decide) ?_
          exact B_152_4 (0 : Int32) x9.1 H locs ls hI (lv_sub hl [0] rfl) hf
        · replace hf := ifn c20 hf
          refine lv_iconst (v := 1) hx hb dX12_compare_125 (by decide) ?_
          refine lv_goto (tgt := 152) hx hb dX12_compare_126 (by decide) ?_
          exact B_152_4 (1 : Int32) x9.1 H locs ls hI (lv_sub hl [0] rfl) hf
    · replace hf := ifp c11 hf
      refine lv_iconst (v := 0) hx hb dX12_compare_113 (by decide) ?_
      exact mret_z hx hb hr (by decide) hlocks hI (ret_e hK0 hf) dX12_compare_114
  have B_90_2 : ∀ (v1 : Int32) (v2 : Int32) (t0 : Int32) (st : MSt) (H : Heap) (locs : List Loc) (ls : Array Slot), MI D (MA h ad cy s0 s.heap.size) h ad cy s s.heap st H locs → lv_has ls 5 [(0, .ref h), (1, .int v1), (2, .int v2)] → (fm_compare_j90 v1 v2 t0 st).bind K0 = some out → W p l e (headSpec wsX12_compare { frames := 6, cells := 0, slots := 0, locals := 130 }).room s m (([.ref h] : List Value).toArray) below meth c H locs 0 0 (MQ below (MQi D h ad cy s0 out s.heap.size) ([.ref h] : List Value).toArray s 0 0 (MA h ad cy s0 s.heap.size)) (F0 m 90 ls [.int t0]) := by
    intro v1 v2 t0 st H locs ls hI hl hf
    unfold fm_compare_j90 at hf
    refine lv_istore_n (lv' := [(3, .int t0), (0, .ref h), (1, .int v1), (2, .int v2)]) hx hb dX12_compare_90 rfl hl (by decide) rfl (fun ls hl => ?_)
    refine lv_iload_n hx hb dX12_compare_91 rfl (lv_at hl 0 rfl) ?_
    refine lv_if_eq (tgt := 105) hx hb dX12_compare_92 (by decide) (fun c8 => ?_) (fun c8 => ?_)
    · replace hf := ifp c8 hf
      exact B_105 v1 v2 t0 st H locs ls hI (lv_sub hl [1, 2, 3, 0] rfl) hf
    · replace hf := ifn c8 hf
      refine lv_aload_n hx hb dX12_compare_95 rfl (lv_at hl 1 rfl) ?_
      refine lv_dup hx hb dX12_compare_96 rfl ?_
      refine mg_next hx hb hts hin hown k_next hI dX12_compare_97 ?_
      refine lv_iconst (v := 1) hx hb dX12_compare_100 (by decide) ?_
      refine lv_iadd hx hb dX12_compare_101 ?_
      refine mp_next hx hb hts hin hown k_next hI dX12_compare_102 (fun H locs hI => ?_)
      exact B_105 v1 v2 t0 (msi st 14 ((st.1 14) + (1 : Int32))) H locs ls hI (lv_sub hl [1, 2, 3, 0] rfl) hf
  have B_89 : ∀ (v1 : Int32) (v2 : Int32)  (st : MSt) (H : Heap) (locs : List Loc) (ls : Array Slot), MI D (MA h ad cy s0 s.heap.size) h ad cy s s.heap st H locs → lv_has ls 5 [(0, .ref h), (1, .int v1), (2, .int v2)] → (fm_compare_j89 v1 v2 st).bind K0 = some out → W p l e (headSpec wsX12_compare { frames := 6, cells := 0, slots := 0, locals := 130 }).room s m (([.ref h] : List Value).toArray) below meth c H locs 0 0 (MQ below (MQi D h ad cy s0 out s.heap.size) ([.ref h] : List Value).toArray s 0 0 (MA h ad cy s0 s.heap.size)) (F0 m 89 ls []) := by
    intro v1 v2 st H locs ls hI hl hf
    unfold fm_compare_j89 at hf
    refine lv_iconst (v := 0) hx hb dX12_compare_89 (by decide) ?_
    exact B_90_2 v1 v2 (0 : Int32) st H locs ls hI (lv_sub hl [0, 1, 2] rfl) hf
  have B_44 : ∀ (v1 : Int32) (v2 : Int32)  (st : MSt) (H : Heap) (locs : List Loc) (ls : Array Slot), MI D (MA h ad cy s0 s.heap.size) h ad cy s s.heap st H locs → lv_has ls 5 [(0, .ref h), (1, .int v1), (2, .int v2)] → (fm_compare_j44 v1 v2 st).bind K0 = some out → W p l e (headSpec wsX12_compare { frames := 6, cells := 0, slots := 0, locals := 130 }).room s m (([.ref h] : List Value).toArray) below meth c H locs 0 0 (MQ below (MQi D h ad cy s0 out s.heap.size) ([.ref h] : List Value).toArray s 0 0 (MA h ad cy s0 s.heap.size)) (F0 m 44 ls []) := by
    intro v1 v2 st H locs ls hI hl hf
    unfold fm_compare_j44 at hf
    refine lv_aload_n hx hb dX12_compare_44 rfl (lv_at hl 0 rfl) ?_
    refine lv_dup hx hb dX12_compare_45 rfl ?_
    refine mg_next hx hb hts hin hown k_next hI dX12_compare_46 ?_
    refine lv_iconst (v := 1) hx hb dX12_compare_49 (by decide) ?_
    refine lv_iadd hx hb dX12_compare_50 ?_
    refine mp_next hx hb hts hin hown k_next hI dX12_compare_51 (fun H locs hI => ?_)
    refine lv_iload_n hx hb dX12_compare_54 rfl (lv_at hl 1 rfl) ?_
    refine lv_bipush (v := 61) hx hb dX12_compare_55 (by decide) ?_
    refine lv_icmp_eq (tgt := 89) hx hb dX12_compare_57 (by decide) (fun c7 => ?_) (fun c7 => ?_)
    · replace hf := ifp c7 hf
      exact B_89 v1 v2 (msi st 14 ((st.1 14) + (1 : Int32))) H locs ls hI (lv_sub hl [0, 1, 2] rfl) hf
    · replace hf := ifn c7 hf
      refine lv_aload_n hx hb dX12_compare_60 rfl (lv_at hl 0 rfl) ?_
      refine mg_next hx hb hts hin hown k_next hI dX12_compare_61 ?_
      refine lv_aload_n hx hb dX12_compare_64 rfl (lv_at hl 0 rfl) ?_
      refine mg_taped hx hb hts hin hown k_taped hI dX12_compare_65 ?_
      refine lv_icmp_ge (tgt := 89) hx hb dX12_compare_68 (by decide) (fun c21 => ?_) (fun c21 => ?_)
      · replace hf := ifp c21 hf
        exact B_89 v1 v2 (msi st 14 ((st.1 14) + (1 : Int32))) H locs ls hI (lv_sub hl [0, 1, 2] rfl) hf
      · replace hf := ifn c21 hf
        refine lv_aload_n hx hb dX12_compare_71 rfl (lv_at hl 0 rfl) ?_
        refine mg_tape hx hb hts hin hown k_tape hI dX12_compare_72 ?_
        refine lv_aload_n hx hb dX12_compare_75 rfl (lv_at hl 0 rfl) ?_
        refine mg_next hx hb hts hin hown k_next hI dX12_compare_76 ?_
        obtain ⟨k22, hf⟩ := chk_b hf
        refine ml_tape hx hb hI k22 dX12_compare_79 ?_
        refine lv_bipush (v := 61) hx hb dX12_compare_80 (by decide) ?_
        refine lv_icmp_ne (tgt := 89) hx hb dX12_compare_82 (by decide) (fun c23 => ?_) (fun c23 => ?_)
        · replace hf := ifn c23 hf
          exact B_89 v1 v2 (msi st 14 ((st.1 14) + (1 : Int32))) H locs ls hI (lv_sub hl [0, 1, 2] rfl) hf
        · replace hf := ifp c23 hf
          refine lv_iconst (v := 1) hx hb dX12_compare_85 (by decide) ?_
          refine lv_goto (tgt := 90) hx hb dX12_compare_86 (by decide) ?_
          exact B_90_2 v1 v2 (1 : Int32) (msi st 14 ((st.1 14) + (1 : Int32))) H locs ls hI (lv_sub hl [0, 1, 2] rfl) hf
  unfold fm_compare at hf
  refine lv_aload_n hx hb dX12_compare_0 rfl (lv_at hl 0 rfl) ?_
  obtain ⟨x1, hc2, hf⟩ := bnd_b hf
  refine mcall_i (As := []) (rest := []) (n := 0) ⟨hx, hb, hml, hown, hts⟩ (cm_sum l D h ad cy  s0 x1 hc2 _) (cwV 0 hts gX12_compare_X12_sum rfl rfl rfl ⟨rfl, nd_sum⟩ ⟨Nat.le_of_ble_eq_true rfl, Nat.le_of_ble_eq_true rfl⟩) hI hA rfl hl.1 (Nat.le_of_ble_eq_true rfl) dX12_compare_1 ⟨Nat.zero_le _, Nat.zero_le _⟩ (fun H locs hI => ?_)
  refine lv_if_ne (tgt := 9) hx hb dX12_compare_4 (by decide) (fun c3 => ?_) (fun c3 => ?_)
  · replace hf := ifn c3 hf
    refine lv_aload_n hx hb dX12_compare_9 rfl (lv_at hl 0 rfl) ?_
    obtain ⟨x4, hc5, hf⟩ := bnd_b hf
    refine mcall_i (As := []) (rest := []) (n := 0) ⟨hx, hb, hml, hown, hts⟩ (cm_see l D h ad cy  x1.1 x4 hc5 _) (cwV 0 hts gX12_compare_X12_see rfl rfl rfl ⟨rfl, nd_see⟩ ⟨Nat.le_of_ble_eq_true rfl, Nat.le_of_ble_eq_true rfl⟩) hI hA rfl hl.1 (Nat.le_of_ble_eq_true rfl) dX12_compare_10 ⟨Nat.zero_le _, Nat.zero_le _⟩ (fun H locs hI => ?_)
    refine lv_istore_n (lv' := [(1, .int x4.2), (0, .ref h)]) hx hb dX12_compare_13 rfl hl (by decide) rfl (fun ls hl => ?_)
    refine lv_aload_n hx hb dX12_compare_14 rfl (lv_at hl 1 rfl) ?_
    refine mg_next hx hb hts hin hown k_next hI dX12_compare_15 ?_
    refine lv_istore_n (lv' := [(2, .int (x4.1.1 14)), (1, .int x4.2), (0, .ref h)]) hx hb dX12_compare_18 rfl hl (by decide) rfl (fun ls hl => ?_)
    refine lv_iload_n hx hb dX12_compare_19 rfl (lv_at hl 1 rfl) ?_
    refine lv_bipush (v := 60) hx hb dX12_compare_20 (by decide) ?_
    refine lv_icmp_eq (tgt := 44) hx hb dX12_compare_22 (by decide) (fun c6 => ?_) (fun c6 => ?_)
    · replace hf := ifp c6 hf
      exact B_44 x4.2 (x4.1.1 14) x4.1 H locs ls hI (lv_sub hl [2, 1, 0] rfl) hf
    · replace hf := ifn c6 hf
      refine lv_iload_n hx hb dX12_compare_25 rfl (lv_at hl 1 rfl) ?_
      refine lv_bipush (v := 61) hx hb dX12_compare_26 (by decide) ?_
      refine lv_icmp_eq (tgt := 44) hx hb dX12_compare_28 (by decide) (fun c24 => ?_) (fun c24 => ?_)
      · replace hf := ifp c24 hf
        exact B_44 x4.2 (x4.1.1 14) x4.1 H locs ls hI (lv_sub hl [2, 1, 0] rfl) hf
      · replace hf := ifn c24 hf
        refine lv_iload_n hx hb dX12_compare_31 rfl (lv_at hl 1 rfl) ?_
        refine lv_bipush (v := 62) hx hb dX12_compare_32 (by decide) ?_
        refine lv_icmp_eq (tgt := 44) hx hb dX12_compare_34 (by decide) (fun c25 => ?_) (fun c25 => ?_)
        · replace hf := ifp c25 hf
          exact B_44 x4.2 (x4.1.1 14) x4.1 H locs ls hI (lv_sub hl [2, 1, 0] rfl) hf
        · replace hf := ifn c25 hf
          refine lv_aload_n hx hb dX12_compare_37 rfl (lv_at hl 2 rfl) ?_
          refine lv_iconst (v := 0) hx hb dX12_compare_38 (by decide) ?_
          refine lv_iload_n hx hb dX12_compare_39 rfl (lv_at hl 0 rfl) ?_
          obtain ⟨x26, hc27, hf⟩ := bnd_b hf
          refine mcall_i (As := [.int (0 : Int32), .int (x4.1.1 14)]) (rest := []) (n := 2) ⟨hx, hb, hml, hown, hts⟩ (cm_fails l D h ad cy (0 : Int32) (x4.1.1 14) x4.1 x26 hc27 _) (cwV 2 hts gX12_compare_X12_fails rfl rfl rfl ⟨rfl, nd_fails⟩ ⟨Nat.le_of_ble_eq_true rfl, Nat.le_of_ble_eq_true rfl⟩) hI hA rfl hl.1 (Nat.le_of_ble_eq_true rfl) dX12_compare_40 ⟨Nat.zero_le _, Nat.zero_le _⟩ (fun H locs hI => ?_)
          obtain ⟨k28, hf⟩ := chk_b hf
          exact mret_z hx hb hr (isb_nar k28) hlocks hI (ret_e hK0 hf) dX12_compare_43
  · replace hf := ifp c3 hf
    refine lv_iconst (v := 0) hx hb dX12_compare_7 (by decide) ?_
    exact mret_z hx hb hr (by decide) hlocks hI (ret_e hK0 hf) dX12_compare_8

theorem nd_fact : yX12_fact.cls ≠ "java/lang/invoke/MethodHandle" ∧ yX12_fact.cls ≠ "java/lang/invoke/VarHandle" ∧ (parseMethodDescriptor yX12_fact.desc).map (fun d => d.parameters.length) = some 0 := by decide +kernel
set_option maxHeartbeats 4000000 in
set_option maxRecDepth 100000 in
theorem cm_fact (l : Launch) (D : va_G) (h : Nat) (ad : Nat → Nat) (cy : Nat → ClassId)  (s0 : MSt) (out : MSt × Int32) (hf : fm_fact s0 = some out) (sz : Nat) : CMi l D h ad cy yX12_fact wsX12_fact { frames := 7, cells := 0, slots := 0, locals := 154 } [] s0 out sz := by
  refine Met.ofW (cc := cX12_fact) (maxL := 3) (ret := (some .boolean)) (by decide) rfl ?_
  intro p e s m args below meth c s₁ B hml hv
  obtain ⟨rfl, hsz, hP, hK, hD0⟩ := hv
  have hx := B.exec
  have hb := B.bytes
  have hr := B.returns
  have hts := atoms_spec (ws := wsX12_fact) B.pre
  have hown : s.vm.findClass RX12 = some m.cls := findClass_of_methodNamed B.named
  have hlocks := B.notSynchronized
  subst hsz
  have hI : MI D (MA h ad cy s0 s.heap.size) h ad cy s s.heap s0 s.heap [] := ⟨hK, hP, hD0.self, va_S.rf⟩
  have hA : ∀ q : Nat, s.heap.size ≤ q → MA h ad cy s0 s.heap.size q := fun q hq => Or.inr hq
  have hin : ∀ w ∈ u_ws RX12 TX12 42, w ∈ wsX12_fact := fun w hw => List.mem_cons_of_mem _ (List.mem_append_right _ hw)
  have k_next : Cond.fieldLink RX12 103 "HalfBridgeModel" "next" "I" ∈ wsX12_fact := by decide +kernel
  have hl := lv_entry ([.ref h]) (n := 3) (Nat.le_of_ble_eq_true rfl)
  rw [lg_entry_eq]
  generalize (lg_sl ([.ref h]) ++ List.replicate (3 - (lg_sl ([.ref h])).length) Slot.unset).toArray = ls at hl ⊢
  have hl : lv_has ls 3 [(0, .ref h)] := hl
  obtain ⟨K0, hK0, hf⟩ := top_e hf
  have B_75 : ∀   (st : MSt) (H : Heap) (locs : List Loc) (ls : Array Slot), MI D (MA h ad cy s0 s.heap.size) h ad cy s s.heap st H locs → lv_has ls 3 [(0, .ref h)] → (fm_fact_j75 st).bind K0 = some out → W p l e (headSpec wsX12_fact { frames := 7, cells := 0, slots := 0, locals := 154 }).room s m (([.ref h] : List Value).toArray) below meth c H locs 0 0 (MQ below (MQi D h ad cy s0 out s.heap.size) ([.ref h] : List Value).toArray s 0 0 (MA h ad cy s0 s.heap.size)) (F0 m 75 ls []) := by
    intro st H locs ls hI hl hf
    unfold fm_fact_j75 at hf
    refine lv_aload_n hx hb dX12_fact_75 rfl (lv_at hl 0 rfl) ?_
    obtain ⟨x1, hc2, hf⟩ := bnd_b hf
    refine mcall_i (As := []) (rest := []) (n := 0) ⟨hx, hb, hml, hown, hts⟩ (cm_compare l D h ad cy  st x1 hc2 _) (cwV 0 hts gX12_fact_X12_compare rfl rfl rfl ⟨rfl, nd_compare⟩ ⟨Nat.le_of_ble_eq_true rfl, Nat.le_of_ble_eq_true rfl⟩) hI hA rfl hl.1 (Nat.le_of_ble_eq_true rfl) dX12_fact_76 ⟨Nat.zero_le _, Nat.zero_le _⟩ (fun H locs hI => ?_)
    obtain ⟨k3, hf⟩ := chk_b hf
    exact mret_z hx hb hr (isb_nar k3) hlocks hI (ret_e hK0 hf) dX12_fact_79
  have L_2 : ∀  (n : Nat) (v1 : Int32) (st : MSt) (H : Heap) (locs : List Loc) (ls : Array Slot), MI D (MA h ad cy s0 s.heap.size) h ad cy s s.heap st H locs → lv_has ls 3 [(0, .ref h), (1, .int v1)] → (iter (fun x : (Int32 × MSt) => fm_fact_s2 x.1 x.2) n (v1, st)).bind (fun x => ((Sum.elim (fun o : MSt × Int32 => (some o : Option (MSt × Int32))) (fun x : (Int32 × MSt) => fm_fact_j75 x.2)) x).bind K0) = some out → W p l e (headSpec wsX12_fact { frames := 7, cells := 0, slots := 0, locals := 154 }).room s m (([.ref h] : List Value).toArray) below meth c H locs 0 0 (MQ below (MQi D h ad cy s0 out s.heap.size) ([.ref h] : List Value).toArray s 0 0 (MA h ad cy s0 s.heap.size)) (F0 m 2 ls []) := by
    intro n
    induction n with
    | zero => intro v1 st H locs ls hI hl hf; exact (iter_0 hf).elim
    | succ n ih =>
      intro v1 st H locs ls hI hl hf
      obtain ⟨K1, hK1, hf⟩ := iter_e hf
      replace hf : (fm_fact_s2 v1 st).bind K1 = some out := hf
      unfold fm_fact_s2 at hf
      refine lv_iload_n hx hb dX12_fact_2 rfl (lv_at hl 1 rfl) ?_
      refine lv_if_eq (tgt := 75) hx hb dX12_fact_3 (by decide) (fun c4 => ?_) (fun c4 => ?_)
      · replace hf := ifp c4 hf
        replace hf := exit_b hK1 hf
        exact B_75  st H locs ls hI (lv_sub hl [0] rfl) hf
      · replace hf := ifn c4 hf
        refine lv_iconst (v := 0) hx hb dX12_fact_6 (by decide) ?_
        refine lv_istore_n (lv' := [(1, .int (0 : Int32)), (0, .ref h)]) hx hb dX12_fact_7 rfl hl (by decide) rfl (fun ls hl => ?_)
        refine lv_aload_n hx hb dX12_fact_8 rfl (lv_at hl 1 rfl) ?_
        obtain ⟨x5, hc6, hf⟩ := bnd_b hf
        refine mcall_i (As := []) (rest := []) (n := 0) ⟨hx, hb, hml, hown, hts⟩ (cm_see l D h ad cy  st x5 hc6 _) (cwV 0 hts gX12_fact_X12_see rfl rfl rfl ⟨rfl, nd_see⟩ ⟨Nat.le_of_ble_eq_true rfl, Nat.le_of_ble_eq_true rfl⟩) hI hA rfl hl.1 (Nat.le_of_ble_eq_true rfl) dX12_fact_9 ⟨Nat.zero_le _, Nat.zero_le _⟩ (fun H locs hI => ?_)
        refine lv_istore_n (lv' := [(2, .int x5.2), (1, .int (0 : Int32)), (0, .ref h)]) hx hb dX12_fact_12 rfl hl (by decide) rfl (fun ls hl => ?_)
        refine lv_aload_n hx hb dX12_fact_13 rfl (lv_at hl 2 rfl) ?_
        refine lv_ldc2 (v := 7237492) hx hb hown (hts (.constantLong RX12 193 (7237492)) (by decide +kernel)) dX12_fact_14 ?_
        obtain ⟨x7, hc8, hf⟩ := bnd_b hf
        refine mcall_i (As := [.long (7237492 : Int64)]) (rest := []) (n := 1) ⟨hx, hb, hml, hown, hts⟩ (cm_isWord l D h ad cy (7237492 : Int64) x5.1 x7 hc8 _) (cwV 1 hts gX12_fact_X12_isWord rfl rfl rfl ⟨rfl, nd_isWord⟩ ⟨Nat.le_of_ble_eq_true rfl, Nat.le_of_ble_eq_true rfl⟩) hI hA rfl hl.1 (Nat.le_of_ble_eq_true rfl) dX12_fact_17 ⟨Nat.zero_le _, Nat.zero_le _⟩ (fun H locs hI => ?_)
        refine lv_if_eq (tgt := 43) hx hb dX12_fact_20 (by decide) (fun c9 => ?_) (fun c9 => ?_)
        · replace hf := ifp c9 hf
          refine lv_iload_n hx hb dX12_fact_43 rfl (lv_at hl 0 rfl) ?_
          refine lv_bipush (v := 91) hx hb dX12_fact_44 (by decide) ?_
          refine lv_icmp_ne (tgt := 72) hx hb dX12_fact_46 (by decide) (fun c10 => ?_) (fun c10 => ?_)
          · replace hf := ifn c10 hf
            refine lv_goto (tgt := 2) hx hb dX12_fact_72 (by decide) ?_
            replace hf := cont_b hK1 hf
            exact ih (0 : Int32) x7.1 H locs ls hI (lv_sub hl [2, 1] rfl) hf
          · replace hf := ifp c10 hf
            refine lv_aload_n hx hb dX12_fact_49 rfl (lv_at hl 2 rfl) ?_
            refine lv_bipush (v := 91) hx hb dX12_fact_50 (by decide) ?_
            obtain ⟨x11, hc12, hf⟩ := bnd_b hf
            refine mcall_i (As := [.int (91 : Int32)]) (rest := []) (n := 1) ⟨hx, hb, hml, hown, hts⟩ (cm_opens l D h ad cy (91 : Int32) x7.1 x11 hc12 _) (cwV 1 hts gX12_fact_X12_opens rfl rfl rfl ⟨rfl, nd_opens⟩ ⟨Nat.le_of_ble_eq_true rfl, Nat.le_of_ble_eq_true rfl⟩) hI hA rfl hl.1 (Nat.le_of_ble_eq_true rfl) dX12_fact_52 ⟨Nat.zero_le _, Nat.zero_le _⟩ (fun H locs hI => ?_)
            refine lv_if_ne (tgt := 60) hx hb dX12_fact_55 (by decide) (fun c13 => ?_) (fun c13 => ?_)
            · replace hf := ifn c13 hf
              refine lv_aload_n hx hb dX12_fact_60 rfl (lv_at hl 2 rfl) ?_
              refine lv_dup hx hb dX12_fact_61 rfl ?_
              refine mg_next hx hb hts hin hown k_next hI dX12_fact_62 ?_
              refine lv_iconst (v := 1) hx hb dX12_fact_65 (by decide) ?_
              refine lv_iadd hx hb dX12_fact_66 ?_
              refine mp_next hx hb hts hin hown k_next hI dX12_fact_67 (fun H locs hI => ?_)
              refine lv_iconst (v := 1) hx hb dX12_fact_70 (by decide) ?_
              refine lv_istore_n (lv' := [(1, .int (1 : Int32)), (2, .int x5.2), (0, .ref h)]) hx hb dX12_fact_71 rfl hl (by decide) rfl (fun ls hl => ?_)
              refine lv_goto (tgt := 2) hx hb dX12_fact_72 (by decide) ?_
              replace hf := cont_b hK1 hf
              exact ih (1 : Int32) (msi x11.1 14 ((x11.1.1 14) + (1 : Int32))) H locs ls hI (lv_sub hl [2, 0] rfl) hf
            · replace hf := ifp c13 hf
              refine lv_iconst (v := 0) hx hb dX12_fact_58 (by decide) ?_
              replace hf := inl_b hK1 hf
              replace hf : Option.bind (some (x11.1, (0 : Int32))) K0 = some out := hf
              exact mret_z hx hb hr (by decide) hlocks hI (ret_e hK0 hf) dX12_fact_59
        · replace hf := ifn c9 hf
          refine lv_aload_n hx hb dX12_fact_23 rfl (lv_at hl 2 rfl) ?_
          refine lv_bipush (v := 11) hx hb dX12_fact_24 (by decide) ?_
          obtain ⟨x14, hc15, hf⟩ := bnd_b hf
          refine mcall_i (As := [.int (11 : Int32)]) (rest := []) (n := 1) ⟨hx, hb, hml, hown, hts⟩ (cm_opens l D h ad cy (11 : Int32) x7.1 x14 hc15 _) (cwV 1 hts gX12_fact_X12_opens rfl rfl rfl ⟨rfl, nd_opens⟩ ⟨Nat.le_of_ble_eq_true rfl, Nat.le_of_ble_eq_true rfl⟩) hI hA rfl hl.1 (Nat.le_of_ble_eq_true rfl) dX12_fact_26 ⟨Nat.zero_le _, Nat.zero_le _⟩ (fun H locs hI => ?_)
          refine lv_if_ne (tgt := 34) hx hb dX12_fact_29 (by decide) (fun c16 => ?_) (fun c16 => ?_)
          · replace hf := ifn c16 hf
            refine lv_aload_n hx hb dX12_fact_34 rfl (lv_at hl 2 rfl) ?_
            obtain ⟨x17, hc18, hf⟩ := bnd_b hf
            refine mcall_v (As := []) (rest := []) (n := 0) ⟨hx, hb, hml, hown, hts⟩ (cm_passWord l D h ad cy  x14.1 x17 hc18 _) (cwV 0 hts gX12_fact_X12_passWord rfl rfl rfl ⟨rfl, nd_passWord⟩ ⟨Nat.le_of_ble_eq_true rfl, Nat.le_of_ble_eq_true rfl⟩) hI hA rfl hl.1 (Nat.le_of_ble_eq_true rfl) dX12_fact_35 ⟨Nat.zero_le _, Nat.zero_le _⟩ (fun H locs hI => ?_)
            refine lv_iconst (v := 1) hx hb dX12_fact_38 (by decide) ?_
            refine lv_istore_n (lv' := [(1, .int (1 : Int32)), (2, .int x5.2), (0, .ref h)]) hx hb dX12_fact_39 rfl hl (by decide) rfl (fun ls hl => ?_)
            refine lv_goto (tgt := 72) hx hb dX12_fact_40 (by decide) ?_
            refine lv_goto (tgt := 2) hx hb dX12_fact_72 (by decide) ?_
            replace hf := cont_b hK1 hf
            exact ih (1 : Int32) x17 H locs ls hI (lv_sub hl [2, 0] rfl) hf
          · replace hf := ifp c16 hf
            refine lv_iconst (v := 0) hx hb dX12_fact_32 (by decide) ?_
            replace hf := inl_b hK1 hf
            replace hf : Option.bind (some (x14.1, (0 : Int32))) K0 = some out := hf
            exact mret_z hx hb hr (by decide) hlocks hI (ret_e hK0 hf) dX12_fact_33
  unfold fm_fact at hf
  refine lv_iconst (v := 1) hx hb dX12_fact_0 (by decide) ?_
  refine lv_istore_n (lv' := [(1, .int (1 : Int32)), (0, .ref h)]) hx hb dX12_fact_1 rfl hl (by decide) rfl (fun ls hl => ?_)
  exact L_2  mFuel (1 : Int32) s0 s.heap [] ls hI (lv_sub hl [1, 0] rfl) (asc_b hf)

theorem nd_isInside : yX12_isInside.cls ≠ "java/lang/invoke/MethodHandle" ∧ yX12_isInside.cls ≠ "java/lang/invoke/VarHandle" ∧ (parseMethodDescriptor yX12_isInside.desc).map (fun d => d.parameters.length) = some 0 := by decide +kernel
set_option maxHeartbeats 4000000 in
set_option maxRecDepth 100000 in
theorem cm_isInside (l : Launch) (D : va_G) (h : Nat) (ad : Nat → Nat) (cy : Nat → ClassId)  (s0 : MSt) (out : MSt × Int32) (hf : fm_isInside s0 = some out) (sz : Nat) : CMi l D h ad cy yX12_isInside wsX12_isInside { frames := 0, cells := 0, slots := 0, locals := 0 } [] s0 out sz := by
  refine Met.ofW (cc := cX12_isInside) (maxL := 2) (ret := (some .boolean)) (by decide) rfl ?_
  intro p e s m args below meth c s₁ B hml hv
  obtain ⟨rfl, hsz, hP, hK, hD0⟩ := hv
  have hx := B.exec
  have hb := B.bytes
  have hr := B.returns
  have hts := atoms_spec (ws := wsX12_isInside) B.pre
  have hown : s.vm.findClass RX12 = some m.cls := findClass_of_methodNamed B.named
  have hlocks := B.notSynchronized
  subst hsz
  have hI : MI D (MA h ad cy s0 s.heap.size) h ad cy s s.heap s0 s.heap [] := ⟨hK, hP, hD0.self, va_S.rf⟩
  have hA : ∀ q : Nat, s.heap.size ≤ q → MA h ad cy s0 s.heap.size q := fun q hq => Or.inr hq
  have hin : ∀ w ∈ u_ws RX12 TX12 42, w ∈ wsX12_isInside := fun w hw => List.mem_cons_of_mem _ (List.mem_append_right _ hw)
  have k_open : Cond.fieldLink RX12 35 "HalfBridgeModel" "open" "[I" ∈ wsX12_isInside := by decide +kernel
  have k_opened : Cond.fieldLink RX12 162 "HalfBridgeModel" "opened" "I" ∈ wsX12_isInside := by decide +kernel
  have hl := lv_entry ([.ref h]) (n := 2) (Nat.le_of_ble_eq_true rfl)
  rw [lg_entry_eq]
  generalize (lg_sl ([.ref h]) ++ List.replicate (2 - (lg_sl ([.ref h])).length) Slot.unset).toArray = ls at hl ⊢
  have hl : lv_has ls 2 [(0, .ref h)] := hl
  obtain ⟨K0, hK0, hf⟩ := top_e hf
  have B_29 : ∀   (st : MSt) (H : Heap) (locs : List Loc) (ls : Array Slot), MI D (MA h ad cy s0 s.heap.size) h ad cy s s.heap st H locs → lv_has ls 2 [] → (fm_isInside_j29 st).bind K0 = some out → W p l e (headSpec wsX12_isInside { frames := 0, cells := 0, slots := 0, locals := 0 }).room s m (([.ref h] : List Value).toArray) below meth c H locs 0 0 (MQ below (MQi D h ad cy s0 out s.heap.size) ([.ref h] : List Value).toArray s 0 0 (MA h ad cy s0 s.heap.size)) (F0 m 29 ls []) := by
    intro st H locs ls hI hl hf
    unfold fm_isInside_j29 at hf
    refine lv_iconst (v := 0) hx hb dX12_isInside_29 (by decide) ?_
    exact mret_z hx hb hr (by decide) hlocks hI (ret_e hK0 hf) dX12_isInside_30
  have L_2 : ∀  (n : Nat) (v1 : Int32) (st : MSt) (H : Heap) (locs : List Loc) (ls : Array Slot), MI D (MA h ad cy s0 s.heap.size) h ad cy s s.heap st H locs → lv_has ls 2 [(0, .ref h), (1, .int v1)] → (iter (fun x : (Int32 × MSt) => fm_isInside_s2 x.1 x.2) n (v1, st)).bind (fun x => ((Sum.elim (fun o : MSt × Int32 => (some o : Option (MSt × Int32))) (fun x : (Int32 × MSt) => fm_isInside_j29 x.2)) x).bind K0) = some out → W p l e (headSpec wsX12_isInside { frames := 0, cells := 0, slots := 0, locals := 0 }).room s m (([.ref h] : List Value).toArray) below meth c H locs 0 0 (MQ below (MQi D h ad cy s0 out s.heap.size) ([.ref h] : List Value).toArray s 0 0 (MA h ad cy s0 s.heap.size)) (F0 m 2 ls []) := by
    intro n
    induction n with
    | zero => intro v1 st H locs ls hI hl hf; exact (iter_0 hf).elim
    | succ n ih =>
      intro v1 st H locs ls hI hl hf
      obtain ⟨K1, hK1, hf⟩ := iter_e hf
      replace hf : (fm_isInside_s2 v1 st).bind K1 = some out := hf
      unfold fm_isInside_s2 at hf
      refine lv_iload_n hx hb dX12_isInside_2 rfl (lv_at hl 1 rfl) ?_
      refine lv_aload_n hx hb dX12_isInside_3 rfl (lv_at hl 0 rfl) ?_
      refine mg_opened hx hb hts hin hown k_opened hI dX12_isInside_4 ?_
      refine lv_icmp_ge (tgt := 29) hx hb dX12_isInside_7 (by decide) (fun c1 => ?_) (fun c1 => ?_)
      · replace hf := ifp c1 hf
        replace hf := exit_b hK1 hf
        exact B_29  st H locs ls hI (lv_sub hl [] rfl) hf
      · replace hf := ifn c1 hf
        refine lv_aload_n hx hb dX12_isInside_10 rfl (lv_at hl 0 rfl) ?_
        refine mg_open hx hb hts hin hown k_open hI dX12_isInside_11 ?_
        refine lv_iload_n hx hb dX12_isInside_14 rfl (lv_at hl 1 rfl) ?_
        obtain ⟨k2, hf⟩ := chk_b hf
        refine ml_open hx hb hI k2 dX12_isInside_15 ?_
        refine lv_bipush (v := 91) hx hb dX12_isInside_16 (by decide) ?_
        refine lv_icmp_ne (tgt := 23) hx hb dX12_isInside_18 (by decide) (fun c3 => ?_) (fun c3 => ?_)
        · replace hf := ifn c3 hf
          refine lv_iinc (v := (v1 + 1)) (lv' := [(1, .int (v1 + 1)), (0, .ref h)]) hx hb dX12_isInside_23 hl (k := 1) rfl (ci_ _ (by decide)) (by decide) rfl (fun ls hl => ?_)
          refine lv_goto (tgt := 2) hx hb dX12_isInside_26 (by decide) ?_
          replace hf := cont_b hK1 hf
          exact ih (v1 + 1) st H locs ls hI (lv_sub hl [1, 0] rfl) hf
        · replace hf := ifp c3 hf
          refine lv_iconst (v := 1) hx hb dX12_isInside_21 (by decide) ?_
          replace hf := inl_b hK1 hf
          replace hf : Option.bind (some (st, (1 : Int32))) K0 = some out := hf
          exact mret_z hx hb hr (by decide) hlocks hI (ret_e hK0 hf) dX12_isInside_22
  unfold fm_isInside at hf
  refine lv_iconst (v := 0) hx hb dX12_isInside_0 (by decide) ?_
  refine lv_istore_n (lv' := [(1, .int (0 : Int32)), (0, .ref h)]) hx hb dX12_isInside_1 rfl hl (by decide) rfl (fun ls hl => ?_)
  exact L_2  mFuel (0 : Int32) s0 s.heap [] ls hI (lv_sub hl [1, 0] rfl) (asc_b hf)
