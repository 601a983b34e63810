theorem nd_pop : yX12_pop.cls ≠ "java/lang/invoke/MethodHandle" ∧ yX12_pop.cls ≠ "java/lang/invoke/VarHandle" ∧ (parseMethodDescriptor yX12_pop.desc).map (fun d => d.parameters.length) = some 0 := by decide +kernel
set_option maxHeartbeats 4000000 in
set_option maxRecDepth 100000 in
theorem cm_pop (l : Launch) (D : va_G) (h : Nat) (ad : Nat → Nat) (cy : Nat → ClassId)  (s0 : MSt) (out : MSt × Int64) (hf : fm_pop s0 = some out) (sz : Nat) : CMl l D h ad cy yX12_pop wsX12_pop { frames := 0, cells := 0, slots := 0, locals := 0 } [] s0 out sz := by
  refine Met.ofW (cc := cX12_pop) (maxL := 1) (ret := (some .long)) (by decide) rfl ?_
  intro p e s m args below meth c s₁ B hml hv
  obtain ⟨rfl, hsz, hP, hK, hD0⟩ := hv
  have hx := B.exec
  have hb := B.bytes
  have hr := B.returns
  have hts := atoms_spec (ws := wsX12_pop) B.pre
  have hown : s.vm.findClass RX12 = some m.cls := findClass_of_methodNamed B.named
  have hlocks := B.notSynchronized
  subst hsz
  have hI : MI D (MA h ad cy s0 s.heap.size) h ad cy s s.heap s0 s.heap [] := ⟨hK, hP, hD0.self, va_S.rf⟩
  have hA : ∀ q : Nat, s.heap.size ≤ q → MA h ad cy s0 s.heap.size q := fun q hq => Or.inr hq
  have hin : ∀ w ∈ u_ws RX12 TX12 42, w ∈ wsX12_pop := fun w hw => List.mem_cons_of_mem _ (List.mem_append_right _ hw)
  have k_stack : Cond.fieldLink RX12 38 "HalfBridgeModel" "stack" "[J" ∈ wsX12_pop := by decide +kernel
  have k_top : Cond.fieldLink RX12 299 "HalfBridgeModel" "top" "I" ∈ wsX12_pop := by decide +kernel
  have hl := lv_entry ([.ref h]) (n := 1) (Nat.le_of_ble_eq_true rfl)
  rw [lg_entry_eq]
  generalize (lg_sl ([.ref h]) ++ List.replicate (1 - (lg_sl ([.ref h])).length) Slot.unset).toArray = ls at hl ⊢
  have hl : lv_has ls 1 [(0, .ref h)] := hl
  obtain ⟨K0, hK0, hf⟩ := top_e hf
  unfold fm_pop at hf
  refine lv_aload_n hx hb dX12_pop_0 rfl (lv_at hl 0 rfl) ?_
  refine lv_dup hx hb dX12_pop_1 rfl ?_
  refine mg_top hx hb hts hin hown k_top hI dX12_pop_2 ?_
  refine lv_iconst (v := 1) hx hb dX12_pop_5 (by decide) ?_
  refine lv_isub hx hb dX12_pop_6 ?_
  refine mp_top hx hb hts hin hown k_top hI dX12_pop_7 (fun H locs hI => ?_)
  refine lv_aload_n hx hb dX12_pop_10 rfl (lv_at hl 0 rfl) ?_
  refine mg_stack hx hb hts hin hown k_stack hI dX12_pop_11 ?_
  refine lv_aload_n hx hb dX12_pop_14 rfl (lv_at hl 0 rfl) ?_
  refine mg_top hx hb hts hin hown k_top hI dX12_pop_15 ?_
  obtain ⟨k1, hf⟩ := chk_b hf
  refine ml_stack hx hb hI k1 dX12_pop_18 ?_
  exact mret_l hx hb hr hlocks hI (ret_e hK0 hf) dX12_pop_19

theorem nd_one : yX12_one.cls ≠ "java/lang/invoke/MethodHandle" ∧ yX12_one.cls ≠ "java/lang/invoke/VarHandle" ∧ (parseMethodDescriptor yX12_one.desc).map (fun d => d.parameters.length) = some 3 := by decide +kernel
set_option maxHeartbeats 4000000 in
set_option maxRecDepth 100000 in
theorem cs_one (l : Launch) (a0 : Int32) (a1 : Int64) (a3 : Int64) (out : Int64) (hf : fm_one a0 a1 a3 = some out) (sz : Nat) : CSl l yX12_one wsX12_one { frames := 0, cells := 0, slots := 0, locals := 0 } [.int a0, .long a1, .long a3] out sz := by
  refine Met.ofW (cc := cX12_one) (maxL := 5) (ret := (some .long)) (by decide) rfl ?_
  intro p e s m args below meth c s₁ B hml hv
  obtain ⟨rfl, hsz⟩ := hv
  have hx := B.exec
  have hb := B.bytes
  have hr := B.returns
  have hts := atoms_spec (ws := wsX12_one) B.pre
  have hown : s.vm.findClass RX12 = some m.cls := findClass_of_methodNamed B.named
  have hlocks := B.notSynchronized
  subst hsz
  have hl := lv_entry ([.int a0, .long a1, .long a3]) (n := 5) (Nat.le_of_ble_eq_true rfl)
  rw [lg_entry_eq]
  generalize (lg_sl ([.int a0, .long a1, .long a3]) ++ List.replicate (5 - (lg_sl ([.int a0, .long a1, .long a3])).length) Slot.unset).toArray = ls at hl ⊢
  have hl : lv_has ls 5 [(0, .int a0), (1, .long a1), (3, .long a3)] := hl
  obtain ⟨K0, hK0, hf⟩ := top_e hf
  unfold fm_one at hf
  refine lv_iload_n hx hb dX12_one_0 rfl (lv_at hl 0 rfl) ?_
  by_cases c1 : a0 = 2
  · replace hf := ifp c1 hf
    refine lv_tableIn (off := 59) (tgt := 60) hx hb dX12_one_1 (by rw [c1]; decide) (by rw [c1]; decide) (by rw [c1]; rfl) (by decide) ?_
    refine lv_lload_n hx hb dX12_one_60 rfl (lv_at hl 1 rfl) ?_
    refine lv_lload_n hx hb dX12_one_61 rfl (lv_at hl 2 rfl) ?_
    refine lv_ladd hx hb dX12_one_62 ?_
    exact sret_l hx hb hr hlocks (ret_e hK0 hf) dX12_one_63
  replace hf := ifn c1 hf
  by_cases c2 : a0 = 3
  · replace hf := ifp c2 hf
    refine lv_tableIn (off := 63) (tgt := 64) hx hb dX12_one_1 (by rw [c2]; decide) (by rw [c2]; decide) (by rw [c2]; rfl) (by decide) ?_
    refine lv_lload_n hx hb dX12_one_64 rfl (lv_at hl 1 rfl) ?_
    refine lv_lload_n hx hb dX12_one_65 rfl (lv_at hl 2 rfl) ?_
    refine lv_lsub hx hb dX12_one_66 ?_
    exact sret_l hx hb hr hlocks (ret_e hK0 hf) dX12_one_67
  replace hf := ifn c2 hf
  by_cases c3 : a0 = 4
  · replace hf := ifp c3 hf
    refine lv_tableIn (off := 67) (tgt := 68) hx hb dX12_one_1 (by rw [c3]; decide) (by rw [c3]; decide) (by rw [c3]; rfl) (by decide) ?_
    refine lv_lload_n hx hb dX12_one_68 rfl (lv_at hl 1 rfl) ?_
    refine lv_lload_n hx hb dX12_one_69 rfl (lv_at hl 2 rfl) ?_
    refine lv_lmul hx hb dX12_one_70 ?_
    exact sret_l hx hb hr hlocks (ret_e hK0 hf) dX12_one_71
  replace hf := ifn c3 hf
  by_cases c4 : a0 = 5
  · replace hf := ifp c4 hf
    refine lv_tableIn (off := 71) (tgt := 72) hx hb dX12_one_1 (by rw [c4]; decide) (by rw [c4]; decide) (by rw [c4]; rfl) (by decide) ?_
    refine lv_lload_n hx hb dX12_one_72 rfl (lv_at hl 2 rfl) ?_
    refine lv_lconst (v := 0) hx hb dX12_one_73 (by decide) ?_
    refine W.lcmp hx hb dX12_one_74 ?_
    refine lv_if_ne (tgt := 82) hx hb dX12_one_75 (by decide) (fun c12 => ?_) (fun c12 => ?_)
    · replace hf := ifn c12 hf
      refine lv_lload_n hx hb dX12_one_82 rfl (lv_at hl 1 rfl) ?_
      refine lv_lload_n hx hb dX12_one_83 rfl (lv_at hl 2 rfl) ?_
      obtain ⟨k13, hf⟩ := chk_b hf
      refine lv_ldiv hx hb dX12_one_84 (nzl_ne k13) ?_
      exact sret_l hx hb hr hlocks (ret_e hK0 hf) dX12_one_85
    · replace hf := ifp c12 hf
      refine lv_lconst (v := 0) hx hb dX12_one_78 (by decide) ?_
      refine lv_goto (tgt := 85) hx hb dX12_one_79 (by decide) ?_
      exact sret_l hx hb hr hlocks (ret_e hK0 hf) dX12_one_85
  replace hf := ifn c4 hf
  by_cases c5 : a0 = 6
  · replace hf := ifp c5 hf
    refine lv_tableIn (off := 85) (tgt := 86) hx hb dX12_one_1 (by rw [c5]; decide) (by rw [c5]; decide) (by rw [c5]; rfl) (by decide) ?_
    refine lv_lload_n hx hb dX12_one_86 rfl (lv_at hl 1 rfl) ?_
    refine lv_lload_n hx hb dX12_one_87 rfl (lv_at hl 2 rfl) ?_
    refine W.lcmp hx hb dX12_one_88 ?_
    refine lv_if_ge (tgt := 96) hx hb dX12_one_89 (by decide) (fun c14 => ?_) (fun c14 => ?_)
    · replace hf := ifp c14 hf
      refine lv_lconst (v := 0) hx hb dX12_one_96 (by decide) ?_
      exact sret_l hx hb hr hlocks (ret_e hK0 hf) dX12_one_97
    · replace hf := ifn c14 hf
      refine lv_lconst (v := 1) hx hb dX12_one_92 (by decide) ?_
      refine lv_goto (tgt := 97) hx hb dX12_one_93 (by decide) ?_
      exact sret_l hx hb hr hlocks (ret_e hK0 hf) dX12_one_97
  replace hf := ifn c5 hf
  by_cases c6 : a0 = 7
  · replace hf := ifp c6 hf
    refine lv_tableIn (off := 97) (tgt := 98) hx hb dX12_one_1 (by rw [c6]; decide) (by rw [c6]; decide) (by rw [c6]; rfl) (by decide) ?_
    refine lv_lload_n hx hb dX12_one_98 rfl (lv_at hl 1 rfl) ?_
    refine lv_lload_n hx hb dX12_one_99 rfl (lv_at hl 2 rfl) ?_
    refine W.lcmp hx hb dX12_one_100 ?_
    refine lv_if_gt (tgt := 108) hx hb dX12_one_101 (by decide) (fun c15 => ?_) (fun c15 => ?_)
    · replace hf := ifp c15 hf
      refine lv_lconst (v := 0) hx hb dX12_one_108 (by decide) ?_
      exact sret_l hx hb hr hlocks (ret_e hK0 hf) dX12_one_109
    · replace hf := ifn c15 hf
      refine lv_lconst (v := 1) hx hb dX12_one_104 (by decide) ?_
      refine lv_goto (tgt := 109) hx hb dX12_one_105 (by decide) ?_
      exact sret_l hx hb hr hlocks (ret_e hK0 hf) dX12_one_109
  replace hf := ifn c6 hf
  by_cases c7 : a0 = 8
  · replace hf := ifp c7 hf
    refine lv_tableIn (off := 109) (tgt := 110) hx hb dX12_one_1 (by rw [c7]; decide) (by rw [c7]; decide) (by rw [c7]; rfl) (by decide) ?_
    refine lv_lload_n hx hb dX12_one_110 rfl (lv_at hl 1 rfl) ?_
    refine lv_lload_n hx hb dX12_one_111 rfl (lv_at hl 2 rfl) ?_
    refine W.lcmp hx hb dX12_one_112 ?_
    refine lv_if_ne (tgt := 120) hx hb dX12_one_113 (by decide) (fun c16 => ?_) (fun c16 => ?_)
    · replace hf := ifn c16 hf
      refine lv_lconst (v := 0) hx hb dX12_one_120 (by decide) ?_
      exact sret_l hx hb hr hlocks (ret_e hK0 hf) dX12_one_121
    · replace hf := ifp c16 hf
      refine lv_lconst (v := 1) hx hb dX12_one_116 (by decide) ?_
      refine lv_goto (tgt := 121) hx hb dX12_one_117 (by decide) ?_
      exact sret_l hx hb hr hlocks (ret_e hK0 hf) dX12_one_121
  replace hf := ifn c7 hf
  by_cases c8 : a0 = 9
  · replace hf := ifp c8 hf
    refine lv_tableIn (off := 121) (tgt := 122) hx hb dX12_one_1 (by rw [c8]; decide) (by rw [c8]; decide) (by rw [c8]; rfl) (by decide) ?_
    refine lv_lload_n hx hb dX12_one_122 rfl (lv_at hl 1 rfl) ?_
    refine lv_lload_n hx hb dX12_one_123 rfl (lv_at hl 2 rfl) ?_
    refine W.lcmp hx hb dX12_one_124 ?_
    refine lv_if_lt (tgt := 132) hx hb dX12_one_125 (by decide) (fun c17 => ?_) (fun c17 => ?_)
    · replace hf := ifp c17 hf
      refine lv_lconst (v := 0) hx hb dX12_one_132 (by decide) ?_
      exact sret_l hx hb hr hlocks (ret_e hK0 hf) dX12_one_133
    · replace hf := ifn c17 hf
      refine lv_lconst (v := 1) hx hb dX12_one_128 (by decide) ?_
      refine lv_goto (tgt := 133) hx hb dX12_one_129 (by decide) ?_
      exact sret_l hx hb hr hlocks (ret_e hK0 hf) dX12_one_133
  replace hf := ifn c8 hf
  by_cases c9 : a0 = 10
  · replace hf := ifp c9 hf
    refine lv_tableIn (off := 133) (tgt := 134) hx hb dX12_one_1 (by rw [c9]; decide) (by rw [c9]; decide) (by rw [c9]; rfl) (by decide) ?_
    refine lv_lload_n hx hb dX12_one_134 rfl (lv_at hl 1 rfl) ?_
    refine lv_lload_n hx hb dX12_one_135 rfl (lv_at hl 2 rfl) ?_
    refine W.lcmp hx hb dX12_one_136 ?_
    refine lv_if_le (tgt := 144) hx hb dX12_one_137 (by decide) (fun c18 => ?_) (fun c18 => ?_)
    · replace hf := ifp c18 hf
      refine lv_lconst (v := 0) hx hb dX12_one_144 (by decide) ?_
      exact sret_l hx hb hr hlocks (ret_e hK0 hf) dX12_one_145
    · replace hf := ifn c18 hf
      refine lv_lconst (v := 1) hx hb dX12_one_140 (by decide) ?_
      refine lv_goto (tgt := 145) hx hb dX12_one_141 (by decide) ?_
      exact sret_l hx hb hr hlocks (ret_e hK0 hf) dX12_one_145
  replace hf := ifn c9 hf
  by_cases c10 : a0 = 11
  · replace hf := ifp c10 hf
    refine lv_tableIn (off := 149) (tgt := 150) hx hb dX12_one_1 (by rw [c10]; decide) (by rw [c10]; decide) (by rw [c10]; rfl) (by decide) ?_
    refine lv_lload_n hx hb dX12_one_150 rfl (lv_at hl 1 rfl) ?_
    refine lv_lload_n hx hb dX12_one_151 rfl (lv_at hl 2 rfl) ?_
    refine lv_lor hx hb dX12_one_152 ?_
    exact sret_l hx hb hr hlocks (ret_e hK0 hf) dX12_one_153
  replace hf := ifn c10 hf
  by_cases c11 : a0 = 12
  · replace hf := ifp c11 hf
    refine lv_tableIn (off := 145) (tgt := 146) hx hb dX12_one_1 (by rw [c11]; decide) (by rw [c11]; decide) (by rw [c11]; rfl) (by decide) ?_
    refine lv_lload_n hx hb dX12_one_146 rfl (lv_at hl 1 rfl) ?_
    refine lv_lload_n hx hb dX12_one_147 rfl (lv_at hl 2 rfl) ?_
    refine lv_land hx hb dX12_one_148 ?_
    exact sret_l hx hb hr hlocks (ret_e hK0 hf) dX12_one_149
  replace hf := ifn c11 hf
  refine lv_tableOut (tgt := 150) hx hb dX12_one_1 (tsw_out (fun k k1 k2 => ?_)) (by decide) ?_
  · rcases (show k = 2 ∨ k = 3 ∨ k = 4 ∨ k = 5 ∨ k = 6 ∨ k = 7 ∨ k = 8 ∨ k = 9 ∨ k = 10 ∨ k = 11 ∨ k = 12 by omega) with rfl | rfl | rfl | rfl | rfl | rfl | rfl | rfl | rfl | rfl | rfl
    · exact c1
    · exact c2
    · exact c3
    · exact c4
    · exact c5
    · exact c6
    · exact c7
    · exact c8
    · exact c9
    · exact c10
    · exact c11
  · refine lv_lload_n hx hb dX12_one_150 rfl (lv_at hl 1 rfl) ?_
    refine lv_lload_n hx hb dX12_one_151 rfl (lv_at hl 2 rfl) ?_
    refine lv_lor hx hb dX12_one_152 ?_
    exact sret_l hx hb hr hlocks (ret_e hK0 hf) dX12_one_153

theorem nd_reckons : yX12_reckons.cls ≠ "java/lang/invoke/MethodHandle" ∧ yX12_reckons.cls ≠ "java/lang/invoke/VarHandle" ∧ (parseMethodDescriptor yX12_reckons.desc).map (fun d => d.parameters.length) = some 3 := by decide +kernel
set_option maxHeartbeats 4000000 in
set_option maxRecDepth 100000 in
theorem cm_reckons (l : Launch) (D : va_G) (h : Nat) (ad : Nat → Nat) (cy : Nat → ClassId) (a1 : Int32) (a2 : Int32) (a3 : Int32) (s0 : MSt) (out : MSt × Int64) (hf : fm_reckons a1 a2 a3 s0 = some out) (sz : Nat) : CMl l D h ad cy yX12_reckons wsX12_reckons { frames := 1, cells := 0, slots := 0, locals := 24 } [.int a1, .int a2, .int a3] s0 out sz := by
  refine Met.ofW (cc := cX12_reckons) (maxL := 11) (ret := (some .long)) (by decide) rfl ?_
  intro p e s m args below meth c s₁ B hml hv
  obtain ⟨rfl, hsz, hP, hK, hD0⟩ := hv
  have hx := B.exec
  have hb := B.bytes
  have hr := B.returns
  have hts := atoms_spec (ws := wsX12_reckons) B.pre
  have hown : s.vm.findClass RX12 = some m.cls := findClass_of_methodNamed B.named
  have hlocks := B.notSynchronized
  subst hsz
  have hI : MI D (MA h ad cy s0 s.heap.size) h ad cy s s.heap s0 s.heap [] := ⟨hK, hP, hD0.self, va_S.rf⟩
  have hA : ∀ q : Nat, s.heap.size ≤ q → MA h ad cy s0 s.heap.size q := fun q hq => Or.inr hq
  have hin : ∀ w ∈ u_ws RX12 TX12 42, w ∈ wsX12_reckons := fun w hw => List.mem_cons_of_mem _ (List.mem_append_right _ hw)
  have k_sign : Cond.fieldLink RX12 13 "HalfBridgeModel" "sign" "[I" ∈ wsX12_reckons := by decide +kernel
  have k_top : Cond.fieldLink RX12 299 "HalfBridgeModel" "top" "I" ∈ wsX12_reckons := by decide +kernel
  have k_word : Cond.fieldLink RX12 42 "HalfBridgeModel" "word" "[J" ∈ wsX12_reckons := by decide +kernel
  have hl := lv_entry ([.ref h, .int a1, .int a2, .int a3]) (n := 11) (Nat.le_of_ble_eq_true rfl)
  rw [lg_entry_eq]
  generalize (lg_sl ([.ref h, .int a1, .int a2, .int a3]) ++ List.replicate (11 - (lg_sl ([.ref h, .int a1, .int a2, .int a3])).length) Slot.unset).toArray = ls at hl ⊢
  have hl : lv_has ls 11 [(0, .ref h), (1, .int a1), (2, .int a2), (3, .int a3)] := hl
  obtain ⟨K0, hK0, hf⟩ := top_e hf
  have B_135 : ∀   (st : MSt) (H : Heap) (locs : List Loc) (ls : Array Slot), MI D (MA h ad cy s0 s.heap.size) h ad cy s s.heap st H locs → lv_has ls 11 [(0, .ref h)] → (fm_reckons_j135 st).bind K0 = some out → W p l e (headSpec wsX12_reckons { frames := 1, cells := 0, slots := 0, locals := 24 }).room s m (([.ref h, .int a1, .int a2, .int a3] : List Value).toArray) below meth c H locs 0 0 (MQ below (MQl D h ad cy s0 out s.heap.size) ([.ref h, .int a1, .int a2, .int a3] : List Value).toArray s 0 0 (MA h ad cy s0 s.heap.size)) (F0 m 135 ls []) := by
    intro st H locs ls hI hl hf
    unfold fm_reckons_j135 at hf
    refine lv_aload_n hx hb dX12_reckons_135 rfl (lv_at hl 0 rfl) ?_
    obtain ⟨x1, hc2, hf⟩ := bnd_b hf
    refine mcall_l (As := []) (rest := []) (n := 0) ⟨hx, hb, hml, hown, hts⟩ (cm_pop l D h ad cy  st x1 hc2 _) (cwV 0 hts gX12_reckons_X12_pop rfl rfl rfl ⟨rfl, nd_pop⟩ ⟨Nat.le_of_ble_eq_true rfl, Nat.le_of_ble_eq_true rfl⟩) hI hA rfl hl.1 (Nat.le_of_ble_eq_true rfl) dX12_reckons_136 ⟨Nat.zero_le _, Nat.zero_le _⟩ (fun H locs hI => ?_)
    exact mret_l hx hb hr hlocks hI (ret_e hK0 hf) dX12_reckons_139
  have L_8 : ∀ (v1 : Int32) (v3 : Int32) (n : Nat) (v4 : Int32) (st : MSt) (H : Heap) (locs : List Loc) (ls : Array Slot), MI D (MA h ad cy s0 s.heap.size) h ad cy s s.heap st H locs → lv_has ls 11 [(0, .ref h), (1, .int v1), (3, .int v3), (4, .int v4)] → (iter (fun x : (Int32 × MSt) => fm_reckons_s8 v1 v3 x.1 x.2) n (v4, st)).bind (fun x => ((Sum.elim (fun o : MSt × Int64 => (some o : Option (MSt × Int64))) (fun x : (Int32 × MSt) => fm_reckons_j135 x.2)) x).bind K0) = some out → W p l e (headSpec wsX12_reckons { frames := 1, cells := 0, slots := 0, locals := 24 }).room s m (([.ref h, .int a1, .int a2, .int a3] : List Value).toArray) below meth c H locs 0 0 (MQ below (MQl D h ad cy s0 out s.heap.size) ([.ref h, .int a1, .int a2, .int a3] : List Value).toArray s 0 0 (MA h ad cy s0 s.heap.size)) (F0 m 8 ls []) := by
    intro v1 v3 n
    induction n with
    | zero => intro v4 st H locs ls hI hl hf; exact (iter_0 hf).elim
    | succ n ih =>
      intro v4 st H locs ls hI hl hf
      obtain ⟨K1, hK1, hf⟩ := iter_e hf
      replace hf : (fm_reckons_s8 v1 v3 v4 st).bind K1 = some out := hf
      unfold fm_reckons_s8 at hf
      refine lv_iload hx hb dX12_reckons_8 (lv_at hl 3 rfl) ?_
      refine lv_iload_n hx hb dX12_reckons_10 rfl (lv_at hl 2 rfl) ?_
      refine lv_icmp_ge (tgt := 135) hx hb dX12_reckons_11 (by decide) (fun c3 => ?_) (fun c3 => ?_)
      · replace hf := ifp c3 hf
        replace hf := exit_b hK1 hf
        exact B_135  st H locs ls hI (lv_sub hl [0] rfl) hf
      · replace hf := ifn c3 hf
        refine lv_aload_n hx hb dX12_reckons_14 rfl (lv_at hl 0 rfl) ?_
        refine mg_sign hx hb hts hin hown k_sign hI dX12_reckons_15 ?_
        refine lv_sipush (v := 400) hx hb dX12_reckons_18 (by decide) ?_
        refine lv_iload_n hx hb dX12_reckons_21 rfl (lv_at hl 1 rfl) ?_
        refine lv_imul hx hb dX12_reckons_22 ?_
        refine lv_iload hx hb dX12_reckons_23 (lv_at hl 3 rfl) ?_
        refine lv_iadd hx hb dX12_reckons_25 ?_
        obtain ⟨k4, hf⟩ := chk_b hf
        refine ml_sign hx hb hI k4 dX12_reckons_26 ?_
        refine lv_bipush (v := 15) hx hb dX12_reckons_27 (by decide) ?_
        refine lv_iand hx hb dX12_reckons_29 ?_
        refine lv_istore (lv' := [(5, .int ((st.2.1 3 (((400 : Int32) * v1) + v4).toNatClampNeg) &&& (15 : Int32))), (0, .ref h), (1, .int v1), (3, .int v3), (4, .int v4)]) hx hb dX12_reckons_30 hl (by decide) rfl (fun ls hl => ?_)
        refine lv_aload_n hx hb dX12_reckons_32 rfl (lv_at hl 1 rfl) ?_
        refine mg_sign hx hb hts hin hown k_sign hI dX12_reckons_33 ?_
        refine lv_sipush (v := 400) hx hb dX12_reckons_36 (by decide) ?_
        refine lv_iload_n hx hb dX12_reckons_39 rfl (lv_at hl 2 rfl) ?_
        refine lv_imul hx hb dX12_reckons_40 ?_
        refine lv_iload hx hb dX12_reckons_41 (lv_at hl 4 rfl) ?_
        refine lv_iadd hx hb dX12_reckons_43 ?_
        obtain ⟨k5, hf⟩ := chk_b hf
        refine ml_sign hx hb hI k5 dX12_reckons_44 ?_
        refine lv_iconst (v := 4) hx hb dX12_reckons_45 (by decide) ?_
        refine lv_ishr hx hb dX12_reckons_46 ?_
        refine lv_istore (lv' := [(6, .int ((st.2.1 3 (((400 : Int32) * v1) + v4).toNatClampNeg) >>> ((4 : Int32) &&& 31))), (5, .int ((st.2.1 3 (((400 : Int32) * v1) + v4).toNatClampNeg) &&& (15 : Int32))), (0, .ref h), (1, .int v1), (3, .int v3), (4, .int v4)]) hx hb dX12_reckons_47 hl (by decide) rfl (fun ls hl => ?_)
        refine lv_iload hx hb dX12_reckons_49 (lv_at hl 1 rfl) ?_
        refine lv_if_ne (tgt := 64) hx hb dX12_reckons_51 (by decide) (fun c6 => ?_) (fun c6 => ?_)
        · replace hf := ifn c6 hf
          refine lv_iload hx hb dX12_reckons_64 (lv_at hl 1 rfl) ?_
          refine lv_iconst (v := 1) hx hb dX12_reckons_66 (by decide) ?_
          refine lv_icmp_ne (tgt := 84) hx hb dX12_reckons_67 (by decide) (fun c7 => ?_) (fun c7 => ?_)
          · replace hf := ifn c7 hf
            refine lv_iload hx hb dX12_reckons_84 (lv_at hl 1 rfl) ?_
            refine lv_bipush (v := 11) hx hb dX12_reckons_86 (by decide) ?_
            refine lv_icmp_ne (tgt := 104) hx hb dX12_reckons_88 (by decide) (fun c8 => ?_) (fun c8 => ?_)
            · replace hf := ifn c8 hf
              refine lv_aload_n hx hb dX12_reckons_104 rfl (lv_at hl 2 rfl) ?_
              obtain ⟨x9, hc10, hf⟩ := bnd_b hf
              refine mcall_l (As := []) (rest := []) (n := 0) ⟨hx, hb, hml, hown, hts⟩ (cm_pop l D h ad cy  st x9 hc10 _) (cwV 0 hts gX12_reckons_X12_pop rfl rfl rfl ⟨rfl, nd_pop⟩ ⟨Nat.le_of_ble_eq_true rfl, Nat.le_of_ble_eq_true rfl⟩) hI hA rfl hl.1 (Nat.le_of_ble_eq_true rfl) dX12_reckons_105 ⟨Nat.zero_le _, Nat.zero_le _⟩ (fun H locs hI => ?_)
              refine lv_lstore (lv' := [(7, .long x9.2), (6, .int ((st.2.1 3 (((400 : Int32) * v1) + v4).toNatClampNeg) >>> ((4 : Int32) &&& 31))), (5, .int ((st.2.1 3 (((400 : Int32) * v1) + v4).toNatClampNeg) &&& (15 : Int32))), (0, .ref h), (1, .int v1), (3, .int v3), (4, .int v4)]) hx hb dX12_reckons_108 hl (by decide) rfl (fun ls hl => ?_)
              refine lv_aload_n hx hb dX12_reckons_110 rfl (lv_at hl 3 rfl) ?_
              obtain ⟨x11, hc12, hf⟩ := bnd_b hf
              refine mcall_l (As := []) (rest := []) (n := 0) ⟨hx, hb, hml, hown, hts⟩ (cm_pop l D h ad cy  x9.1 x11 hc12 _) (cwV 0 hts gX12_reckons_X12_pop rfl rfl rfl ⟨rfl, nd_pop⟩ ⟨Nat.le_of_ble_eq_true rfl, Nat.le_of_ble_eq_true rfl⟩) hI hA rfl hl.1 (Nat.le_of_ble_eq_true rfl) dX12_reckons_111 ⟨Nat.zero_le _, Nat.zero_le _⟩ (fun H locs hI => ?_)
              refine lv_lstore (lv' := [(9, .long x11.2), (7, .long x9.2), (6, .int ((st.2.1 3 (((400 : Int32) * v1) + v4).toNatClampNeg) >>> ((4 : Int32) &&& 31))), (5, .int ((st.2.1 3 (((400 : Int32) * v1) + v4).toNatClampNeg) &&& (15 : Int32))), (0, .ref h), (1, .int v1), (3, .int v3), (4, .int v4)]) hx hb dX12_reckons_114 hl (by decide) rfl (fun ls hl => ?_)
              refine lv_aload_n hx hb dX12_reckons_116 rfl (lv_at hl 4 rfl) ?_
              refine lv_iload hx hb dX12_reckons_117 (lv_at hl 3 rfl) ?_
              refine lv_lload hx hb dX12_reckons_119 (lv_at hl 0 rfl) ?_
              refine lv_lload hx hb dX12_reckons_121 (lv_at hl 1 rfl) ?_
              obtain ⟨x13, hc14, hf⟩ := bnd_b hf
              refine mst_l (As := [.int ((st.2.1 3 (((400 : Int32) * v1) + v4).toNatClampNeg) &&& (15 : Int32)), .long x11.2, .long x9.2]) (rest := [.ref h]) (n := 3) ⟨hx, hb, hml, hown, hts⟩ (cs_one l ((st.2.1 3 (((400 : Int32) * v1) + v4).toNatClampNeg) &&& (15 : Int32)) x11.2 x9.2 x13 hc14 _) (va_cwS 3 hts gX12_reckons_X12_one rfl rfl rfl nd_one ⟨Nat.le_of_ble_eq_true rfl, Nat.le_of_ble_eq_true rfl⟩) hI hA rfl hl.1 (Nat.le_of_ble_eq_true rfl) dX12_reckons_123 ⟨Nat.zero_le _, Nat.zero_le _⟩ (fun H locs hI => ?_)
              obtain ⟨x15, hc16, hf⟩ := bnd_b hf
              refine mcall_v (As := [.long x13]) (rest := []) (n := 1) ⟨hx, hb, hml, hown, hts⟩ (cm_push l D h ad cy x13 x11.1 x15 hc16 _) (cwV 1 hts gX12_reckons_X12_push rfl rfl rfl ⟨rfl, nd_push⟩ ⟨Nat.le_of_ble_eq_true rfl, Nat.le_of_ble_eq_true rfl⟩) hI hA rfl hl.1 (Nat.le_of_ble_eq_true rfl) dX12_reckons_126 ⟨Nat.zero_le _, Nat.zero_le _⟩ (fun H locs hI => ?_)
              refine lv_iinc (v := (v4 + 1)) (lv' := [(4, .int (v4 + 1)), (9, .long x11.2), (7, .long x9.2), (6, .int ((st.2.1 3 (((400 : Int32) * v1) + v4).toNatClampNeg) >>> ((4 : Int32) &&& 31))), (5, .int ((st.2.1 3 (((400 : Int32) * v1) + v4).toNatClampNeg) &&& (15 : Int32))), (0, .ref h), (1, .int v1), (3, .int v3)]) hx hb dX12_reckons_129 hl (k := 7) rfl (ci_ _ (by decide)) (by decide) rfl (fun ls hl => ?_)
              refine lv_goto (tgt := 8) hx hb dX12_reckons_132 (by decide) ?_
              replace hf := cont_b hK1 hf
              exact ih (v4 + 1) x15 H locs ls hI (lv_sub hl [5, 6, 7, 0] rfl) hf
            · replace hf := ifp c8 hf
              refine lv_aload_n hx hb dX12_reckons_91 rfl (lv_at hl 2 rfl) ?_
              refine lv_lconst (v := 1) hx hb dX12_reckons_92 (by decide) ?_
              refine lv_aload_n hx hb dX12_reckons_93 rfl (lv_at hl 2 rfl) ?_
              obtain ⟨x17, hc18, hf⟩ := bnd_b hf
              refine mcall_l (As := []) (rest := [.long (1 : Int64), .ref h]) (n := 0) ⟨hx, hb, hml, hown, hts⟩ (cm_pop l D h ad cy  st x17 hc18 _) (cwV 0 hts gX12_reckons_X12_pop rfl rfl rfl ⟨rfl, nd_pop⟩ ⟨Nat.le_of_ble_eq_true rfl, Nat.le_of_ble_eq_true rfl⟩) hI hA rfl hl.1 (Nat.le_of_ble_eq_true rfl) dX12_reckons_94 ⟨Nat.zero_le _, Nat.zero_le _⟩ (fun H locs hI => ?_)
              refine lv_lsub hx hb dX12_reckons_97 ?_
              obtain ⟨x19, hc20, hf⟩ := bnd_b hf
              refine mcall_v (As := [.long ((1 : Int64) - x17.2)]) (rest := []) (n := 1) ⟨hx, hb, hml, hown, hts⟩ (cm_push l D h ad cy ((1 : Int64) - x17.2) x17.1 x19 hc20 _) (cwV 1 hts gX12_reckons_X12_push rfl rfl rfl ⟨rfl, nd_push⟩ ⟨Nat.le_of_ble_eq_true rfl, Nat.le_of_ble_eq_true rfl⟩) hI hA rfl hl.1 (Nat.le_of_ble_eq_true rfl) dX12_reckons_98 ⟨Nat.zero_le _, Nat.zero_le _⟩ (fun H locs hI => ?_)
              refine lv_goto (tgt := 129) hx hb dX12_reckons_101 (by decide) ?_
              refine lv_iinc (v := (v4 + 1)) (lv' := [(4, .int (v4 + 1)), (6, .int ((st.2.1 3 (((400 : Int32) * v1) + v4).toNatClampNeg) >>> ((4 : Int32) &&& 31))), (5, .int ((st.2.1 3 (((400 : Int32) * v1) + v4).toNatClampNeg) &&& (15 : Int32))), (0, .ref h), (1, .int v1), (3, .int v3)]) hx hb dX12_reckons_129 hl (k := 5) rfl (ci_ _ (by decide)) (by decide) rfl (fun ls hl => ?_)
              refine lv_goto (tgt := 8) hx hb dX12_reckons_132 (by decide) ?_
              replace hf := cont_b hK1 hf
              exact ih (v4 + 1) x19 H locs ls hI (lv_sub hl [3, 4, 5, 0] rfl) hf
          · replace hf := ifp c7 hf
            refine lv_aload_n hx hb dX12_reckons_70 rfl (lv_at hl 2 rfl) ?_
            refine lv_aload_n hx hb dX12_reckons_71 rfl (lv_at hl 2 rfl) ?_
            refine mg_word hx hb hts hin hown k_word hI dX12_reckons_72 ?_
            refine lv_iload hx hb dX12_reckons_75 (lv_at hl 0 rfl) ?_
            obtain ⟨k21, hf⟩ := chk_b hf
            refine ml_word hx hb hI k21 dX12_reckons_77 ?_
            obtain ⟨x22, hc23, hf⟩ := bnd_b hf
            refine mcall_v (As := [.long (st.2.2 25 ((st.2.1 3 (((400 : Int32) * v1) + v4).toNatClampNeg) >>> ((4 : Int32) &&& 31)).toNatClampNeg)]) (rest := []) (n := 1) ⟨hx, hb, hml, hown, hts⟩ (cm_push l D h ad cy (st.2.2 25 ((st.2.1 3 (((400 : Int32) * v1) + v4).toNatClampNeg) >>> ((4 : Int32) &&& 31)).toNatClampNeg) st x22 hc23 _) (cwV 1 hts gX12_reckons_X12_push rfl rfl rfl ⟨rfl, nd_push⟩ ⟨Nat.le_of_ble_eq_true rfl, Nat.le_of_ble_eq_true rfl⟩) hI hA rfl hl.1 (Nat.le_of_ble_eq_true rfl) dX12_reckons_78 ⟨Nat.zero_le _, Nat.zero_le _⟩ (fun H locs hI => ?_)
            refine lv_goto (tgt := 129) hx hb dX12_reckons_81 (by decide) ?_
            refine lv_iinc (v := (v4 + 1)) (lv' := [(4, .int (v4 + 1)), (6, .int ((st.2.1 3 (((400 : Int32) * v1) + v4).toNatClampNeg) >>> ((4 : Int32) &&& 31))), (5, .int ((st.2.1 3 (((400 : Int32) * v1) + v4).toNatClampNeg) &&& (15 : Int32))), (0, .ref h), (1, .int v1), (3, .int v3)]) hx hb dX12_reckons_129 hl (k := 5) rfl (ci_ _ (by decide)) (by decide) rfl (fun ls hl => ?_)
            refine lv_goto (tgt := 8) hx hb dX12_reckons_132 (by decide) ?_
            replace hf := cont_b hK1 hf
            exact ih (v4 + 1) x22 H locs ls hI (lv_sub hl [3, 4, 5, 0] rfl) hf
        · replace hf := ifp c6 hf
          refine lv_aload_n hx hb dX12_reckons_54 rfl (lv_at hl 2 rfl) ?_
          refine lv_iload hx hb dX12_reckons_55 (lv_at hl 0 rfl) ?_
          refine lv_i2l (v := (((st.2.1 3 (((400 : Int32) * v1) + v4).toNatClampNeg) >>> ((4 : Int32) &&& 31)).toInt64)) hx hb dX12_reckons_57 rfl ?_
          obtain ⟨x24, hc25, hf⟩ := bnd_b hf
          refine mcall_v (As := [.long (((st.2.1 3 (((400 : Int32) * v1) + v4).toNatClampNeg) >>> ((4 : Int32) &&& 31)).toInt64)]) (rest := []) (n := 1) ⟨hx, hb, hml, hown, hts⟩ (cm_push l D h ad cy (((st.2.1 3 (((400 : Int32) * v1) + v4).toNatClampNeg) >>> ((4 : Int32) &&& 31)).toInt64) st x24 hc25 _) (cwV 1 hts gX12_reckons_X12_push rfl rfl rfl ⟨rfl, nd_push⟩ ⟨Nat.le_of_ble_eq_true rfl, Nat.le_of_ble_eq_true rfl⟩) hI hA rfl hl.1 (Nat.le_of_ble_eq_true rfl) dX12_reckons_58 ⟨Nat.zero_le _, Nat.zero_le _⟩ (fun H locs hI => ?_)
          refine lv_goto (tgt := 129) hx hb dX12_reckons_61 (by decide) ?_
          refine lv_iinc (v := (v4 + 1)) (lv' := [(4, .int (v4 + 1)), (6, .int ((st.2.1 3 (((400 : Int32) * v1) + v4).toNatClampNeg) >>> ((4 : Int32) &&& 31))), (5, .int ((st.2.1 3 (((400 : Int32) * v1) + v4).toNatClampNeg) &&& (15 : Int32))), (0, .ref h), (1, .int v1), (3, .int v3)]) hx hb dX12_reckons_129 hl (k := 5) rfl (ci_ _ (by decide)) (by decide) rfl (fun ls hl => ?_)
          refine lv_goto (tgt := 8) hx hb dX12_reckons_132 (by decide) ?_
          replace hf := cont_b hK1 hf
          exact ih (v4 + 1) x24 H locs ls hI (lv_sub hl [3, 4, 5, 0] rfl) hf
  unfold fm_reckons at hf
  refine lv_aload_n hx hb dX12_reckons_0 rfl (lv_at hl 0 rfl) ?_
  refine lv_iconst (v := 0) hx hb dX12_reckons_1 (by decide) ?_
  refine mp_top hx hb hts hin hown k_top hI dX12_reckons_2 (fun H locs hI => ?_)
  refine lv_iload_n hx hb dX12_reckons_5 rfl (lv_at hl 2 rfl) ?_
  refine lv_istore (lv' := [(4, .int a2), (0, .ref h), (1, .int a1), (2, .int a2), (3, .int a3)]) hx hb dX12_reckons_6 hl (by decide) rfl (fun ls hl => ?_)
  exact L_8 a1 a3 mFuel a2 (msi s0 24 (0 : Int32)) H locs ls hI (lv_sub hl [1, 2, 4, 0] rfl) (asc_b hf)

theorem nd_isRiver : yX12_isRiver.cls ≠ "java/lang/invoke/MethodHandle" ∧ yX12_isRiver.cls ≠ "java/lang/invoke/VarHandle" ∧ (parseMethodDescriptor yX12_isRiver.desc).map (fun d => d.parameters.length) = some 0 := by decide +kernel
set_option maxHeartbeats 4000000 in
set_option maxRecDepth 100000 in
theorem cm_isRiver (l : Launch) (D : va_G) (h : Nat) (ad : Nat → Nat) (cy : Nat → ClassId)  (s0 : MSt) (out : MSt × Int32) (hf : fm_isRiver s0 = some out) (sz : Nat) : CMi l D h ad cy yX12_isRiver wsX12_isRiver { frames := 0, cells := 0, slots := 0, locals := 0 } [] s0 out sz := by
  refine Met.ofW (cc := cX12_isRiver) (maxL := 1) (ret := (some .boolean)) (by decide) rfl ?_
  intro p e s m args below meth c s₁ B hml hv
  obtain ⟨rfl, hsz, hP, hK, hD0⟩ := hv
  have hx := B.exec
  have hb := B.bytes
  have hr := B.returns
  have hts := atoms_spec (ws := wsX12_isRiver) B.pre
  have hown : s.vm.findClass RX12 = some m.cls := findClass_of_methodNamed B.named
  have hlocks := B.notSynchronized
  subst hsz
  have hI : MI D (MA h ad cy s0 s.heap.size) h ad cy s s.heap s0 s.heap [] := ⟨hK, hP, hD0.self, va_S.rf⟩
  have hA : ∀ q : Nat, s.heap.size ≤ q → MA h ad cy s0 s.heap.size q := fun q hq => Or.inr hq
  have hin : ∀ w ∈ u_ws RX12 TX12 42, w ∈ wsX12_isRiver := fun w hw => List.mem_cons_of_mem _ (List.mem_append_right _ hw)
  have k_said : Cond.fieldLink RX12 45 "HalfBridgeModel" "said" "[I" ∈ wsX12_isRiver := by decide +kernel
  have hl := lv_entry ([.ref h]) (n := 1) (Nat.le_of_ble_eq_true rfl)
  rw [lg_entry_eq]
  generalize (lg_sl ([.ref h]) ++ List.replicate (1 - (lg_sl ([.ref h])).length) Slot.unset).toArray = ls at hl ⊢
  have hl : lv_has ls 1 [(0, .ref h)] := hl
  obtain ⟨K0, hK0, hf⟩ := top_e hf
  unfold fm_isRiver at hf
  refine lv_aload_n hx hb dX12_isRiver_0 rfl (lv_at hl 0 rfl) ?_
  refine mg_said hx hb hts hin hown k_said hI dX12_isRiver_1 ?_
  refine lv_iconst (v := 0) hx hb dX12_isRiver_4 (by decide) ?_
  obtain ⟨k1, hf⟩ := chk_b hf
  refine ml_said hx hb hI k1 dX12_isRiver_5 ?_
  refine lv_if_le (tgt := 13) hx hb dX12_isRiver_6 (by decide) (fun c2 => ?_) (fun c2 => ?_)
  · replace hf := ifp c2 hf
    refine lv_iconst (v := 0) hx hb dX12_isRiver_13 (by decide) ?_
    exact mret_z hx hb hr (by decide) hlocks hI (ret_e hK0 hf) dX12_isRiver_14
  · replace hf := ifn c2 hf
    refine lv_iconst (v := 1) hx hb dX12_isRiver_9 (by decide) ?_
    refine lv_goto (tgt := 14) hx hb dX12_isRiver_10 (by decide) ?_
    exact mret_z hx hb hr (by decide) hlocks hI (ret_e hK0 hf) dX12_isRiver_14

theorem nd_isSide : yX12_isSide.cls ≠ "java/lang/invoke/MethodHandle" ∧ yX12_isSide.cls ≠ "java/lang/invoke/VarHandle" ∧ (parseMethodDescriptor yX12_isSide.desc).map (fun d => d.parameters.length) = some 1 := by decide +kernel
set_option maxHeartbeats 4000000 in
set_option maxRecDepth 100000 in
theorem cs_isSide (l : Launch) (a0 : Int32) (out : Int32) (hf : fm_isSide a0 = some out) (sz : Nat) : CSi l yX12_isSide wsX12_isSide { frames := 0, cells := 0, slots := 0, locals := 0 } [.int a0] out sz := by
  refine Met.ofW (cc := cX12_isSide) (maxL := 1) (ret := (some .boolean)) (by decide) rfl ?_
  intro p e s m args below meth c s₁ B hml hv
  obtain ⟨rfl, hsz⟩ := hv
  have hx := B.exec
  have hb := B.bytes
  have hr := B.returns
  have hts := atoms_spec (ws := wsX12_isSide) B.pre
  have hown : s.vm.findClass RX12 = some m.cls := findClass_of_methodNamed B.named
  have hlocks := B.notSynchronized
  subst hsz
  have hl := lv_entry ([.int a0]) (n := 1) (Nat.le_of_ble_eq_true rfl)
  rw [lg_entry_eq]
  generalize (lg_sl ([.int a0]) ++ List.replicate (1 - (lg_sl ([.int a0])).length) Slot.unset).toArray = ls at hl ⊢
  have hl : lv_has ls 1 [(0, .int a0)] := hl
  obtain ⟨K0, hK0, hf⟩ := top_e hf
  unfold fm_isSide at hf
  refine lv_iload_n hx hb dX12_isSide_0 rfl (lv_at hl 0 rfl) ?_
  refine lv_if_eq (tgt := 9) hx hb dX12_isSide_1 (by decide) (fun c1 => ?_) (fun c1 => ?_)
  · replace hf := ifp c1 hf
    refine lv_iconst (v := 1) hx hb dX12_isSide_9 (by decide) ?_
    refine lv_goto (tgt := 14) hx hb dX12_isSide_10 (by decide) ?_
    exact sret_z hx hb hr (by decide) hlocks (ret_e hK0 hf) dX12_isSide_14
  · replace hf := ifn c1 hf
    refine lv_iload_n hx hb dX12_isSide_4 rfl (lv_at hl 0 rfl) ?_
    refine lv_iconst (v := 1) hx hb dX12_isSide_5 (by decide) ?_
    refine lv_icmp_ne (tgt := 13) hx hb dX12_isSide_6 (by decide) (fun c2 => ?_) (fun c2 => ?_)
    · replace hf := ifn c2 hf
      refine lv_iconst (v := 0) hx hb dX12_isSide_13 (by decide) ?_
      exact sret_z hx hb hr (by decide) hlocks (ret_e hK0 hf) dX12_isSide_14
    · replace hf := ifp c2 hf
      refine lv_iconst (v := 1) hx hb dX12_isSide_9 (by decide) ?_
      refine lv_goto (tgt := 14) hx hb dX12_isSide_10 (by decide) ?_
      exact sret_z hx hb hr (by decide) hlocks (ret_e hK0 hf) dX12_isSide_14

theorem nd_gap : yX12_gap.cls ≠ "java/lang/invoke/MethodHandle" ∧ yX12_gap.cls ≠ "java/lang/invoke/VarHandle" ∧ (parseMethodDescriptor yX12_gap.desc).map (fun d => d.parameters.length) = some 0 := by decide +kernel
set_option maxHeartbeats 4000000 in
set_option maxRecDepth 100000 in
theorem cm_gap (l : Launch) (D : va_G) (h : Nat) (ad : Nat → Nat) (cy : Nat → ClassId)  (s0 : MSt) (out : MSt × Int32) (hf : fm_gap s0 = some out) (sz : Nat) : CMi l D h ad cy yX12_gap wsX12_gap { frames := 0, cells := 0, slots := 0, locals := 0 } [] s0 out sz := by
  refine Met.ofW (cc := cX12_gap) (maxL := 1) (ret := (some .int)) (by decide) rfl ?_
  intro p e s m args below meth c s₁ B hml hv
  obtain ⟨rfl, hsz, hP, hK, hD0⟩ := hv
  have hx := B.exec
  have hb := B.bytes
  have hr := B.returns
  have hts := atoms_spec (ws := wsX12_gap) B.pre
  have hown : s.vm.findClass RX12 = some m.cls := findClass_of_methodNamed B.named
  have hlocks := B.notSynchronized
  subst hsz
  have hI : MI D (MA h ad cy s0 s.heap.size) h ad cy s s.heap s0 s.heap [] := ⟨hK, hP, hD0.self, va_S.rf⟩
  have hA : ∀ q : Nat, s.heap.size ≤ q → MA h ad cy s0 s.heap.size q := fun q hq => Or.inr hq
  have hin : ∀ w ∈ u_ws RX12 TX12 42, w ∈ wsX12_gap := fun w hw => List.mem_cons_of_mem _ (List.mem_append_right _ hw)
  have k_said : Cond.fieldLink RX12 45 "HalfBridgeModel" "said" "[I" ∈ wsX12_gap := by decide +kernel
  have hl := lv_entry ([.ref h]) (n := 1) (Nat.le_of_ble_eq_true rfl)
  rw [lg_entry_eq]
  generalize (lg_sl ([.ref h]) ++ List.replicate (1 - (lg_sl ([.ref h])).length) Slot.unset).toArray = ls at hl ⊢
  have hl : lv_has ls 1 [(0, .ref h)] := hl
  obtain ⟨K0, hK0, hf⟩ := top_e hf
  unfold fm_gap at hf
  refine lv_aload_n hx hb dX12_gap_0 rfl (lv_at hl 0 rfl) ?_
  refine mg_said hx hb hts hin hown k_said hI dX12_gap_1 ?_
  refine lv_iconst (v := 0) hx hb dX12_gap_4 (by decide) ?_
  obtain ⟨k1, hf⟩ := chk_b hf
  refine ml_said hx hb hI k1 dX12_gap_5 ?_
  refine lv_aload_n hx hb dX12_gap_6 rfl (lv_at hl 0 rfl) ?_
  refine mg_said hx hb hts hin hown k_said hI dX12_gap_7 ?_
  refine lv_bipush (v := 6) hx hb dX12_gap_10 (by decide) ?_
  obtain ⟨k2, hf⟩ := chk_b hf
  refine ml_said hx hb hI k2 dX12_gap_12 ?_
  refine lv_isub hx hb dX12_gap_13 ?_
  refine lv_aload_n hx hb dX12_gap_14 rfl (lv_at hl 0 rfl) ?_
  refine mg_said hx hb hts hin hown k_said hI dX12_gap_15 ?_
  refine lv_bipush (v := 7) hx hb dX12_gap_18 (by decide) ?_
  obtain ⟨k3, hf⟩ := chk_b hf
  refine ml_said hx hb hI k3 dX12_gap_20 ?_
  refine lv_isub hx hb dX12_gap_21 ?_
  exact mret_i hx hb hr hlocks hI (ret_e hK0 hf) dX12_gap_22

theorem nd_isMet : yX12_isMet.cls ≠ "java/lang/invoke/MethodHandle" ∧ yX12_isMet.cls ≠ "java/lang/invoke/VarHandle" ∧ (parseMethodDescriptor yX12_isMet.desc).map (fun d => d.parameters.length) = some 0 := by decide +kernel
set_option maxHeartbeats 4000000 in
set_option maxRecDepth 100000 in
theorem cm_isMet (l : Launch) (D : va_G) (h : Nat) (ad : Nat → Nat) (cy : Nat → ClassId)  (s0 : MSt) (out : MSt × Int32) (hf : fm_isMet s0 = some out) (sz : Nat) : CMi l D h ad cy yX12_isMet wsX12_isMet { frames := 1, cells := 0, slots := 0, locals := 20 } [] s0 out sz := by
  refine Met.ofW (cc := cX12_isMet) (maxL := 1) (ret := (some .boolean)) (by decide) rfl ?_
  intro p e s m args below meth c s₁ B hml hv
  obtain ⟨rfl, hsz, hP, hK, hD0⟩ := hv
  have hx := B.exec
  have hb := B.bytes
  have hr := B.returns
  have hts := atoms_spec (ws := wsX12_isMet) B.pre
  have hown : s.vm.findClass RX12 = some m.cls := findClass_of_methodNamed B.named
  have hlocks := B.notSynchronized
  subst hsz
  have hI : MI D (MA h ad cy s0 s.heap.size) h ad cy s s.heap s0 s.heap [] := ⟨hK, hP, hD0.self, va_S.rf⟩
  have hA : ∀ q : Nat, s.heap.size ≤ q → MA h ad cy s0 s.heap.size q := fun q hq => Or.inr hq
  have hl := lv_entry ([.ref h]) (n := 1) (Nat.le_of_ble_eq_true rfl)
  rw [lg_entry_eq]
  generalize (lg_sl ([.ref h]) ++ List.replicate (1 - (lg_sl ([.ref h])).length) Slot.unset).toArray = ls at hl ⊢
  have hl : lv_has ls 1 [(0, .ref h)] := hl
  obtain ⟨K0, hK0, hf⟩ := top_e hf
  unfold fm_isMet at hf
  refine lv_aload_n hx hb dX12_isMet_0 rfl (lv_at hl 0 rfl) ?_
  obtain ⟨x1, hc2, hf⟩ := bnd_b hf
  refine mcall_i (As := []) (rest := []) (n := 0) ⟨hx, hb, hml, hown, hts⟩ (cm_gap l D h ad cy  s0 x1 hc2 _) (cwV 0 hts gX12_isMet_X12_gap rfl rfl rfl ⟨rfl, nd_gap⟩ ⟨Nat.le_of_ble_eq_true rfl, Nat.le_of_ble_eq_true rfl⟩) hI hA rfl hl.1 (Nat.le_of_ble_eq_true rfl) dX12_isMet_1 ⟨Nat.zero_le _, Nat.zero_le _⟩ (fun H locs hI => ?_)
  refine lv_if_ne (tgt := 11) hx hb dX12_isMet_4 (by decide) (fun c3 => ?_) (fun c3 => ?_)
  · replace hf := ifn c3 hf
    refine lv_iconst (v := 0) hx hb dX12_isMet_11 (by decide) ?_
    exact mret_z hx hb hr (by decide) hlocks hI (ret_e hK0 hf) dX12_isMet_12
  · replace hf := ifp c3 hf
    refine lv_iconst (v := 1) hx hb dX12_isMet_7 (by decide) ?_
    refine lv_goto (tgt := 12) hx hb dX12_isMet_8 (by decide) ?_
    exact mret_z hx hb hr (by decide) hlocks hI (ret_e hK0 hf) dX12_isMet_12
