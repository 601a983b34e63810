theorem nd_count : yX12_count.cls ≠ "java/lang/invoke/MethodHandle" ∧ yX12_count.cls ≠ "java/lang/invoke/VarHandle" ∧ (parseMethodDescriptor yX12_count.desc).map (fun d => d.parameters.length) = some 1 := by decide +kernel
set_option maxHeartbeats 4000000 in
set_option maxRecDepth 100000 in
theorem cm_count (l : Launch) (D : va_G) (h : Nat) (ad : Nat → Nat) (cy : Nat → ClassId) (a1 : Int32) (s0 : MSt) (out : MSt × Int32) (hf : fm_count a1 s0 = some out) (sz : Nat) : CMi l D h ad cy yX12_count wsX12_count { frames := 1, cells := 0, slots := 0, locals := 20 } [.int a1] s0 out sz := by
  refine Met.ofW (cc := cX12_count) (maxL := 4) (ret := (some .int)) (by decide) rfl ?_
  intro p e s m args below meth c s₁ B hml hv
  obtain ⟨rfl, hsz, hP, hK, hD0⟩ := hv
  have hx := B.exec
  have hb := B.bytes
  have hr := B.returns
  have hts := atoms_spec (ws := wsX12_count) B.pre
  have hown : s.vm.findClass RX12 = some m.cls := findClass_of_methodNamed B.named
  have hlocks := B.notSynchronized
  subst hsz
  have hI : MI D (MA h ad cy s0 s.heap.size) h ad cy s s.heap s0 s.heap [] := ⟨hK, hP, hD0.self, va_S.rf⟩
  have hA : ∀ q : Nat, s.heap.size ≤ q → MA h ad cy s0 s.heap.size q := fun q hq => Or.inr hq
  have hin : ∀ w ∈ u_ws RX12 TX12 42, w ∈ wsX12_count := fun w hw => List.mem_cons_of_mem _ (List.mem_append_right _ hw)
  have k_rules : Cond.fieldLink RX12 293 "HalfBridgeModel" "rules" "I" ∈ wsX12_count := by decide +kernel
  have k_said : Cond.fieldLink RX12 45 "HalfBridgeModel" "said" "[I" ∈ wsX12_count := by decide +kernel
  have k_taped : Cond.fieldLink RX12 92 "HalfBridgeModel" "taped" "I" ∈ wsX12_count := by decide +kernel
  have hl := lv_entry ([.ref h, .int a1]) (n := 4) (Nat.le_of_ble_eq_true rfl)
  rw [lg_entry_eq]
  generalize (lg_sl ([.ref h, .int a1]) ++ List.replicate (4 - (lg_sl ([.ref h, .int a1])).length) Slot.unset).toArray = ls at hl ⊢
  have hl : lv_has ls 4 [(0, .ref h), (1, .int a1)] := hl
  obtain ⟨K0, hK0, hf⟩ := top_e hf
  have B_144 : ∀ (v2 : Int32)  (st : MSt) (H : Heap) (locs : List Loc) (ls : Array Slot), MI D (MA h ad cy s0 s.heap.size) h ad cy s s.heap st H locs → lv_has ls 4 [(2, .int v2)] → (fm_count_j144 v2 st).bind K0 = some out → W p l e (headSpec wsX12_count { frames := 1, cells := 0, slots := 0, locals := 20 }).room s m (([.ref h, .int a1] : List Value).toArray) below meth c H locs 0 0 (MQ below (MQi D h ad cy s0 out s.heap.size) ([.ref h, .int a1] : List Value).toArray s 0 0 (MA h ad cy s0 s.heap.size)) (F0 m 144 ls []) := by
    intro v2 st H locs ls hI hl hf
    unfold fm_count_j144 at hf
    refine lv_iload_n hx hb dX12_count_144 rfl (lv_at hl 0 rfl) ?_
    exact mret_i hx hb hr hlocks hI (ret_e hK0 hf) dX12_count_145
  have L_103 : ∀  (n : Nat) (v2 : Int32) (v3 : Int32) (st : MSt) (H : Heap) (locs : List Loc) (ls : Array Slot), MI D (MA h ad cy s0 s.heap.size) h ad cy s s.heap st H locs → lv_has ls 4 [(0, .ref h), (2, .int v2), (3, .int v3)] → (iter (fun x : (Int32 × Int32 × MSt) => fm_count_s103 x.1 x.2.1 x.2.2) n (v2, v3, st)).bind (fun x => ((Sum.elim (fun o : MSt × Int32 => (some o : Option (MSt × Int32))) (fun x : (Int32 × Int32 × MSt) => fm_count_j144 x.1 x.2.2)) x).bind K0) = some out → W p l e (headSpec wsX12_count { frames := 1, cells := 0, slots := 0, locals := 20 }).room s m (([.ref h, .int a1] : List Value).toArray) below meth c H locs 0 0 (MQ below (MQi D h ad cy s0 out s.heap.size) ([.ref h, .int a1] : List Value).toArray s 0 0 (MA h ad cy s0 s.heap.size)) (F0 m 103 ls []) := by
    intro n
    induction n with
    | zero => intro v2 v3 st H locs ls hI hl hf; exact (iter_0 hf).elim
    | succ n ih =>
      intro v2 v3 st H locs ls hI hl hf
      obtain ⟨K1, hK1, hf⟩ := iter_e hf
      replace hf : (fm_count_s103 v2 v3 st).bind K1 = some out := hf
      unfold fm_count_s103 at hf
      refine lv_iload_n hx hb dX12_count_103 rfl (lv_at hl 2 rfl) ?_
      refine lv_bipush (v := 80) hx hb dX12_count_104 (by decide) ?_
      refine lv_icmp_ge (tgt := 144) hx hb dX12_count_106 (by decide) (fun c18 => ?_) (fun c18 => ?_)
      · replace hf := ifp c18 hf
        replace hf := exit_b hK1 hf
        exact B_144 v2 st H locs ls hI (lv_sub hl [1] rfl) hf
      · replace hf := ifn c18 hf
        refine lv_aload_n hx hb dX12_count_109 rfl (lv_at hl 0 rfl) ?_
        obtain ⟨x19, hc20, hf⟩ := bnd_b hf
        refine mcall_i (As := []) (rest := []) (n := 0) ⟨hx, hb, hml, hown, hts⟩ (cm_isRiver l D h ad cy  st x19 hc20 _) (cwV 0 hts gX12_count_X12_isRiver rfl rfl rfl ⟨rfl, nd_isRiver⟩ ⟨Nat.le_of_ble_eq_true rfl, Nat.le_of_ble_eq_true rfl⟩) hI hA rfl hl.1 (Nat.le_of_ble_eq_true rfl) dX12_count_110 ⟨Nat.zero_le _, Nat.zero_le _⟩ (fun H locs hI => ?_)
        refine lv_if_eq (tgt := 144) hx hb dX12_count_113 (by decide) (fun c21 => ?_) (fun c21 => ?_)
        · replace hf := ifp c21 hf
          replace hf := exit_b hK1 hf
          exact B_144 v2 x19.1 H locs ls hI (lv_sub hl [1] rfl) hf
        · replace hf := ifn c21 hf
          refine lv_iload_n hx hb dX12_count_116 rfl (lv_at hl 1 rfl) ?_
          refine lv_aload_n hx hb dX12_count_117 rfl (lv_at hl 0 rfl) ?_
          refine mg_said hx hb hts hin hown k_said hI dX12_count_118 ?_
          refine lv_bipush (v := 46) hx hb dX12_count_121 (by decide) ?_
          refine lv_iload_n hx hb dX12_count_123 rfl (lv_at hl 2 rfl) ?_
          refine lv_iadd hx hb dX12_count_124 ?_
          obtain ⟨k22, hf⟩ := chk_b hf
          refine ml_said hx hb hI k22 dX12_count_125 ?_
          refine lv_ldc (v := 99999) hx hb hown (hts (.constant RX12 173 (99999)) (by decide +kernel)) dX12_count_126 ?_
          refine lv_icmp_ne (tgt := 135) hx hb dX12_count_128 (by decide) (fun c23 => ?_) (fun c23 => ?_)
          · replace hf := ifn c23 hf
            refine lv_iconst (v := 1) hx hb dX12_count_135 (by decide) ?_
            refine lv_iadd hx hb dX12_count_136 ?_
            refine lv_istore_n (lv' := [(2, .int (v2 + (1 : Int32))), (0, .ref h), (3, .int v3)]) hx hb dX12_count_137 rfl hl (by decide) rfl (fun ls hl => ?_)
            refine lv_iinc (v := (v3 + 1)) (lv' := [(3, .int (v3 + 1)), (2, .int (v2 + (1 : Int32))), (0, .ref h)]) hx hb dX12_count_138 hl (k := 2) rfl (ci_ _ (by decide)) (by decide) rfl (fun ls hl => ?_)
            refine lv_goto (tgt := 103) hx hb dX12_count_141 (by decide) ?_
            replace hf := cont_b hK1 hf
            exact ih (v2 + (1 : Int32)) (v3 + 1) x19.1 H locs ls hI (lv_sub hl [2, 1, 0] rfl) hf
          · replace hf := ifp c23 hf
            refine lv_iconst (v := 0) hx hb dX12_count_131 (by decide) ?_
            refine lv_goto (tgt := 136) hx hb dX12_count_132 (by decide) ?_
            refine lv_iadd hx hb dX12_count_136 ?_
            refine lv_istore_n (lv' := [(2, .int (v2 + (0 : Int32))), (0, .ref h), (3, .int v3)]) hx hb dX12_count_137 rfl hl (by decide) rfl (fun ls hl => ?_)
            refine lv_iinc (v := (v3 + 1)) (lv' := [(3, .int (v3 + 1)), (2, .int (v2 + (0 : Int32))), (0, .ref h)]) hx hb dX12_count_138 hl (k := 2) rfl (ci_ _ (by decide)) (by decide) rfl (fun ls hl => ?_)
            refine lv_goto (tgt := 103) hx hb dX12_count_141 (by decide) ?_
            replace hf := cont_b hK1 hf
            exact ih (v2 + (0 : Int32)) (v3 + 1) x19.1 H locs ls hI (lv_sub hl [2, 1, 0] rfl) hf
  unfold fm_count at hf
  refine lv_iconst (v := 0) hx hb dX12_count_0 (by decide) ?_
  refine lv_istore_n (lv' := [(2, .int (0 : Int32)), (0, .ref h), (1, .int a1)]) hx hb dX12_count_1 rfl hl (by decide) rfl (fun ls hl => ?_)
  refine lv_iload_n hx hb dX12_count_2 rfl (lv_at hl 2 rfl) ?_
  by_cases c1 : a1 = 0
  · replace hf := ifp c1 hf
    refine lv_tableIn (off := 53) (tgt := 56) hx hb dX12_count_3 (by rw [c1]; decide) (by rw [c1]; decide) (by rw [c1]; rfl) (by decide) ?_
    refine lv_aload_n hx hb dX12_count_56 rfl (lv_at hl 1 rfl) ?_
    refine mg_said hx hb hts hin hown k_said hI dX12_count_57 ?_
    refine lv_iconst (v := 0) hx hb dX12_count_60 (by decide) ?_
    obtain ⟨k11, hf⟩ := chk_b hf
    refine ml_said hx hb hI k11 dX12_count_61 ?_
    exact mret_i hx hb hr hlocks hI (ret_e hK0 hf) dX12_count_62
  replace hf := ifn c1 hf
  by_cases c2 : a1 = 1
  · replace hf := ifp c2 hf
    refine lv_tableIn (off := 60) (tgt := 63) hx hb dX12_count_3 (by rw [c2]; decide) (by rw [c2]; decide) (by rw [c2]; rfl) (by decide) ?_
    refine lv_aload_n hx hb dX12_count_63 rfl (lv_at hl 1 rfl) ?_
    obtain ⟨x12, hc13, hf⟩ := bnd_b hf
    refine mcall_i (As := []) (rest := []) (n := 0) ⟨hx, hb, hml, hown, hts⟩ (cm_gap l D h ad cy  s0 x12 hc13 _) (cwV 0 hts gX12_count_X12_gap rfl rfl rfl ⟨rfl, nd_gap⟩ ⟨Nat.le_of_ble_eq_true rfl, Nat.le_of_ble_eq_true rfl⟩) hI hA rfl hl.1 (Nat.le_of_ble_eq_true rfl) dX12_count_64 ⟨Nat.zero_le _, Nat.zero_le _⟩ (fun H locs hI => ?_)
    exact mret_i hx hb hr hlocks hI (ret_e hK0 hf) dX12_count_67
  replace hf := ifn c2 hf
  by_cases c3 : a1 = 2
  · replace hf := ifp c3 hf
    refine lv_tableIn (off := 65) (tgt := 68) hx hb dX12_count_3 (by rw [c3]; decide) (by rw [c3]; decide) (by rw [c3]; rfl) (by decide) ?_
    refine lv_aload_n hx hb dX12_count_68 rfl (lv_at hl 1 rfl) ?_
    refine mg_said hx hb hts hin hown k_said hI dX12_count_69 ?_
    refine lv_iconst (v := 1) hx hb dX12_count_72 (by decide) ?_
    obtain ⟨k14, hf⟩ := chk_b hf
    refine ml_said hx hb hI k14 dX12_count_73 ?_
    exact mret_i hx hb hr hlocks hI (ret_e hK0 hf) dX12_count_74
  replace hf := ifn c3 hf
  by_cases c4 : a1 = 3
  · replace hf := ifp c4 hf
    refine lv_tableIn (off := 72) (tgt := 75) hx hb dX12_count_3 (by rw [c4]; decide) (by rw [c4]; decide) (by rw [c4]; rfl) (by decide) ?_
    refine lv_aload_n hx hb dX12_count_75 rfl (lv_at hl 1 rfl) ?_
    refine mg_rules hx hb hts hin hown k_rules hI dX12_count_76 ?_
    exact mret_i hx hb hr hlocks hI (ret_e hK0 hf) dX12_count_79
  replace hf := ifn c4 hf
  by_cases c5 : a1 = 4
  · replace hf := ifp c5 hf
    refine lv_tableIn (off := 77) (tgt := 80) hx hb dX12_count_3 (by rw [c5]; decide) (by rw [c5]; decide) (by rw [c5]; rfl) (by decide) ?_
    refine lv_aload_n hx hb dX12_count_80 rfl (lv_at hl 1 rfl) ?_
    refine mg_said hx hb hts hin hown k_said hI dX12_count_81 ?_
    refine lv_iconst (v := 4) hx hb dX12_count_84 (by decide) ?_
    obtain ⟨k15, hf⟩ := chk_b hf
    refine ml_said hx hb hI k15 dX12_count_85 ?_
    exact mret_i hx hb hr hlocks hI (ret_e hK0 hf) dX12_count_86
  replace hf := ifn c5 hf
  by_cases c6 : a1 = 5
  · replace hf := ifp c6 hf
    refine lv_tableIn (off := 84) (tgt := 87) hx hb dX12_count_3 (by rw [c6]; decide) (by rw [c6]; decide) (by rw [c6]; rfl) (by decide) ?_
    refine lv_aload_n hx hb dX12_count_87 rfl (lv_at hl 1 rfl) ?_
    refine mg_said hx hb hts hin hown k_said hI dX12_count_88 ?_
    refine lv_iconst (v := 2) hx hb dX12_count_91 (by decide) ?_
    obtain ⟨k16, hf⟩ := chk_b hf
    refine ml_said hx hb hI k16 dX12_count_92 ?_
    exact mret_i hx hb hr hlocks hI (ret_e hK0 hf) dX12_count_93
  replace hf := ifn c6 hf
  by_cases c7 : a1 = 6
  · replace hf := ifp c7 hf
    refine lv_tableIn (off := 91) (tgt := 94) hx hb dX12_count_3 (by rw [c7]; decide) (by rw [c7]; decide) (by rw [c7]; rfl) (by decide) ?_
    refine lv_aload_n hx hb dX12_count_94 rfl (lv_at hl 1 rfl) ?_
    refine mg_said hx hb hts hin hown k_said hI dX12_count_95 ?_
    refine lv_iconst (v := 3) hx hb dX12_count_98 (by decide) ?_
    obtain ⟨k17, hf⟩ := chk_b hf
    refine ml_said hx hb hI k17 dX12_count_99 ?_
    exact mret_i hx hb hr hlocks hI (ret_e hK0 hf) dX12_count_100
  replace hf := ifn c7 hf
  by_cases c8 : a1 = 7
  · replace hf := ifp c8 hf
    refine lv_tableIn (off := 98) (tgt := 101) hx hb dX12_count_3 (by rw [c8]; decide) (by rw [c8]; decide) (by rw [c8]; rfl) (by decide) ?_
    refine lv_iconst (v := 0) hx hb dX12_count_101 (by decide) ?_
    refine lv_istore_n (lv' := [(3, .int (0 : Int32)), (2, .int (0 : Int32)), (0, .ref h), (1, .int a1)]) hx hb dX12_count_102 rfl hl (by decide) rfl (fun ls hl => ?_)
    exact L_103  mFuel (0 : Int32) (0 : Int32) s0 s.heap [] ls hI (lv_sub hl [2, 1, 0] rfl) (asc_b hf)
  replace hf := ifn c8 hf
  by_cases c9 : a1 = 8
  · replace hf := ifp c9 hf
    refine lv_tableIn (off := 143) (tgt := 146) hx hb dX12_count_3 (by rw [c9]; decide) (by rw [c9]; decide) (by rw [c9]; rfl) (by decide) ?_
    refine lv_aload_n hx hb dX12_count_146 rfl (lv_at hl 1 rfl) ?_
    refine mg_said hx hb hts hin hown k_said hI dX12_count_147 ?_
    refine lv_iconst (v := 5) hx hb dX12_count_150 (by decide) ?_
    obtain ⟨k24, hf⟩ := chk_b hf
    refine ml_said hx hb hI k24 dX12_count_151 ?_
    exact mret_i hx hb hr hlocks hI (ret_e hK0 hf) dX12_count_152
  replace hf := ifn c9 hf
  by_cases c10 : a1 = 9
  · replace hf := ifp c10 hf
    refine lv_tableIn (off := 150) (tgt := 153) hx hb dX12_count_3 (by rw [c10]; decide) (by rw [c10]; decide) (by rw [c10]; rfl) (by decide) ?_
    refine lv_aload_n hx hb dX12_count_153 rfl (lv_at hl 1 rfl) ?_
    refine mg_taped hx hb hts hin hown k_taped hI dX12_count_154 ?_
    exact mret_i hx hb hr hlocks hI (ret_e hK0 hf) dX12_count_157
  replace hf := ifn c10 hf
  refine lv_tableOut (tgt := 158) hx hb dX12_count_3 (tsw_out (fun k k1 k2 => ?_)) (by decide) ?_
  · rcases (show k = 0 ∨ k = 1 ∨ k = 2 ∨ k = 3 ∨ k = 4 ∨ k = 5 ∨ k = 6 ∨ k = 7 ∨ k = 8 ∨ k = 9 by omega) with rfl | rfl | rfl | rfl | rfl | rfl | rfl | rfl | rfl | rfl
    · exact c1
    · exact c2
    · exact c3
    · exact c4
    · exact c5
    · exact c6
    · exact c7
    · exact c8
    · exact c9
    · exact c10
  · refine lv_iconst (v := -1) hx hb dX12_count_158 (by decide) ?_
    exact mret_i hx hb hr hlocks hI (ret_e hK0 hf) dX12_count_159

theorem nd_image : yX12_image.cls ≠ "java/lang/invoke/MethodHandle" ∧ yX12_image.cls ≠ "java/lang/invoke/VarHandle" ∧ (parseMethodDescriptor yX12_image.desc).map (fun d => d.parameters.length) = some 1 := by decide +kernel
set_option maxHeartbeats 4000000 in
set_option maxRecDepth 100000 in
theorem cm_image (l : Launch) (D : va_G) (h : Nat) (ad : Nat → Nat) (cy : Nat → ClassId) (a1 : Int32) (s0 : MSt) (out : MSt × Int32) (hf : fm_image a1 s0 = some out) (sz : Nat) : CMi l D h ad cy yX12_image wsX12_image { frames := 1, cells := 0, slots := 0, locals := 25 } [.int a1] s0 out sz := by
  refine Met.ofW (cc := cX12_image) (maxL := 3) (ret := (some .int)) (by decide) rfl ?_
  intro p e s m args below meth c s₁ B hml hv
  obtain ⟨rfl, hsz, hP, hK, hD0⟩ := hv
  have hx := B.exec
  have hb := B.bytes
  have hr := B.returns
  have hts := atoms_spec (ws := wsX12_image) B.pre
  have hown : s.vm.findClass RX12 = some m.cls := findClass_of_methodNamed B.named
  have hlocks := B.notSynchronized
  subst hsz
  have hI : MI D (MA h ad cy s0 s.heap.size) h ad cy s s.heap s0 s.heap [] := ⟨hK, hP, hD0.self, va_S.rf⟩
  have hA : ∀ q : Nat, s.heap.size ≤ q → MA h ad cy s0 s.heap.size q := fun q hq => Or.inr hq
  have hin : ∀ w ∈ u_ws RX12 TX12 42, w ∈ wsX12_image := fun w hw => List.mem_cons_of_mem _ (List.mem_append_right _ hw)
  have k_images : Cond.fieldLink RX12 85 "HalfBridgeModel" "images" "[I" ∈ wsX12_image := by decide +kernel
  have k_isMade : Cond.fieldLink RX12 88 "HalfBridgeModel" "isMade" "[Z" ∈ wsX12_image := by decide +kernel
  have k_said : Cond.fieldLink RX12 45 "HalfBridgeModel" "said" "[I" ∈ wsX12_image := by decide +kernel
  have hl := lv_entry ([.ref h, .int a1]) (n := 3) (Nat.le_of_ble_eq_true rfl)
  rw [lg_entry_eq]
  generalize (lg_sl ([.ref h, .int a1]) ++ List.replicate (3 - (lg_sl ([.ref h, .int a1])).length) Slot.unset).toArray = ls at hl ⊢
  have hl : lv_has ls 3 [(0, .ref h), (1, .int a1)] := hl
  obtain ⟨K0, hK0, hf⟩ := top_e hf
  have B_54 : ∀   (st : MSt) (H : Heap) (locs : List Loc) (ls : Array Slot), MI D (MA h ad cy s0 s.heap.size) h ad cy s s.heap st H locs → lv_has ls 3 [(0, .ref h)] → (fm_image_j54 st).bind K0 = some out → W p l e (headSpec wsX12_image { frames := 1, cells := 0, slots := 0, locals := 25 }).room s m (([.ref h, .int a1] : List Value).toArray) below meth c H locs 0 0 (MQ below (MQi D h ad cy s0 out s.heap.size) ([.ref h, .int a1] : List Value).toArray s 0 0 (MA h ad cy s0 s.heap.size)) (F0 m 54 ls []) := by
    intro st H locs ls hI hl hf
    unfold fm_image_j54 at hf
    refine lv_aload_n hx hb dX12_image_54 rfl (lv_at hl 0 rfl) ?_
    refine mg_said hx hb hts hin hown k_said hI dX12_image_55 ?_
    refine lv_iconst (v := 1) hx hb dX12_image_58 (by decide) ?_
    obtain ⟨k5, hf⟩ := chk_b hf
    refine ml_said hx hb hI k5 dX12_image_59 ?_
    exact mret_i hx hb hr hlocks hI (ret_e hK0 hf) dX12_image_60
  have L_23 : ∀ (v1 : Int32) (n : Nat) (v2 : Int32) (st : MSt) (H : Heap) (locs : List Loc) (ls : Array Slot), MI D (MA h ad cy s0 s.heap.size) h ad cy s s.heap st H locs → lv_has ls 3 [(0, .ref h), (1, .int v1), (2, .int v2)] → (iter (fun x : (Int32 × MSt) => fm_image_s23 v1 x.1 x.2) n (v2, st)).bind (fun x => ((Sum.elim (fun o : MSt × Int32 => (some o : Option (MSt × Int32))) (fun x : (Int32 × MSt) => fm_image_j54 x.2)) x).bind K0) = some out → W p l e (headSpec wsX12_image { frames := 1, cells := 0, slots := 0, locals := 25 }).room s m (([.ref h, .int a1] : List Value).toArray) below meth c H locs 0 0 (MQ below (MQi D h ad cy s0 out s.heap.size) ([.ref h, .int a1] : List Value).toArray s 0 0 (MA h ad cy s0 s.heap.size)) (F0 m 23 ls []) := by
    intro v1 n
    induction n with
    | zero => intro v2 st H locs ls hI hl hf; exact (iter_0 hf).elim
    | succ n ih =>
      intro v2 st H locs ls hI hl hf
      obtain ⟨K1, hK1, hf⟩ := iter_e hf
      replace hf : (fm_image_s23 v1 v2 st).bind K1 = some out := hf
      unfold fm_image_s23 at hf
      refine lv_iload_n hx hb dX12_image_23 rfl (lv_at hl 2 rfl) ?_
      refine lv_sipush (v := 286) hx hb dX12_image_24 (by decide) ?_
      refine lv_icmp_ge (tgt := 54) hx hb dX12_image_27 (by decide) (fun c6 => ?_) (fun c6 => ?_)
      · replace hf := ifp c6 hf
        replace hf := exit_b hK1 hf
        exact B_54  st H locs ls hI (lv_sub hl [0] rfl) hf
      · replace hf := ifn c6 hf
        refine lv_aload_n hx hb dX12_image_30 rfl (lv_at hl 0 rfl) ?_
        refine mg_images hx hb hts hin hown k_images hI dX12_image_31 ?_
        refine lv_sipush (v := 286) hx hb dX12_image_34 (by decide) ?_
        refine lv_iload_n hx hb dX12_image_37 rfl (lv_at hl 1 rfl) ?_
        refine lv_imul hx hb dX12_image_38 ?_
        refine lv_iload_n hx hb dX12_image_39 rfl (lv_at hl 2 rfl) ?_
        refine lv_iadd hx hb dX12_image_40 ?_
        refine lv_aload_n hx hb dX12_image_41 rfl (lv_at hl 0 rfl) ?_
        refine mg_said hx hb hts hin hown k_said hI dX12_image_42 ?_
        refine lv_iload_n hx hb dX12_image_45 rfl (lv_at hl 2 rfl) ?_
        obtain ⟨k7, hf⟩ := chk_b hf
        refine ml_said hx hb hI k7 dX12_image_46 ?_
        obtain ⟨k8, hf⟩ := chk_b hf
        refine ms_images hx hb hI k8 dX12_image_47 (fun H locs hI => ?_)
        refine lv_iinc (v := (v2 + 1)) (lv' := [(2, .int (v2 + 1)), (0, .ref h), (1, .int v1)]) hx hb dX12_image_48 hl (k := 2) rfl (ci_ _ (by decide)) (by decide) rfl (fun ls hl => ?_)
        refine lv_goto (tgt := 23) hx hb dX12_image_51 (by decide) ?_
        replace hf := cont_b hK1 hf
        exact ih (v2 + 1) (msa st 40 (((286 : Int32) * v1) + v2).toNatClampNeg (st.2.1 26 v2.toNatClampNeg)) H locs ls hI (lv_sub hl [1, 2, 0] rfl) hf
  unfold fm_image at hf
  refine lv_iload_n hx hb dX12_image_0 rfl (lv_at hl 1 rfl) ?_
  refine lv_i2l (v := (a1.toInt64)) hx hb dX12_image_1 rfl ?_
  refine lv_lconst (v := 0) hx hb dX12_image_2 (by decide) ?_
  refine lv_ldc2 (v := 3) hx hb hown (hts (.constantLong RX12 337 (3)) (by decide +kernel)) dX12_image_3 ?_
  obtain ⟨x1, hc2, hf⟩ := bnd_b hf
  refine mst_i (As := [.long (a1.toInt64), .long (0 : Int64), .long (3 : Int64)]) (rest := []) (n := 3) ⟨hx, hb, hml, hown, hts⟩ (cs_in l (a1.toInt64) (0 : Int64) (3 : Int64) x1 hc2 _) (va_cwS 3 hts gX12_image_X12_in rfl rfl rfl nd_in ⟨Nat.le_of_ble_eq_true rfl, Nat.le_of_ble_eq_true rfl⟩) hI hA rfl hl.1 (Nat.le_of_ble_eq_true rfl) dX12_image_6 ⟨Nat.zero_le _, Nat.zero_le _⟩ (fun H locs hI => ?_)
  refine lv_if_ne (tgt := 14) hx hb dX12_image_9 (by decide) (fun c3 => ?_) (fun c3 => ?_)
  · replace hf := ifn c3 hf
    refine lv_aload_n hx hb dX12_image_14 rfl (lv_at hl 0 rfl) ?_
    refine mg_isMade hx hb hts hin hown k_isMade hI dX12_image_15 ?_
    refine lv_iload_n hx hb dX12_image_18 rfl (lv_at hl 1 rfl) ?_
    refine lv_iconst (v := 1) hx hb dX12_image_19 (by decide) ?_
    obtain ⟨k4, hf⟩ := chk_b hf
    refine ms_isMade hx hb hI k4 dX12_image_20 (fun H locs hI => ?_)
    refine lv_iconst (v := 0) hx hb dX12_image_21 (by decide) ?_
    refine lv_istore_n (lv' := [(2, .int (0 : Int32)), (0, .ref h), (1, .int a1)]) hx hb dX12_image_22 rfl hl (by decide) rfl (fun ls hl => ?_)
    exact L_23 a1 mFuel (0 : Int32) (msa s0 41 a1.toNatClampNeg (vp_nar .boolean (1 : Int32))) H locs ls hI (lv_sub hl [1, 2, 0] rfl) (asc_b hf)
  · replace hf := ifp c3 hf
    refine lv_iconst (v := -1) hx hb dX12_image_12 (by decide) ?_
    exact mret_i hx hb hr hlocks hI (ret_e hK0 hf) dX12_image_13

theorem nd_back : yX12_back.cls ≠ "java/lang/invoke/MethodHandle" ∧ yX12_back.cls ≠ "java/lang/invoke/VarHandle" ∧ (parseMethodDescriptor yX12_back.desc).map (fun d => d.parameters.length) = some 1 := by decide +kernel
set_option maxHeartbeats 4000000 in
set_option maxRecDepth 100000 in
theorem cm_back (l : Launch) (D : va_G) (h : Nat) (ad : Nat → Nat) (cy : Nat → ClassId) (a1 : Int32) (s0 : MSt) (out : MSt × Int32) (hf : fm_back a1 s0 = some out) (sz : Nat) : CMi l D h ad cy yX12_back wsX12_back { frames := 1, cells := 0, slots := 0, locals := 25 } [.int a1] s0 out sz := by
  refine Met.ofW (cc := cX12_back) (maxL := 3) (ret := (some .int)) (by decide) rfl ?_
  intro p e s m args below meth c s₁ B hml hv
  obtain ⟨rfl, hsz, hP, hK, hD0⟩ := hv
  have hx := B.exec
  have hb := B.bytes
  have hr := B.returns
  have hts := atoms_spec (ws := wsX12_back) B.pre
  have hown : s.vm.findClass RX12 = some m.cls := findClass_of_methodNamed B.named
  have hlocks := B.notSynchronized
  subst hsz
  have hI : MI D (MA h ad cy s0 s.heap.size) h ad cy s s.heap s0 s.heap [] := ⟨hK, hP, hD0.self, va_S.rf⟩
  have hA : ∀ q : Nat, s.heap.size ≤ q → MA h ad cy s0 s.heap.size q := fun q hq => Or.inr hq
  have hin : ∀ w ∈ u_ws RX12 TX12 42, w ∈ wsX12_back := fun w hw => List.mem_cons_of_mem _ (List.mem_append_right _ hw)
  have k_images : Cond.fieldLink RX12 85 "HalfBridgeModel" "images" "[I" ∈ wsX12_back := by decide +kernel
  have k_isMade : Cond.fieldLink RX12 88 "HalfBridgeModel" "isMade" "[Z" ∈ wsX12_back := by decide +kernel
  have k_said : Cond.fieldLink RX12 45 "HalfBridgeModel" "said" "[I" ∈ wsX12_back := by decide +kernel
  have hl := lv_entry ([.ref h, .int a1]) (n := 3) (Nat.le_of_ble_eq_true rfl)
  rw [lg_entry_eq]
  generalize (lg_sl ([.ref h, .int a1]) ++ List.replicate (3 - (lg_sl ([.ref h, .int a1])).length) Slot.unset).toArray = ls at hl ⊢
  have hl : lv_has ls 3 [(0, .ref h), (1, .int a1)] := hl
  obtain ⟨K0, hK0, hf⟩ := top_e hf
  have B_56 : ∀   (st : MSt) (H : Heap) (locs : List Loc) (ls : Array Slot), MI D (MA h ad cy s0 s.heap.size) h ad cy s s.heap st H locs → lv_has ls 3 [(0, .ref h)] → (fm_back_j56 st).bind K0 = some out → W p l e (headSpec wsX12_back { frames := 1, cells := 0, slots := 0, locals := 25 }).room s m (([.ref h, .int a1] : List Value).toArray) below meth c H locs 0 0 (MQ below (MQi D h ad cy s0 out s.heap.size) ([.ref h, .int a1] : List Value).toArray s 0 0 (MA h ad cy s0 s.heap.size)) (F0 m 56 ls []) := by
    intro st H locs ls hI hl hf
    unfold fm_back_j56 at hf
    refine lv_aload_n hx hb dX12_back_56 rfl (lv_at hl 0 rfl) ?_
    refine mg_said hx hb hts hin hown k_said hI dX12_back_57 ?_
    refine lv_iconst (v := 1) hx hb dX12_back_60 (by decide) ?_
    obtain ⟨k6, hf⟩ := chk_b hf
    refine ml_said hx hb hI k6 dX12_back_61 ?_
    exact mret_i hx hb hr hlocks hI (ret_e hK0 hf) dX12_back_62
  have L_25 : ∀ (v1 : Int32) (n : Nat) (v2 : Int32) (st : MSt) (H : Heap) (locs : List Loc) (ls : Array Slot), MI D (MA h ad cy s0 s.heap.size) h ad cy s s.heap st H locs → lv_has ls 3 [(0, .ref h), (1, .int v1), (2, .int v2)] → (iter (fun x : (Int32 × MSt) => fm_back_s25 v1 x.1 x.2) n (v2, st)).bind (fun x => ((Sum.elim (fun o : MSt × Int32 => (some o : Option (MSt × Int32))) (fun x : (Int32 × MSt) => fm_back_j56 x.2)) x).bind K0) = some out → W p l e (headSpec wsX12_back { frames := 1, cells := 0, slots := 0, locals := 25 }).room s m (([.ref h, .int a1] : List Value).toArray) below meth c H locs 0 0 (MQ below (MQi D h ad cy s0 out s.heap.size) ([.ref h, .int a1] : List Value).toArray s 0 0 (MA h ad cy s0 s.heap.size)) (F0 m 25 ls []) := by
    intro v1 n
    induction n with
    | zero => intro v2 st H locs ls hI hl hf; exact (iter_0 hf).elim
    | succ n ih =>
      intro v2 st H locs ls hI hl hf
      obtain ⟨K1, hK1, hf⟩ := iter_e hf
      replace hf : (fm_back_s25 v1 v2 st).bind K1 = some out := hf
      unfold fm_back_s25 at hf
      refine lv_iload_n hx hb dX12_back_25 rfl (lv_at hl 2 rfl) ?_
      refine lv_sipush (v := 286) hx hb dX12_back_26 (by decide) ?_
      refine lv_icmp_ge (tgt := 56) hx hb dX12_back_29 (by decide) (fun c7 => ?_) (fun c7 => ?_)
      · replace hf := ifp c7 hf
        replace hf := exit_b hK1 hf
        exact B_56  st H locs ls hI (lv_sub hl [0] rfl) hf
      · replace hf := ifn c7 hf
        refine lv_aload_n hx hb dX12_back_32 rfl (lv_at hl 0 rfl) ?_
        refine mg_said hx hb hts hin hown k_said hI dX12_back_33 ?_
        refine lv_iload_n hx hb dX12_back_36 rfl (lv_at hl 2 rfl) ?_
        refine lv_aload_n hx hb dX12_back_37 rfl (lv_at hl 0 rfl) ?_
        refine mg_images hx hb hts hin hown k_images hI dX12_back_38 ?_
        refine lv_sipush (v := 286) hx hb dX12_back_41 (by decide) ?_
        refine lv_iload_n hx hb dX12_back_44 rfl (lv_at hl 1 rfl) ?_
        refine lv_imul hx hb dX12_back_45 ?_
        refine lv_iload_n hx hb dX12_back_46 rfl (lv_at hl 2 rfl) ?_
        refine lv_iadd hx hb dX12_back_47 ?_
        obtain ⟨k8, hf⟩ := chk_b hf
        refine ml_images hx hb hI k8 dX12_back_48 ?_
        obtain ⟨k9, hf⟩ := chk_b hf
        refine ms_said hx hb hI k9 dX12_back_49 (fun H locs hI => ?_)
        refine lv_iinc (v := (v2 + 1)) (lv' := [(2, .int (v2 + 1)), (0, .ref h), (1, .int v1)]) hx hb dX12_back_50 hl (k := 2) rfl (ci_ _ (by decide)) (by decide) rfl (fun ls hl => ?_)
        refine lv_goto (tgt := 25) hx hb dX12_back_53 (by decide) ?_
        replace hf := cont_b hK1 hf
        exact ih (v2 + 1) (msa st 26 v2.toNatClampNeg (st.2.1 40 (((286 : Int32) * v1) + v2).toNatClampNeg)) H locs ls hI (lv_sub hl [1, 2, 0] rfl) hf
  unfold fm_back at hf
  refine lv_iload_n hx hb dX12_back_0 rfl (lv_at hl 1 rfl) ?_
  refine lv_i2l (v := (a1.toInt64)) hx hb dX12_back_1 rfl ?_
  refine lv_lconst (v := 0) hx hb dX12_back_2 (by decide) ?_
  refine lv_ldc2 (v := 3) hx hb hown (hts (.constantLong RX12 337 (3)) (by decide +kernel)) dX12_back_3 ?_
  obtain ⟨x1, hc2, hf⟩ := bnd_b hf
  refine mst_i (As := [.long (a1.toInt64), .long (0 : Int64), .long (3 : Int64)]) (rest := []) (n := 3) ⟨hx, hb, hml, hown, hts⟩ (cs_in l (a1.toInt64) (0 : Int64) (3 : Int64) x1 hc2 _) (va_cwS 3 hts gX12_back_X12_in rfl rfl rfl nd_in ⟨Nat.le_of_ble_eq_true rfl, Nat.le_of_ble_eq_true rfl⟩) hI hA rfl hl.1 (Nat.le_of_ble_eq_true rfl) dX12_back_6 ⟨Nat.zero_le _, Nat.zero_le _⟩ (fun H locs hI => ?_)
  refine lv_if_eq (tgt := 21) hx hb dX12_back_9 (by decide) (fun c3 => ?_) (fun c3 => ?_)
  · replace hf := ifp c3 hf
    refine lv_iconst (v := -1) hx hb dX12_back_21 (by decide) ?_
    exact mret_i hx hb hr hlocks hI (ret_e hK0 hf) dX12_back_22
  · replace hf := ifn c3 hf
    refine lv_aload_n hx hb dX12_back_12 rfl (lv_at hl 0 rfl) ?_
    refine mg_isMade hx hb hts hin hown k_isMade hI dX12_back_13 ?_
    refine lv_iload_n hx hb dX12_back_16 rfl (lv_at hl 1 rfl) ?_
    obtain ⟨k4, hf⟩ := chk_b hf
    refine ml_isMade hx hb hI k4 dX12_back_17 ?_
    refine lv_if_ne (tgt := 23) hx hb dX12_back_18 (by decide) (fun c5 => ?_) (fun c5 => ?_)
    · replace hf := ifn c5 hf
      refine lv_iconst (v := 0) hx hb dX12_back_23 (by decide) ?_
      refine lv_istore_n (lv' := [(2, .int (0 : Int32)), (0, .ref h), (1, .int a1)]) hx hb dX12_back_24 rfl hl (by decide) rfl (fun ls hl => ?_)
      exact L_25 a1 mFuel (0 : Int32) s0 H locs ls hI (lv_sub hl [1, 2, 0] rfl) (asc_b hf)
    · replace hf := ifp c5 hf
      refine lv_iconst (v := -1) hx hb dX12_back_21 (by decide) ?_
      exact mret_i hx hb hr hlocks hI (ret_e hK0 hf) dX12_back_22
