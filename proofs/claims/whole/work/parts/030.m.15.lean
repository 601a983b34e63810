noncomputable def fm_builds (a1 : Int32) (a2 : Int32) (a3 : Int32) (s0 : MSt) : Option (MSt) :=
  chk (inb ((6 : Int32) + a1) 286) ((fm_tipOf a1 (0 : Int32) s0).bind fun x2 => (fm_tipOf a1 (1 : Int32) x2.1).bind fun x4 => chk (inb (((126 : Int32) + ((40 : Int32) * a1)) + (s0.2.1 26 ((6 : Int32) + a1).toNatClampNeg)) 286) (chk (inb (((206 : Int32) + ((40 : Int32) * a1)) + (s0.2.1 26 ((6 : Int32) + a1).toNatClampNeg)) 286) (chk (inb ((6 : Int32) + a1) 286) (chk (inb ((6 : Int32) + a1) 286) (some (msa (msa (msa x4.1 26 (((126 : Int32) + ((40 : Int32) * a1)) + (s0.2.1 26 ((6 : Int32) + a1).toNatClampNeg)).toNatClampNeg (x2.2 + a2)) 26 (((206 : Int32) + ((40 : Int32) * a1)) + (s0.2.1 26 ((6 : Int32) + a1).toNatClampNeg)).toNatClampNeg (x4.2 + a3)) 26 ((6 : Int32) + a1).toNatClampNeg (((msa (msa x4.1 26 (((126 : Int32) + ((40 : Int32) * a1)) + (s0.2.1 26 ((6 : Int32) + a1).toNatClampNeg)).toNatClampNeg (x2.2 + a2)) 26 (((206 : Int32) + ((40 : Int32) * a1)) + (s0.2.1 26 ((6 : Int32) + a1).toNatClampNeg)).toNatClampNeg (x4.2 + a3)).2.1 26 ((6 : Int32) + a1).toNatClampNeg) + (1 : Int32))))))))
theorem nd_builds : yX12_builds.cls ≠ "java/lang/invoke/MethodHandle" ∧ yX12_builds.cls ≠ "java/lang/invoke/VarHandle" ∧ (parseMethodDescriptor yX12_builds.desc).map (fun d => d.parameters.length) = some 3 := by decide +kernel
set_option maxHeartbeats 4000000 in
set_option maxRecDepth 100000 in
theorem cm_builds (l : Launch) (D : va_G) (h : Nat) (ad : Nat → Nat) (cy : Nat → ClassId) (a1 : Int32) (a2 : Int32) (a3 : Int32) (s0 : MSt) (out : MSt) (hf : fm_builds a1 a2 a3 s0 = some out) (sz : Nat) : CMv l D h ad cy yX12_builds wsX12_builds { frames := 2, cells := 0, slots := 0, locals := 45 } [.int a1, .int a2, .int a3] s0 out sz := by
  refine Met.ofW (cc := cX12_builds) (maxL := 7) (ret := none) (by decide) rfl ?_
  intro p e s m args below meth c s₁ B hml hv
  obtain ⟨rfl, hsz, hP, hK, hD0⟩ := hv
  have hx := B.exec
  have hb := B.bytes
  have hr := B.returns
  have hts := atoms_spec (ws := wsX12_builds) B.pre
  have hown : s.vm.findClass RX12 = some m.cls := findClass_of_methodNamed B.named
  have hlocks := B.notSynchronized
  subst hsz
  have hI : MI D (MA h ad cy s0 s.heap.size) h ad cy s s.heap s0 s.heap [] := ⟨hK, hP, hD0.self, va_S.rf⟩
  have hA : ∀ q : Nat, s.heap.size ≤ q → MA h ad cy s0 s.heap.size q := fun q hq => Or.inr hq
  have hin : ∀ w ∈ u_ws RX12 TX12 42, w ∈ wsX12_builds := fun w hw => List.mem_cons_of_mem _ (List.mem_append_right _ hw)
  have k_said : Cond.fieldLink RX12 45 "HalfBridgeModel" "said" "[I" ∈ wsX12_builds := by decide +kernel
  have hl := lv_entry ([.ref h, .int a1, .int a2, .int a3]) (n := 7) (Nat.le_of_ble_eq_true rfl)
  rw [lg_entry_eq]
  generalize (lg_sl ([.ref h, .int a1, .int a2, .int a3]) ++ List.replicate (7 - (lg_sl ([.ref h, .int a1, .int a2, .int a3])).length) Slot.unset).toArray = ls at hl ⊢
  have hl : lv_has ls 7 [(0, .ref h), (1, .int a1), (2, .int a2), (3, .int a3)] := hl
  obtain ⟨K0, hK0, hf⟩ := top_e hf
  unfold fm_builds at hf
  refine lv_aload_n hx hb dX12_builds_0 rfl (lv_at hl 0 rfl) ?_
  refine mg_said hx hb hts hin hown k_said hI dX12_builds_1 ?_
  refine lv_bipush (v := 6) hx hb dX12_builds_4 (by decide) ?_
  refine lv_iload_n hx hb dX12_builds_6 rfl (lv_at hl 1 rfl) ?_
  refine lv_iadd hx hb dX12_builds_7 ?_
  obtain ⟨k1, hf⟩ := chk_b hf
  refine ml_said hx hb hI k1 dX12_builds_8 ?_
  refine lv_istore (lv' := [(4, .int (s0.2.1 26 ((6 : Int32) + a1).toNatClampNeg)), (0, .ref h), (1, .int a1), (2, .int a2), (3, .int a3)]) hx hb dX12_builds_9 hl (by decide) rfl (fun ls hl => ?_)
  refine lv_aload_n hx hb dX12_builds_11 rfl (lv_at hl 1 rfl) ?_
  refine lv_iload_n hx hb dX12_builds_12 rfl (lv_at hl 2 rfl) ?_
  refine lv_iconst (v := 0) hx hb dX12_builds_13 (by decide) ?_
  obtain ⟨x2, hc3, hf⟩ := bnd_b hf
  refine mcall_i (As := [.int a1, .int (0 : Int32)]) (rest := []) (n := 2) ⟨hx, hb, hml, hown, hts⟩ (cm_tipOf l D h ad cy a1 (0 : Int32) s0 x2 hc3 _) (cwV 2 hts gX12_builds_X12_tipOf rfl rfl rfl ⟨rfl, nd_tipOf⟩ ⟨Nat.le_of_ble_eq_true rfl, Nat.le_of_ble_eq_true rfl⟩) hI hA rfl hl.1 (Nat.le_of_ble_eq_true rfl) dX12_builds_14 ⟨Nat.zero_le _, Nat.zero_le _⟩ (fun H locs hI => ?_)
  refine lv_iload_n hx hb dX12_builds_17 rfl (lv_at hl 3 rfl) ?_
  refine lv_iadd hx hb dX12_builds_18 ?_
  refine lv_istore (lv' := [(5, .int (x2.2 + a2)), (4, .int (s0.2.1 26 ((6 : Int32) + a1).toNatClampNeg)), (0, .ref h), (1, .int a1), (2, .int a2), (3, .int a3)]) hx hb dX12_builds_19 hl (by decide) rfl (fun ls hl => ?_)
  refine lv_aload_n hx hb dX12_builds_21 rfl (lv_at hl 2 rfl) ?_
  refine lv_iload_n hx hb dX12_builds_22 rfl (lv_at hl 3 rfl) ?_
  refine lv_iconst (v := 1) hx hb dX12_builds_23 (by decide) ?_
  obtain ⟨x4, hc5, hf⟩ := bnd_b hf
  refine mcall_i (As := [.int a1, .int (1 : Int32)]) (rest := []) (n := 2) ⟨hx, hb, hml, hown, hts⟩ (cm_tipOf l D h ad cy a1 (1 : Int32) x2.1 x4 hc5 _) (cwV 2 hts gX12_builds_X12_tipOf rfl rfl rfl ⟨rfl, nd_tipOf⟩ ⟨Nat.le_of_ble_eq_true rfl, Nat.le_of_ble_eq_true rfl⟩) hI hA rfl hl.1 (Nat.le_of_ble_eq_true rfl) dX12_builds_24 ⟨Nat.zero_le _, Nat.zero_le _⟩ (fun H locs hI => ?_)
  refine lv_iload_n hx hb dX12_builds_27 rfl (lv_at hl 5 rfl) ?_
  refine lv_iadd hx hb dX12_builds_28 ?_
  refine lv_istore (lv' := [(6, .int (x4.2 + a3)), (5, .int (x2.2 + a2)), (4, .int (s0.2.1 26 ((6 : Int32) + a1).toNatClampNeg)), (0, .ref h), (1, .int a1), (2, .int a2), (3, .int a3)]) hx hb dX12_builds_29 hl (by decide) rfl (fun ls hl => ?_)
  refine lv_aload_n hx hb dX12_builds_31 rfl (lv_at hl 3 rfl) ?_
  refine mg_said hx hb hts hin hown k_said hI dX12_builds_32 ?_
  refine lv_bipush (v := 126) hx hb dX12_builds_35 (by decide) ?_
  refine lv_bipush (v := 40) hx hb dX12_builds_37 (by decide) ?_
  refine lv_iload_n hx hb dX12_builds_39 rfl (lv_at hl 4 rfl) ?_
  refine lv_imul hx hb dX12_builds_40 ?_
  refine lv_iadd hx hb dX12_builds_41 ?_
  refine lv_iload hx hb dX12_builds_42 (lv_at hl 2 rfl) ?_
  refine lv_iadd hx hb dX12_builds_44 ?_
  refine lv_iload hx hb dX12_builds_45 (lv_at hl 1 rfl) ?_
  obtain ⟨k6, hf⟩ := chk_b hf
  refine ms_said hx hb hI k6 dX12_builds_47 (fun H locs hI => ?_)
  refine lv_aload_n hx hb dX12_builds_48 rfl (lv_at hl 3 rfl) ?_
  refine mg_said hx hb hts hin hown k_said hI dX12_builds_49 ?_
  refine lv_sipush (v := 206) hx hb dX12_builds_52 (by decide) ?_
  refine lv_bipush (v := 40) hx hb dX12_builds_55 (by decide) ?_
  refine lv_iload_n hx hb dX12_builds_57 rfl (lv_at hl 4 rfl) ?_
  refine lv_imul hx hb dX12_builds_58 ?_
  refine lv_iadd hx hb dX12_builds_59 ?_
  refine lv_iload hx hb dX12_builds_60 (lv_at hl 2 rfl) ?_
  refine lv_iadd hx hb dX12_builds_62 ?_
  refine lv_iload hx hb dX12_builds_63 (lv_at hl 0 rfl) ?_
  obtain ⟨k7, hf⟩ := chk_b hf
  refine ms_said hx hb hI k7 dX12_builds_65 (fun H locs hI => ?_)
  refine lv_aload_n hx hb dX12_builds_66 rfl (lv_at hl 3 rfl) ?_
  refine mg_said hx hb hts hin hown k_said hI dX12_builds_67 ?_
  refine lv_bipush (v := 6) hx hb dX12_builds_70 (by decide) ?_
  refine lv_iload_n hx hb dX12_builds_72 rfl (lv_at hl 4 rfl) ?_
  refine lv_iadd hx hb dX12_builds_73 ?_
  refine lv_dup2_11 hx hb dX12_builds_74 rfl rfl ?_
  obtain ⟨k8, hf⟩ := chk_b hf
  refine ml_said hx hb hI k8 dX12_builds_75 ?_
  refine lv_iconst (v := 1) hx hb dX12_builds_76 (by decide) ?_
  refine lv_iadd hx hb dX12_builds_77 ?_
  obtain ⟨k9, hf⟩ := chk_b hf
  refine ms_said hx hb hI k9 dX12_builds_78 (fun H locs hI => ?_)
  exact mret_v hx hb hr hlocks hI (ret_e hK0 hf) dX12_builds_79

noncomputable def fm_takesYards (a1 : Int32) (a2 : Int32) (s0 : MSt) : Option (MSt) :=
  chk (inb ((6 : Int32) + a1) 286) ((fm_greater (0 : Int32) ((s0.2.1 26 ((6 : Int32) + a1).toNatClampNeg) - a2)).bind fun x2 => chk (inb ((6 : Int32) + a1) 286) (some (msa s0 26 ((6 : Int32) + a1).toNatClampNeg x2)))
theorem nd_takesYards : yX12_takesYards.cls ≠ "java/lang/invoke/MethodHandle" ∧ yX12_takesYards.cls ≠ "java/lang/invoke/VarHandle" ∧ (parseMethodDescriptor yX12_takesYards.desc).map (fun d => d.parameters.length) = some 2 := by decide +kernel
set_option maxHeartbeats 4000000 in
set_option maxRecDepth 100000 in
theorem cm_takesYards (l : Launch) (D : va_G) (h : Nat) (ad : Nat → Nat) (cy : Nat → ClassId) (a1 : Int32) (a2 : Int32) (s0 : MSt) (out : MSt) (hf : fm_takesYards a1 a2 s0 = some out) (sz : Nat) : CMv l D h ad cy yX12_takesYards wsX12_takesYards { frames := 1, cells := 0, slots := 0, locals := 21 } [.int a1, .int a2] s0 out sz := by
  refine Met.ofW (cc := cX12_takesYards) (maxL := 3) (ret := none) (by decide) rfl ?_
  intro p e s m args below meth c s₁ B hml hv
  obtain ⟨rfl, hsz, hP, hK, hD0⟩ := hv
  have hx := B.exec
  have hb := B.bytes
  have hr := B.returns
  have hts := atoms_spec (ws := wsX12_takesYards) B.pre
  have hown : s.vm.findClass RX12 = some m.cls := findClass_of_methodNamed B.named
  have hlocks := B.notSynchronized
  subst hsz
  have hI : MI D (MA h ad cy s0 s.heap.size) h ad cy s s.heap s0 s.heap [] := ⟨hK, hP, hD0.self, va_S.rf⟩
  have hA : ∀ q : Nat, s.heap.size ≤ q → MA h ad cy s0 s.heap.size q := fun q hq => Or.inr hq
  have hin : ∀ w ∈ u_ws RX12 TX12 42, w ∈ wsX12_takesYards := fun w hw => List.mem_cons_of_mem _ (List.mem_append_right _ hw)
  have k_said : Cond.fieldLink RX12 45 "HalfBridgeModel" "said" "[I" ∈ wsX12_takesYards := by decide +kernel
  have hl := lv_entry ([.ref h, .int a1, .int a2]) (n := 3) (Nat.le_of_ble_eq_true rfl)
  rw [lg_entry_eq]
  generalize (lg_sl ([.ref h, .int a1, .int a2]) ++ List.replicate (3 - (lg_sl ([.ref h, .int a1, .int a2])).length) Slot.unset).toArray = ls at hl ⊢
  have hl : lv_has ls 3 [(0, .ref h), (1, .int a1), (2, .int a2)] := hl
  obtain ⟨K0, hK0, hf⟩ := top_e hf
  unfold fm_takesYards at hf
  refine lv_aload_n hx hb dX12_takesYards_0 rfl (lv_at hl 0 rfl) ?_
  refine mg_said hx hb hts hin hown k_said hI dX12_takesYards_1 ?_
  refine lv_bipush (v := 6) hx hb dX12_takesYards_4 (by decide) ?_
  refine lv_iload_n hx hb dX12_takesYards_6 rfl (lv_at hl 1 rfl) ?_
  refine lv_iadd hx hb dX12_takesYards_7 ?_
  refine lv_iconst (v := 0) hx hb dX12_takesYards_8 (by decide) ?_
  refine lv_aload_n hx hb dX12_takesYards_9 rfl (lv_at hl 0 rfl) ?_
  refine mg_said hx hb hts hin hown k_said hI dX12_takesYards_10 ?_
  refine lv_bipush (v := 6) hx hb dX12_takesYards_13 (by decide) ?_
  refine lv_iload_n hx hb dX12_takesYards_15 rfl (lv_at hl 1 rfl) ?_
  refine lv_iadd hx hb dX12_takesYards_16 ?_
  obtain ⟨k1, hf⟩ := chk_b hf
  refine ml_said hx hb hI k1 dX12_takesYards_17 ?_
  refine lv_iload_n hx hb dX12_takesYards_18 rfl (lv_at hl 2 rfl) ?_
  refine lv_isub hx hb dX12_takesYards_19 ?_
  obtain ⟨x2, hc3, hf⟩ := bnd_b hf
  refine mst_i (As := [.int (0 : Int32), .int ((s0.2.1 26 ((6 : Int32) + a1).toNatClampNeg) - a2)]) (rest := [.int ((6 : Int32) + a1), .ref (ad 26)]) (n := 2) ⟨hx, hb, hml, hown, hts⟩ (cs_greater l (0 : Int32) ((s0.2.1 26 ((6 : Int32) + a1).toNatClampNeg) - a2) x2 hc3 _) (va_cwS 2 hts gX12_takesYards_X12_greater rfl rfl rfl nd_greater ⟨Nat.le_of_ble_eq_true rfl, Nat.le_of_ble_eq_true rfl⟩) hI hA rfl hl.1 (Nat.le_of_ble_eq_true rfl) dX12_takesYards_20 ⟨Nat.zero_le _, Nat.zero_le _⟩ (fun H locs hI => ?_)
  obtain ⟨k4, hf⟩ := chk_b hf
  refine ms_said hx hb hI k4 dX12_takesYards_23 (fun H locs hI => ?_)
  exact mret_v hx hb hr hlocks hI (ret_e hK0 hf) dX12_takesYards_24

noncomputable def fm_build (a1 : Int32) (a2 : Int32) (a3 : Int32) (s0 : MSt) : Option (MSt × Int32) :=
  (fm_isRiver s0).bind fun x1 => (if x1.2 = 0 then some (x1.1, (0 : Int32)) else (fm_isSide a1).bind fun x4 => (if x4 = 0 then some (x1.1, (0 : Int32)) else (fm_gap x1.1).bind fun x7 => (if x7.2 = 0 then some (x7.1, (0 : Int32)) else chk (inb (2 : Int32) 286) (chk (inb (2 : Int32) 286) ((fm_in (a2.toInt64) ((-(x7.1.2.1 26 (2 : Int32).toNatClampNeg)).toInt64) ((x7.1.2.1 26 (2 : Int32).toNatClampNeg).toInt64)).bind fun x12 => (if x12 = 0 then some (x7.1, (0 : Int32)) else chk (inb (2 : Int32) 286) (chk (inb (2 : Int32) 286) ((fm_in (a3.toInt64) ((-(x7.1.2.1 26 (2 : Int32).toNatClampNeg)).toInt64) ((x7.1.2.1 26 (2 : Int32).toNatClampNeg).toInt64)).bind fun x17 => (if x17 = 0 then some (x7.1, (0 : Int32)) else (fm_builds a1 a2 a3 x7.1).bind fun x20 => some (x20, (1 : Int32)))))))))))
theorem nd_build : yX12_build.cls ≠ "java/lang/invoke/MethodHandle" ∧ yX12_build.cls ≠ "java/lang/invoke/VarHandle" ∧ (parseMethodDescriptor yX12_build.desc).map (fun d => d.parameters.length) = some 3 := by decide +kernel
set_option maxHeartbeats 4000000 in
set_option maxRecDepth 100000 in
theorem cm_build (l : Launch) (D : va_G) (h : Nat) (ad : Nat → Nat) (cy : Nat → ClassId) (a1 : Int32) (a2 : Int32) (a3 : Int32) (s0 : MSt) (out : MSt × Int32) (hf : fm_build a1 a2 a3 s0 = some out) (sz : Nat) : CMi l D h ad cy yX12_build wsX12_build { frames := 3, cells := 0, slots := 0, locals := 71 } [.int a1, .int a2, .int a3] s0 out sz := by
  refine Met.ofW (cc := cX12_build) (maxL := 4) (ret := (some .boolean)) (by decide) rfl ?_
  intro p e s m args below meth c s₁ B hml hv
  obtain ⟨rfl, hsz, hP, hK, hD0⟩ := hv
  have hx := B.exec
  have hb := B.bytes
  have hr := B.returns
  have hts := atoms_spec (ws := wsX12_build) B.pre
  have hown : s.vm.findClass RX12 = some m.cls := findClass_of_methodNamed B.named
  have hlocks := B.notSynchronized
  subst hsz
  have hI : MI D (MA h ad cy s0 s.heap.size) h ad cy s s.heap s0 s.heap [] := ⟨hK, hP, hD0.self, va_S.rf⟩
  have hA : ∀ q : Nat, s.heap.size ≤ q → MA h ad cy s0 s.heap.size q := fun q hq => Or.inr hq
  have hin : ∀ w ∈ u_ws RX12 TX12 42, w ∈ wsX12_build := fun w hw => List.mem_cons_of_mem _ (List.mem_append_right _ hw)
  have k_said : Cond.fieldLink RX12 45 "HalfBridgeModel" "said" "[I" ∈ wsX12_build := by decide +kernel
  have hl := lv_entry ([.ref h, .int a1, .int a2, .int a3]) (n := 4) (Nat.le_of_ble_eq_true rfl)
  rw [lg_entry_eq]
  generalize (lg_sl ([.ref h, .int a1, .int a2, .int a3]) ++ List.replicate (4 - (lg_sl ([.ref h, .int a1, .int a2, .int a3])).length) Slot.unset).toArray = ls at hl ⊢
  have hl : lv_has ls 4 [(0, .ref h), (1, .int a1), (2, .int a2), (3, .int a3)] := hl
  obtain ⟨K0, hK0, hf⟩ := top_e hf
  unfold fm_build at hf
  refine lv_aload_n hx hb dX12_build_0 rfl (lv_at hl 0 rfl) ?_
  obtain ⟨x1, hc2, hf⟩ := bnd_b hf
  refine mcall_i (As := []) (rest := []) (n := 0) ⟨hx, hb, hml, hown, hts⟩ (cm_isRiver l D h ad cy  s0 x1 hc2 _) (cwV 0 hts gX12_build_X12_isRiver rfl rfl rfl ⟨rfl, nd_isRiver⟩ ⟨Nat.le_of_ble_eq_true rfl, Nat.le_of_ble_eq_true rfl⟩) hI hA rfl hl.1 (Nat.le_of_ble_eq_true rfl) dX12_build_1 ⟨Nat.zero_le _, Nat.zero_le _⟩ (fun H locs hI => ?_)
  refine lv_if_eq (tgt := 67) hx hb dX12_build_4 (by decide) (fun c3 => ?_) (fun c3 => ?_)
  · replace hf := ifp c3 hf
    refine lv_iconst (v := 0) hx hb dX12_build_67 (by decide) ?_
    exact mret_z hx hb hr (by decide) hlocks hI (ret_e hK0 hf) dX12_build_68
  · replace hf := ifn c3 hf
    refine lv_iload_n hx hb dX12_build_7 rfl (lv_at hl 1 rfl) ?_
    obtain ⟨x4, hc5, hf⟩ := bnd_b hf
    refine mst_i (As := [.int a1]) (rest := []) (n := 1) ⟨hx, hb, hml, hown, hts⟩ (cs_isSide l a1 x4 hc5 _) (va_cwS 1 hts gX12_build_X12_isSide rfl rfl rfl nd_isSide ⟨Nat.le_of_ble_eq_true rfl, Nat.le_of_ble_eq_true rfl⟩) hI hA rfl hl.1 (Nat.le_of_ble_eq_true rfl) dX12_build_8 ⟨Nat.zero_le _, Nat.zero_le _⟩ (fun H locs hI => ?_)
    refine lv_if_eq (tgt := 67) hx hb dX12_build_11 (by decide) (fun c6 => ?_) (fun c6 => ?_)
    · replace hf := ifp c6 hf
      refine lv_iconst (v := 0) hx hb dX12_build_67 (by decide) ?_
      exact mret_z hx hb hr (by decide) hlocks hI (ret_e hK0 hf) dX12_build_68
    · replace hf := ifn c6 hf
      refine lv_aload_n hx hb dX12_build_14 rfl (lv_at hl 0 rfl) ?_
      obtain ⟨x7, hc8, hf⟩ := bnd_b hf
      refine mcall_i (As := []) (rest := []) (n := 0) ⟨hx, hb, hml, hown, hts⟩ (cm_gap l D h ad cy  x1.1 x7 hc8 _) (cwV 0 hts gX12_build_X12_gap rfl rfl rfl ⟨rfl, nd_gap⟩ ⟨Nat.le_of_ble_eq_true rfl, Nat.le_of_ble_eq_true rfl⟩) hI hA rfl hl.1 (Nat.le_of_ble_eq_true rfl) dX12_build_15 ⟨Nat.zero_le _, Nat.zero_le _⟩ (fun H locs hI => ?_)
      refine lv_if_eq (tgt := 67) hx hb dX12_build_18 (by decide) (fun c9 => ?_) (fun c9 => ?_)
      · replace hf := ifp c9 hf
        refine lv_iconst (v := 0) hx hb dX12_build_67 (by decide) ?_
        exact mret_z hx hb hr (by decide) hlocks hI (ret_e hK0 hf) dX12_build_68
      · replace hf := ifn c9 hf
        refine lv_iload_n hx hb dX12_build_21 rfl (lv_at hl 2 rfl) ?_
        refine lv_i2l (v := (a2.toInt64)) hx hb dX12_build_22 rfl ?_
        refine lv_aload_n hx hb dX12_build_23 rfl (lv_at hl 0 rfl) ?_
        refine mg_said hx hb hts hin hown k_said hI dX12_build_24 ?_
        refine lv_iconst (v := 2) hx hb dX12_build_27 (by decide) ?_
        obtain ⟨k10, hf⟩ := chk_b hf
        refine ml_said hx hb hI k10 dX12_build_28 ?_
        refine lv_ineg hx hb dX12_build_29 ?_
        refine lv_i2l (v := ((-(x7.1.2.1 26 (2 : Int32).toNatClampNeg)).toInt64)) hx hb dX12_build_30 rfl ?_
        refine lv_aload_n hx hb dX12_build_31 rfl (lv_at hl 0 rfl) ?_
        refine mg_said hx hb hts hin hown k_said hI dX12_build_32 ?_
        refine lv_iconst (v := 2) hx hb dX12_build_35 (by decide) ?_
        obtain ⟨k11, hf⟩ := chk_b hf
        refine ml_said hx hb hI k11 dX12_build_36 ?_
        refine lv_i2l (v := ((x7.1.2.1 26 (2 : Int32).toNatClampNeg).toInt64)) hx hb dX12_build_37 rfl ?_
        obtain ⟨x12, hc13, hf⟩ := bnd_b hf
        refine mst_i (As := [.long (a2.toInt64), .long ((-(x7.1.2.1 26 (2 : Int32).toNatClampNeg)).toInt64), .long ((x7.1.2.1 26 (2 : Int32).toNatClampNeg).toInt64)]) (rest := []) (n := 3) ⟨hx, hb, hml, hown, hts⟩ (cs_in l (a2.toInt64) ((-(x7.1.2.1 26 (2 : Int32).toNatClampNeg)).toInt64) ((x7.1.2.1 26 (2 : Int32).toNatClampNeg).toInt64) x12 hc13 _) (va_cwS 3 hts gX12_build_X12_in rfl rfl rfl nd_in ⟨Nat.le_of_ble_eq_true rfl, Nat.le_of_ble_eq_true rfl⟩) hI hA rfl hl.1 (Nat.le_of_ble_eq_true rfl) dX12_build_38 ⟨Nat.zero_le _, Nat.zero_le _⟩ (fun H locs hI => ?_)
        refine lv_if_eq (tgt := 67) hx hb dX12_build_41 (by decide) (fun c14 => ?_) (fun c14 => ?_)
        · replace hf := ifp c14 hf
          refine lv_iconst (v := 0) hx hb dX12_build_67 (by decide) ?_
          exact mret_z hx hb hr (by decide) hlocks hI (ret_e hK0 hf) dX12_build_68
        · replace hf := ifn c14 hf
          refine lv_iload_n hx hb dX12_build_44 rfl (lv_at hl 3 rfl) ?_
          refine lv_i2l (v := (a3.toInt64)) hx hb dX12_build_45 rfl ?_
          refine lv_aload_n hx hb dX12_build_46 rfl (lv_at hl 0 rfl) ?_
          refine mg_said hx hb hts hin hown k_said hI dX12_build_47 ?_
          refine lv_iconst (v := 2) hx hb dX12_build_50 (by decide) ?_
          obtain ⟨k15, hf⟩ := chk_b hf
          refine ml_said hx hb hI k15 dX12_build_51 ?_
          refine lv_ineg hx hb dX12_build_52 ?_
          refine lv_i2l (v := ((-(x7.1.2.1 26 (2 : Int32).toNatClampNeg)).toInt64)) hx hb dX12_build_53 rfl ?_
          refine lv_aload_n hx hb dX12_build_54 rfl (lv_at hl 0 rfl) ?_
          refine mg_said hx hb hts hin hown k_said hI dX12_build_55 ?_
          refine lv_iconst (v := 2) hx hb dX12_build_58 (by decide) ?_
          obtain ⟨k16, hf⟩ := chk_b hf
          refine ml_said hx hb hI k16 dX12_build_59 ?_
          refine lv_i2l (v := ((x7.1.2.1 26 (2 : Int32).toNatClampNeg).toInt64)) hx hb dX12_build_60 rfl ?_
          obtain ⟨x17, hc18, hf⟩ := bnd_b hf
          refine mst_i (As := [.long (a3.toInt64), .long ((-(x7.1.2.1 26 (2 : Int32).toNatClampNeg)).toInt64), .long ((x7.1.2.1 26 (2 : Int32).toNatClampNeg).toInt64)]) (rest := []) (n := 3) ⟨hx, hb, hml, hown, hts⟩ (cs_in l (a3.toInt64) ((-(x7.1.2.1 26 (2 : Int32).toNatClampNeg)).toInt64) ((x7.1.2.1 26 (2 : Int32).toNatClampNeg).toInt64) x17 hc18 _) (va_cwS 3 hts gX12_build_X12_in rfl rfl rfl nd_in ⟨Nat.le_of_ble_eq_true rfl, Nat.le_of_ble_eq_true rfl⟩) hI hA rfl hl.1 (Nat.le_of_ble_eq_true rfl) dX12_build_61 ⟨Nat.zero_le _, Nat.zero_le _⟩ (fun H locs hI => ?_)
          refine lv_if_ne (tgt := 69) hx hb dX12_build_64 (by decide) (fun c19 => ?_) (fun c19 => ?_)
          · replace hf := ifn c19 hf
            refine lv_aload_n hx hb dX12_build_69 rfl (lv_at hl 0 rfl) ?_
            refine lv_iload_n hx hb dX12_build_70 rfl (lv_at hl 1 rfl) ?_
            refine lv_iload_n hx hb dX12_build_71 rfl (lv_at hl 2 rfl) ?_
            refine lv_iload_n hx hb dX12_build_72 rfl (lv_at hl 3 rfl) ?_
            obtain ⟨x20, hc21, hf⟩ := bnd_b hf
            refine mcall_v (As := [.int a1, .int a2, .int a3]) (rest := []) (n := 3) ⟨hx, hb, hml, hown, hts⟩ (cm_builds l D h ad cy a1 a2 a3 x7.1 x20 hc21 _) (cwV 3 hts gX12_build_X12_builds rfl rfl rfl ⟨rfl, nd_builds⟩ ⟨Nat.le_of_ble_eq_true rfl, Nat.le_of_ble_eq_true rfl⟩) hI hA rfl hl.1 (Nat.le_of_ble_eq_true rfl) dX12_build_73 ⟨Nat.zero_le _, Nat.zero_le _⟩ (fun H locs hI => ?_)
            refine lv_iconst (v := 1) hx hb dX12_build_76 (by decide) ?_
            exact mret_z hx hb hr (by decide) hlocks hI (ret_e hK0 hf) dX12_build_77
          · replace hf := ifp c19 hf
            refine lv_iconst (v := 0) hx hb dX12_build_67 (by decide) ?_
            exact mret_z hx hb hr (by decide) hlocks hI (ret_e hK0 hf) dX12_build_68

noncomputable def fm_pull (a1 : Int32) (s0 : MSt) : Option (MSt × Int32) :=
  (fm_isRiver s0).bind fun x1 => (if x1.2 = 0 then some (x1.1, (0 : Int32)) else (fm_isSide a1).bind fun x4 => (if x4 = 0 then some (x1.1, (0 : Int32)) else chk (inb ((6 : Int32) + a1) 286) ((if (x1.1.2.1 26 ((6 : Int32) + a1).toNatClampNeg) = 0 then some (x1.1, (0 : Int32)) else (fm_takesYards a1 (1 : Int32) x1.1).bind fun x9 => some (x9, (1 : Int32))))))
theorem nd_pull : yX12_pull.cls ≠ "java/lang/invoke/MethodHandle" ∧ yX12_pull.cls ≠ "java/lang/invoke/VarHandle" ∧ (parseMethodDescriptor yX12_pull.desc).map (fun d => d.parameters.length) = some 1 := by decide +kernel
set_option maxHeartbeats 4000000 in
set_option maxRecDepth 100000 in
theorem cm_pull (l : Launch) (D : va_G) (h : Nat) (ad : Nat → Nat) (cy : Nat → ClassId) (a1 : Int32) (s0 : MSt) (out : MSt × Int32) (hf : fm_pull a1 s0 = some out) (sz : Nat) : CMi l D h ad cy yX12_pull wsX12_pull { frames := 2, cells := 0, slots := 0, locals := 43 } [.int a1] s0 out sz := by
  refine Met.ofW (cc := cX12_pull) (maxL := 2) (ret := (some .boolean)) (by decide) rfl ?_
  intro p e s m args below meth c s₁ B hml hv
  obtain ⟨rfl, hsz, hP, hK, hD0⟩ := hv
  have hx := B.exec
  have hb := B.bytes
  have hr := B.returns
  have hts := atoms_spec (ws := wsX12_pull) B.pre
  have hown : s.vm.findClass RX12 = some m.cls := findClass_of_methodNamed B.named
  have hlocks := B.notSynchronized
  subst hsz
  have hI : MI D (MA h ad cy s0 s.heap.size) h ad cy s s.heap s0 s.heap [] := ⟨hK, hP, hD0.self, va_S.rf⟩
  have hA : ∀ q : Nat, s.heap.size ≤ q → MA h ad cy s0 s.heap.size q := fun q hq => Or.inr hq
  have hin : ∀ w ∈ u_ws RX12 TX12 42, w ∈ wsX12_pull := fun w hw => List.mem_cons_of_mem _ (List.mem_append_right _ hw)
  have k_said : Cond.fieldLink RX12 45 "HalfBridgeModel" "said" "[I" ∈ wsX12_pull := by decide +kernel
  have hl := lv_entry ([.ref h, .int a1]) (n := 2) (Nat.le_of_ble_eq_true rfl)
  rw [lg_entry_eq]
  generalize (lg_sl ([.ref h, .int a1]) ++ List.replicate (2 - (lg_sl ([.ref h, .int a1])).length) Slot.unset).toArray = ls at hl ⊢
  have hl : lv_has ls 2 [(0, .ref h), (1, .int a1)] := hl
  obtain ⟨K0, hK0, hf⟩ := top_e hf
  unfold fm_pull at hf
  refine lv_aload_n hx hb dX12_pull_0 rfl (lv_at hl 0 rfl) ?_
  obtain ⟨x1, hc2, hf⟩ := bnd_b hf
  refine mcall_i (As := []) (rest := []) (n := 0) ⟨hx, hb, hml, hown, hts⟩ (cm_isRiver l D h ad cy  s0 x1 hc2 _) (cwV 0 hts gX12_pull_X12_isRiver rfl rfl rfl ⟨rfl, nd_isRiver⟩ ⟨Nat.le_of_ble_eq_true rfl, Nat.le_of_ble_eq_true rfl⟩) hI hA rfl hl.1 (Nat.le_of_ble_eq_true rfl) dX12_pull_1 ⟨Nat.zero_le _, Nat.zero_le _⟩ (fun H locs hI => ?_)
  refine lv_if_eq (tgt := 26) hx hb dX12_pull_4 (by decide) (fun c3 => ?_) (fun c3 => ?_)
  · replace hf := ifp c3 hf
    refine lv_iconst (v := 0) hx hb dX12_pull_26 (by decide) ?_
    exact mret_z hx hb hr (by decide) hlocks hI (ret_e hK0 hf) dX12_pull_27
  · replace hf := ifn c3 hf
    refine lv_iload_n hx hb dX12_pull_7 rfl (lv_at hl 1 rfl) ?_
    obtain ⟨x4, hc5, hf⟩ := bnd_b hf
    refine mst_i (As := [.int a1]) (rest := []) (n := 1) ⟨hx, hb, hml, hown, hts⟩ (cs_isSide l a1 x4 hc5 _) (va_cwS 1 hts gX12_pull_X12_isSide rfl rfl rfl nd_isSide ⟨Nat.le_of_ble_eq_true rfl, Nat.le_of_ble_eq_true rfl⟩) hI hA rfl hl.1 (Nat.le_of_ble_eq_true rfl) dX12_pull_8 ⟨Nat.zero_le _, Nat.zero_le _⟩ (fun H locs hI => ?_)
    refine lv_if_eq (tgt := 26) hx hb dX12_pull_11 (by decide) (fun c6 => ?_) (fun c6 => ?_)
    · replace hf := ifp c6 hf
      refine lv_iconst (v := 0) hx hb dX12_pull_26 (by decide) ?_
      exact mret_z hx hb hr (by decide) hlocks hI (ret_e hK0 hf) dX12_pull_27
    · replace hf := ifn c6 hf
      refine lv_aload_n hx hb dX12_pull_14 rfl (lv_at hl 0 rfl) ?_
      refine mg_said hx hb hts hin hown k_said hI dX12_pull_15 ?_
      refine lv_bipush (v := 6) hx hb dX12_pull_18 (by decide) ?_
      refine lv_iload_n hx hb dX12_pull_20 rfl (lv_at hl 1 rfl) ?_
      refine lv_iadd hx hb dX12_pull_21 ?_
      obtain ⟨k7, hf⟩ := chk_b hf
      refine ml_said hx hb hI k7 dX12_pull_22 ?_
      refine lv_if_ne (tgt := 28) hx hb dX12_pull_23 (by decide) (fun c8 => ?_) (fun c8 => ?_)
      · replace hf := ifn c8 hf
        refine lv_aload_n hx hb dX12_pull_28 rfl (lv_at hl 0 rfl) ?_
        refine lv_iload_n hx hb dX12_pull_29 rfl (lv_at hl 1 rfl) ?_
        refine lv_iconst (v := 1) hx hb dX12_pull_30 (by decide) ?_
        obtain ⟨x9, hc10, hf⟩ := bnd_b hf
        refine mcall_v (As := [.int a1, .int (1 : Int32)]) (rest := []) (n := 2) ⟨hx, hb, hml, hown, hts⟩ (cm_takesYards l D h ad cy a1 (1 : Int32) x1.1 x9 hc10 _) (cwV 2 hts gX12_pull_X12_takesYards rfl rfl rfl ⟨rfl, nd_takesYards⟩ ⟨Nat.le_of_ble_eq_true rfl, Nat.le_of_ble_eq_true rfl⟩) hI hA rfl hl.1 (Nat.le_of_ble_eq_true rfl) dX12_pull_31 ⟨Nat.zero_le _, Nat.zero_le _⟩ (fun H locs hI => ?_)
        refine lv_iconst (v := 1) hx hb dX12_pull_34 (by decide) ?_
        exact mret_z hx hb hr (by decide) hlocks hI (ret_e hK0 hf) dX12_pull_35
      · replace hf := ifp c8 hf
        refine lv_iconst (v := 0) hx hb dX12_pull_26 (by decide) ?_
        exact mret_z hx hb hr (by decide) hlocks hI (ret_e hK0 hf) dX12_pull_27

noncomputable def fm_held (a1 : Int64) (s0 : MSt) : Option (MSt × Int32) :=
  chk (inb (2 : Int32) 286) ((if 0 ≤ (lg_cmp a1 ((-(s0.2.1 26 (2 : Int32).toNatClampNeg)).toInt64)) then chk (inb (2 : Int32) 286) ((if (lg_cmp a1 ((s0.2.1 26 (2 : Int32).toNatClampNeg).toInt64)) ≤ 0 then some (s0, (a1.toInt32)) else chk (inb (2 : Int32) 286) (some (s0, (((s0.2.1 26 (2 : Int32).toNatClampNeg).toInt64).toInt32))))) else chk (inb (2 : Int32) 286) (some (s0, (((-(s0.2.1 26 (2 : Int32).toNatClampNeg)).toInt64).toInt32)))))
theorem nd_held : yX12_held.cls ≠ "java/lang/invoke/MethodHandle" ∧ yX12_held.cls ≠ "java/lang/invoke/VarHandle" ∧ (parseMethodDescriptor yX12_held.desc).map (fun d => d.parameters.length) = some 1 := by decide +kernel
set_option maxHeartbeats 4000000 in
set_option maxRecDepth 100000 in
theorem cm_held (l : Launch) (D : va_G) (h : Nat) (ad : Nat → Nat) (cy : Nat → ClassId) (a1 : Int64) (s0 : MSt) (out : MSt × Int32) (hf : fm_held a1 s0 = some out) (sz : Nat) : CMi l D h ad cy yX12_held wsX12_held { frames := 0, cells := 0, slots := 0, locals := 0 } [.long a1] s0 out sz := by
  refine Met.ofW (cc := cX12_held) (maxL := 3) (ret := (some .int)) (by decide) rfl ?_
  intro p e s m args below meth c s₁ B hml hv
  obtain ⟨rfl, hsz, hP, hK, hD0⟩ := hv
  have hx := B.exec
  have hb := B.bytes
  have hr := B.returns
  have hts := atoms_spec (ws := wsX12_held) B.pre
  have hown : s.vm.findClass RX12 = some m.cls := findClass_of_methodNamed B.named
  have hlocks := B.notSynchronized
  subst hsz
  have hI : MI D (MA h ad cy s0 s.heap.size) h ad cy s s.heap s0 s.heap [] := ⟨hK, hP, hD0.self, va_S.rf⟩
  have hA : ∀ q : Nat, s.heap.size ≤ q → MA h ad cy s0 s.heap.size q := fun q hq => Or.inr hq
  have hin : ∀ w ∈ u_ws RX12 TX12 42, w ∈ wsX12_held := fun w hw => List.mem_cons_of_mem _ (List.mem_append_right _ hw)
  have k_said : Cond.fieldLink RX12 45 "HalfBridgeModel" "said" "[I" ∈ wsX12_held := by decide +kernel
  have hl := lv_entry ([.ref h, .long a1]) (n := 3) (Nat.le_of_ble_eq_true rfl)
  rw [lg_entry_eq]
  generalize (lg_sl ([.ref h, .long a1]) ++ List.replicate (3 - (lg_sl ([.ref h, .long a1])).length) Slot.unset).toArray = ls at hl ⊢
  have hl : lv_has ls 3 [(0, .ref h), (1, .long a1)] := hl
  obtain ⟨K0, hK0, hf⟩ := top_e hf
  unfold fm_held at hf
  refine lv_lload_n hx hb dX12_held_0 rfl (lv_at hl 1 rfl) ?_
  refine lv_aload_n hx hb dX12_held_1 rfl (lv_at hl 0 rfl) ?_
  refine mg_said hx hb hts hin hown k_said hI dX12_held_2 ?_
  refine lv_iconst (v := 2) hx hb dX12_held_5 (by decide) ?_
  obtain ⟨k1, hf⟩ := chk_b hf
  refine ml_said hx hb hI k1 dX12_held_6 ?_
  refine lv_ineg hx hb dX12_held_7 ?_
  refine lv_i2l (v := ((-(s0.2.1 26 (2 : Int32).toNatClampNeg)).toInt64)) hx hb dX12_held_8 rfl ?_
  refine W.lcmp hx hb dX12_held_9 ?_
  refine lv_if_ge (tgt := 24) hx hb dX12_held_10 (by decide) (fun c2 => ?_) (fun c2 => ?_)
  · replace hf := ifp c2 hf
    refine lv_lload_n hx hb dX12_held_24 rfl (lv_at hl 1 rfl) ?_
    refine lv_aload_n hx hb dX12_held_25 rfl (lv_at hl 0 rfl) ?_
    refine mg_said hx hb hts hin hown k_said hI dX12_held_26 ?_
    refine lv_iconst (v := 2) hx hb dX12_held_29 (by decide) ?_
    obtain ⟨k3, hf⟩ := chk_b hf
    refine ml_said hx hb hI k3 dX12_held_30 ?_
    refine lv_i2l (v := ((s0.2.1 26 (2 : Int32).toNatClampNeg).toInt64)) hx hb dX12_held_31 rfl ?_
    refine W.lcmp hx hb dX12_held_32 ?_
    refine lv_if_le (tgt := 46) hx hb dX12_held_33 (by decide) (fun c4 => ?_) (fun c4 => ?_)
    · replace hf := ifp c4 hf
      refine lv_lload_n hx hb dX12_held_46 rfl (lv_at hl 1 rfl) ?_
      refine lv_l2i (v := (a1.toInt32)) hx hb dX12_held_47 rfl ?_
      exact mret_i hx hb hr hlocks hI (ret_e hK0 hf) dX12_held_48
    · replace hf := ifn c4 hf
      refine lv_aload_n hx hb dX12_held_36 rfl (lv_at hl 0 rfl) ?_
      refine mg_said hx hb hts hin hown k_said hI dX12_held_37 ?_
      refine lv_iconst (v := 2) hx hb dX12_held_40 (by decide) ?_
      obtain ⟨k5, hf⟩ := chk_b hf
      refine ml_said hx hb hI k5 dX12_held_41 ?_
      refine lv_i2l (v := ((s0.2.1 26 (2 : Int32).toNatClampNeg).toInt64)) hx hb dX12_held_42 rfl ?_
      refine lv_goto (tgt := 47) hx hb dX12_held_43 (by decide) ?_
      refine lv_l2i (v := (((s0.2.1 26 (2 : Int32).toNatClampNeg).toInt64).toInt32)) hx hb dX12_held_47 rfl ?_
      exact mret_i hx hb hr hlocks hI (ret_e hK0 hf) dX12_held_48
  · replace hf := ifn c2 hf
    refine lv_aload_n hx hb dX12_held_13 rfl (lv_at hl 0 rfl) ?_
    refine mg_said hx hb hts hin hown k_said hI dX12_held_14 ?_
    refine lv_iconst (v := 2) hx hb dX12_held_17 (by decide) ?_
    obtain ⟨k6, hf⟩ := chk_b hf
    refine ml_said hx hb hI k6 dX12_held_18 ?_
    refine lv_ineg hx hb dX12_held_19 ?_
    refine lv_i2l (v := ((-(s0.2.1 26 (2 : Int32).toNatClampNeg)).toInt64)) hx hb dX12_held_20 rfl ?_
    refine lv_goto (tgt := 47) hx hb dX12_held_21 (by decide) ?_
    refine lv_l2i (v := (((-(s0.2.1 26 (2 : Int32).toNatClampNeg)).toInt64).toInt32)) hx hb dX12_held_47 rfl ?_
    exact mret_i hx hb hr hlocks hI (ret_e hK0 hf) dX12_held_48

noncomputable def fm_isSo (a1 : Int32) (a2 : Int32) (s0 : MSt) : Option (MSt × Int32) :=
  chk (inb (a2 + (3 : Int32)) 360) (chk (inb (a2 + (4 : Int32)) 360) ((fm_reckons a1 (s0.2.1 5 (a2 + (3 : Int32)).toNatClampNeg) (s0.2.1 5 (a2 + (4 : Int32)).toNatClampNeg) s0).bind fun x3 => (if (lg_cmp x3.2 (1 : Int64)) = 0 then some (x3.1, (1 : Int32)) else some (x3.1, (0 : Int32)))))
theorem nd_isSo : yX12_isSo.cls ≠ "java/lang/invoke/MethodHandle" ∧ yX12_isSo.cls ≠ "java/lang/invoke/VarHandle" ∧ (parseMethodDescriptor yX12_isSo.desc).map (fun d => d.parameters.length) = some 2 := by decide +kernel
set_option maxHeartbeats 4000000 in
set_option maxRecDepth 100000 in
theorem cm_isSo (l : Launch) (D : va_G) (h : Nat) (ad : Nat → Nat) (cy : Nat → ClassId) (a1 : Int32) (a2 : Int32) (s0 : MSt) (out : MSt × Int32) (hf : fm_isSo a1 a2 s0 = some out) (sz : Nat) : CMi l D h ad cy yX12_isSo wsX12_isSo { frames := 2, cells := 0, slots := 0, locals := 54 } [.int a1, .int a2] s0 out sz := by
  refine Met.ofW (cc := cX12_isSo) (maxL := 3) (ret := (some .boolean)) (by decide) rfl ?_
  intro p e s m args below meth c s₁ B hml hv
  obtain ⟨rfl, hsz, hP, hK, hD0⟩ := hv
  have hx := B.exec
  have hb := B.bytes
  have hr := B.returns
  have hts := atoms_spec (ws := wsX12_isSo) B.pre
  have hown : s.vm.findClass RX12 = some m.cls := findClass_of_methodNamed B.named
  have hlocks := B.notSynchronized
  subst hsz
  have hI : MI D (MA h ad cy s0 s.heap.size) h ad cy s s.heap s0 s.heap [] := ⟨hK, hP, hD0.self, va_S.rf⟩
  have hA : ∀ q : Nat, s.heap.size ≤ q → MA h ad cy s0 s.heap.size q := fun q hq => Or.inr hq
  have hin : ∀ w ∈ u_ws RX12 TX12 42, w ∈ wsX12_isSo := fun w hw => List.mem_cons_of_mem _ (List.mem_append_right _ hw)
  have k_clause : Cond.fieldLink RX12 20 "HalfBridgeModel" "clause" "[I" ∈ wsX12_isSo := by decide +kernel
  have hl := lv_entry ([.ref h, .int a1, .int a2]) (n := 3) (Nat.le_of_ble_eq_true rfl)
  rw [lg_entry_eq]
  generalize (lg_sl ([.ref h, .int a1, .int a2]) ++ List.replicate (3 - (lg_sl ([.ref h, .int a1, .int a2])).length) Slot.unset).toArray = ls at hl ⊢
  have hl : lv_has ls 3 [(0, .ref h), (1, .int a1), (2, .int a2)] := hl
  obtain ⟨K0, hK0, hf⟩ := top_e hf
  unfold fm_isSo at hf
  refine lv_aload_n hx hb dX12_isSo_0 rfl (lv_at hl 0 rfl) ?_
  refine lv_iload_n hx hb dX12_isSo_1 rfl (lv_at hl 1 rfl) ?_
  refine lv_aload_n hx hb dX12_isSo_2 rfl (lv_at hl 0 rfl) ?_
  refine mg_clause hx hb hts hin hown k_clause hI dX12_isSo_3 ?_
  refine lv_iload_n hx hb dX12_isSo_6 rfl (lv_at hl 2 rfl) ?_
  refine lv_iconst (v := 3) hx hb dX12_isSo_7 (by decide) ?_
  refine lv_iadd hx hb dX12_isSo_8 ?_
  obtain ⟨k1, hf⟩ := chk_b hf
  refine ml_clause hx hb hI k1 dX12_isSo_9 ?_
  refine lv_aload_n hx hb dX12_isSo_10 rfl (lv_at hl 0 rfl) ?_
  refine mg_clause hx hb hts hin hown k_clause hI dX12_isSo_11 ?_
  refine lv_iload_n hx hb dX12_isSo_14 rfl (lv_at hl 2 rfl) ?_
  refine lv_iconst (v := 4) hx hb dX12_isSo_15 (by decide) ?_
  refine lv_iadd hx hb dX12_isSo_16 ?_
  obtain ⟨k2, hf⟩ := chk_b hf
  refine ml_clause hx hb hI k2 dX12_isSo_17 ?_
  obtain ⟨x3, hc4, hf⟩ := bnd_b hf
  refine mcall_l (As := [.int a1, .int (s0.2.1 5 (a2 + (3 : Int32)).toNatClampNeg), .int (s0.2.1 5 (a2 + (4 : Int32)).toNatClampNeg)]) (rest := []) (n := 3) ⟨hx, hb, hml, hown, hts⟩ (cm_reckons l D h ad cy a1 (s0.2.1 5 (a2 + (3 : Int32)).toNatClampNeg) (s0.2.1 5 (a2 + (4 : Int32)).toNatClampNeg) s0 x3 hc4 _) (cwV 3 hts gX12_isSo_X12_reckons rfl rfl rfl ⟨rfl, nd_reckons⟩ ⟨Nat.le_of_ble_eq_true rfl, Nat.le_of_ble_eq_true rfl⟩) hI hA rfl hl.1 (Nat.le_of_ble_eq_true rfl) dX12_isSo_18 ⟨Nat.zero_le _, Nat.zero_le _⟩ (fun H locs hI => ?_)
  refine lv_lconst (v := 1) hx hb dX12_isSo_21 (by decide) ?_
  refine W.lcmp hx hb dX12_isSo_22 ?_
  refine lv_if_ne (tgt := 30) hx hb dX12_isSo_23 (by decide) (fun c5 => ?_) (fun c5 => ?_)
  · replace hf := ifn c5 hf
    refine lv_iconst (v := 0) hx hb dX12_isSo_30 (by decide) ?_
    exact mret_z hx hb hr (by decide) hlocks hI (ret_e hK0 hf) dX12_isSo_31
  · replace hf := ifp c5 hf
    refine lv_iconst (v := 1) hx hb dX12_isSo_26 (by decide) ?_
    refine lv_goto (tgt := 31) hx hb dX12_isSo_27 (by decide) ?_
    exact mret_z hx hb hr (by decide) hlocks hI (ret_e hK0 hf) dX12_isSo_31
