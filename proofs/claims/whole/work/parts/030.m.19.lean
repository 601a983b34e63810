noncomputable def fm_isInTime (s0 : MSt) : Option (MSt × Int32) :=
  (fm_isMet s0).bind fun x1 => (if x1.2 = 0 then some (x1.1, (0 : Int32)) else (fm_missOf (0 : Int32) x1.1).bind fun x4 => chk (inb (3 : Int32) 286) ((if (x4.1.2.1 26 (3 : Int32).toNatClampNeg) < x4.2 then some (x4.1, (0 : Int32)) else (fm_missOf (1 : Int32) x4.1).bind fun x8 => chk (inb (3 : Int32) 286) ((if (x8.1.2.1 26 (3 : Int32).toNatClampNeg) < x8.2 then some (x8.1, (0 : Int32)) else some (x8.1, (1 : Int32)))))))
theorem nd_isInTime : yX12_isInTime.cls ≠ "java/lang/invoke/MethodHandle" ∧ yX12_isInTime.cls ≠ "java/lang/invoke/VarHandle" ∧ (parseMethodDescriptor yX12_isInTime.desc).map (fun d => d.parameters.length) = some 0 := by decide +kernel
set_option maxHeartbeats 4000000 in
set_option maxRecDepth 100000 in
theorem cm_isInTime (l : Launch) (D : va_G) (h : Nat) (ad : Nat → Nat) (cy : Nat → ClassId)  (s0 : MSt) (out : MSt × Int32) (hf : fm_isInTime s0 = some out) (sz : Nat) : CMi l D h ad cy yX12_isInTime wsX12_isInTime { frames := 3, cells := 0, slots := 0, locals := 66 } [] s0 out sz := by
  refine Met.ofW (cc := cX12_isInTime) (maxL := 1) (ret := (some .boolean)) (by decide) rfl ?_
  intro p e s m args below meth c s₁ B hml hv
  obtain ⟨rfl, hsz, hP, hK, hD0⟩ := hv
  have hx := B.exec
  have hb := B.bytes
  have hr := B.returns
  have hts := atoms_spec (ws := wsX12_isInTime) B.pre
  have hown : s.vm.findClass RX12 = some m.cls := findClass_of_methodNamed B.named
  have hlocks := B.notSynchronized
  subst hsz
  have hI : MI D (MA h ad cy s0 s.heap.size) h ad cy s s.heap s0 s.heap [] := ⟨hK, hP, hD0.self, va_S.rf⟩
  have hA : ∀ q : Nat, s.heap.size ≤ q → MA h ad cy s0 s.heap.size q := fun q hq => Or.inr hq
  have hin : ∀ w ∈ u_ws RX12 TX12 42, w ∈ wsX12_isInTime := fun w hw => List.mem_cons_of_mem _ (List.mem_append_right _ hw)
  have k_said : Cond.fieldLink RX12 45 "HalfBridgeModel" "said" "[I" ∈ wsX12_isInTime := by decide +kernel
  have hl := lv_entry ([.ref h]) (n := 1) (Nat.le_of_ble_eq_true rfl)
  rw [lg_entry_eq]
  generalize (lg_sl ([.ref h]) ++ List.replicate (1 - (lg_sl ([.ref h])).length) Slot.unset).toArray = ls at hl ⊢
  have hl : lv_has ls 1 [(0, .ref h)] := hl
  obtain ⟨K0, hK0, hf⟩ := top_e hf
  unfold fm_isInTime at hf
  refine lv_aload_n hx hb dX12_isInTime_0 rfl (lv_at hl 0 rfl) ?_
  obtain ⟨x1, hc2, hf⟩ := bnd_b hf
  refine mcall_i (As := []) (rest := []) (n := 0) ⟨hx, hb, hml, hown, hts⟩ (cm_isMet l D h ad cy  s0 x1 hc2 _) (cwV 0 hts gX12_isInTime_X12_isMet rfl rfl rfl ⟨rfl, nd_isMet⟩ ⟨Nat.le_of_ble_eq_true rfl, Nat.le_of_ble_eq_true rfl⟩) hI hA rfl hl.1 (Nat.le_of_ble_eq_true rfl) dX12_isInTime_1 ⟨Nat.zero_le _, Nat.zero_le _⟩ (fun H locs hI => ?_)
  refine lv_if_eq (tgt := 39) hx hb dX12_isInTime_4 (by decide) (fun c3 => ?_) (fun c3 => ?_)
  · replace hf := ifp c3 hf
    refine lv_iconst (v := 0) hx hb dX12_isInTime_39 (by decide) ?_
    exact mret_z hx hb hr (by decide) hlocks hI (ret_e hK0 hf) dX12_isInTime_40
  · replace hf := ifn c3 hf
    refine lv_aload_n hx hb dX12_isInTime_7 rfl (lv_at hl 0 rfl) ?_
    refine lv_iconst (v := 0) hx hb dX12_isInTime_8 (by decide) ?_
    obtain ⟨x4, hc5, hf⟩ := bnd_b hf
    refine mcall_i (As := [.int (0 : Int32)]) (rest := []) (n := 1) ⟨hx, hb, hml, hown, hts⟩ (cm_missOf l D h ad cy (0 : Int32) x1.1 x4 hc5 _) (cwV 1 hts gX12_isInTime_X12_missOf rfl rfl rfl ⟨rfl, nd_missOf⟩ ⟨Nat.le_of_ble_eq_true rfl, Nat.le_of_ble_eq_true rfl⟩) hI hA rfl hl.1 (Nat.le_of_ble_eq_true rfl) dX12_isInTime_9 ⟨Nat.zero_le _, Nat.zero_le _⟩ (fun H locs hI => ?_)
    refine lv_aload_n hx hb dX12_isInTime_12 rfl (lv_at hl 0 rfl) ?_
    refine mg_said hx hb hts hin hown k_said hI dX12_isInTime_13 ?_
    refine lv_iconst (v := 3) hx hb dX12_isInTime_16 (by decide) ?_
    obtain ⟨k6, hf⟩ := chk_b hf
    refine ml_said hx hb hI k6 dX12_isInTime_17 ?_
    refine lv_icmp_gt (tgt := 39) hx hb dX12_isInTime_18 (by decide) (fun c7 => ?_) (fun c7 => ?_)
    · replace hf := ifp c7 hf
      refine lv_iconst (v := 0) hx hb dX12_isInTime_39 (by decide) ?_
      exact mret_z hx hb hr (by decide) hlocks hI (ret_e hK0 hf) dX12_isInTime_40
    · replace hf := ifn c7 hf
      refine lv_aload_n hx hb dX12_isInTime_21 rfl (lv_at hl 0 rfl) ?_
      refine lv_iconst (v := 1) hx hb dX12_isInTime_22 (by decide) ?_
      obtain ⟨x8, hc9, hf⟩ := bnd_b hf
      refine mcall_i (As := [.int (1 : Int32)]) (rest := []) (n := 1) ⟨hx, hb, hml, hown, hts⟩ (cm_missOf l D h ad cy (1 : Int32) x4.1 x8 hc9 _) (cwV 1 hts gX12_isInTime_X12_missOf rfl rfl rfl ⟨rfl, nd_missOf⟩ ⟨Nat.le_of_ble_eq_true rfl, Nat.le_of_ble_eq_true rfl⟩) hI hA rfl hl.1 (Nat.le_of_ble_eq_true rfl) dX12_isInTime_23 ⟨Nat.zero_le _, Nat.zero_le _⟩ (fun H locs hI => ?_)
      refine lv_aload_n hx hb dX12_isInTime_26 rfl (lv_at hl 0 rfl) ?_
      refine mg_said hx hb hts hin hown k_said hI dX12_isInTime_27 ?_
      refine lv_iconst (v := 3) hx hb dX12_isInTime_30 (by decide) ?_
      obtain ⟨k10, hf⟩ := chk_b hf
      refine ml_said hx hb hI k10 dX12_isInTime_31 ?_
      refine lv_icmp_gt (tgt := 39) hx hb dX12_isInTime_32 (by decide) (fun c11 => ?_) (fun c11 => ?_)
      · replace hf := ifp c11 hf
        refine lv_iconst (v := 0) hx hb dX12_isInTime_39 (by decide) ?_
        exact mret_z hx hb hr (by decide) hlocks hI (ret_e hK0 hf) dX12_isInTime_40
      · replace hf := ifn c11 hf
        refine lv_iconst (v := 1) hx hb dX12_isInTime_35 (by decide) ?_
        refine lv_goto (tgt := 40) hx hb dX12_isInTime_36 (by decide) ?_
        exact mret_z hx hb hr (by decide) hlocks hI (ret_e hK0 hf) dX12_isInTime_40

noncomputable def fm_miss (a1 : Int32) (s0 : MSt) : Option (MSt × Int32) :=
  (fm_isRiver s0).bind fun x1 => (if x1.2 = 0 then some (x1.1, (-1 : Int32)) else (fm_in (a1.toInt64) (0 : Int64) (3 : Int64)).bind fun x4 => (if x4 = 0 then some (x1.1, (-1 : Int32)) else (if (2 : Int32) ≤ a1 then (if a1 = (2 : Int32) then (fm_isMet x1.1).bind fun x12 => (if x12.2 = 0 then some (x12.1, (0 : Int32)) else some (x12.1, (1 : Int32))) else (fm_isInTime x1.1).bind fun x9 => (if x9.2 = 0 then some (x9.1, (0 : Int32)) else some (x9.1, (1 : Int32)))) else (fm_missOf a1 x1.1).bind fun x15 => some (x15.1, x15.2))))
theorem nd_miss : yX12_miss.cls ≠ "java/lang/invoke/MethodHandle" ∧ yX12_miss.cls ≠ "java/lang/invoke/VarHandle" ∧ (parseMethodDescriptor yX12_miss.desc).map (fun d => d.parameters.length) = some 1 := by decide +kernel
set_option maxHeartbeats 4000000 in
set_option maxRecDepth 100000 in
theorem cm_miss (l : Launch) (D : va_G) (h : Nat) (ad : Nat → Nat) (cy : Nat → ClassId) (a1 : Int32) (s0 : MSt) (out : MSt × Int32) (hf : fm_miss a1 s0 = some out) (sz : Nat) : CMi l D h ad cy yX12_miss wsX12_miss { frames := 4, cells := 0, slots := 0, locals := 86 } [.int a1] s0 out sz := by
  refine Met.ofW (cc := cX12_miss) (maxL := 2) (ret := (some .int)) (by decide) rfl ?_
  intro p e s m args below meth c s₁ B hml hv
  obtain ⟨rfl, hsz, hP, hK, hD0⟩ := hv
  have hx := B.exec
  have hb := B.bytes
  have hr := B.returns
  have hts := atoms_spec (ws := wsX12_miss) B.pre
  have hown : s.vm.findClass RX12 = some m.cls := findClass_of_methodNamed B.named
  have hlocks := B.notSynchronized
  subst hsz
  have hI : MI D (MA h ad cy s0 s.heap.size) h ad cy s s.heap s0 s.heap [] := ⟨hK, hP, hD0.self, va_S.rf⟩
  have hA : ∀ q : Nat, s.heap.size ≤ q → MA h ad cy s0 s.heap.size q := fun q hq => Or.inr hq
  have hl := lv_entry ([.ref h, .int a1]) (n := 2) (Nat.le_of_ble_eq_true rfl)
  rw [lg_entry_eq]
  generalize (lg_sl ([.ref h, .int a1]) ++ List.replicate (2 - (lg_sl ([.ref h, .int a1])).length) Slot.unset).toArray = ls at hl ⊢
  have hl : lv_has ls 2 [(0, .ref h), (1, .int a1)] := hl
  obtain ⟨K0, hK0, hf⟩ := top_e hf
  unfold fm_miss at hf
  refine lv_aload_n hx hb dX12_miss_0 rfl (lv_at hl 0 rfl) ?_
  obtain ⟨x1, hc2, hf⟩ := bnd_b hf
  refine mcall_i (As := []) (rest := []) (n := 0) ⟨hx, hb, hml, hown, hts⟩ (cm_isRiver l D h ad cy  s0 x1 hc2 _) (cwV 0 hts gX12_miss_X12_isRiver rfl rfl rfl ⟨rfl, nd_isRiver⟩ ⟨Nat.le_of_ble_eq_true rfl, Nat.le_of_ble_eq_true rfl⟩) hI hA rfl hl.1 (Nat.le_of_ble_eq_true rfl) dX12_miss_1 ⟨Nat.zero_le _, Nat.zero_le _⟩ (fun H locs hI => ?_)
  refine lv_if_eq (tgt := 19) hx hb dX12_miss_4 (by decide) (fun c3 => ?_) (fun c3 => ?_)
  · replace hf := ifp c3 hf
    refine lv_iconst (v := -1) hx hb dX12_miss_19 (by decide) ?_
    exact mret_i hx hb hr hlocks hI (ret_e hK0 hf) dX12_miss_20
  · replace hf := ifn c3 hf
    refine lv_iload_n hx hb dX12_miss_7 rfl (lv_at hl 1 rfl) ?_
    refine lv_i2l (v := (a1.toInt64)) hx hb dX12_miss_8 rfl ?_
    refine lv_lconst (v := 0) hx hb dX12_miss_9 (by decide) ?_
    refine lv_ldc2 (v := 3) hx hb hown (hts (.constantLong RX12 337 (3)) (by decide +kernel)) dX12_miss_10 ?_
    obtain ⟨x4, hc5, hf⟩ := bnd_b hf
    refine mst_i (As := [.long (a1.toInt64), .long (0 : Int64), .long (3 : Int64)]) (rest := []) (n := 3) ⟨hx, hb, hml, hown, hts⟩ (cs_in l (a1.toInt64) (0 : Int64) (3 : Int64) x4 hc5 _) (va_cwS 3 hts gX12_miss_X12_in rfl rfl rfl nd_in ⟨Nat.le_of_ble_eq_true rfl, Nat.le_of_ble_eq_true rfl⟩) hI hA rfl hl.1 (Nat.le_of_ble_eq_true rfl) dX12_miss_13 ⟨Nat.zero_le _, Nat.zero_le _⟩ (fun H locs hI => ?_)
    refine lv_if_ne (tgt := 21) hx hb dX12_miss_16 (by decide) (fun c6 => ?_) (fun c6 => ?_)
    · replace hf := ifn c6 hf
      refine lv_iload_n hx hb dX12_miss_21 rfl (lv_at hl 1 rfl) ?_
      refine lv_iconst (v := 2) hx hb dX12_miss_22 (by decide) ?_
      refine lv_icmp_ge (tgt := 34) hx hb dX12_miss_23 (by decide) (fun c7 => ?_) (fun c7 => ?_)
      · replace hf := ifp c7 hf
        refine lv_iload_n hx hb dX12_miss_34 rfl (lv_at hl 1 rfl) ?_
        refine lv_iconst (v := 2) hx hb dX12_miss_35 (by decide) ?_
        refine lv_icmp_ne (tgt := 54) hx hb dX12_miss_36 (by decide) (fun c8 => ?_) (fun c8 => ?_)
        · replace hf := ifn c8 hf
          refine lv_aload_n hx hb dX12_miss_54 rfl (lv_at hl 0 rfl) ?_
          obtain ⟨x9, hc10, hf⟩ := bnd_b hf
          refine mcall_i (As := []) (rest := []) (n := 0) ⟨hx, hb, hml, hown, hts⟩ (cm_isInTime l D h ad cy  x1.1 x9 hc10 _) (cwV 0 hts gX12_miss_X12_isInTime rfl rfl rfl ⟨rfl, nd_isInTime⟩ ⟨Nat.le_of_ble_eq_true rfl, Nat.le_of_ble_eq_true rfl⟩) hI hA rfl hl.1 (Nat.le_of_ble_eq_true rfl) dX12_miss_55 ⟨Nat.zero_le _, Nat.zero_le _⟩ (fun H locs hI => ?_)
          refine lv_if_eq (tgt := 65) hx hb dX12_miss_58 (by decide) (fun c11 => ?_) (fun c11 => ?_)
          · replace hf := ifp c11 hf
            refine lv_iconst (v := 0) hx hb dX12_miss_65 (by decide) ?_
            exact mret_i hx hb hr hlocks hI (ret_e hK0 hf) dX12_miss_66
          · replace hf := ifn c11 hf
            refine lv_iconst (v := 1) hx hb dX12_miss_61 (by decide) ?_
            refine lv_goto (tgt := 66) hx hb dX12_miss_62 (by decide) ?_
            exact mret_i hx hb hr hlocks hI (ret_e hK0 hf) dX12_miss_66
        · replace hf := ifp c8 hf
          refine lv_aload_n hx hb dX12_miss_39 rfl (lv_at hl 0 rfl) ?_
          obtain ⟨x12, hc13, hf⟩ := bnd_b hf
          refine mcall_i (As := []) (rest := []) (n := 0) ⟨hx, hb, hml, hown, hts⟩ (cm_isMet l D h ad cy  x1.1 x12 hc13 _) (cwV 0 hts gX12_miss_X12_isMet rfl rfl rfl ⟨rfl, nd_isMet⟩ ⟨Nat.le_of_ble_eq_true rfl, Nat.le_of_ble_eq_true rfl⟩) hI hA rfl hl.1 (Nat.le_of_ble_eq_true rfl) dX12_miss_40 ⟨Nat.zero_le _, Nat.zero_le _⟩ (fun H locs hI => ?_)
          refine lv_if_eq (tgt := 50) hx hb dX12_miss_43 (by decide) (fun c14 => ?_) (fun c14 => ?_)
          · replace hf := ifp c14 hf
            refine lv_iconst (v := 0) hx hb dX12_miss_50 (by decide) ?_
            refine lv_goto (tgt := 66) hx hb dX12_miss_51 (by decide) ?_
            exact mret_i hx hb hr hlocks hI (ret_e hK0 hf) dX12_miss_66
          · replace hf := ifn c14 hf
            refine lv_iconst (v := 1) hx hb dX12_miss_46 (by decide) ?_
            refine lv_goto (tgt := 66) hx hb dX12_miss_47 (by decide) ?_
            exact mret_i hx hb hr hlocks hI (ret_e hK0 hf) dX12_miss_66
      · replace hf := ifn c7 hf
        refine lv_aload_n hx hb dX12_miss_26 rfl (lv_at hl 0 rfl) ?_
        refine lv_iload_n hx hb dX12_miss_27 rfl (lv_at hl 1 rfl) ?_
        obtain ⟨x15, hc16, hf⟩ := bnd_b hf
        refine mcall_i (As := [.int a1]) (rest := []) (n := 1) ⟨hx, hb, hml, hown, hts⟩ (cm_missOf l D h ad cy a1 x1.1 x15 hc16 _) (cwV 1 hts gX12_miss_X12_missOf rfl rfl rfl ⟨rfl, nd_missOf⟩ ⟨Nat.le_of_ble_eq_true rfl, Nat.le_of_ble_eq_true rfl⟩) hI hA rfl hl.1 (Nat.le_of_ble_eq_true rfl) dX12_miss_28 ⟨Nat.zero_le _, Nat.zero_le _⟩ (fun H locs hI => ?_)
        refine lv_goto (tgt := 66) hx hb dX12_miss_31 (by decide) ?_
        exact mret_i hx hb hr hlocks hI (ret_e hK0 hf) dX12_miss_66
    · replace hf := ifp c6 hf
      refine lv_iconst (v := -1) hx hb dX12_miss_19 (by decide) ?_
      exact mret_i hx hb hr hlocks hI (ret_e hK0 hf) dX12_miss_20

noncomputable def fm_keeps_j27 (st : MSt) : Option (MSt) :=
  some st
noncomputable def fm_keeps_s2 (v1 : Int32) (st : MSt) : Option ((MSt) ⊕ ((Int32 × MSt) ⊕ (Int32 × MSt))) :=
  (if (286 : Int32) ≤ v1 then some (.inr (.inr (v1, st))) else chk (inb v1 286) (chk (inb v1 286) (some (.inr (.inl ((v1 + 1), msa st 31 v1.toNatClampNeg (st.2.1 26 v1.toNatClampNeg)))))))
noncomputable def fm_keeps (s0 : MSt) : Option (MSt) :=
  (iter (fun x : (Int32 × MSt) => fm_keeps_s2 x.1 x.2) mFuel ((0 : Int32), s0)).bind (Sum.elim (fun o : MSt => (some o : Option (MSt))) (fun x : (Int32 × MSt) => fm_keeps_j27 x.2))
theorem nd_keeps : yX12_keeps.cls ≠ "java/lang/invoke/MethodHandle" ∧ yX12_keeps.cls ≠ "java/lang/invoke/VarHandle" ∧ (parseMethodDescriptor yX12_keeps.desc).map (fun d => d.parameters.length) = some 0 := by decide +kernel
set_option maxHeartbeats 4000000 in
set_option maxRecDepth 100000 in
theorem cm_keeps (l : Launch) (D : va_G) (h : Nat) (ad : Nat → Nat) (cy : Nat → ClassId)  (s0 : MSt) (out : MSt) (hf : fm_keeps s0 = some out) (sz : Nat) : CMv l D h ad cy yX12_keeps wsX12_keeps { frames := 0, cells := 0, slots := 0, locals := 0 } [] s0 out sz := by
  refine Met.ofW (cc := cX12_keeps) (maxL := 2) (ret := none) (by decide) rfl ?_
  intro p e s m args below meth c s₁ B hml hv
  obtain ⟨rfl, hsz, hP, hK, hD0⟩ := hv
  have hx := B.exec
  have hb := B.bytes
  have hr := B.returns
  have hts := atoms_spec (ws := wsX12_keeps) B.pre
  have hown : s.vm.findClass RX12 = some m.cls := findClass_of_methodNamed B.named
  have hlocks := B.notSynchronized
  subst hsz
  have hI : MI D (MA h ad cy s0 s.heap.size) h ad cy s s.heap s0 s.heap [] := ⟨hK, hP, hD0.self, va_S.rf⟩
  have hA : ∀ q : Nat, s.heap.size ≤ q → MA h ad cy s0 s.heap.size q := fun q hq => Or.inr hq
  have hin : ∀ w ∈ u_ws RX12 TX12 42, w ∈ wsX12_keeps := fun w hw => List.mem_cons_of_mem _ (List.mem_append_right _ hw)
  have k_kept : Cond.fieldLink RX12 60 "HalfBridgeModel" "kept" "[I" ∈ wsX12_keeps := by decide +kernel
  have k_said : Cond.fieldLink RX12 45 "HalfBridgeModel" "said" "[I" ∈ wsX12_keeps := by decide +kernel
  have hl := lv_entry ([.ref h]) (n := 2) (Nat.le_of_ble_eq_true rfl)
  rw [lg_entry_eq]
  generalize (lg_sl ([.ref h]) ++ List.replicate (2 - (lg_sl ([.ref h])).length) Slot.unset).toArray = ls at hl ⊢
  have hl : lv_has ls 2 [(0, .ref h)] := hl
  obtain ⟨K0, hK0, hf⟩ := top_e hf
  have B_27 : ∀   (st : MSt) (H : Heap) (locs : List Loc) (ls : Array Slot), MI D (MA h ad cy s0 s.heap.size) h ad cy s s.heap st H locs → lv_has ls 2 [] → (fm_keeps_j27 st).bind K0 = some out → W p l e (headSpec wsX12_keeps { frames := 0, cells := 0, slots := 0, locals := 0 }).room s m (([.ref h] : List Value).toArray) below meth c H locs 0 0 (MQ below (MQv D h ad cy s0 out s.heap.size) ([.ref h] : List Value).toArray s 0 0 (MA h ad cy s0 s.heap.size)) (F0 m 27 ls []) := by
    intro st H locs ls hI hl hf
    unfold fm_keeps_j27 at hf
    exact mret_v hx hb hr hlocks hI (ret_e hK0 hf) dX12_keeps_27
  have L_2 : ∀  (n : Nat) (v1 : Int32) (st : MSt) (H : Heap) (locs : List Loc) (ls : Array Slot), MI D (MA h ad cy s0 s.heap.size) h ad cy s s.heap st H locs → lv_has ls 2 [(0, .ref h), (1, .int v1)] → (iter (fun x : (Int32 × MSt) => fm_keeps_s2 x.1 x.2) n (v1, st)).bind (fun x => ((Sum.elim (fun o : MSt => (some o : Option (MSt))) (fun x : (Int32 × MSt) => fm_keeps_j27 x.2)) x).bind K0) = some out → W p l e (headSpec wsX12_keeps { frames := 0, cells := 0, slots := 0, locals := 0 }).room s m (([.ref h] : List Value).toArray) below meth c H locs 0 0 (MQ below (MQv D h ad cy s0 out s.heap.size) ([.ref h] : List Value).toArray s 0 0 (MA h ad cy s0 s.heap.size)) (F0 m 2 ls []) := by
    intro n
    induction n with
    | zero => intro v1 st H locs ls hI hl hf; exact (iter_0 hf).elim
    | succ n ih =>
      intro v1 st H locs ls hI hl hf
      obtain ⟨K1, hK1, hf⟩ := iter_e hf
      replace hf : (fm_keeps_s2 v1 st).bind K1 = some out := hf
      unfold fm_keeps_s2 at hf
      refine lv_iload_n hx hb dX12_keeps_2 rfl (lv_at hl 1 rfl) ?_
      refine lv_sipush (v := 286) hx hb dX12_keeps_3 (by decide) ?_
      refine lv_icmp_ge (tgt := 27) hx hb dX12_keeps_6 (by decide) (fun c1 => ?_) (fun c1 => ?_)
      · replace hf := ifp c1 hf
        replace hf := exit_b hK1 hf
        exact B_27  st H locs ls hI (lv_sub hl [] rfl) hf
      · replace hf := ifn c1 hf
        refine lv_aload_n hx hb dX12_keeps_9 rfl (lv_at hl 0 rfl) ?_
        refine mg_kept hx hb hts hin hown k_kept hI dX12_keeps_10 ?_
        refine lv_iload_n hx hb dX12_keeps_13 rfl (lv_at hl 1 rfl) ?_
        refine lv_aload_n hx hb dX12_keeps_14 rfl (lv_at hl 0 rfl) ?_
        refine mg_said hx hb hts hin hown k_said hI dX12_keeps_15 ?_
        refine lv_iload_n hx hb dX12_keeps_18 rfl (lv_at hl 1 rfl) ?_
        obtain ⟨k2, hf⟩ := chk_b hf
        refine ml_said hx hb hI k2 dX12_keeps_19 ?_
        obtain ⟨k3, hf⟩ := chk_b hf
        refine ms_kept hx hb hI k3 dX12_keeps_20 (fun H locs hI => ?_)
        refine lv_iinc (v := (v1 + 1)) (lv' := [(1, .int (v1 + 1)), (0, .ref h)]) hx hb dX12_keeps_21 hl (k := 1) rfl (ci_ _ (by decide)) (by decide) rfl (fun ls hl => ?_)
        refine lv_goto (tgt := 2) hx hb dX12_keeps_24 (by decide) ?_
        replace hf := cont_b hK1 hf
        exact ih (v1 + 1) (msa st 31 v1.toNatClampNeg (st.2.1 26 v1.toNatClampNeg)) H locs ls hI (lv_sub hl [1, 0] rfl) hf
  unfold fm_keeps at hf
  refine lv_iconst (v := 0) hx hb dX12_keeps_0 (by decide) ?_
  refine lv_istore_n (lv' := [(1, .int (0 : Int32)), (0, .ref h)]) hx hb dX12_keeps_1 rfl hl (by decide) rfl (fun ls hl => ?_)
  exact L_2  mFuel (0 : Int32) s0 s.heap [] ls hI (lv_sub hl [1, 0] rfl) (asc_b hf)

noncomputable def fm_putsBack_j27 (st : MSt) : Option (MSt) :=
  some st
noncomputable def fm_putsBack_s2 (v1 : Int32) (st : MSt) : Option ((MSt) ⊕ ((Int32 × MSt) ⊕ (Int32 × MSt))) :=
  (if (286 : Int32) ≤ v1 then some (.inr (.inr (v1, st))) else chk (inb v1 286) (chk (inb v1 286) (some (.inr (.inl ((v1 + 1), msa st 26 v1.toNatClampNeg (st.2.1 31 v1.toNatClampNeg)))))))
noncomputable def fm_putsBack (s0 : MSt) : Option (MSt) :=
  (iter (fun x : (Int32 × MSt) => fm_putsBack_s2 x.1 x.2) mFuel ((0 : Int32), s0)).bind (Sum.elim (fun o : MSt => (some o : Option (MSt))) (fun x : (Int32 × MSt) => fm_putsBack_j27 x.2))
theorem nd_putsBack : yX12_putsBack.cls ≠ "java/lang/invoke/MethodHandle" ∧ yX12_putsBack.cls ≠ "java/lang/invoke/VarHandle" ∧ (parseMethodDescriptor yX12_putsBack.desc).map (fun d => d.parameters.length) = some 0 := by decide +kernel
set_option maxHeartbeats 4000000 in
set_option maxRecDepth 100000 in
theorem cm_putsBack (l : Launch) (D : va_G) (h : Nat) (ad : Nat → Nat) (cy : Nat → ClassId)  (s0 : MSt) (out : MSt) (hf : fm_putsBack s0 = some out) (sz : Nat) : CMv l D h ad cy yX12_putsBack wsX12_putsBack { frames := 0, cells := 0, slots := 0, locals := 0 } [] s0 out sz := by
  refine Met.ofW (cc := cX12_putsBack) (maxL := 2) (ret := none) (by decide) rfl ?_
  intro p e s m args below meth c s₁ B hml hv
  obtain ⟨rfl, hsz, hP, hK, hD0⟩ := hv
  have hx := B.exec
  have hb := B.bytes
  have hr := B.returns
  have hts := atoms_spec (ws := wsX12_putsBack) B.pre
  have hown : s.vm.findClass RX12 = some m.cls := findClass_of_methodNamed B.named
  have hlocks := B.notSynchronized
  subst hsz
  have hI : MI D (MA h ad cy s0 s.heap.size) h ad cy s s.heap s0 s.heap [] := ⟨hK, hP, hD0.self, va_S.rf⟩
  have hA : ∀ q : Nat, s.heap.size ≤ q → MA h ad cy s0 s.heap.size q := fun q hq => Or.inr hq
  have hin : ∀ w ∈ u_ws RX12 TX12 42, w ∈ wsX12_putsBack := fun w hw => List.mem_cons_of_mem _ (List.mem_append_right _ hw)
  have k_kept : Cond.fieldLink RX12 60 "HalfBridgeModel" "kept" "[I" ∈ wsX12_putsBack := by decide +kernel
  have k_said : Cond.fieldLink RX12 45 "HalfBridgeModel" "said" "[I" ∈ wsX12_putsBack := by decide +kernel
  have hl := lv_entry ([.ref h]) (n := 2) (Nat.le_of_ble_eq_true rfl)
  rw [lg_entry_eq]
  generalize (lg_sl ([.ref h]) ++ List.replicate (2 - (lg_sl ([.ref h])).length) Slot.unset).toArray = ls at hl ⊢
  have hl : lv_has ls 2 [(0, .ref h)] := hl
  obtain ⟨K0, hK0, hf⟩ := top_e hf
  have B_27 : ∀   (st : MSt) (H : Heap) (locs : List Loc) (ls : Array Slot), MI D (MA h ad cy s0 s.heap.size) h ad cy s s.heap st H locs → lv_has ls 2 [] → (fm_putsBack_j27 st).bind K0 = some out → W p l e (headSpec wsX12_putsBack { frames := 0, cells := 0, slots := 0, locals := 0 }).room s m (([.ref h] : List Value).toArray) below meth c H locs 0 0 (MQ below (MQv D h ad cy s0 out s.heap.size) ([.ref h] : List Value).toArray s 0 0 (MA h ad cy s0 s.heap.size)) (F0 m 27 ls []) := by
    intro st H locs ls hI hl hf
    unfold fm_putsBack_j27 at hf
    exact mret_v hx hb hr hlocks hI (ret_e hK0 hf) dX12_putsBack_27
  have L_2 : ∀  (n : Nat) (v1 : Int32) (st : MSt) (H : Heap) (locs : List Loc) (ls : Array Slot), MI D (MA h ad cy s0 s.heap.size) h ad cy s s.heap st H locs → lv_has ls 2 [(0, .ref h), (1, .int v1)] → (iter (fun x : (Int32 × MSt) => fm_putsBack_s2 x.1 x.2) n (v1, st)).bind (fun x => ((Sum.elim (fun o : MSt => (some o : Option (MSt))) (fun x : (Int32 × MSt) => fm_putsBack_j27 x.2)) x).bind K0) = some out → W p l e (headSpec wsX12_putsBack { frames := 0, cells := 0, slots := 0, locals := 0 }).room s m (([.ref h] : List Value).toArray) below meth c H locs 0 0 (MQ below (MQv D h ad cy s0 out s.heap.size) ([.ref h] : List Value).toArray s 0 0 (MA h ad cy s0 s.heap.size)) (F0 m 2 ls []) := by
    intro n
    induction n with
    | zero => intro v1 st H locs ls hI hl hf; exact (iter_0 hf).elim
    | succ n ih =>
      intro v1 st H locs ls hI hl hf
      obtain ⟨K1, hK1, hf⟩ := iter_e hf
      replace hf : (fm_putsBack_s2 v1 st).bind K1 = some out := hf
      unfold fm_putsBack_s2 at hf
      refine lv_iload_n hx hb dX12_putsBack_2 rfl (lv_at hl 1 rfl) ?_
      refine lv_sipush (v := 286) hx hb dX12_putsBack_3 (by decide) ?_
      refine lv_icmp_ge (tgt := 27) hx hb dX12_putsBack_6 (by decide) (fun c1 => ?_) (fun c1 => ?_)
      · replace hf := ifp c1 hf
        replace hf := exit_b hK1 hf
        exact B_27  st H locs ls hI (lv_sub hl [] rfl) hf
      · replace hf := ifn c1 hf
        refine lv_aload_n hx hb dX12_putsBack_9 rfl (lv_at hl 0 rfl) ?_
        refine mg_said hx hb hts hin hown k_said hI dX12_putsBack_10 ?_
        refine lv_iload_n hx hb dX12_putsBack_13 rfl (lv_at hl 1 rfl) ?_
        refine lv_aload_n hx hb dX12_putsBack_14 rfl (lv_at hl 0 rfl) ?_
        refine mg_kept hx hb hts hin hown k_kept hI dX12_putsBack_15 ?_
        refine lv_iload_n hx hb dX12_putsBack_18 rfl (lv_at hl 1 rfl) ?_
        obtain ⟨k2, hf⟩ := chk_b hf
        refine ml_kept hx hb hI k2 dX12_putsBack_19 ?_
        obtain ⟨k3, hf⟩ := chk_b hf
        refine ms_said hx hb hI k3 dX12_putsBack_20 (fun H locs hI => ?_)
        refine lv_iinc (v := (v1 + 1)) (lv' := [(1, .int (v1 + 1)), (0, .ref h)]) hx hb dX12_putsBack_21 hl (k := 1) rfl (ci_ _ (by decide)) (by decide) rfl (fun ls hl => ?_)
        refine lv_goto (tgt := 2) hx hb dX12_putsBack_24 (by decide) ?_
        replace hf := cont_b hK1 hf
        exact ih (v1 + 1) (msa st 26 v1.toNatClampNeg (st.2.1 31 v1.toNatClampNeg)) H locs ls hI (lv_sub hl [1, 0] rfl) hf
  unfold fm_putsBack at hf
  refine lv_iconst (v := 0) hx hb dX12_putsBack_0 (by decide) ?_
  refine lv_istore_n (lv' := [(1, .int (0 : Int32)), (0, .ref h)]) hx hb dX12_putsBack_1 rfl hl (by decide) rfl (fun ls hl => ?_)
  exact L_2  mFuel (0 : Int32) s0 s.heap [] ls hI (lv_sub hl [1, 0] rfl) (asc_b hf)
