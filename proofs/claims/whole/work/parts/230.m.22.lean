theorem nd_straight : yX12_straight.cls ≠ "java/lang/invoke/MethodHandle" ∧ yX12_straight.cls ≠ "java/lang/invoke/VarHandle" ∧ (parseMethodDescriptor yX12_straight.desc).map (fun d => d.parameters.length) = some 3 := by decide +kernel
set_option maxHeartbeats 4000000 in
set_option maxRecDepth 100000 in
theorem cm_straight (l : Launch) (D : va_G) (h : Nat) (ad : Nat → Nat) (cy : Nat → ClassId) (a1 : Int32) (a2 : Int32) (a3 : Int32) (s0 : MSt) (out : MSt × Int32) (hf : fm_straight a1 a2 a3 s0 = some out) (sz : Nat) : CMi l D h ad cy yX12_straight wsX12_straight { frames := 7, cells := 0, slots := 0, locals := 176 } [.int a1, .int a2, .int a3] s0 out sz := by
  refine Met.ofW (cc := cX12_straight) (maxL := 4) (ret := (some .int)) (by decide) rfl ?_
  intro p e s m args below meth c s₁ B hml hv
  obtain ⟨rfl, hsz, hP, hK, hD0⟩ := hv
  have hx := B.exec
  have hb := B.bytes
  have hr := B.returns
  have hts := atoms_spec (ws := wsX12_straight) B.pre
  have hown : s.vm.findClass RX12 = some m.cls := findClass_of_methodNamed B.named
  have hlocks := B.notSynchronized
  subst hsz
  have hI : MI D (MA h ad cy s0 s.heap.size) h ad cy s s.heap s0 s.heap [] := ⟨hK, hP, hD0.self, va_S.rf⟩
  have hA : ∀ q : Nat, s.heap.size ≤ q → MA h ad cy s0 s.heap.size q := fun q hq => Or.inr hq
  have hin : ∀ w ∈ u_ws RX12 TX12 42, w ∈ wsX12_straight := fun w hw => List.mem_cons_of_mem _ (List.mem_append_right _ hw)
  have k_chosen : Cond.fieldLink RX12 79 "HalfBridgeModel" "chosen" "[I" ∈ wsX12_straight := by decide +kernel
  have k_least : Cond.fieldLink RX12 440 "HalfBridgeModel" "least" "I" ∈ wsX12_straight := by decide +kernel
  have hl := lv_entry ([.ref h, .int a1, .int a2, .int a3]) (n := 4) (Nat.le_of_ble_eq_true rfl)
  rw [lg_entry_eq]
  generalize (lg_sl ([.ref h, .int a1, .int a2, .int a3]) ++ List.replicate (4 - (lg_sl ([.ref h, .int a1, .int a2, .int a3])).length) Slot.unset).toArray = ls at hl ⊢
  have hl : lv_has ls 4 [(0, .ref h), (1, .int a1), (2, .int a2), (3, .int a3)] := hl
  obtain ⟨K0, hK0, hf⟩ := top_e hf
  unfold fm_straight at hf
  refine lv_aload_n hx hb dX12_straight_0 rfl (lv_at hl 0 rfl) ?_
  refine lv_iload_n hx hb dX12_straight_1 rfl (lv_at hl 1 rfl) ?_
  refine lv_iload_n hx hb dX12_straight_2 rfl (lv_at hl 2 rfl) ?_
  obtain ⟨x1, hc2, hf⟩ := bnd_b hf
  refine mcall_i (As := [.int a1, .int a2]) (rest := []) (n := 2) ⟨hx, hb, hml, hown, hts⟩ (cm_canLike l D h ad cy a1 a2 s0 x1 hc2 _) (cwV 2 hts gX12_straight_X12_canLike rfl rfl rfl ⟨rfl, nd_canLike⟩ ⟨Nat.le_of_ble_eq_true rfl, Nat.le_of_ble_eq_true rfl⟩) hI hA rfl hl.1 (Nat.le_of_ble_eq_true rfl) dX12_straight_3 ⟨Nat.zero_le _, Nat.zero_le _⟩ (fun H locs hI => ?_)
  refine lv_if_eq (tgt := 21) hx hb dX12_straight_6 (by decide) (fun c3 => ?_) (fun c3 => ?_)
  · replace hf := ifp c3 hf
    refine lv_ldcw (v := -100000) hx hb hown (hts (.constant RX12 339 (-100000)) (by decide +kernel)) dX12_straight_21 ?_
    exact mret_i hx hb hr hlocks hI (ret_e hK0 hf) dX12_straight_24
  · replace hf := ifn c3 hf
    refine lv_iload_n hx hb dX12_straight_9 rfl (lv_at hl 3 rfl) ?_
    refine lv_i2l (v := (a3.toInt64)) hx hb dX12_straight_10 rfl ?_
    refine lv_lconst (v := 0) hx hb dX12_straight_11 (by decide) ?_
    refine lv_ldc2 (v := 6) hx hb hown (hts (.constantLong RX12 340 (6)) (by decide +kernel)) dX12_straight_12 ?_
    obtain ⟨x4, hc5, hf⟩ := bnd_b hf
    refine mst_i (As := [.long (a3.toInt64), .long (0 : Int64), .long (6 : Int64)]) (rest := []) (n := 3) ⟨hx, hb, hml, hown, hts⟩ (cs_in l (a3.toInt64) (0 : Int64) (6 : Int64) x4 hc5 _) (va_cwS 3 hts gX12_straight_X12_in rfl rfl rfl nd_in ⟨Nat.le_of_ble_eq_true rfl, Nat.le_of_ble_eq_true rfl⟩) hI hA rfl hl.1 (Nat.le_of_ble_eq_true rfl) dX12_straight_15 ⟨Nat.zero_le _, Nat.zero_le _⟩ (fun H locs hI => ?_)
    refine lv_if_ne (tgt := 25) hx hb dX12_straight_18 (by decide) (fun c6 => ?_) (fun c6 => ?_)
    · replace hf := ifn c6 hf
      refine lv_aload_n hx hb dX12_straight_25 rfl (lv_at hl 0 rfl) ?_
      refine lv_iload_n hx hb dX12_straight_26 rfl (lv_at hl 1 rfl) ?_
      refine lv_iload_n hx hb dX12_straight_27 rfl (lv_at hl 2 rfl) ?_
      refine lv_bipush (v := 6) hx hb dX12_straight_28 (by decide) ?_
      refine lv_iconst (v := 0) hx hb dX12_straight_30 (by decide) ?_
      refine lv_iconst (v := 0) hx hb dX12_straight_31 (by decide) ?_
      obtain ⟨x7, hc8, hf⟩ := bnd_b hf
      refine mcall_v (As := [.int a1, .int a2, .int (6 : Int32), .int (0 : Int32), .int (0 : Int32)]) (rest := []) (n := 5) ⟨hx, hb, hml, hown, hts⟩ (cm_goesThrough l D h ad cy a1 a2 (6 : Int32) (0 : Int32) (0 : Int32) x1.1 x7 hc8 _) (cwV 5 hts gX12_straight_X12_goesThrough rfl rfl rfl ⟨rfl, nd_goesThrough⟩ ⟨Nat.le_of_ble_eq_true rfl, Nat.le_of_ble_eq_true rfl⟩) hI hA rfl hl.1 (Nat.le_of_ble_eq_true rfl) dX12_straight_32 ⟨Nat.zero_le _, Nat.zero_le _⟩ (fun H locs hI => ?_)
      refine lv_aload_n hx hb dX12_straight_35 rfl (lv_at hl 0 rfl) ?_
      refine mg_least hx hb hts hin hown k_least hI dX12_straight_36 ?_
      refine lv_if_ge (tgt := 47) hx hb dX12_straight_39 (by decide) (fun c9 => ?_) (fun c9 => ?_)
      · replace hf := ifp c9 hf
        refine lv_iload_n hx hb dX12_straight_47 rfl (lv_at hl 3 rfl) ?_
        refine lv_if_ne (tgt := 58) hx hb dX12_straight_48 (by decide) (fun c10 => ?_) (fun c10 => ?_)
        · replace hf := ifn c10 hf
          refine lv_aload_n hx hb dX12_straight_58 rfl (lv_at hl 0 rfl) ?_
          refine mg_chosen hx hb hts hin hown k_chosen hI dX12_straight_59 ?_
          refine lv_iload_n hx hb dX12_straight_62 rfl (lv_at hl 3 rfl) ?_
          refine lv_iconst (v := 1) hx hb dX12_straight_63 (by decide) ?_
          refine lv_isub hx hb dX12_straight_64 ?_
          obtain ⟨k11, hf⟩ := chk_b hf
          refine ml_chosen hx hb hI k11 dX12_straight_65 ?_
          exact mret_i hx hb hr hlocks hI (ret_e hK0 hf) dX12_straight_66
        · replace hf := ifp c10 hf
          refine lv_aload_n hx hb dX12_straight_51 rfl (lv_at hl 0 rfl) ?_
          refine mg_least hx hb hts hin hown k_least hI dX12_straight_52 ?_
          refine lv_goto (tgt := 66) hx hb dX12_straight_55 (by decide) ?_
          exact mret_i hx hb hr hlocks hI (ret_e hK0 hf) dX12_straight_66
      · replace hf := ifn c9 hf
        refine lv_bipush (v := -2) hx hb dX12_straight_42 (by decide) ?_
        refine lv_goto (tgt := 66) hx hb dX12_straight_44 (by decide) ?_
        exact mret_i hx hb hr hlocks hI (ret_e hK0 hf) dX12_straight_66
    · replace hf := ifp c6 hf
      refine lv_ldcw (v := -100000) hx hb hown (hts (.constant RX12 339 (-100000)) (by decide +kernel)) dX12_straight_21 ?_
      exact mret_i hx hb hr hlocks hI (ret_e hK0 hf) dX12_straight_24

theorem nd_spite : yX12_spite.cls ≠ "java/lang/invoke/MethodHandle" ∧ yX12_spite.cls ≠ "java/lang/invoke/VarHandle" ∧ (parseMethodDescriptor yX12_spite.desc).map (fun d => d.parameters.length) = some 4 := by decide +kernel
set_option maxHeartbeats 4000000 in
set_option maxRecDepth 100000 in
theorem cm_spite (l : Launch) (D : va_G) (h : Nat) (ad : Nat → Nat) (cy : Nat → ClassId) (a1 : Int32) (a2 : Int32) (a3 : Int32) (a4 : Int32) (s0 : MSt) (out : MSt × Int32) (hf : fm_spite a1 a2 a3 a4 s0 = some out) (sz : Nat) : CMi l D h ad cy yX12_spite wsX12_spite { frames := 7, cells := 0, slots := 0, locals := 176 } [.int a1, .int a2, .int a3, .int a4] s0 out sz := by
  refine Met.ofW (cc := cX12_spite) (maxL := 5) (ret := (some .int)) (by decide) rfl ?_
  intro p e s m args below meth c s₁ B hml hv
  obtain ⟨rfl, hsz, hP, hK, hD0⟩ := hv
  have hx := B.exec
  have hb := B.bytes
  have hr := B.returns
  have hts := atoms_spec (ws := wsX12_spite) B.pre
  have hown : s.vm.findClass RX12 = some m.cls := findClass_of_methodNamed B.named
  have hlocks := B.notSynchronized
  subst hsz
  have hI : MI D (MA h ad cy s0 s.heap.size) h ad cy s s.heap s0 s.heap [] := ⟨hK, hP, hD0.self, va_S.rf⟩
  have hA : ∀ q : Nat, s.heap.size ≤ q → MA h ad cy s0 s.heap.size q := fun q hq => Or.inr hq
  have hin : ∀ w ∈ u_ws RX12 TX12 42, w ∈ wsX12_spite := fun w hw => List.mem_cons_of_mem _ (List.mem_append_right _ hw)
  have k_chosen : Cond.fieldLink RX12 79 "HalfBridgeModel" "chosen" "[I" ∈ wsX12_spite := by decide +kernel
  have k_least : Cond.fieldLink RX12 440 "HalfBridgeModel" "least" "I" ∈ wsX12_spite := by decide +kernel
  have hl := lv_entry ([.ref h, .int a1, .int a2, .int a3, .int a4]) (n := 5) (Nat.le_of_ble_eq_true rfl)
  rw [lg_entry_eq]
  generalize (lg_sl ([.ref h, .int a1, .int a2, .int a3, .int a4]) ++ List.replicate (5 - (lg_sl ([.ref h, .int a1, .int a2, .int a3, .int a4])).length) Slot.unset).toArray = ls at hl ⊢
  have hl : lv_has ls 5 [(0, .ref h), (1, .int a1), (2, .int a2), (3, .int a3), (4, .int a4)] := hl
  obtain ⟨K0, hK0, hf⟩ := top_e hf
  unfold fm_spite at hf
  refine lv_aload_n hx hb dX12_spite_0 rfl (lv_at hl 0 rfl) ?_
  refine lv_iload_n hx hb dX12_spite_1 rfl (lv_at hl 1 rfl) ?_
  refine lv_iload_n hx hb dX12_spite_2 rfl (lv_at hl 2 rfl) ?_
  obtain ⟨x1, hc2, hf⟩ := bnd_b hf
  refine mcall_i (As := [.int a1, .int a2]) (rest := []) (n := 2) ⟨hx, hb, hml, hown, hts⟩ (cm_canLike l D h ad cy a1 a2 s0 x1 hc2 _) (cwV 2 hts gX12_spite_X12_canLike rfl rfl rfl ⟨rfl, nd_canLike⟩ ⟨Nat.le_of_ble_eq_true rfl, Nat.le_of_ble_eq_true rfl⟩) hI hA rfl hl.1 (Nat.le_of_ble_eq_true rfl) dX12_spite_3 ⟨Nat.zero_le _, Nat.zero_le _⟩ (fun H locs hI => ?_)
  refine lv_if_eq (tgt := 34) hx hb dX12_spite_6 (by decide) (fun c3 => ?_) (fun c3 => ?_)
  · replace hf := ifp c3 hf
    refine lv_ldcw (v := -100000) hx hb hown (hts (.constant RX12 339 (-100000)) (by decide +kernel)) dX12_spite_34 ?_
    exact mret_i hx hb hr hlocks hI (ret_e hK0 hf) dX12_spite_37
  · replace hf := ifn c3 hf
    refine lv_iload_n hx hb dX12_spite_9 rfl (lv_at hl 3 rfl) ?_
    refine lv_i2l (v := (a3.toInt64)) hx hb dX12_spite_10 rfl ?_
    refine lv_lconst (v := 0) hx hb dX12_spite_11 (by decide) ?_
    refine lv_ldc2 (v := 8) hx hb hown (hts (.constantLong RX12 466 (8)) (by decide +kernel)) dX12_spite_12 ?_
    obtain ⟨x4, hc5, hf⟩ := bnd_b hf
    refine mst_i (As := [.long (a3.toInt64), .long (0 : Int64), .long (8 : Int64)]) (rest := []) (n := 3) ⟨hx, hb, hml, hown, hts⟩ (cs_in l (a3.toInt64) (0 : Int64) (8 : Int64) x4 hc5 _) (va_cwS 3 hts gX12_spite_X12_in rfl rfl rfl nd_in ⟨Nat.le_of_ble_eq_true rfl, Nat.le_of_ble_eq_true rfl⟩) hI hA rfl hl.1 (Nat.le_of_ble_eq_true rfl) dX12_spite_15 ⟨Nat.zero_le _, Nat.zero_le _⟩ (fun H locs hI => ?_)
    refine lv_if_eq (tgt := 34) hx hb dX12_spite_18 (by decide) (fun c6 => ?_) (fun c6 => ?_)
    · replace hf := ifp c6 hf
      refine lv_ldcw (v := -100000) hx hb hown (hts (.constant RX12 339 (-100000)) (by decide +kernel)) dX12_spite_34 ?_
      exact mret_i hx hb hr hlocks hI (ret_e hK0 hf) dX12_spite_37
    · replace hf := ifn c6 hf
      refine lv_iload hx hb dX12_spite_21 (lv_at hl 4 rfl) ?_
      refine lv_i2l (v := (a4.toInt64)) hx hb dX12_spite_23 rfl ?_
      refine lv_lconst (v := 0) hx hb dX12_spite_24 (by decide) ?_
      refine lv_ldc2 (v := 4) hx hb hown (hts (.constantLong RX12 468 (4)) (by decide +kernel)) dX12_spite_25 ?_
      obtain ⟨x7, hc8, hf⟩ := bnd_b hf
      refine mst_i (As := [.long (a4.toInt64), .long (0 : Int64), .long (4 : Int64)]) (rest := []) (n := 3) ⟨hx, hb, hml, hown, hts⟩ (cs_in l (a4.toInt64) (0 : Int64) (4 : Int64) x7 hc8 _) (va_cwS 3 hts gX12_spite_X12_in rfl rfl rfl nd_in ⟨Nat.le_of_ble_eq_true rfl, Nat.le_of_ble_eq_true rfl⟩) hI hA rfl hl.1 (Nat.le_of_ble_eq_true rfl) dX12_spite_28 ⟨Nat.zero_le _, Nat.zero_le _⟩ (fun H locs hI => ?_)
      refine lv_if_ne (tgt := 38) hx hb dX12_spite_31 (by decide) (fun c9 => ?_) (fun c9 => ?_)
      · replace hf := ifn c9 hf
        refine lv_aload_n hx hb dX12_spite_38 rfl (lv_at hl 0 rfl) ?_
        refine lv_iload_n hx hb dX12_spite_39 rfl (lv_at hl 1 rfl) ?_
        refine lv_iload_n hx hb dX12_spite_40 rfl (lv_at hl 2 rfl) ?_
        refine lv_iconst (v := 4) hx hb dX12_spite_41 (by decide) ?_
        refine lv_iconst (v := 1) hx hb dX12_spite_42 (by decide) ?_
        refine lv_iload_n hx hb dX12_spite_43 rfl (lv_at hl 3 rfl) ?_
        obtain ⟨x10, hc11, hf⟩ := bnd_b hf
        refine mcall_v (As := [.int a1, .int a2, .int (4 : Int32), .int (1 : Int32), .int a3]) (rest := []) (n := 5) ⟨hx, hb, hml, hown, hts⟩ (cm_goesThrough l D h ad cy a1 a2 (4 : Int32) (1 : Int32) a3 x1.1 x10 hc11 _) (cwV 5 hts gX12_spite_X12_goesThrough rfl rfl rfl ⟨rfl, nd_goesThrough⟩ ⟨Nat.le_of_ble_eq_true rfl, Nat.le_of_ble_eq_true rfl⟩) hI hA rfl hl.1 (Nat.le_of_ble_eq_true rfl) dX12_spite_44 ⟨Nat.zero_le _, Nat.zero_le _⟩ (fun H locs hI => ?_)
        refine lv_iload hx hb dX12_spite_47 (lv_at hl 4 rfl) ?_
        refine lv_if_ne (tgt := 59) hx hb dX12_spite_49 (by decide) (fun c12 => ?_) (fun c12 => ?_)
        · replace hf := ifn c12 hf
          refine lv_aload_n hx hb dX12_spite_59 rfl (lv_at hl 0 rfl) ?_
          refine mg_chosen hx hb hts hin hown k_chosen hI dX12_spite_60 ?_
          refine lv_iload hx hb dX12_spite_63 (lv_at hl 4 rfl) ?_
          refine lv_iconst (v := 1) hx hb dX12_spite_65 (by decide) ?_
          refine lv_isub hx hb dX12_spite_66 ?_
          obtain ⟨k13, hf⟩ := chk_b hf
          refine ml_chosen hx hb hI k13 dX12_spite_67 ?_
          exact mret_i hx hb hr hlocks hI (ret_e hK0 hf) dX12_spite_68
        · replace hf := ifp c12 hf
          refine lv_aload_n hx hb dX12_spite_52 rfl (lv_at hl 0 rfl) ?_
          refine mg_least hx hb hts hin hown k_least hI dX12_spite_53 ?_
          refine lv_goto (tgt := 68) hx hb dX12_spite_56 (by decide) ?_
          exact mret_i hx hb hr hlocks hI (ret_e hK0 hf) dX12_spite_68
      · replace hf := ifp c9 hf
        refine lv_ldcw (v := -100000) hx hb hown (hts (.constant RX12 339 (-100000)) (by decide +kernel)) dX12_spite_34 ?_
        exact mret_i hx hb hr hlocks hI (ret_e hK0 hf) dX12_spite_37

theorem nd_canMeet : yX12_canMeet.cls ≠ "java/lang/invoke/MethodHandle" ∧ yX12_canMeet.cls ≠ "java/lang/invoke/VarHandle" ∧ (parseMethodDescriptor yX12_canMeet.desc).map (fun d => d.parameters.length) = some 2 := by decide +kernel
set_option maxHeartbeats 4000000 in
set_option maxRecDepth 100000 in
theorem cm_canMeet (l : Launch) (D : va_G) (h : Nat) (ad : Nat → Nat) (cy : Nat → ClassId) (a1 : Int32) (a2 : Int32) (s0 : MSt) (out : MSt × Int32) (hf : fm_canMeet a1 a2 s0 = some out) (sz : Nat) : CMi l D h ad cy yX12_canMeet wsX12_canMeet { frames := 1, cells := 0, slots := 0, locals := 23 } [.int a1, .int a2] s0 out sz := by
  refine Met.ofW (cc := cX12_canMeet) (maxL := 5) (ret := (some .boolean)) (by decide) rfl ?_
  intro p e s m args below meth c s₁ B hml hv
  obtain ⟨rfl, hsz, hP, hK, hD0⟩ := hv
  have hx := B.exec
  have hb := B.bytes
  have hr := B.returns
  have hts := atoms_spec (ws := wsX12_canMeet) B.pre
  have hown : s.vm.findClass RX12 = some m.cls := findClass_of_methodNamed B.named
  have hlocks := B.notSynchronized
  subst hsz
  have hI : MI D (MA h ad cy s0 s.heap.size) h ad cy s s.heap s0 s.heap [] := ⟨hK, hP, hD0.self, va_S.rf⟩
  have hA : ∀ q : Nat, s.heap.size ≤ q → MA h ad cy s0 s.heap.size q := fun q hq => Or.inr hq
  have hin : ∀ w ∈ u_ws RX12 TX12 42, w ∈ wsX12_canMeet := fun w hw => List.mem_cons_of_mem _ (List.mem_append_right _ hw)
  have k_said : Cond.fieldLink RX12 45 "HalfBridgeModel" "said" "[I" ∈ wsX12_canMeet := by decide +kernel
  have hl := lv_entry ([.ref h, .int a1, .int a2]) (n := 5) (Nat.le_of_ble_eq_true rfl)
  rw [lg_entry_eq]
  generalize (lg_sl ([.ref h, .int a1, .int a2]) ++ List.replicate (5 - (lg_sl ([.ref h, .int a1, .int a2])).length) Slot.unset).toArray = ls at hl ⊢
  have hl : lv_has ls 5 [(0, .ref h), (1, .int a1), (2, .int a2)] := hl
  obtain ⟨K0, hK0, hf⟩ := top_e hf
  have B_79 : ∀   (st : MSt) (H : Heap) (locs : List Loc) (ls : Array Slot), MI D (MA h ad cy s0 s.heap.size) h ad cy s s.heap st H locs → lv_has ls 5 [] → (fm_canMeet_j79 st).bind K0 = some out → W p l e (headSpec wsX12_canMeet { frames := 1, cells := 0, slots := 0, locals := 23 }).room s m (([.ref h, .int a1, .int a2] : List Value).toArray) below meth c H locs 0 0 (MQ below (MQi D h ad cy s0 out s.heap.size) ([.ref h, .int a1, .int a2] : List Value).toArray s 0 0 (MA h ad cy s0 s.heap.size)) (F0 m 79 ls []) := by
    intro st H locs ls hI hl hf
    unfold fm_canMeet_j79 at hf
    refine lv_iconst (v := 1) hx hb dX12_canMeet_79 (by decide) ?_
    exact mret_z hx hb hr (by decide) hlocks hI (ret_e hK0 hf) dX12_canMeet_80
  have L_21 : ∀ (v1 : Int32) (v2 : Int32) (v3 : Int32) (n : Nat) (v4 : Int32) (st : MSt) (H : Heap) (locs : List Loc) (ls : Array Slot), MI D (MA h ad cy s0 s.heap.size) h ad cy s s.heap st H locs → lv_has ls 5 [(0, .ref h), (1, .int v1), (2, .int v2), (3, .int v3), (4, .int v4)] → (iter (fun x : (Int32 × MSt) => fm_canMeet_s21 v1 v2 v3 x.1 x.2) n (v4, st)).bind (fun x => ((Sum.elim (fun o : MSt × Int32 => (some o : Option (MSt × Int32))) (fun x : (Int32 × MSt) => fm_canMeet_j79 x.2)) x).bind K0) = some out → W p l e (headSpec wsX12_canMeet { frames := 1, cells := 0, slots := 0, locals := 23 }).room s m (([.ref h, .int a1, .int a2] : List Value).toArray) below meth c H locs 0 0 (MQ below (MQi D h ad cy s0 out s.heap.size) ([.ref h, .int a1, .int a2] : List Value).toArray s 0 0 (MA h ad cy s0 s.heap.size)) (F0 m 21 ls []) := by
    intro v1 v2 v3 n
    induction n with
    | zero => intro v4 st H locs ls hI hl hf; exact (iter_0 hf).elim
    | succ n ih =>
      intro v4 st H locs ls hI hl hf
      obtain ⟨K1, hK1, hf⟩ := iter_e hf
      replace hf : (fm_canMeet_s21 v1 v2 v3 v4 st).bind K1 = some out := hf
      unfold fm_canMeet_s21 at hf
      refine lv_iload hx hb dX12_canMeet_21 (lv_at hl 4 rfl) ?_
      refine lv_iconst (v := 2) hx hb dX12_canMeet_23 (by decide) ?_
      refine lv_icmp_ge (tgt := 79) hx hb dX12_canMeet_24 (by decide) (fun c4 => ?_) (fun c4 => ?_)
      · replace hf := ifp c4 hf
        replace hf := exit_b hK1 hf
        exact B_79  st H locs ls hI (lv_sub hl [] rfl) hf
      · replace hf := ifn c4 hf
        refine lv_aload_n hx hb dX12_canMeet_27 rfl (lv_at hl 0 rfl) ?_
        refine lv_iconst (v := 0) hx hb dX12_canMeet_28 (by decide) ?_
        refine lv_aload_n hx hb dX12_canMeet_29 rfl (lv_at hl 0 rfl) ?_
        refine mg_said hx hb hts hin hown k_said hI dX12_canMeet_30 ?_
        refine lv_bipush (v := 6) hx hb dX12_canMeet_33 (by decide) ?_
        obtain ⟨k5, hf⟩ := chk_b hf
        refine ml_said hx hb hI k5 dX12_canMeet_35 ?_
        refine lv_iconst (v := 1) hx hb dX12_canMeet_36 (by decide) ?_
        refine lv_isub hx hb dX12_canMeet_37 ?_
        refine lv_iload_n hx hb dX12_canMeet_38 rfl (lv_at hl 1 rfl) ?_
        refine lv_isub hx hb dX12_canMeet_39 ?_
        refine lv_iload hx hb dX12_canMeet_40 (lv_at hl 4 rfl) ?_
        obtain ⟨x6, hc7, hf⟩ := bnd_b hf
        refine mcall_i (As := [.int (0 : Int32), .int (((st.2.1 26 (6 : Int32).toNatClampNeg) - (1 : Int32)) - v1), .int v4]) (rest := []) (n := 3) ⟨hx, hb, hml, hown, hts⟩ (cm_yardOf l D h ad cy (0 : Int32) (((st.2.1 26 (6 : Int32).toNatClampNeg) - (1 : Int32)) - v1) v4 st x6 hc7 _) (cwV 3 hts gX12_canMeet_X12_yardOf rfl rfl rfl ⟨rfl, nd_yardOf⟩ ⟨Nat.le_of_ble_eq_true rfl, Nat.le_of_ble_eq_true rfl⟩) hI hA rfl hl.1 (Nat.le_of_ble_eq_true rfl) dX12_canMeet_42 ⟨Nat.zero_le _, Nat.zero_le _⟩ (fun H locs hI => ?_)
        refine lv_aload_n hx hb dX12_canMeet_45 rfl (lv_at hl 0 rfl) ?_
        refine lv_iconst (v := 1) hx hb dX12_canMeet_46 (by decide) ?_
        refine lv_aload_n hx hb dX12_canMeet_47 rfl (lv_at hl 0 rfl) ?_
        refine mg_said hx hb hts hin hown k_said hI dX12_canMeet_48 ?_
        refine lv_bipush (v := 7) hx hb dX12_canMeet_51 (by decide) ?_
        obtain ⟨k8, hf⟩ := chk_b hf
        refine ml_said hx hb hI k8 dX12_canMeet_53 ?_
        refine lv_iconst (v := 1) hx hb dX12_canMeet_54 (by decide) ?_
        refine lv_isub hx hb dX12_canMeet_55 ?_
        refine lv_iload_n hx hb dX12_canMeet_56 rfl (lv_at hl 2 rfl) ?_
        refine lv_isub hx hb dX12_canMeet_57 ?_
        refine lv_iload hx hb dX12_canMeet_58 (lv_at hl 4 rfl) ?_
        obtain ⟨x9, hc10, hf⟩ := bnd_b hf
        refine mcall_i (As := [.int (1 : Int32), .int (((x6.1.2.1 26 (7 : Int32).toNatClampNeg) - (1 : Int32)) - v2), .int v4]) (rest := [.int x6.2]) (n := 3) ⟨hx, hb, hml, hown, hts⟩ (cm_yardOf l D h ad cy (1 : Int32) (((x6.1.2.1 26 (7 : Int32).toNatClampNeg) - (1 : Int32)) - v2) v4 x6.1 x9 hc10 _) (cwV 3 hts gX12_canMeet_X12_yardOf rfl rfl rfl ⟨rfl, nd_yardOf⟩ ⟨Nat.le_of_ble_eq_true rfl, Nat.le_of_ble_eq_true rfl⟩) hI hA rfl hl.1 (Nat.le_of_ble_eq_true rfl) dX12_canMeet_60 ⟨Nat.zero_le _, Nat.zero_le _⟩ (fun H locs hI => ?_)
        refine lv_isub hx hb dX12_canMeet_63 ?_
        obtain ⟨x11, hc12, hf⟩ := bnd_b hf
        refine mst_i (As := [.int (x6.2 - x9.2)]) (rest := []) (n := 1) ⟨hx, hb, hml, hown, hts⟩ (cs_plain l (x6.2 - x9.2) x11 hc12 _) (va_cwS 1 hts gX12_canMeet_X12_plain rfl rfl rfl nd_plain ⟨Nat.le_of_ble_eq_true rfl, Nat.le_of_ble_eq_true rfl⟩) hI hA rfl hl.1 (Nat.le_of_ble_eq_true rfl) dX12_canMeet_64 ⟨Nat.zero_le _, Nat.zero_le _⟩ (fun H locs hI => ?_)
        refine lv_iload_n hx hb dX12_canMeet_67 rfl (lv_at hl 3 rfl) ?_
        refine lv_icmp_le (tgt := 73) hx hb dX12_canMeet_68 (by decide) (fun c13 => ?_) (fun c13 => ?_)
        · replace hf := ifp c13 hf
          refine lv_iinc (v := (v4 + 1)) (lv' := [(4, .int (v4 + 1)), (0, .ref h), (1, .int v1), (2, .int v2), (3, .int v3)]) hx hb dX12_canMeet_73 hl (k := 4) rfl (ci_ _ (by decide)) (by decide) rfl (fun ls hl => ?_)
          refine lv_goto (tgt := 21) hx hb dX12_canMeet_76 (by decide) ?_
          replace hf := cont_b hK1 hf
          exact ih (v4 + 1) x9.1 H locs ls hI (lv_sub hl [1, 2, 3, 4, 0] rfl) hf
        · replace hf := ifn c13 hf
          refine lv_iconst (v := 0) hx hb dX12_canMeet_71 (by decide) ?_
          replace hf := inl_b hK1 hf
          replace hf : Option.bind (some (x9.1, (0 : Int32))) K0 = some out := hf
          exact mret_z hx hb hr (by decide) hlocks hI (ret_e hK0 hf) dX12_canMeet_72
  unfold fm_canMeet at hf
  refine lv_aload_n hx hb dX12_canMeet_0 rfl (lv_at hl 0 rfl) ?_
  refine mg_said hx hb hts hin hown k_said hI dX12_canMeet_1 ?_
  refine lv_iconst (v := 2) hx hb dX12_canMeet_4 (by decide) ?_
  obtain ⟨k1, hf⟩ := chk_b hf
  refine ml_said hx hb hI k1 dX12_canMeet_5 ?_
  refine lv_aload_n hx hb dX12_canMeet_6 rfl (lv_at hl 0 rfl) ?_
  obtain ⟨x2, hc3, hf⟩ := bnd_b hf
  refine mcall_i (As := []) (rest := [.int (s0.2.1 26 (2 : Int32).toNatClampNeg)]) (n := 0) ⟨hx, hb, hml, hown, hts⟩ (cm_gap l D h ad cy  s0 x2 hc3 _) (cwV 0 hts gX12_canMeet_X12_gap rfl rfl rfl ⟨rfl, nd_gap⟩ ⟨Nat.le_of_ble_eq_true rfl, Nat.le_of_ble_eq_true rfl⟩) hI hA rfl hl.1 (Nat.le_of_ble_eq_true rfl) dX12_canMeet_7 ⟨Nat.zero_le _, Nat.zero_le _⟩ (fun H locs hI => ?_)
  refine lv_iload_n hx hb dX12_canMeet_10 rfl (lv_at hl 1 rfl) ?_
  refine lv_iadd hx hb dX12_canMeet_11 ?_
  refine lv_iload_n hx hb dX12_canMeet_12 rfl (lv_at hl 2 rfl) ?_
  refine lv_iadd hx hb dX12_canMeet_13 ?_
  refine lv_iconst (v := 1) hx hb dX12_canMeet_14 (by decide) ?_
  refine lv_iadd hx hb dX12_canMeet_15 ?_
  refine lv_imul hx hb dX12_canMeet_16 ?_
  refine lv_istore_n (lv' := [(3, .int ((s0.2.1 26 (2 : Int32).toNatClampNeg) * (((x2.2 + a1) + a2) + (1 : Int32)))), (0, .ref h), (1, .int a1), (2, .int a2)]) hx hb dX12_canMeet_17 rfl hl (by decide) rfl (fun ls hl => ?_)
  refine lv_iconst (v := 0) hx hb dX12_canMeet_18 (by decide) ?_
  refine lv_istore (lv' := [(4, .int (0 : Int32)), (3, .int ((s0.2.1 26 (2 : Int32).toNatClampNeg) * (((x2.2 + a1) + a2) + (1 : Int32)))), (0, .ref h), (1, .int a1), (2, .int a2)]) hx hb dX12_canMeet_19 hl (by decide) rfl (fun ls hl => ?_)
  exact L_21 a1 a2 ((s0.2.1 26 (2 : Int32).toNatClampNeg) * (((x2.2 + a1) + a2) + (1 : Int32))) mFuel (0 : Int32) x2.1 H locs ls hI (lv_sub hl [2, 3, 4, 1, 0] rfl) (asc_b hf)

theorem nd_mend : yX12_mend.cls ≠ "java/lang/invoke/MethodHandle" ∧ yX12_mend.cls ≠ "java/lang/invoke/VarHandle" ∧ (parseMethodDescriptor yX12_mend.desc).map (fun d => d.parameters.length) = some 1 := by decide +kernel
set_option maxHeartbeats 4000000 in
set_option maxRecDepth 100000 in
theorem cm_mend (l : Launch) (D : va_G) (h : Nat) (ad : Nat → Nat) (cy : Nat → ClassId) (a1 : Int32) (s0 : MSt) (out : MSt × Int32) (hf : fm_mend a1 s0 = some out) (sz : Nat) : CMi l D h ad cy yX12_mend wsX12_mend { frames := 2, cells := 0, slots := 0, locals := 47 } [.int a1] s0 out sz := by
  refine Met.ofW (cc := cX12_mend) (maxL := 5) (ret := (some .int)) (by decide) rfl ?_
  intro p e s m args below meth c s₁ B hml hv
  obtain ⟨rfl, hsz, hP, hK, hD0⟩ := hv
  have hx := B.exec
  have hb := B.bytes
  have hr := B.returns
  have hts := atoms_spec (ws := wsX12_mend) B.pre
  have hown : s.vm.findClass RX12 = some m.cls := findClass_of_methodNamed B.named
  have hlocks := B.notSynchronized
  subst hsz
  have hI : MI D (MA h ad cy s0 s.heap.size) h ad cy s s.heap s0 s.heap [] := ⟨hK, hP, hD0.self, va_S.rf⟩
  have hA : ∀ q : Nat, s.heap.size ≤ q → MA h ad cy s0 s.heap.size q := fun q hq => Or.inr hq
  have hin : ∀ w ∈ u_ws RX12 TX12 42, w ∈ wsX12_mend := fun w hw => List.mem_cons_of_mem _ (List.mem_append_right _ hw)
  have k_said : Cond.fieldLink RX12 45 "HalfBridgeModel" "said" "[I" ∈ wsX12_mend := by decide +kernel
  have hl := lv_entry ([.ref h, .int a1]) (n := 5) (Nat.le_of_ble_eq_true rfl)
  rw [lg_entry_eq]
  generalize (lg_sl ([.ref h, .int a1]) ++ List.replicate (5 - (lg_sl ([.ref h, .int a1])).length) Slot.unset).toArray = ls at hl ⊢
  have hl : lv_has ls 5 [(0, .ref h), (1, .int a1)] := hl
  obtain ⟨K0, hK0, hf⟩ := top_e hf
  have B_108 : ∀   (st : MSt) (H : Heap) (locs : List Loc) (ls : Array Slot), MI D (MA h ad cy s0 s.heap.size) h ad cy s s.heap st H locs → lv_has ls 5 [] → (fm_mend_j108 st).bind K0 = some out → W p l e (headSpec wsX12_mend { frames := 2, cells := 0, slots := 0, locals := 47 }).room s m (([.ref h, .int a1] : List Value).toArray) below meth c H locs 0 0 (MQ below (MQi D h ad cy s0 out s.heap.size) ([.ref h, .int a1] : List Value).toArray s 0 0 (MA h ad cy s0 s.heap.size)) (F0 m 108 ls []) := by
    intro st H locs ls hI hl hf
    unfold fm_mend_j108 at hf
    refine lv_bipush (v := -2) hx hb dX12_mend_108 (by decide) ?_
    exact mret_i hx hb hr hlocks hI (ret_e hK0 hf) dX12_mend_110
  have L_21 : ∀ (v1 : Int32) (n : Nat) (v2 : Int32) (st : MSt) (H : Heap) (locs : List Loc) (ls : Array Slot), MI D (MA h ad cy s0 s.heap.size) h ad cy s s.heap st H locs → lv_has ls 5 [(0, .ref h), (1, .int v1), (2, .int v2)] → (iter (fun x : (Int32 × MSt) => fm_mend_s21 v1 x.1 x.2) n (v2, st)).bind (fun x => ((Sum.elim (fun o : MSt × Int32 => (some o : Option (MSt × Int32))) (fun x : (Int32 × MSt) => fm_mend_j108 x.2)) x).bind K0) = some out → W p l e (headSpec wsX12_mend { frames := 2, cells := 0, slots := 0, locals := 47 }).room s m (([.ref h, .int a1] : List Value).toArray) below meth c H locs 0 0 (MQ below (MQi D h ad cy s0 out s.heap.size) ([.ref h, .int a1] : List Value).toArray s 0 0 (MA h ad cy s0 s.heap.size)) (F0 m 21 ls []) := by
    intro v1 n
    induction n with
    | zero => intro v2 st H locs ls hI hl hf; exact (iter_0 hf).elim
    | succ n ih =>
      intro v2 st H locs ls hI hl hf
      obtain ⟨K1, hK1, hf⟩ := iter_e hf
      replace hf : (fm_mend_s21 v1 v2 st).bind K1 = some out := hf
      have B_21_102 : ∀ (v2 : Int32)  (st : MSt) (H : Heap) (locs : List Loc) (ls : Array Slot), MI D (MA h ad cy s0 s.heap.size) h ad cy s s.heap st H locs → lv_has ls 5 [(0, .ref h), (1, .int v1), (2, .int v2)] → (fm_mend_j102 v1 v2 st).bind K1 = some out → W p l e (headSpec wsX12_mend { frames := 2, cells := 0, slots := 0, locals := 47 }).room s m (([.ref h, .int a1] : List Value).toArray) below meth c H locs 0 0 (MQ below (MQi D h ad cy s0 out s.heap.size) ([.ref h, .int a1] : List Value).toArray s 0 0 (MA h ad cy s0 s.heap.size)) (F0 m 102 ls []) := by
        intro v2 st H locs ls hI hl hf
        unfold fm_mend_j102 at hf
        refine lv_iinc (v := (v2 + 1)) (lv' := [(2, .int (v2 + 1)), (0, .ref h), (1, .int v1)]) hx hb dX12_mend_102 hl (k := 2) rfl (ci_ _ (by decide)) (by decide) rfl (fun ls hl => ?_)
        refine lv_goto (tgt := 21) hx hb dX12_mend_105 (by decide) ?_
        replace hf := cont_b hK1 hf
        exact ih (v2 + 1) st H locs ls hI (lv_sub hl [1, 2, 0] rfl) hf
      have L_21_42 : ∀ (v2 : Int32) (n : Nat) (v3 : Int32) (st : MSt) (H : Heap) (locs : List Loc) (ls : Array Slot), MI D (MA h ad cy s0 s.heap.size) h ad cy s s.heap st H locs → lv_has ls 5 [(0, .ref h), (1, .int v1), (2, .int v2), (3, .int v3)] → (iter (fun x : (Int32 × MSt) => fm_mend_s42 v1 v2 x.1 x.2) n (v3, st)).bind (fun x => ((Sum.elim (fun o : MSt × Int32 => (some (.inl o) : Option ((MSt × Int32) ⊕ ((Int32 × MSt) ⊕ (Int32 × MSt))))) (fun x : (Int32 × MSt) => fm_mend_j102 v1 v2 x.2)) x).bind K1) = some out → W p l e (headSpec wsX12_mend { frames := 2, cells := 0, slots := 0, locals := 47 }).room s m (([.ref h, .int a1] : List Value).toArray) below meth c H locs 0 0 (MQ below (MQi D h ad cy s0 out s.heap.size) ([.ref h, .int a1] : List Value).toArray s 0 0 (MA h ad cy s0 s.heap.size)) (F0 m 42 ls []) := by
        intro v2 n
        induction n with
        | zero => intro v3 st H locs ls hI hl hf; exact (iter_0 hf).elim
        | succ n ih =>
          intro v3 st H locs ls hI hl hf
          obtain ⟨K2, hK2, hf⟩ := iter_e hf
          replace hf : (fm_mend_s42 v1 v2 v3 st).bind K2 = some out := hf
          unfold fm_mend_s42 at hf
          refine lv_iload_n hx hb dX12_mend_42 rfl (lv_at hl 3 rfl) ?_
          refine lv_iload_n hx hb dX12_mend_43 rfl (lv_at hl 2 rfl) ?_
          refine lv_icmp_gt (tgt := 102) hx hb dX12_mend_44 (by decide) (fun c10 => ?_) (fun c10 => ?_)
          · replace hf := ifp c10 hf
            replace hf := exit_b hK2 hf
            exact B_21_102 v2 st H locs ls hI (lv_sub hl [0, 1, 2] rfl) hf
          · replace hf := ifn c10 hf
            refine lv_iload_n hx hb dX12_mend_47 rfl (lv_at hl 2 rfl) ?_
            refine lv_iload_n hx hb dX12_mend_48 rfl (lv_at hl 3 rfl) ?_
            refine lv_isub hx hb dX12_mend_49 ?_
            refine lv_istore (lv' := [(4, .int (v2 - v3)), (0, .ref h), (1, .int v1), (2, .int v2), (3, .int v3)]) hx hb dX12_mend_50 hl (by decide) rfl (fun ls hl => ?_)
            refine lv_iload_n hx hb dX12_mend_52 rfl (lv_at hl 4 rfl) ?_
            refine lv_aload_n hx hb dX12_mend_53 rfl (lv_at hl 1 rfl) ?_
            refine mg_said hx hb hts hin hown k_said hI dX12_mend_54 ?_
            refine lv_bipush (v := 6) hx hb dX12_mend_57 (by decide) ?_
            obtain ⟨k11, hf⟩ := chk_b hf
            refine ml_said hx hb hI k11 dX12_mend_59 ?_
            refine lv_icmp_gt (tgt := 96) hx hb dX12_mend_60 (by decide) (fun c12 => ?_) (fun c12 => ?_)
            · replace hf := ifp c12 hf
              refine lv_iinc (v := (v3 + 1)) (lv' := [(3, .int (v3 + 1)), (4, .int (v2 - v3)), (0, .ref h), (1, .int v1), (2, .int v2)]) hx hb dX12_mend_96 hl (k := 4) rfl (ci_ _ (by decide)) (by decide) rfl (fun ls hl => ?_)
              refine lv_goto (tgt := 42) hx hb dX12_mend_99 (by decide) ?_
              replace hf := cont_b hK2 hf
              exact ih (v3 + 1) st H locs ls hI (lv_sub hl [2, 3, 4, 0] rfl) hf
            · replace hf := ifn c12 hf
              refine lv_iload hx hb dX12_mend_63 (lv_at hl 0 rfl) ?_
              refine lv_aload_n hx hb dX12_mend_65 rfl (lv_at hl 1 rfl) ?_
              refine mg_said hx hb hts hin hown k_said hI dX12_mend_66 ?_
              refine lv_bipush (v := 7) hx hb dX12_mend_69 (by decide) ?_
              obtain ⟨k13, hf⟩ := chk_b hf
              refine ml_said hx hb hI k13 dX12_mend_71 ?_
              refine lv_icmp_gt (tgt := 96) hx hb dX12_mend_72 (by decide) (fun c14 => ?_) (fun c14 => ?_)
              · replace hf := ifp c14 hf
                refine lv_iinc (v := (v3 + 1)) (lv' := [(3, .int (v3 + 1)), (4, .int (v2 - v3)), (0, .ref h), (1, .int v1), (2, .int v2)]) hx hb dX12_mend_96 hl (k := 4) rfl (ci_ _ (by decide)) (by decide) rfl (fun ls hl => ?_)
                refine lv_goto (tgt := 42) hx hb dX12_mend_99 (by decide) ?_
                replace hf := cont_b hK2 hf
                exact ih (v3 + 1) st H locs ls hI (lv_sub hl [2, 3, 4, 0] rfl) hf
              · replace hf := ifn c14 hf
                refine lv_aload_n hx hb dX12_mend_75 rfl (lv_at hl 1 rfl) ?_
                refine lv_iload_n hx hb dX12_mend_76 rfl (lv_at hl 4 rfl) ?_
                refine lv_iload hx hb dX12_mend_77 (lv_at hl 0 rfl) ?_
                obtain ⟨x15, hc16, hf⟩ := bnd_b hf
                refine mcall_i (As := [.int v3, .int (v2 - v3)]) (rest := []) (n := 2) ⟨hx, hb, hml, hown, hts⟩ (cm_canMeet l D h ad cy v3 (v2 - v3) st x15 hc16 _) (cwV 2 hts gX12_mend_X12_canMeet rfl rfl rfl ⟨rfl, nd_canMeet⟩ ⟨Nat.le_of_ble_eq_true rfl, Nat.le_of_ble_eq_true rfl⟩) hI hA rfl hl.1 (Nat.le_of_ble_eq_true rfl) dX12_mend_79 ⟨Nat.zero_le _, Nat.zero_le _⟩ (fun H locs hI => ?_)
                refine lv_if_eq (tgt := 96) hx hb dX12_mend_82 (by decide) (fun c17 => ?_) (fun c17 => ?_)
                · replace hf := ifp c17 hf
                  refine lv_iinc (v := (v3 + 1)) (lv' := [(3, .int (v3 + 1)), (4, .int (v2 - v3)), (0, .ref h), (1, .int v1), (2, .int v2)]) hx hb dX12_mend_96 hl (k := 4) rfl (ci_ _ (by decide)) (by decide) rfl (fun ls hl => ?_)
                  refine lv_goto (tgt := 42) hx hb dX12_mend_99 (by decide) ?_
                  replace hf := cont_b hK2 hf
                  exact ih (v3 + 1) x15.1 H locs ls hI (lv_sub hl [2, 3, 4, 0] rfl) hf
                · replace hf := ifn c17 hf
                  refine lv_iload_n hx hb dX12_mend_85 rfl (lv_at hl 2 rfl) ?_
                  refine lv_if_ne (tgt := 93) hx hb dX12_mend_86 (by decide) (fun c18 => ?_) (fun c18 => ?_)
                  · replace hf := ifn c18 hf
                    refine lv_iload hx hb dX12_mend_93 (lv_at hl 0 rfl) ?_
                    replace hf := inl_b hK2 hf
                    replace hf : Option.bind (some (Sum.inl (x15.1, (v2 - v3)))) K1 = some out := hf
                    replace hf := inl_b hK1 hf
                    replace hf : Option.bind (some (x15.1, (v2 - v3))) K0 = some out := hf
                    exact mret_i hx hb hr hlocks hI (ret_e hK0 hf) dX12_mend_95
                  · replace hf := ifp c18 hf
                    refine lv_iload_n hx hb dX12_mend_89 rfl (lv_at hl 4 rfl) ?_
                    refine lv_goto (tgt := 95) hx hb dX12_mend_90 (by decide) ?_
                    replace hf := inl_b hK2 hf
                    replace hf : Option.bind (some (Sum.inl (x15.1, v3))) K1 = some out := hf
                    replace hf := inl_b hK1 hf
                    replace hf : Option.bind (some (x15.1, v3)) K0 = some out := hf
                    exact mret_i hx hb hr hlocks hI (ret_e hK0 hf) dX12_mend_95
      unfold fm_mend_s21 at hf
      refine lv_iload_n hx hb dX12_mend_21 rfl (lv_at hl 2 rfl) ?_
      refine lv_aload_n hx hb dX12_mend_22 rfl (lv_at hl 0 rfl) ?_
      refine mg_said hx hb hts hin hown k_said hI dX12_mend_23 ?_
      refine lv_bipush (v := 6) hx hb dX12_mend_26 (by decide) ?_
      obtain ⟨k7, hf⟩ := chk_b hf
      refine ml_said hx hb hI k7 dX12_mend_28 ?_
      refine lv_aload_n hx hb dX12_mend_29 rfl (lv_at hl 0 rfl) ?_
      refine mg_said hx hb hts hin hown k_said hI dX12_mend_30 ?_
      refine lv_bipush (v := 7) hx hb dX12_mend_33 (by decide) ?_
      obtain ⟨k8, hf⟩ := chk_b hf
      refine ml_said hx hb hI k8 dX12_mend_35 ?_
      refine lv_iadd hx hb dX12_mend_36 ?_
      refine lv_icmp_gt (tgt := 108) hx hb dX12_mend_37 (by decide) (fun c9 => ?_) (fun c9 => ?_)
      · replace hf := ifp c9 hf
        replace hf := exit_b hK1 hf
        exact B_108  st H locs ls hI (lv_sub hl [] rfl) hf
      · replace hf := ifn c9 hf
        refine lv_iconst (v := 0) hx hb dX12_mend_40 (by decide) ?_
        refine lv_istore_n (lv' := [(3, .int (0 : Int32)), (0, .ref h), (1, .int v1), (2, .int v2)]) hx hb dX12_mend_41 rfl hl (by decide) rfl (fun ls hl => ?_)
        exact L_21_42 v2 mFuel (0 : Int32) st H locs ls hI (lv_sub hl [1, 2, 3, 0] rfl) (asc_b hf)
  unfold fm_mend at hf
  refine lv_aload_n hx hb dX12_mend_0 rfl (lv_at hl 0 rfl) ?_
  obtain ⟨x1, hc2, hf⟩ := bnd_b hf
  refine mcall_i (As := []) (rest := []) (n := 0) ⟨hx, hb, hml, hown, hts⟩ (cm_isRiver l D h ad cy  s0 x1 hc2 _) (cwV 0 hts gX12_mend_X12_isRiver rfl rfl rfl ⟨rfl, nd_isRiver⟩ ⟨Nat.le_of_ble_eq_true rfl, Nat.le_of_ble_eq_true rfl⟩) hI hA rfl hl.1 (Nat.le_of_ble_eq_true rfl) dX12_mend_1 ⟨Nat.zero_le _, Nat.zero_le _⟩ (fun H locs hI => ?_)
  refine lv_if_eq (tgt := 17) hx hb dX12_mend_4 (by decide) (fun c3 => ?_) (fun c3 => ?_)
  · replace hf := ifp c3 hf
    refine lv_iconst (v := -1) hx hb dX12_mend_17 (by decide) ?_
    exact mret_i hx hb hr hlocks hI (ret_e hK0 hf) dX12_mend_18
  · replace hf := ifn c3 hf
    refine lv_iload_n hx hb dX12_mend_7 rfl (lv_at hl 1 rfl) ?_
    refine lv_i2l (v := (a1.toInt64)) hx hb dX12_mend_8 rfl ?_
    refine lv_lconst (v := 0) hx hb dX12_mend_9 (by decide) ?_
    refine lv_lconst (v := 1) hx hb dX12_mend_10 (by decide) ?_
    obtain ⟨x4, hc5, hf⟩ := bnd_b hf
    refine mst_i (As := [.long (a1.toInt64), .long (0 : Int64), .long (1 : Int64)]) (rest := []) (n := 3) ⟨hx, hb, hml, hown, hts⟩ (cs_in l (a1.toInt64) (0 : Int64) (1 : Int64) x4 hc5 _) (va_cwS 3 hts gX12_mend_X12_in rfl rfl rfl nd_in ⟨Nat.le_of_ble_eq_true rfl, Nat.le_of_ble_eq_true rfl⟩) hI hA rfl hl.1 (Nat.le_of_ble_eq_true rfl) dX12_mend_11 ⟨Nat.zero_le _, Nat.zero_le _⟩ (fun H locs hI => ?_)
    refine lv_if_ne (tgt := 19) hx hb dX12_mend_14 (by decide) (fun c6 => ?_) (fun c6 => ?_)
    · replace hf := ifn c6 hf
      refine lv_iconst (v := 0) hx hb dX12_mend_19 (by decide) ?_
      refine lv_istore_n (lv' := [(2, .int (0 : Int32)), (0, .ref h), (1, .int a1)]) hx hb dX12_mend_20 rfl hl (by decide) rfl (fun ls hl => ?_)
      exact L_21 a1 mFuel (0 : Int32) x1.1 H locs ls hI (lv_sub hl [1, 2, 0] rfl) (asc_b hf)
    · replace hf := ifp c6 hf
      refine lv_iconst (v := -1) hx hb dX12_mend_17 (by decide) ?_
      exact mret_i hx hb hr hlocks hI (ret_e hK0 hf) dX12_mend_18
