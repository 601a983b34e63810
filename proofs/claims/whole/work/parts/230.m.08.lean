theorem nd_doingSort : yX12_doingSort.cls ≠ "java/lang/invoke/MethodHandle" ∧ yX12_doingSort.cls ≠ "java/lang/invoke/VarHandle" ∧ (parseMethodDescriptor yX12_doingSort.desc).map (fun d => d.parameters.length) = some 0 := by decide +kernel
set_option maxHeartbeats 4000000 in
set_option maxRecDepth 100000 in
theorem cm_doingSort (l : Launch) (D : va_G) (h : Nat) (ad : Nat → Nat) (cy : Nat → ClassId)  (s0 : MSt) (out : MSt × Int32) (hf : fm_doingSort s0 = some out) (sz : Nat) : CMi l D h ad cy yX12_doingSort wsX12_doingSort { frames := 2, cells := 0, slots := 0, locals := 46 } [] s0 out sz := by
  refine Met.ofW (cc := cX12_doingSort) (maxL := 1) (ret := (some .int)) (by decide) rfl ?_
  intro p e s m args below meth c s₁ B hml hv
  obtain ⟨rfl, hsz, hP, hK, hD0⟩ := hv
  have hx := B.exec
  have hb := B.bytes
  have hr := B.returns
  have hts := atoms_spec (ws := wsX12_doingSort) B.pre
  have hown : s.vm.findClass RX12 = some m.cls := findClass_of_methodNamed B.named
  have hlocks := B.notSynchronized
  subst hsz
  have hI : MI D (MA h ad cy s0 s.heap.size) h ad cy s s.heap s0 s.heap [] := ⟨hK, hP, hD0.self, va_S.rf⟩
  have hA : ∀ q : Nat, s.heap.size ≤ q → MA h ad cy s0 s.heap.size q := fun q hq => Or.inr hq
  have hl := lv_entry ([.ref h]) (n := 1) (Nat.le_of_ble_eq_true rfl)
  rw [lg_entry_eq]
  generalize (lg_sl ([.ref h]) ++ List.replicate (1 - (lg_sl ([.ref h])).length) Slot.unset).toArray = ls at hl ⊢
  have hl : lv_has ls 1 [(0, .ref h)] := hl
  obtain ⟨K0, hK0, hf⟩ := top_e hf
  unfold fm_doingSort at hf
  refine lv_aload_n hx hb dX12_doingSort_0 rfl (lv_at hl 0 rfl) ?_
  refine lv_ldc2 (v := 1953854062) hx hb hown (hts (.constantLong RX12 267 (1953854062)) (by decide +kernel)) dX12_doingSort_1 ?_
  obtain ⟨x1, hc2, hf⟩ := bnd_b hf
  refine mcall_i (As := [.long (1953854062 : Int64)]) (rest := []) (n := 1) ⟨hx, hb, hml, hown, hts⟩ (cm_isWord l D h ad cy (1953854062 : Int64) s0 x1 hc2 _) (cwV 1 hts gX12_doingSort_X12_isWord rfl rfl rfl ⟨rfl, nd_isWord⟩ ⟨Nat.le_of_ble_eq_true rfl, Nat.le_of_ble_eq_true rfl⟩) hI hA rfl hl.1 (Nat.le_of_ble_eq_true rfl) dX12_doingSort_4 ⟨Nat.zero_le _, Nat.zero_le _⟩ (fun H locs hI => ?_)
  refine lv_if_eq (tgt := 14) hx hb dX12_doingSort_7 (by decide) (fun c3 => ?_) (fun c3 => ?_)
  · replace hf := ifp c3 hf
    refine lv_aload_n hx hb dX12_doingSort_14 rfl (lv_at hl 0 rfl) ?_
    refine lv_ldc2 (v := 1919513445) hx hb hown (hts (.constantLong RX12 269 (1919513445)) (by decide +kernel)) dX12_doingSort_15 ?_
    obtain ⟨x4, hc5, hf⟩ := bnd_b hf
    refine mcall_i (As := [.long (1919513445 : Int64)]) (rest := []) (n := 1) ⟨hx, hb, hml, hown, hts⟩ (cm_isWord l D h ad cy (1919513445 : Int64) x1.1 x4 hc5 _) (cwV 1 hts gX12_doingSort_X12_isWord rfl rfl rfl ⟨rfl, nd_isWord⟩ ⟨Nat.le_of_ble_eq_true rfl, Nat.le_of_ble_eq_true rfl⟩) hI hA rfl hl.1 (Nat.le_of_ble_eq_true rfl) dX12_doingSort_18 ⟨Nat.zero_le _, Nat.zero_le _⟩ (fun H locs hI => ?_)
    refine lv_if_eq (tgt := 28) hx hb dX12_doingSort_21 (by decide) (fun c6 => ?_) (fun c6 => ?_)
    · replace hf := ifp c6 hf
      refine lv_aload_n hx hb dX12_doingSort_28 rfl (lv_at hl 0 rfl) ?_
      refine lv_ldc2 (v := 2002872692) hx hb hown (hts (.constantLong RX12 271 (2002872692)) (by decide +kernel)) dX12_doingSort_29 ?_
      obtain ⟨x7, hc8, hf⟩ := bnd_b hf
      refine mcall_i (As := [.long (2002872692 : Int64)]) (rest := []) (n := 1) ⟨hx, hb, hml, hown, hts⟩ (cm_isWord l D h ad cy (2002872692 : Int64) x4.1 x7 hc8 _) (cwV 1 hts gX12_doingSort_X12_isWord rfl rfl rfl ⟨rfl, nd_isWord⟩ ⟨Nat.le_of_ble_eq_true rfl, Nat.le_of_ble_eq_true rfl⟩) hI hA rfl hl.1 (Nat.le_of_ble_eq_true rfl) dX12_doingSort_32 ⟨Nat.zero_le _, Nat.zero_le _⟩ (fun H locs hI => ?_)
      refine lv_if_eq (tgt := 42) hx hb dX12_doingSort_35 (by decide) (fun c9 => ?_) (fun c9 => ?_)
      · replace hf := ifp c9 hf
        refine lv_aload_n hx hb dX12_doingSort_42 rfl (lv_at hl 0 rfl) ?_
        refine lv_ldc2 (v := 1886743660) hx hb hown (hts (.constantLong RX12 273 (1886743660)) (by decide +kernel)) dX12_doingSort_43 ?_
        obtain ⟨x10, hc11, hf⟩ := bnd_b hf
        refine mcall_i (As := [.long (1886743660 : Int64)]) (rest := []) (n := 1) ⟨hx, hb, hml, hown, hts⟩ (cm_isWord l D h ad cy (1886743660 : Int64) x7.1 x10 hc11 _) (cwV 1 hts gX12_doingSort_X12_isWord rfl rfl rfl ⟨rfl, nd_isWord⟩ ⟨Nat.le_of_ble_eq_true rfl, Nat.le_of_ble_eq_true rfl⟩) hI hA rfl hl.1 (Nat.le_of_ble_eq_true rfl) dX12_doingSort_46 ⟨Nat.zero_le _, Nat.zero_le _⟩ (fun H locs hI => ?_)
        refine lv_if_eq (tgt := 56) hx hb dX12_doingSort_49 (by decide) (fun c12 => ?_) (fun c12 => ?_)
        · replace hf := ifp c12 hf
          refine lv_iconst (v := -1) hx hb dX12_doingSort_56 (by decide) ?_
          exact mret_i hx hb hr hlocks hI (ret_e hK0 hf) dX12_doingSort_57
        · replace hf := ifn c12 hf
          refine lv_iconst (v := 3) hx hb dX12_doingSort_52 (by decide) ?_
          refine lv_goto (tgt := 57) hx hb dX12_doingSort_53 (by decide) ?_
          exact mret_i hx hb hr hlocks hI (ret_e hK0 hf) dX12_doingSort_57
      · replace hf := ifn c9 hf
        refine lv_iconst (v := 2) hx hb dX12_doingSort_38 (by decide) ?_
        refine lv_goto (tgt := 57) hx hb dX12_doingSort_39 (by decide) ?_
        exact mret_i hx hb hr hlocks hI (ret_e hK0 hf) dX12_doingSort_57
    · replace hf := ifn c6 hf
      refine lv_iconst (v := 1) hx hb dX12_doingSort_24 (by decide) ?_
      refine lv_goto (tgt := 57) hx hb dX12_doingSort_25 (by decide) ?_
      exact mret_i hx hb hr hlocks hI (ret_e hK0 hf) dX12_doingSort_57
  · replace hf := ifn c3 hf
    refine lv_iconst (v := 0) hx hb dX12_doingSort_10 (by decide) ?_
    refine lv_goto (tgt := 57) hx hb dX12_doingSort_11 (by decide) ?_
    exact mret_i hx hb hr hlocks hI (ret_e hK0 hf) dX12_doingSort_57

theorem nd_clauseHere : yX12_clauseHere.cls ≠ "java/lang/invoke/MethodHandle" ∧ yX12_clauseHere.cls ≠ "java/lang/invoke/VarHandle" ∧ (parseMethodDescriptor yX12_clauseHere.desc).map (fun d => d.parameters.length) = some 0 := by decide +kernel
set_option maxHeartbeats 4000000 in
set_option maxRecDepth 100000 in
theorem cm_clauseHere (l : Launch) (D : va_G) (h : Nat) (ad : Nat → Nat) (cy : Nat → ClassId)  (s0 : MSt) (out : MSt × Int32) (hf : fm_clauseHere s0 = some out) (sz : Nat) : CMi l D h ad cy yX12_clauseHere wsX12_clauseHere { frames := 10, cells := 0, slots := 0, locals := 220 } [] s0 out sz := by
  refine Met.ofW (cc := cX12_clauseHere) (maxL := 3) (ret := (some .boolean)) (by decide) rfl ?_
  intro p e s m args below meth c s₁ B hml hv
  obtain ⟨rfl, hsz, hP, hK, hD0⟩ := hv
  have hx := B.exec
  have hb := B.bytes
  have hr := B.returns
  have hts := atoms_spec (ws := wsX12_clauseHere) B.pre
  have hown : s.vm.findClass RX12 = some m.cls := findClass_of_methodNamed B.named
  have hlocks := B.notSynchronized
  subst hsz
  have hI : MI D (MA h ad cy s0 s.heap.size) h ad cy s s.heap s0 s.heap [] := ⟨hK, hP, hD0.self, va_S.rf⟩
  have hA : ∀ q : Nat, s.heap.size ≤ q → MA h ad cy s0 s.heap.size q := fun q hq => Or.inr hq
  have hin : ∀ w ∈ u_ws RX12 TX12 42, w ∈ wsX12_clauseHere := fun w hw => List.mem_cons_of_mem _ (List.mem_append_right _ hw)
  have k_lines : Cond.fieldLink RX12 281 "HalfBridgeModel" "lines" "I" ∈ wsX12_clauseHere := by decide +kernel
  have k_next : Cond.fieldLink RX12 103 "HalfBridgeModel" "next" "I" ∈ wsX12_clauseHere := by decide +kernel
  have k_text : Cond.fieldLink RX12 153 "HalfBridgeModel" "text" "I" ∈ wsX12_clauseHere := by decide +kernel
  have hl := lv_entry ([.ref h]) (n := 3) (Nat.le_of_ble_eq_true rfl)
  rw [lg_entry_eq]
  generalize (lg_sl ([.ref h]) ++ List.replicate (3 - (lg_sl ([.ref h])).length) Slot.unset).toArray = ls at hl ⊢
  have hl : lv_has ls 3 [(0, .ref h)] := hl
  obtain ⟨K0, hK0, hf⟩ := top_e hf
  have B_68_2 : ∀ (v1 : Int32) (v2 : Int32) (t0 : Int32) (t1 : Int32) (st : MSt) (H : Heap) (locs : List Loc) (ls : Array Slot), MI D (MA h ad cy s0 s.heap.size) h ad cy s s.heap st H locs → lv_has ls 3 [(0, .ref h), (1, .int v1), (2, .int v2)] → (fm_clauseHere_j68 v1 v2 t0 t1 st).bind K0 = some out → W p l e (headSpec wsX12_clauseHere { frames := 10, cells := 0, slots := 0, locals := 220 }).room s m (([.ref h] : List Value).toArray) below meth c H locs 0 0 (MQ below (MQi D h ad cy s0 out s.heap.size) ([.ref h] : List Value).toArray s 0 0 (MA h ad cy s0 s.heap.size)) (F0 m 68 ls [.int t0, .int t1]) := by
    intro v1 v2 t0 t1 st H locs ls hI hl hf
    unfold fm_clauseHere_j68 at hf
    refine lv_icmp_ne (tgt := 78) hx hb dX12_clauseHere_68 (by decide) (fun c9 => ?_) (fun c9 => ?_)
    · replace hf := ifn c9 hf
      refine lv_aload_n hx hb dX12_clauseHere_78 rfl (lv_at hl 0 rfl) ?_
      refine lv_dup hx hb dX12_clauseHere_79 rfl ?_
      refine mg_lines hx hb hts hin hown k_lines hI dX12_clauseHere_80 ?_
      refine lv_iconst (v := 1) hx hb dX12_clauseHere_83 (by decide) ?_
      refine lv_iadd hx hb dX12_clauseHere_84 ?_
      refine mp_lines hx hb hts hin hown k_lines hI dX12_clauseHere_85 (fun H locs hI => ?_)
      refine lv_iload_n hx hb dX12_clauseHere_88 rfl (lv_at hl 2 rfl) ?_
      refine lv_if_eq (tgt := 100) hx hb dX12_clauseHere_89 (by decide) (fun c10 => ?_) (fun c10 => ?_)
      · replace hf := ifp c10 hf
        refine lv_aload_n hx hb dX12_clauseHere_100 rfl (lv_at hl 0 rfl) ?_
        refine lv_aload_n hx hb dX12_clauseHere_101 rfl (lv_at hl 0 rfl) ?_
        obtain ⟨x11, hc12, hf⟩ := bnd_b hf
        refine mcall_i (As := []) (rest := [.ref h]) (n := 0) ⟨hx, hb, hml, hown, hts⟩ (cm_doingSort l D h ad cy  (msi st 20 ((st.1 20) + (1 : Int32))) x11 hc12 _) (cwV 0 hts gX12_clauseHere_X12_doingSort rfl rfl rfl ⟨rfl, nd_doingSort⟩ ⟨Nat.le_of_ble_eq_true rfl, Nat.le_of_ble_eq_true rfl⟩) hI hA rfl hl.1 (Nat.le_of_ble_eq_true rfl) dX12_clauseHere_102 ⟨Nat.zero_le _, Nat.zero_le _⟩ (fun H locs hI => ?_)
        obtain ⟨x13, hc14, hf⟩ := bnd_b hf
        refine mcall_i (As := [.int x11.2]) (rest := []) (n := 1) ⟨hx, hb, hml, hown, hts⟩ (cm_isDoingHere l D h ad cy x11.2 x11.1 x13 hc14 _) (cwV 1 hts gX12_clauseHere_X12_isDoingHere rfl rfl rfl ⟨rfl, nd_isDoingHere⟩ ⟨Nat.le_of_ble_eq_true rfl, Nat.le_of_ble_eq_true rfl⟩) hI hA rfl hl.1 (Nat.le_of_ble_eq_true rfl) dX12_clauseHere_105 ⟨Nat.zero_le _, Nat.zero_le _⟩ (fun H locs hI => ?_)
        obtain ⟨k15, hf⟩ := chk_b hf
        exact mret_z hx hb hr (isb_nar k15) hlocks hI (ret_e hK0 hf) dX12_clauseHere_108
      · replace hf := ifn c10 hf
        refine lv_aload_n hx hb dX12_clauseHere_92 rfl (lv_at hl 0 rfl) ?_
        refine lv_iload_n hx hb dX12_clauseHere_93 rfl (lv_at hl 1 rfl) ?_
        obtain ⟨x16, hc17, hf⟩ := bnd_b hf
        refine mcall_i (As := [.int v1]) (rest := []) (n := 1) ⟨hx, hb, hml, hown, hts⟩ (cm_riverLineHere l D h ad cy v1 (msi st 20 ((st.1 20) + (1 : Int32))) x16 hc17 _) (cwV 1 hts gX12_clauseHere_X12_riverLineHere rfl rfl rfl ⟨rfl, nd_riverLineHere⟩ ⟨Nat.le_of_ble_eq_true rfl, Nat.le_of_ble_eq_true rfl⟩) hI hA rfl hl.1 (Nat.le_of_ble_eq_true rfl) dX12_clauseHere_94 ⟨Nat.zero_le _, Nat.zero_le _⟩ (fun H locs hI => ?_)
        refine lv_goto (tgt := 108) hx hb dX12_clauseHere_97 (by decide) ?_
        obtain ⟨k18, hf⟩ := chk_b hf
        exact mret_z hx hb hr (isb_nar k18) hlocks hI (ret_e hK0 hf) dX12_clauseHere_108
    · replace hf := ifp c9 hf
      refine lv_aload_n hx hb dX12_clauseHere_71 rfl (lv_at hl 0 rfl) ?_
      refine lv_iconst (v := 4) hx hb dX12_clauseHere_72 (by decide) ?_
      refine lv_iload_n hx hb dX12_clauseHere_73 rfl (lv_at hl 1 rfl) ?_
      obtain ⟨x19, hc20, hf⟩ := bnd_b hf
      refine mcall_i (As := [.int (4 : Int32), .int v1]) (rest := []) (n := 2) ⟨hx, hb, hml, hown, hts⟩ (cm_fails l D h ad cy (4 : Int32) v1 st x19 hc20 _) (cwV 2 hts gX12_clauseHere_X12_fails rfl rfl rfl ⟨rfl, nd_fails⟩ ⟨Nat.le_of_ble_eq_true rfl, Nat.le_of_ble_eq_true rfl⟩) hI hA rfl hl.1 (Nat.le_of_ble_eq_true rfl) dX12_clauseHere_74 ⟨Nat.zero_le _, Nat.zero_le _⟩ (fun H locs hI => ?_)
      obtain ⟨k21, hf⟩ := chk_b hf
      exact mret_z hx hb hr (isb_nar k21) hlocks hI (ret_e hK0 hf) dX12_clauseHere_77
  have B_53 : ∀ (v1 : Int32) (v2 : Int32)  (st : MSt) (H : Heap) (locs : List Loc) (ls : Array Slot), MI D (MA h ad cy s0 s.heap.size) h ad cy s s.heap st H locs → lv_has ls 3 [(0, .ref h), (1, .int v1), (2, .int v2)] → (fm_clauseHere_j53 v1 v2 st).bind K0 = some out → W p l e (headSpec wsX12_clauseHere { frames := 10, cells := 0, slots := 0, locals := 220 }).room s m (([.ref h] : List Value).toArray) below meth c H locs 0 0 (MQ below (MQi D h ad cy s0 out s.heap.size) ([.ref h] : List Value).toArray s 0 0 (MA h ad cy s0 s.heap.size)) (F0 m 53 ls []) := by
    intro v1 v2 st H locs ls hI hl hf
    unfold fm_clauseHere_j53 at hf
    refine lv_aload_n hx hb dX12_clauseHere_53 rfl (lv_at hl 0 rfl) ?_
    refine mg_lines hx hb hts hin hown k_lines hI dX12_clauseHere_54 ?_
    refine lv_iload_n hx hb dX12_clauseHere_57 rfl (lv_at hl 2 rfl) ?_
    refine lv_if_eq (tgt := 66) hx hb dX12_clauseHere_58 (by decide) (fun c8 => ?_) (fun c8 => ?_)
    · replace hf := ifp c8 hf
      refine lv_bipush (v := 12) hx hb dX12_clauseHere_66 (by decide) ?_
      exact B_68_2 v1 v2 (12 : Int32) (st.1 20) st H locs ls hI (lv_sub hl [0, 1, 2] rfl) hf
    · replace hf := ifn c8 hf
      refine lv_bipush (v := 24) hx hb dX12_clauseHere_61 (by decide) ?_
      refine lv_goto (tgt := 68) hx hb dX12_clauseHere_63 (by decide) ?_
      exact B_68_2 v1 v2 (24 : Int32) (st.1 20) st H locs ls hI (lv_sub hl [0, 1, 2] rfl) hf
  have B_24_0 : ∀ (v1 : Int32) (t0 : Int32) (st : MSt) (H : Heap) (locs : List Loc) (ls : Array Slot), MI D (MA h ad cy s0 s.heap.size) h ad cy s s.heap st H locs → lv_has ls 3 [(0, .ref h), (1, .int v1)] → (fm_clauseHere_j24 v1 t0 st).bind K0 = some out → W p l e (headSpec wsX12_clauseHere { frames := 10, cells := 0, slots := 0, locals := 220 }).room s m (([.ref h] : List Value).toArray) below meth c H locs 0 0 (MQ below (MQi D h ad cy s0 out s.heap.size) ([.ref h] : List Value).toArray s 0 0 (MA h ad cy s0 s.heap.size)) (F0 m 24 ls [.int t0]) := by
    intro v1 t0 st H locs ls hI hl hf
    unfold fm_clauseHere_j24 at hf
    refine lv_istore_n (lv' := [(2, .int t0), (0, .ref h), (1, .int v1)]) hx hb dX12_clauseHere_24 rfl hl (by decide) rfl (fun ls hl => ?_)
    refine lv_iload_n hx hb dX12_clauseHere_25 rfl (lv_at hl 0 rfl) ?_
    refine lv_if_eq (tgt := 39) hx hb dX12_clauseHere_26 (by decide) (fun c4 => ?_) (fun c4 => ?_)
    · replace hf := ifp c4 hf
      refine lv_aload_n hx hb dX12_clauseHere_39 rfl (lv_at hl 1 rfl) ?_
      obtain ⟨x5, hc6, hf⟩ := bnd_b hf
      refine mcall_i (As := []) (rest := []) (n := 0) ⟨hx, hb, hml, hown, hts⟩ (cm_doingSort l D h ad cy  st x5 hc6 _) (cwV 0 hts gX12_clauseHere_X12_doingSort rfl rfl rfl ⟨rfl, nd_doingSort⟩ ⟨Nat.le_of_ble_eq_true rfl, Nat.le_of_ble_eq_true rfl⟩) hI hA rfl hl.1 (Nat.le_of_ble_eq_true rfl) dX12_clauseHere_40 ⟨Nat.zero_le _, Nat.zero_le _⟩ (fun H locs hI => ?_)
      refine lv_if_ge (tgt := 53) hx hb dX12_clauseHere_43 (by decide) (fun c7 => ?_) (fun c7 => ?_)
      · replace hf := ifp c7 hf
        exact B_53 v1 t0 x5.1 H locs ls hI (lv_sub hl [1, 2, 0] rfl) hf
      · replace hf := ifn c7 hf
        refine lv_aload_n hx hb dX12_clauseHere_46 rfl (lv_at hl 1 rfl) ?_
        refine lv_iconst (v := 0) hx hb dX12_clauseHere_47 (by decide) ?_
        refine lv_iload_n hx hb dX12_clauseHere_48 rfl (lv_at hl 2 rfl) ?_
        obtain ⟨x22, hc23, hf⟩ := bnd_b hf
        refine mcall_i (As := [.int (0 : Int32), .int v1]) (rest := []) (n := 2) ⟨hx, hb, hml, hown, hts⟩ (cm_fails l D h ad cy (0 : Int32) v1 x5.1 x22 hc23 _) (cwV 2 hts gX12_clauseHere_X12_fails rfl rfl rfl ⟨rfl, nd_fails⟩ ⟨Nat.le_of_ble_eq_true rfl, Nat.le_of_ble_eq_true rfl⟩) hI hA rfl hl.1 (Nat.le_of_ble_eq_true rfl) dX12_clauseHere_49 ⟨Nat.zero_le _, Nat.zero_le _⟩ (fun H locs hI => ?_)
        obtain ⟨k24, hf⟩ := chk_b hf
        exact mret_z hx hb hr (isb_nar k24) hlocks hI (ret_e hK0 hf) dX12_clauseHere_52
    · replace hf := ifn c4 hf
      refine lv_aload_n hx hb dX12_clauseHere_29 rfl (lv_at hl 1 rfl) ?_
      obtain ⟨x25, hc26, hf⟩ := bnd_b hf
      refine mcall_i (As := []) (rest := []) (n := 0) ⟨hx, hb, hml, hown, hts⟩ (cm_isRiverWord l D h ad cy  st x25 hc26 _) (cwV 0 hts gX12_clauseHere_X12_isRiverWord rfl rfl rfl ⟨rfl, nd_isRiverWord⟩ ⟨Nat.le_of_ble_eq_true rfl, Nat.le_of_ble_eq_true rfl⟩) hI hA rfl hl.1 (Nat.le_of_ble_eq_true rfl) dX12_clauseHere_30 ⟨Nat.zero_le _, Nat.zero_le _⟩ (fun H locs hI => ?_)
      refine lv_if_eq (tgt := 46) hx hb dX12_clauseHere_33 (by decide) (fun c27 => ?_) (fun c27 => ?_)
      · replace hf := ifp c27 hf
        refine lv_aload_n hx hb dX12_clauseHere_46 rfl (lv_at hl 1 rfl) ?_
        refine lv_iconst (v := 0) hx hb dX12_clauseHere_47 (by decide) ?_
        refine lv_iload_n hx hb dX12_clauseHere_48 rfl (lv_at hl 2 rfl) ?_
        obtain ⟨x28, hc29, hf⟩ := bnd_b hf
        refine mcall_i (As := [.int (0 : Int32), .int v1]) (rest := []) (n := 2) ⟨hx, hb, hml, hown, hts⟩ (cm_fails l D h ad cy (0 : Int32) v1 x25.1 x28 hc29 _) (cwV 2 hts gX12_clauseHere_X12_fails rfl rfl rfl ⟨rfl, nd_fails⟩ ⟨Nat.le_of_ble_eq_true rfl, Nat.le_of_ble_eq_true rfl⟩) hI hA rfl hl.1 (Nat.le_of_ble_eq_true rfl) dX12_clauseHere_49 ⟨Nat.zero_le _, Nat.zero_le _⟩ (fun H locs hI => ?_)
        obtain ⟨k30, hf⟩ := chk_b hf
        exact mret_z hx hb hr (isb_nar k30) hlocks hI (ret_e hK0 hf) dX12_clauseHere_52
      · replace hf := ifn c27 hf
        refine lv_goto (tgt := 53) hx hb dX12_clauseHere_36 (by decide) ?_
        exact B_53 v1 t0 x25.1 H locs ls hI (lv_sub hl [1, 2, 0] rfl) hf
  unfold fm_clauseHere at hf
  refine lv_aload_n hx hb dX12_clauseHere_0 rfl (lv_at hl 0 rfl) ?_
  obtain ⟨x1, hc2, hf⟩ := bnd_b hf
  refine mcall_i (As := []) (rest := []) (n := 0) ⟨hx, hb, hml, hown, hts⟩ (cm_see l D h ad cy  s0 x1 hc2 _) (cwV 0 hts gX12_clauseHere_X12_see rfl rfl rfl ⟨rfl, nd_see⟩ ⟨Nat.le_of_ble_eq_true rfl, Nat.le_of_ble_eq_true rfl⟩) hI hA rfl hl.1 (Nat.le_of_ble_eq_true rfl) dX12_clauseHere_1 ⟨Nat.zero_le _, Nat.zero_le _⟩ (fun H locs hI => ?_)
  refine lv_pop hx hb dX12_clauseHere_4 rfl ?_
  refine lv_aload_n hx hb dX12_clauseHere_5 rfl (lv_at hl 0 rfl) ?_
  refine mg_next hx hb hts hin hown k_next hI dX12_clauseHere_6 ?_
  refine lv_istore_n (lv' := [(1, .int (x1.1.1 14)), (0, .ref h)]) hx hb dX12_clauseHere_9 rfl hl (by decide) rfl (fun ls hl => ?_)
  refine lv_aload_n hx hb dX12_clauseHere_10 rfl (lv_at hl 1 rfl) ?_
  refine mg_text hx hb hts hin hown k_text hI dX12_clauseHere_11 ?_
  refine lv_bipush (v := 6) hx hb dX12_clauseHere_14 (by decide) ?_
  refine lv_icmp_ne (tgt := 23) hx hb dX12_clauseHere_16 (by decide) (fun c3 => ?_) (fun c3 => ?_)
  · replace hf := ifn c3 hf
    refine lv_iconst (v := 0) hx hb dX12_clauseHere_23 (by decide) ?_
    exact B_24_0 (x1.1.1 14) (0 : Int32) x1.1 H locs ls hI (lv_sub hl [1, 0] rfl) hf
  · replace hf := ifp c3 hf
    refine lv_iconst (v := 1) hx hb dX12_clauseHere_19 (by decide) ?_
    refine lv_goto (tgt := 24) hx hb dX12_clauseHere_20 (by decide) ?_
    exact B_24_0 (x1.1.1 14) (1 : Int32) x1.1 H locs ls hI (lv_sub hl [1, 0] rfl) hf

theorem nd_readsAll : yX12_readsAll.cls ≠ "java/lang/invoke/MethodHandle" ∧ yX12_readsAll.cls ≠ "java/lang/invoke/VarHandle" ∧ (parseMethodDescriptor yX12_readsAll.desc).map (fun d => d.parameters.length) = some 0 := by decide +kernel
set_option maxHeartbeats 4000000 in
set_option maxRecDepth 100000 in
theorem cm_readsAll (l : Launch) (D : va_G) (h : Nat) (ad : Nat → Nat) (cy : Nat → ClassId)  (s0 : MSt) (out : MSt × Int32) (hf : fm_readsAll s0 = some out) (sz : Nat) : CMi l D h ad cy yX12_readsAll wsX12_readsAll { frames := 11, cells := 0, slots := 0, locals := 242 } [] s0 out sz := by
  refine Met.ofW (cc := cX12_readsAll) (maxL := 2) (ret := (some .boolean)) (by decide) rfl ?_
  intro p e s m args below meth c s₁ B hml hv
  obtain ⟨rfl, hsz, hP, hK, hD0⟩ := hv
  have hx := B.exec
  have hb := B.bytes
  have hr := B.returns
  have hts := atoms_spec (ws := wsX12_readsAll) B.pre
  have hown : s.vm.findClass RX12 = some m.cls := findClass_of_methodNamed B.named
  have hlocks := B.notSynchronized
  subst hsz
  have hI : MI D (MA h ad cy s0 s.heap.size) h ad cy s s.heap s0 s.heap [] := ⟨hK, hP, hD0.self, va_S.rf⟩
  have hA : ∀ q : Nat, s.heap.size ≤ q → MA h ad cy s0 s.heap.size q := fun q hq => Or.inr hq
  have hin : ∀ w ∈ u_ws RX12 TX12 42, w ∈ wsX12_readsAll := fun w hw => List.mem_cons_of_mem _ (List.mem_append_right _ hw)
  have k_length : Cond.fieldLink RX12 17 "HalfBridgeModel" "length" "[I" ∈ wsX12_readsAll := by decide +kernel
  have k_lines : Cond.fieldLink RX12 281 "HalfBridgeModel" "lines" "I" ∈ wsX12_readsAll := by decide +kernel
  have k_made : Cond.fieldLink RX12 156 "HalfBridgeModel" "made" "I" ∈ wsX12_readsAll := by decide +kernel
  have k_next : Cond.fieldLink RX12 103 "HalfBridgeModel" "next" "I" ∈ wsX12_readsAll := by decide +kernel
  have k_taped : Cond.fieldLink RX12 92 "HalfBridgeModel" "taped" "I" ∈ wsX12_readsAll := by decide +kernel
  have k_text : Cond.fieldLink RX12 153 "HalfBridgeModel" "text" "I" ∈ wsX12_readsAll := by decide +kernel
  have k_wrong : Cond.fieldLink RX12 100 "HalfBridgeModel" "wrong" "I" ∈ wsX12_readsAll := by decide +kernel
  have hl := lv_entry ([.ref h]) (n := 2) (Nat.le_of_ble_eq_true rfl)
  rw [lg_entry_eq]
  generalize (lg_sl ([.ref h]) ++ List.replicate (2 - (lg_sl ([.ref h])).length) Slot.unset).toArray = ls at hl ⊢
  have hl : lv_has ls 2 [(0, .ref h)] := hl
  obtain ⟨K0, hK0, hf⟩ := top_e hf
  have B_88 : ∀   (st : MSt) (H : Heap) (locs : List Loc) (ls : Array Slot), MI D (MA h ad cy s0 s.heap.size) h ad cy s s.heap st H locs → lv_has ls 2 [(0, .ref h)] → (fm_readsAll_j88 st).bind K0 = some out → W p l e (headSpec wsX12_readsAll { frames := 11, cells := 0, slots := 0, locals := 242 }).room s m (([.ref h] : List Value).toArray) below meth c H locs 0 0 (MQ below (MQi D h ad cy s0 out s.heap.size) ([.ref h] : List Value).toArray s 0 0 (MA h ad cy s0 s.heap.size)) (F0 m 88 ls []) := by
    intro st H locs ls hI hl hf
    unfold fm_readsAll_j88 at hf
    refine lv_aload_n hx hb dX12_readsAll_88 rfl (lv_at hl 0 rfl) ?_
    refine lv_iconst (v := 0) hx hb dX12_readsAll_89 (by decide) ?_
    refine mp_taped hx hb hts hin hown k_taped hI dX12_readsAll_90 (fun H locs hI => ?_)
    refine lv_aload_n hx hb dX12_readsAll_93 rfl (lv_at hl 0 rfl) ?_
    refine mg_wrong hx hb hts hin hown k_wrong hI dX12_readsAll_94 ?_
    refine lv_if_ne (tgt := 104) hx hb dX12_readsAll_97 (by decide) (fun c5 => ?_) (fun c5 => ?_)
    · replace hf := ifn c5 hf
      refine lv_iconst (v := 0) hx hb dX12_readsAll_104 (by decide) ?_
      exact mret_z hx hb hr (by decide) hlocks hI (ret_e hK0 hf) dX12_readsAll_105
    · replace hf := ifp c5 hf
      refine lv_iconst (v := 1) hx hb dX12_readsAll_100 (by decide) ?_
      refine lv_goto (tgt := 105) hx hb dX12_readsAll_101 (by decide) ?_
      exact mret_z hx hb hr (by decide) hlocks hI (ret_e hK0 hf) dX12_readsAll_105
  have B_66 : ∀ (v1 : Int32)  (st : MSt) (H : Heap) (locs : List Loc) (ls : Array Slot), MI D (MA h ad cy s0 s.heap.size) h ad cy s s.heap st H locs → lv_has ls 2 [(0, .ref h), (1, .int v1)] → (fm_readsAll_j66 v1 st).bind K0 = some out → W p l e (headSpec wsX12_readsAll { frames := 11, cells := 0, slots := 0, locals := 242 }).room s m (([.ref h] : List Value).toArray) below meth c H locs 0 0 (MQ below (MQi D h ad cy s0 out s.heap.size) ([.ref h] : List Value).toArray s 0 0 (MA h ad cy s0 s.heap.size)) (F0 m 66 ls []) := by
    intro v1 st H locs ls hI hl hf
    unfold fm_readsAll_j66 at hf
    refine lv_iload_n hx hb dX12_readsAll_66 rfl (lv_at hl 1 rfl) ?_
    refine lv_if_eq (tgt := 88) hx hb dX12_readsAll_67 (by decide) (fun c4 => ?_) (fun c4 => ?_)
    · replace hf := ifp c4 hf
      exact B_88  st H locs ls hI (lv_sub hl [0] rfl) hf
    · replace hf := ifn c4 hf
      refine lv_aload_n hx hb dX12_readsAll_70 rfl (lv_at hl 0 rfl) ?_
      obtain ⟨x6, hc7, hf⟩ := bnd_b hf
      refine mcall_i (As := []) (rest := []) (n := 0) ⟨hx, hb, hml, hown, hts⟩ (cm_see l D h ad cy  st x6 hc7 _) (cwV 0 hts gX12_readsAll_X12_see rfl rfl rfl ⟨rfl, nd_see⟩ ⟨Nat.le_of_ble_eq_true rfl, Nat.le_of_ble_eq_true rfl⟩) hI hA rfl hl.1 (Nat.le_of_ble_eq_true rfl) dX12_readsAll_71 ⟨Nat.zero_le _, Nat.zero_le _⟩ (fun H locs hI => ?_)
      refine lv_iconst (v := -1) hx hb dX12_readsAll_74 (by decide) ?_
      refine lv_icmp_eq (tgt := 88) hx hb dX12_readsAll_75 (by decide) (fun c8 => ?_) (fun c8 => ?_)
      · replace hf := ifp c8 hf
        exact B_88  x6.1 H locs ls hI (lv_sub hl [0] rfl) hf
      · replace hf := ifn c8 hf
        refine lv_aload_n hx hb dX12_readsAll_78 rfl (lv_at hl 0 rfl) ?_
        refine lv_iconst (v := 0) hx hb dX12_readsAll_79 (by decide) ?_
        refine lv_aload_n hx hb dX12_readsAll_80 rfl (lv_at hl 0 rfl) ?_
        refine mg_next hx hb hts hin hown k_next hI dX12_readsAll_81 ?_
        obtain ⟨x9, hc10, hf⟩ := bnd_b hf
        refine mcall_i (As := [.int (0 : Int32), .int (x6.1.1 14)]) (rest := []) (n := 2) ⟨hx, hb, hml, hown, hts⟩ (cm_fails l D h ad cy (0 : Int32) (x6.1.1 14) x6.1 x9 hc10 _) (cwV 2 hts gX12_readsAll_X12_fails rfl rfl rfl ⟨rfl, nd_fails⟩ ⟨Nat.le_of_ble_eq_true rfl, Nat.le_of_ble_eq_true rfl⟩) hI hA rfl hl.1 (Nat.le_of_ble_eq_true rfl) dX12_readsAll_84 ⟨Nat.zero_le _, Nat.zero_le _⟩ (fun H locs hI => ?_)
        refine lv_pop hx hb dX12_readsAll_87 rfl ?_
        exact B_88  x9.1 H locs ls hI (lv_sub hl [0] rfl) hf
  have L_35 : ∀  (n : Nat) (v1 : Int32) (st : MSt) (H : Heap) (locs : List Loc) (ls : Array Slot), MI D (MA h ad cy s0 s.heap.size) h ad cy s s.heap st H locs → lv_has ls 2 [(0, .ref h), (1, .int v1)] → (iter (fun x : (Int32 × MSt) => fm_readsAll_s35 x.1 x.2) n (v1, st)).bind (fun x => ((Sum.elim (fun o : MSt × Int32 => (some o : Option (MSt × Int32))) (fun x : (Int32 × MSt) => fm_readsAll_j66 x.1 x.2)) x).bind K0) = some out → W p l e (headSpec wsX12_readsAll { frames := 11, cells := 0, slots := 0, locals := 242 }).room s m (([.ref h] : List Value).toArray) below meth c H locs 0 0 (MQ below (MQi D h ad cy s0 out s.heap.size) ([.ref h] : List Value).toArray s 0 0 (MA h ad cy s0 s.heap.size)) (F0 m 35 ls []) := by
    intro n
    induction n with
    | zero => intro v1 st H locs ls hI hl hf; exact (iter_0 hf).elim
    | succ n ih =>
      intro v1 st H locs ls hI hl hf
      obtain ⟨K1, hK1, hf⟩ := iter_e hf
      replace hf : (fm_readsAll_s35 v1 st).bind K1 = some out := hf
      unfold fm_readsAll_s35 at hf
      refine lv_iload_n hx hb dX12_readsAll_35 rfl (lv_at hl 1 rfl) ?_
      refine lv_if_eq (tgt := 66) hx hb dX12_readsAll_36 (by decide) (fun c11 => ?_) (fun c11 => ?_)
      · replace hf := ifp c11 hf
        replace hf := exit_b hK1 hf
        exact B_66 v1 st H locs ls hI (lv_sub hl [0, 1] rfl) hf
      · replace hf := ifn c11 hf
        refine lv_aload_n hx hb dX12_readsAll_39 rfl (lv_at hl 0 rfl) ?_
        obtain ⟨x12, hc13, hf⟩ := bnd_b hf
        refine mcall_i (As := []) (rest := []) (n := 0) ⟨hx, hb, hml, hown, hts⟩ (cm_see l D h ad cy  st x12 hc13 _) (cwV 0 hts gX12_readsAll_X12_see rfl rfl rfl ⟨rfl, nd_see⟩ ⟨Nat.le_of_ble_eq_true rfl, Nat.le_of_ble_eq_true rfl⟩) hI hA rfl hl.1 (Nat.le_of_ble_eq_true rfl) dX12_readsAll_40 ⟨Nat.zero_le _, Nat.zero_le _⟩ (fun H locs hI => ?_)
        refine lv_bipush (v := 59) hx hb dX12_readsAll_43 (by decide) ?_
        refine lv_icmp_ne (tgt := 66) hx hb dX12_readsAll_45 (by decide) (fun c14 => ?_) (fun c14 => ?_)
        · replace hf := ifn c14 hf
          replace hf := exit_b hK1 hf
          exact B_66 v1 x12.1 H locs ls hI (lv_sub hl [0, 1] rfl) hf
        · replace hf := ifp c14 hf
          refine lv_aload_n hx hb dX12_readsAll_48 rfl (lv_at hl 0 rfl) ?_
          refine lv_dup hx hb dX12_readsAll_49 rfl ?_
          refine mg_next hx hb hts hin hown k_next hI dX12_readsAll_50 ?_
          refine lv_iconst (v := 1) hx hb dX12_readsAll_53 (by decide) ?_
          refine lv_iadd hx hb dX12_readsAll_54 ?_
          refine mp_next hx hb hts hin hown k_next hI dX12_readsAll_55 (fun H locs hI => ?_)
          refine lv_aload_n hx hb dX12_readsAll_58 rfl (lv_at hl 0 rfl) ?_
          obtain ⟨x15, hc16, hf⟩ := bnd_b hf
          refine mcall_i (As := []) (rest := []) (n := 0) ⟨hx, hb, hml, hown, hts⟩ (cm_clauseHere l D h ad cy  (msi x12.1 14 ((x12.1.1 14) + (1 : Int32))) x15 hc16 _) (cwV 0 hts gX12_readsAll_X12_clauseHere rfl rfl rfl ⟨rfl, nd_clauseHere⟩ ⟨Nat.le_of_ble_eq_true rfl, Nat.le_of_ble_eq_true rfl⟩) hI hA rfl hl.1 (Nat.le_of_ble_eq_true rfl) dX12_readsAll_59 ⟨Nat.zero_le _, Nat.zero_le _⟩ (fun H locs hI => ?_)
          refine lv_istore_n (lv' := [(1, .int x15.2), (0, .ref h)]) hx hb dX12_readsAll_62 rfl hl (by decide) rfl (fun ls hl => ?_)
          refine lv_goto (tgt := 35) hx hb dX12_readsAll_63 (by decide) ?_
          replace hf := cont_b hK1 hf
          exact ih x15.2 x15.1 H locs ls hI (lv_sub hl [1, 0] rfl) hf
  unfold fm_readsAll at hf
  refine lv_aload_n hx hb dX12_readsAll_0 rfl (lv_at hl 0 rfl) ?_
  refine mg_length hx hb hts hin hown k_length hI dX12_readsAll_1 ?_
  refine lv_aload_n hx hb dX12_readsAll_4 rfl (lv_at hl 0 rfl) ?_
  refine mg_text hx hb hts hin hown k_text hI dX12_readsAll_5 ?_
  refine lv_iconst (v := 0) hx hb dX12_readsAll_8 (by decide) ?_
  obtain ⟨k1, hf⟩ := chk_b hf
  refine ms_length hx hb hI k1 dX12_readsAll_9 (fun H locs hI => ?_)
  refine lv_aload_n hx hb dX12_readsAll_10 rfl (lv_at hl 0 rfl) ?_
  refine lv_iconst (v := 0) hx hb dX12_readsAll_11 (by decide) ?_
  refine mp_lines hx hb hts hin hown k_lines hI dX12_readsAll_12 (fun H locs hI => ?_)
  refine lv_aload_n hx hb dX12_readsAll_15 rfl (lv_at hl 0 rfl) ?_
  refine lv_iconst (v := 0) hx hb dX12_readsAll_16 (by decide) ?_
  refine mp_next hx hb hts hin hown k_next hI dX12_readsAll_17 (fun H locs hI => ?_)
  refine lv_aload_n hx hb dX12_readsAll_20 rfl (lv_at hl 0 rfl) ?_
  refine lv_iconst (v := 0) hx hb dX12_readsAll_21 (by decide) ?_
  refine mp_wrong hx hb hts hin hown k_wrong hI dX12_readsAll_22 (fun H locs hI => ?_)
  refine lv_aload_n hx hb dX12_readsAll_25 rfl (lv_at hl 0 rfl) ?_
  refine lv_iconst (v := 0) hx hb dX12_readsAll_26 (by decide) ?_
  refine mp_made hx hb hts hin hown k_made hI dX12_readsAll_27 (fun H locs hI => ?_)
  refine lv_aload_n hx hb dX12_readsAll_30 rfl (lv_at hl 0 rfl) ?_
  obtain ⟨x2, hc3, hf⟩ := bnd_b hf
  refine mcall_i (As := []) (rest := []) (n := 0) ⟨hx, hb, hml, hown, hts⟩ (cm_clauseHere l D h ad cy  (msi (msi (msi (msi (msa s0 4 (s0.1 17).toNatClampNeg (0 : Int32)) 20 (0 : Int32)) 14 (0 : Int32)) 15 (0 : Int32)) 18 (0 : Int32)) x2 hc3 _) (cwV 0 hts gX12_readsAll_X12_clauseHere rfl rfl rfl ⟨rfl, nd_clauseHere⟩ ⟨Nat.le_of_ble_eq_true rfl, Nat.le_of_ble_eq_true rfl⟩) hI hA rfl hl.1 (Nat.le_of_ble_eq_true rfl) dX12_readsAll_31 ⟨Nat.zero_le _, Nat.zero_le _⟩ (fun H locs hI => ?_)
  refine lv_istore_n (lv' := [(1, .int x2.2), (0, .ref h)]) hx hb dX12_readsAll_34 rfl hl (by decide) rfl (fun ls hl => ?_)
  exact L_35  mFuel x2.2 x2.1 H locs ls hI (lv_sub hl [1, 0] rfl) (asc_b hf)

theorem nd_rule : yX12_rule.cls ≠ "java/lang/invoke/MethodHandle" ∧ yX12_rule.cls ≠ "java/lang/invoke/VarHandle" ∧ (parseMethodDescriptor yX12_rule.desc).map (fun d => d.parameters.length) = some 0 := by decide +kernel
set_option maxHeartbeats 4000000 in
set_option maxRecDepth 100000 in
theorem cm_rule (l : Launch) (D : va_G) (h : Nat) (ad : Nat → Nat) (cy : Nat → ClassId)  (s0 : MSt) (out : MSt × Int32) (hf : fm_rule s0 = some out) (sz : Nat) : CMi l D h ad cy yX12_rule wsX12_rule { frames := 12, cells := 0, slots := 0, locals := 263 } [] s0 out sz := by
  refine Met.ofW (cc := cX12_rule) (maxL := 1) (ret := (some .int)) (by decide) rfl ?_
  intro p e s m args below meth c s₁ B hml hv
  obtain ⟨rfl, hsz, hP, hK, hD0⟩ := hv
  have hx := B.exec
  have hb := B.bytes
  have hr := B.returns
  have hts := atoms_spec (ws := wsX12_rule) B.pre
  have hown : s.vm.findClass RX12 = some m.cls := findClass_of_methodNamed B.named
  have hlocks := B.notSynchronized
  subst hsz
  have hI : MI D (MA h ad cy s0 s.heap.size) h ad cy s s.heap s0 s.heap [] := ⟨hK, hP, hD0.self, va_S.rf⟩
  have hA : ∀ q : Nat, s.heap.size ≤ q → MA h ad cy s0 s.heap.size q := fun q hq => Or.inr hq
  have hin : ∀ w ∈ u_ws RX12 TX12 42, w ∈ wsX12_rule := fun w hw => List.mem_cons_of_mem _ (List.mem_append_right _ hw)
  have k_clauses : Cond.fieldLink RX12 23 "HalfBridgeModel" "clauses" "[I" ∈ wsX12_rule := by decide +kernel
  have k_rules : Cond.fieldLink RX12 293 "HalfBridgeModel" "rules" "I" ∈ wsX12_rule := by decide +kernel
  have k_text : Cond.fieldLink RX12 153 "HalfBridgeModel" "text" "I" ∈ wsX12_rule := by decide +kernel
  have k_wrong : Cond.fieldLink RX12 100 "HalfBridgeModel" "wrong" "I" ∈ wsX12_rule := by decide +kernel
  have hl := lv_entry ([.ref h]) (n := 1) (Nat.le_of_ble_eq_true rfl)
  rw [lg_entry_eq]
  generalize (lg_sl ([.ref h]) ++ List.replicate (1 - (lg_sl ([.ref h])).length) Slot.unset).toArray = ls at hl ⊢
  have hl : lv_has ls 1 [(0, .ref h)] := hl
  obtain ⟨K0, hK0, hf⟩ := top_e hf
  unfold fm_rule at hf
  refine lv_aload_n hx hb dX12_rule_0 rfl (lv_at hl 0 rfl) ?_
  refine mg_rules hx hb hts hin hown k_rules hI dX12_rule_1 ?_
  refine lv_bipush (v := 6) hx hb dX12_rule_4 (by decide) ?_
  refine lv_icmp_ne (tgt := 11) hx hb dX12_rule_6 (by decide) (fun c1 => ?_) (fun c1 => ?_)
  · replace hf := ifn c1 hf
    refine lv_aload_n hx hb dX12_rule_11 rfl (lv_at hl 0 rfl) ?_
    refine lv_aload_n hx hb dX12_rule_12 rfl (lv_at hl 0 rfl) ?_
    refine mg_rules hx hb hts hin hown k_rules hI dX12_rule_13 ?_
    refine mp_text hx hb hts hin hown k_text hI dX12_rule_16 (fun H locs hI => ?_)
    refine lv_aload_n hx hb dX12_rule_19 rfl (lv_at hl 0 rfl) ?_
    refine mg_clauses hx hb hts hin hown k_clauses hI dX12_rule_20 ?_
    refine lv_aload_n hx hb dX12_rule_23 rfl (lv_at hl 0 rfl) ?_
    refine mg_text hx hb hts hin hown k_text hI dX12_rule_24 ?_
    refine lv_iconst (v := 0) hx hb dX12_rule_27 (by decide) ?_
    obtain ⟨k2, hf⟩ := chk_b hf
    refine ms_clauses hx hb hI k2 dX12_rule_28 (fun H locs hI => ?_)
    refine lv_aload_n hx hb dX12_rule_29 rfl (lv_at hl 0 rfl) ?_
    obtain ⟨x3, hc4, hf⟩ := bnd_b hf
    refine mcall_i (As := []) (rest := []) (n := 0) ⟨hx, hb, hml, hown, hts⟩ (cm_readsAll l D h ad cy  (msa (msi s0 17 (s0.1 2)) 6 ((msi s0 17 (s0.1 2)).1 17).toNatClampNeg (0 : Int32)) x3 hc4 _) (cwV 0 hts gX12_rule_X12_readsAll rfl rfl rfl ⟨rfl, nd_readsAll⟩ ⟨Nat.le_of_ble_eq_true rfl, Nat.le_of_ble_eq_true rfl⟩) hI hA rfl hl.1 (Nat.le_of_ble_eq_true rfl) dX12_rule_30 ⟨Nat.zero_le _, Nat.zero_le _⟩ (fun H locs hI => ?_)
    refine lv_if_ne (tgt := 44) hx hb dX12_rule_33 (by decide) (fun c5 => ?_) (fun c5 => ?_)
    · replace hf := ifn c5 hf
      refine lv_aload_n hx hb dX12_rule_44 rfl (lv_at hl 0 rfl) ?_
      refine lv_dup hx hb dX12_rule_45 rfl ?_
      refine mg_rules hx hb hts hin hown k_rules hI dX12_rule_46 ?_
      refine lv_iconst (v := 1) hx hb dX12_rule_49 (by decide) ?_
      refine lv_iadd hx hb dX12_rule_50 ?_
      refine mp_rules hx hb hts hin hown k_rules hI dX12_rule_51 (fun H locs hI => ?_)
      refine lv_aload_n hx hb dX12_rule_54 rfl (lv_at hl 0 rfl) ?_
      refine mg_rules hx hb hts hin hown k_rules hI dX12_rule_55 ?_
      refine lv_iconst (v := 1) hx hb dX12_rule_58 (by decide) ?_
      refine lv_isub hx hb dX12_rule_59 ?_
      exact mret_i hx hb hr hlocks hI (ret_e hK0 hf) dX12_rule_60
    · replace hf := ifp c5 hf
      refine lv_bipush (v := -2) hx hb dX12_rule_36 (by decide) ?_
      refine lv_aload_n hx hb dX12_rule_38 rfl (lv_at hl 0 rfl) ?_
      refine mg_wrong hx hb hts hin hown k_wrong hI dX12_rule_39 ?_
      refine lv_isub hx hb dX12_rule_42 ?_
      exact mret_i hx hb hr hlocks hI (ret_e hK0 hf) dX12_rule_43
  · replace hf := ifp c1 hf
    refine lv_iconst (v := -1) hx hb dX12_rule_9 (by decide) ?_
    exact mret_i hx hb hr hlocks hI (ret_e hK0 hf) dX12_rule_10
