theorem nd_keeps : yX12_keeps.cls ≠ "java/lang/invoke/MethodHandle" ∧ yX12_keeps.cls ≠ "java/lang/invoke/VarHandle" ∧ (parseMethodDescriptor yX12_keeps.desc).map (fun d => d.parameters.length) = some 0 := by decide +kernel
set_option maxHeartbeats 4000000 in
set_option maxRecDepth 100000 in
theorem cm_keeps (l : Launch) (D : va_G) (h : Nat) (ad : Nat → Nat) (cy : Nat → ClassId)  (s0 : MSt) (out : MSt) (hf : fm_keeps s0 = some out) (sz : Nat) : CMv l D h ad cy yX12_keeps wsX12_keeps { frames := 0, cells := 0, slots := 0, locals := 0 } [] s0 out sz := by
  refine Met.ofW (cc := cX12_keeps) (maxL := 2) (ret := none) (by decide) rfl ?_
  intro p e s m args below meth c s₁ B hml hv
  obtain ⟨rfl, hsz, hP, hK, hD0⟩ := hv
  have hx := B.exec
  have hb := B.bytes
  have hr := B.returns
  have hts := atoms_spec (ws := wsX12_keeps) B.pre
  have hown : s.vm.findClass RX12 = some m.cls := findClass_of_methodNamed B.named
  have hlocks := B.notSynchronized
  subst hsz
  have hI : MI D (MA h ad cy s0 s.heap.size) h ad cy s s.heap s0 s.heap [] := ⟨hK, hP, hD0.self, va_S.rf⟩
  have hA : ∀ q : Nat, s.heap.size ≤ q → MA h ad cy s0 s.heap.size q := fun q hq => Or.inr hq
  have hin : ∀ w ∈ u_ws RX12 TX12 42, w ∈ wsX12_keeps := fun w hw => List.mem_cons_of_mem _ (List.mem_append_right _ hw)
  have k_kept : Cond.fieldLink RX12 60 "HalfBridgeModel" "kept" "[I" ∈ wsX12_keeps := by decide +kernel
  have k_said : Cond.fieldLink RX12 45 "HalfBridgeModel" "said" "[I" ∈ wsX12_keeps := by decide +kernel
  have hl := lv_entry ([.ref h]) (n := 2) (Nat.le_of_ble_eq_true rfl)
  rw [lg_entry_eq]
  generalize (lg_sl ([.ref h]) ++ List.replicate (2 - (lg_sl ([.ref h])).length) Slot.unset).toArray = ls at hl ⊢
  have hl : lv_has ls 2 [(0, .ref h)] := hl
  obtain ⟨K0, hK0, hf⟩ := top_e hf
  have B_27 : ∀   (st : MSt) (H : Heap) (locs : List Loc) (ls : Array Slot), MI D (MA h ad cy s0 s.heap.size) h ad cy s s.heap st H locs → lv_has ls 2 [] → (fm_keeps_j27 st).bind K0 = some out → W p l e (headSpec wsX12_keeps { frames := 0, cells := 0, slots := 0, locals := 0 }).room s m (([.ref h] : List Value).toArray) below meth c H locs 0 0 (MQ below (MQv D h ad cy s0 out s.heap.size) ([.ref h] : List Value).toArray s 0 0 (MA h ad cy s0 s.heap.size)) (F0 m 27 ls []) := by
    intro st H locs ls hI hl hf
    unfold fm_keeps_j27 at hf
    exact mret_v hx hb hr hlocks hI (ret_e hK0 hf) dX12_keeps_27
  have L_2 : ∀  (n : Nat) (v1 : Int32) (st : MSt) (H : Heap) (locs : List Loc) (ls : Array Slot), MI D (MA h ad cy s0 s.heap.size) h ad cy s s.heap st H locs → lv_has ls 2 [(0, .ref h), (1, .int v1)] → (iter (fun x : (Int32 × MSt) => fm_keeps_s2 x.1 x.2) n (v1, st)).bind (fun x => ((Sum.elim (fun o : MSt => (some o : Option (MSt))) (fun x : (Int32 × MSt) => fm_keeps_j27 x.2)) x).bind K0) = some out → W p l e (headSpec wsX12_keeps { frames := 0, cells := 0, slots := 0, locals := 0 }).room s m (([.ref h] : List Value).toArray) below meth c H locs 0 0 (MQ below (MQv D h ad cy s0 out s.heap.size) ([.ref h] : List Value).toArray s 0 0 (MA h ad cy s0 s.heap.size)) (F0 m 2 ls []) := by
    intro n
    induction n with
    | zero => intro v1 st H locs ls hI hl hf; exact (iter_0 hf).elim
    | succ n ih =>
      intro v1 st H locs ls hI hl hf
      obtain ⟨K1, hK1, hf⟩ := iter_e hf
      replace hf : (fm_keeps_s2 v1 st).bind K1 = some out := hf
      unfold fm_keeps_s2 at hf
      refine lv_iload_n hx hb dX12_keeps_2 rfl (lv_at hl 1 rfl) ?_
      refine lv_sipush (v := 286) hx hb dX12_keeps_3 (by decide) ?_
      refine lv_icmp_ge (tgt := 27) hx hb dX12_keeps_6 (by decide) (fun c1 => ?_) (fun c1 => ?_)
      · replace hf := ifp c1 hf
        replace hf := exit_b hK1 hf
        exact B_27  st H locs ls hI (lv_sub hl [] rfl) hf
      · replace hf := ifn c1 hf
        refine lv_aload_n hx hb dX12_keeps_9 rfl (lv_at hl 0 rfl) ?_
        refine mg_kept hx hb hts hin hown k_kept hI dX12_keeps_10 ?_
        refine lv_iload_n hx hb dX12_keeps_13 rfl (lv_at hl 1 rfl) ?_
        refine lv_aload_n hx hb dX12_keeps_14 rfl (lv_at hl 0 rfl) ?_
        refine mg_said hx hb hts hin hown k_said hI dX12_keeps_15 ?_
        refine lv_iload_n hx hb dX12_keeps_18 rfl (lv_at hl 1 rfl) ?_
        obtain ⟨k2, hf⟩ := chk_b hf
        refine ml_said hx hb hI k2 dX12_keeps_19 ?_
        obtain ⟨k3, hf⟩ := chk_b hf
        refine ms_kept hx hb hI k3 dX12_keeps_20 (fun H locs hI => ?_)
        refine lv_iinc (v := (v1 + 1)) (lv' := [(1, .int (v1 + 1)), (0, .ref h)]) hx hb dX12_keeps_21 hl (k := 1) rfl (ci_ _ (by decide)) (by decide) rfl (fun ls hl => ?_)
        refine lv_goto (tgt := 2) hx hb dX12_keeps_24 (by decide) ?_
        replace hf := cont_b hK1 hf
        exact ih (v1 + 1) (msa st 31 v1.toNatClampNeg (st.2.1 26 v1.toNatClampNeg)) H locs ls hI (lv_sub hl [1, 0] rfl) hf
  unfold fm_keeps at hf
  refine lv_iconst (v := 0) hx hb dX12_keeps_0 (by decide) ?_
  refine lv_istore_n (lv' := [(1, .int (0 : Int32)), (0, .ref h)]) hx hb dX12_keeps_1 rfl hl (by decide) rfl (fun ls hl => ?_)
  exact L_2  mFuel (0 : Int32) s0 s.heap [] ls hI (lv_sub hl [1, 0] rfl) (asc_b hf)

theorem nd_putsBack : yX12_putsBack.cls ≠ "java/lang/invoke/MethodHandle" ∧ yX12_putsBack.cls ≠ "java/lang/invoke/VarHandle" ∧ (parseMethodDescriptor yX12_putsBack.desc).map (fun d => d.parameters.length) = some 0 := by decide +kernel
set_option maxHeartbeats 4000000 in
set_option maxRecDepth 100000 in
theorem cm_putsBack (l : Launch) (D : va_G) (h : Nat) (ad : Nat → Nat) (cy : Nat → ClassId)  (s0 : MSt) (out : MSt) (hf : fm_putsBack s0 = some out) (sz : Nat) : CMv l D h ad cy yX12_putsBack wsX12_putsBack { frames := 0, cells := 0, slots := 0, locals := 0 } [] s0 out sz := by
  refine Met.ofW (cc := cX12_putsBack) (maxL := 2) (ret := none) (by decide) rfl ?_
  intro p e s m args below meth c s₁ B hml hv
  obtain ⟨rfl, hsz, hP, hK, hD0⟩ := hv
  have hx := B.exec
  have hb := B.bytes
  have hr := B.returns
  have hts := atoms_spec (ws := wsX12_putsBack) B.pre
  have hown : s.vm.findClass RX12 = some m.cls := findClass_of_methodNamed B.named
  have hlocks := B.notSynchronized
  subst hsz
  have hI : MI D (MA h ad cy s0 s.heap.size) h ad cy s s.heap s0 s.heap [] := ⟨hK, hP, hD0.self, va_S.rf⟩
  have hA : ∀ q : Nat, s.heap.size ≤ q → MA h ad cy s0 s.heap.size q := fun q hq => Or.inr hq
  have hin : ∀ w ∈ u_ws RX12 TX12 42, w ∈ wsX12_putsBack := fun w hw => List.mem_cons_of_mem _ (List.mem_append_right _ hw)
  have k_kept : Cond.fieldLink RX12 60 "HalfBridgeModel" "kept" "[I" ∈ wsX12_putsBack := by decide +kernel
  have k_said : Cond.fieldLink RX12 45 "HalfBridgeModel" "said" "[I" ∈ wsX12_putsBack := by decide +kernel
  have hl := lv_entry ([.ref h]) (n := 2) (Nat.le_of_ble_eq_true rfl)
  rw [lg_entry_eq]
  generalize (lg_sl ([.ref h]) ++ List.replicate (2 - (lg_sl ([.ref h])).length) Slot.unset).toArray = ls at hl ⊢
  have hl : lv_has ls 2 [(0, .ref h)] := hl
  obtain ⟨K0, hK0, hf⟩ := top_e hf
  have B_27 : ∀   (st : MSt) (H : Heap) (locs : List Loc) (ls : Array Slot), MI D (MA h ad cy s0 s.heap.size) h ad cy s s.heap st H locs → lv_has ls 2 [] → (fm_putsBack_j27 st).bind K0 = some out → W p l e (headSpec wsX12_putsBack { frames := 0, cells := 0, slots := 0, locals := 0 }).room s m (([.ref h] : List Value).toArray) below meth c H locs 0 0 (MQ below (MQv D h ad cy s0 out s.heap.size) ([.ref h] : List Value).toArray s 0 0 (MA h ad cy s0 s.heap.size)) (F0 m 27 ls []) := by
    intro st H locs ls hI hl hf
    unfold fm_putsBack_j27 at hf
    exact mret_v hx hb hr hlocks hI (ret_e hK0 hf) dX12_putsBack_27
  have L_2 : ∀  (n : Nat) (v1 : Int32) (st : MSt) (H : Heap) (locs : List Loc) (ls : Array Slot), MI D (MA h ad cy s0 s.heap.size) h ad cy s s.heap st H locs → lv_has ls 2 [(0, .ref h), (1, .int v1)] → (iter (fun x : (Int32 × MSt) => fm_putsBack_s2 x.1 x.2) n (v1, st)).bind (fun x => ((Sum.elim (fun o : MSt => (some o : Option (MSt))) (fun x : (Int32 × MSt) => fm_putsBack_j27 x.2)) x).bind K0) = some out → W p l e (headSpec wsX12_putsBack { frames := 0, cells := 0, slots := 0, locals := 0 }).room s m (([.ref h] : List Value).toArray) below meth c H locs 0 0 (MQ below (MQv D h ad cy s0 out s.heap.size) ([.ref h] : List Value).toArray s 0 0 (MA h ad cy s0 s.heap.size)) (F0 m 2 ls []) := by
    intro n
    induction n with
    | zero => intro v1 st H locs ls hI hl hf; exact (iter_0 hf).elim
    | succ n ih =>
      intro v1 st H locs ls hI hl hf
      obtain ⟨K1, hK1, hf⟩ := iter_e hf
      replace hf : (fm_putsBack_s2 v1 st).bind K1 = some out := hf
      unfold fm_putsBack_s2 at hf
      refine lv_iload_n hx hb dX12_putsBack_2 rfl (lv_at hl 1 rfl) ?_
      refine lv_sipush (v := 286) hx hb dX12_putsBack_3 (by decide) ?_
      refine lv_icmp_ge (tgt := 27) hx hb dX12_putsBack_6 (by decide) (fun c1 => ?_) (fun c1 => ?_)
      · replace hf := ifp c1 hf
        replace hf := exit_b hK1 hf
        exact B_27  st H locs ls hI (lv_sub hl [] rfl) hf
      · replace hf := ifn c1 hf
        refine lv_aload_n hx hb dX12_putsBack_9 rfl (lv_at hl 0 rfl) ?_
        refine mg_said hx hb hts hin hown k_said hI dX12_putsBack_10 ?_
        refine lv_iload_n hx hb dX12_putsBack_13 rfl (lv_at hl 1 rfl) ?_
        refine lv_aload_n hx hb dX12_putsBack_14 rfl (lv_at hl 0 rfl) ?_
        refine mg_kept hx hb hts hin hown k_kept hI dX12_putsBack_15 ?_
        refine lv_iload_n hx hb dX12_putsBack_18 rfl (lv_at hl 1 rfl) ?_
        obtain ⟨k2, hf⟩ := chk_b hf
        refine ml_kept hx hb hI k2 dX12_putsBack_19 ?_
        obtain ⟨k3, hf⟩ := chk_b hf
        refine ms_said hx hb hI k3 dX12_putsBack_20 (fun H locs hI => ?_)
        refine lv_iinc (v := (v1 + 1)) (lv' := [(1, .int (v1 + 1)), (0, .ref h)]) hx hb dX12_putsBack_21 hl (k := 1) rfl (ci_ _ (by decide)) (by decide) rfl (fun ls hl => ?_)
        refine lv_goto (tgt := 2) hx hb dX12_putsBack_24 (by decide) ?_
        replace hf := cont_b hK1 hf
        exact ih (v1 + 1) (msa st 26 v1.toNatClampNeg (st.2.1 31 v1.toNatClampNeg)) H locs ls hI (lv_sub hl [1, 0] rfl) hf
  unfold fm_putsBack at hf
  refine lv_iconst (v := 0) hx hb dX12_putsBack_0 (by decide) ?_
  refine lv_istore_n (lv' := [(1, .int (0 : Int32)), (0, .ref h)]) hx hb dX12_putsBack_1 rfl hl (by decide) rfl (fun ls hl => ?_)
  exact L_2  mFuel (0 : Int32) s0 s.heap [] ls hI (lv_sub hl [1, 0] rfl) (asc_b hf)

theorem nd_ahead : yX12_ahead.cls ≠ "java/lang/invoke/MethodHandle" ∧ yX12_ahead.cls ≠ "java/lang/invoke/VarHandle" ∧ (parseMethodDescriptor yX12_ahead.desc).map (fun d => d.parameters.length) = some 4 := by decide +kernel
set_option maxHeartbeats 4000000 in
set_option maxRecDepth 100000 in
theorem cm_ahead (l : Launch) (D : va_G) (h : Nat) (ad : Nat → Nat) (cy : Nat → ClassId) (a1 : Int32) (a2 : Int32) (a3 : Int32) (a4 : Int32) (s0 : MSt) (out : MSt × Int32) (hf : fm_ahead a1 a2 a3 a4 s0 = some out) (sz : Nat) : CMi l D h ad cy yX12_ahead wsX12_ahead { frames := 7, cells := 0, slots := 0, locals := 169 } [.int a1, .int a2, .int a3, .int a4] s0 out sz := by
  refine Met.ofW (cc := cX12_ahead) (maxL := 6) (ret := (some .int)) (by decide) rfl ?_
  intro p e s m args below meth c s₁ B hml hv
  obtain ⟨rfl, hsz, hP, hK, hD0⟩ := hv
  have hx := B.exec
  have hb := B.bytes
  have hr := B.returns
  have hts := atoms_spec (ws := wsX12_ahead) B.pre
  have hown : s.vm.findClass RX12 = some m.cls := findClass_of_methodNamed B.named
  have hlocks := B.notSynchronized
  subst hsz
  have hI : MI D (MA h ad cy s0 s.heap.size) h ad cy s s.heap s0 s.heap [] := ⟨hK, hP, hD0.self, va_S.rf⟩
  have hA : ∀ q : Nat, s.heap.size ≤ q → MA h ad cy s0 s.heap.size q := fun q hq => Or.inr hq
  have hin : ∀ w ∈ u_ws RX12 TX12 42, w ∈ wsX12_ahead := fun w hw => List.mem_cons_of_mem _ (List.mem_append_right _ hw)
  have k_said : Cond.fieldLink RX12 45 "HalfBridgeModel" "said" "[I" ∈ wsX12_ahead := by decide +kernel
  have hl := lv_entry ([.ref h, .int a1, .int a2, .int a3, .int a4]) (n := 6) (Nat.le_of_ble_eq_true rfl)
  rw [lg_entry_eq]
  generalize (lg_sl ([.ref h, .int a1, .int a2, .int a3, .int a4]) ++ List.replicate (6 - (lg_sl ([.ref h, .int a1, .int a2, .int a3, .int a4])).length) Slot.unset).toArray = ls at hl ⊢
  have hl : lv_has ls 6 [(0, .ref h), (1, .int a1), (2, .int a2), (3, .int a3), (4, .int a4)] := hl
  obtain ⟨K0, hK0, hf⟩ := top_e hf
  unfold fm_ahead at hf
  refine lv_aload_n hx hb dX12_ahead_0 rfl (lv_at hl 0 rfl) ?_
  refine lv_iload_n hx hb dX12_ahead_1 rfl (lv_at hl 1 rfl) ?_
  refine lv_iload_n hx hb dX12_ahead_2 rfl (lv_at hl 2 rfl) ?_
  obtain ⟨x1, hc2, hf⟩ := bnd_b hf
  refine mcall_i (As := [.int a1, .int a2]) (rest := []) (n := 2) ⟨hx, hb, hml, hown, hts⟩ (cm_canAsk l D h ad cy a1 a2 s0 x1 hc2 _) (cwV 2 hts gX12_ahead_X12_canAsk rfl rfl rfl ⟨rfl, nd_canAsk⟩ ⟨Nat.le_of_ble_eq_true rfl, Nat.le_of_ble_eq_true rfl⟩) hI hA rfl hl.1 (Nat.le_of_ble_eq_true rfl) dX12_ahead_3 ⟨Nat.zero_le _, Nat.zero_le _⟩ (fun H locs hI => ?_)
  refine lv_if_eq (tgt := 34) hx hb dX12_ahead_6 (by decide) (fun c3 => ?_) (fun c3 => ?_)
  · replace hf := ifp c3 hf
    refine lv_iconst (v := -1) hx hb dX12_ahead_34 (by decide) ?_
    exact mret_i hx hb hr hlocks hI (ret_e hK0 hf) dX12_ahead_35
  · replace hf := ifn c3 hf
    refine lv_iload_n hx hb dX12_ahead_9 rfl (lv_at hl 3 rfl) ?_
    refine lv_i2l (v := (a3.toInt64)) hx hb dX12_ahead_10 rfl ?_
    refine lv_lconst (v := 0) hx hb dX12_ahead_11 (by decide) ?_
    refine lv_ldc2 (v := 400) hx hb hown (hts (.constantLong RX12 416 (400)) (by decide +kernel)) dX12_ahead_12 ?_
    obtain ⟨x4, hc5, hf⟩ := bnd_b hf
    refine mst_i (As := [.long (a3.toInt64), .long (0 : Int64), .long (400 : Int64)]) (rest := []) (n := 3) ⟨hx, hb, hml, hown, hts⟩ (cs_in l (a3.toInt64) (0 : Int64) (400 : Int64) x4 hc5 _) (va_cwS 3 hts gX12_ahead_X12_in rfl rfl rfl nd_in ⟨Nat.le_of_ble_eq_true rfl, Nat.le_of_ble_eq_true rfl⟩) hI hA rfl hl.1 (Nat.le_of_ble_eq_true rfl) dX12_ahead_15 ⟨Nat.zero_le _, Nat.zero_le _⟩ (fun H locs hI => ?_)
    refine lv_if_eq (tgt := 34) hx hb dX12_ahead_18 (by decide) (fun c6 => ?_) (fun c6 => ?_)
    · replace hf := ifp c6 hf
      refine lv_iconst (v := -1) hx hb dX12_ahead_34 (by decide) ?_
      exact mret_i hx hb hr hlocks hI (ret_e hK0 hf) dX12_ahead_35
    · replace hf := ifn c6 hf
      refine lv_iload hx hb dX12_ahead_21 (lv_at hl 4 rfl) ?_
      refine lv_i2l (v := (a4.toInt64)) hx hb dX12_ahead_23 rfl ?_
      refine lv_lconst (v := 0) hx hb dX12_ahead_24 (by decide) ?_
      refine lv_ldc2 (v := 5) hx hb hown (hts (.constantLong RX12 418 (5)) (by decide +kernel)) dX12_ahead_25 ?_
      obtain ⟨x7, hc8, hf⟩ := bnd_b hf
      refine mst_i (As := [.long (a4.toInt64), .long (0 : Int64), .long (5 : Int64)]) (rest := []) (n := 3) ⟨hx, hb, hml, hown, hts⟩ (cs_in l (a4.toInt64) (0 : Int64) (5 : Int64) x7 hc8 _) (va_cwS 3 hts gX12_ahead_X12_in rfl rfl rfl nd_in ⟨Nat.le_of_ble_eq_true rfl, Nat.le_of_ble_eq_true rfl⟩) hI hA rfl hl.1 (Nat.le_of_ble_eq_true rfl) dX12_ahead_28 ⟨Nat.zero_le _, Nat.zero_le _⟩ (fun H locs hI => ?_)
      refine lv_if_ne (tgt := 36) hx hb dX12_ahead_31 (by decide) (fun c9 => ?_) (fun c9 => ?_)
      · replace hf := ifn c9 hf
        refine lv_aload_n hx hb dX12_ahead_36 rfl (lv_at hl 0 rfl) ?_
        obtain ⟨x10, hc11, hf⟩ := bnd_b hf
        refine mcall_v (As := []) (rest := []) (n := 0) ⟨hx, hb, hml, hown, hts⟩ (cm_keeps l D h ad cy  x1.1 x10 hc11 _) (cwV 0 hts gX12_ahead_X12_keeps rfl rfl rfl ⟨rfl, nd_keeps⟩ ⟨Nat.le_of_ble_eq_true rfl, Nat.le_of_ble_eq_true rfl⟩) hI hA rfl hl.1 (Nat.le_of_ble_eq_true rfl) dX12_ahead_37 ⟨Nat.zero_le _, Nat.zero_le _⟩ (fun H locs hI => ?_)
        refine lv_aload_n hx hb dX12_ahead_40 rfl (lv_at hl 0 rfl) ?_
        refine lv_iload_n hx hb dX12_ahead_41 rfl (lv_at hl 1 rfl) ?_
        refine lv_iload_n hx hb dX12_ahead_42 rfl (lv_at hl 2 rfl) ?_
        refine lv_iload_n hx hb dX12_ahead_43 rfl (lv_at hl 3 rfl) ?_
        obtain ⟨x12, hc13, hf⟩ := bnd_b hf
        refine mcall_v (As := [.int a1, .int a2, .int a3]) (rest := []) (n := 3) ⟨hx, hb, hml, hown, hts⟩ (cm_springs l D h ad cy a1 a2 a3 x10 x12 hc13 _) (cwV 3 hts gX12_ahead_X12_springs rfl rfl rfl ⟨rfl, nd_springs⟩ ⟨Nat.le_of_ble_eq_true rfl, Nat.le_of_ble_eq_true rfl⟩) hI hA rfl hl.1 (Nat.le_of_ble_eq_true rfl) dX12_ahead_44 ⟨Nat.zero_le _, Nat.zero_le _⟩ (fun H locs hI => ?_)
        refine lv_iload hx hb dX12_ahead_47 (lv_at hl 4 rfl) ?_
        refine lv_if_ne (tgt := 73) hx hb dX12_ahead_49 (by decide) (fun c14 => ?_) (fun c14 => ?_)
        · replace hf := ifn c14 hf
          refine lv_iload hx hb dX12_ahead_73 (lv_at hl 4 rfl) ?_
          refine lv_iconst (v := 3) hx hb dX12_ahead_75 (by decide) ?_
          refine lv_icmp_ge (tgt := 90) hx hb dX12_ahead_76 (by decide) (fun c15 => ?_) (fun c15 => ?_)
          · replace hf := ifp c15 hf
            refine lv_iload hx hb dX12_ahead_90 (lv_at hl 4 rfl) ?_
            refine lv_iconst (v := 5) hx hb dX12_ahead_92 (by decide) ?_
            refine lv_icmp_ge (tgt := 107) hx hb dX12_ahead_93 (by decide) (fun c16 => ?_) (fun c16 => ?_)
            · replace hf := ifp c16 hf
              refine lv_aload_n hx hb dX12_ahead_107 rfl (lv_at hl 0 rfl) ?_
              obtain ⟨x17, hc18, hf⟩ := bnd_b hf
              refine mcall_i (As := []) (rest := []) (n := 0) ⟨hx, hb, hml, hown, hts⟩ (cm_isInTime l D h ad cy  x12 x17 hc18 _) (cwV 0 hts gX12_ahead_X12_isInTime rfl rfl rfl ⟨rfl, nd_isInTime⟩ ⟨Nat.le_of_ble_eq_true rfl, Nat.le_of_ble_eq_true rfl⟩) hI hA rfl hl.1 (Nat.le_of_ble_eq_true rfl) dX12_ahead_108 ⟨Nat.zero_le _, Nat.zero_le _⟩ (fun H locs hI => ?_)
              refine lv_if_eq (tgt := 118) hx hb dX12_ahead_111 (by decide) (fun c19 => ?_) (fun c19 => ?_)
              · replace hf := ifp c19 hf
                refine lv_iconst (v := 0) hx hb dX12_ahead_118 (by decide) ?_
                refine lv_istore (lv' := [(5, .int (0 : Int32)), (0, .ref h), (1, .int a1), (2, .int a2), (3, .int a3), (4, .int a4)]) hx hb dX12_ahead_119 hl (by decide) rfl (fun ls hl => ?_)
                refine lv_aload_n hx hb dX12_ahead_121 rfl (lv_at hl 1 rfl) ?_
                obtain ⟨x20, hc21, hf⟩ := bnd_b hf
                refine mcall_v (As := []) (rest := []) (n := 0) ⟨hx, hb, hml, hown, hts⟩ (cm_putsBack l D h ad cy  x17.1 x20 hc21 _) (cwV 0 hts gX12_ahead_X12_putsBack rfl rfl rfl ⟨rfl, nd_putsBack⟩ ⟨Nat.le_of_ble_eq_true rfl, Nat.le_of_ble_eq_true rfl⟩) hI hA rfl hl.1 (Nat.le_of_ble_eq_true rfl) dX12_ahead_122 ⟨Nat.zero_le _, Nat.zero_le _⟩ (fun H locs hI => ?_)
                refine lv_iload hx hb dX12_ahead_125 (lv_at hl 0 rfl) ?_
                exact mret_i hx hb hr hlocks hI (ret_e hK0 hf) dX12_ahead_127
              · replace hf := ifn c19 hf
                refine lv_iconst (v := 1) hx hb dX12_ahead_114 (by decide) ?_
                refine lv_goto (tgt := 119) hx hb dX12_ahead_115 (by decide) ?_
                refine lv_istore (lv' := [(5, .int (1 : Int32)), (0, .ref h), (1, .int a1), (2, .int a2), (3, .int a3), (4, .int a4)]) hx hb dX12_ahead_119 hl (by decide) rfl (fun ls hl => ?_)
                refine lv_aload_n hx hb dX12_ahead_121 rfl (lv_at hl 1 rfl) ?_
                obtain ⟨x22, hc23, hf⟩ := bnd_b hf
                refine mcall_v (As := []) (rest := []) (n := 0) ⟨hx, hb, hml, hown, hts⟩ (cm_putsBack l D h ad cy  x17.1 x22 hc23 _) (cwV 0 hts gX12_ahead_X12_putsBack rfl rfl rfl ⟨rfl, nd_putsBack⟩ ⟨Nat.le_of_ble_eq_true rfl, Nat.le_of_ble_eq_true rfl⟩) hI hA rfl hl.1 (Nat.le_of_ble_eq_true rfl) dX12_ahead_122 ⟨Nat.zero_le _, Nat.zero_le _⟩ (fun H locs hI => ?_)
                refine lv_iload hx hb dX12_ahead_125 (lv_at hl 0 rfl) ?_
                exact mret_i hx hb hr hlocks hI (ret_e hK0 hf) dX12_ahead_127
            · replace hf := ifn c16 hf
              refine lv_aload_n hx hb dX12_ahead_96 rfl (lv_at hl 0 rfl) ?_
              refine lv_iload hx hb dX12_ahead_97 (lv_at hl 4 rfl) ?_
              refine lv_iconst (v := 3) hx hb dX12_ahead_99 (by decide) ?_
              refine lv_isub hx hb dX12_ahead_100 ?_
              obtain ⟨x24, hc25, hf⟩ := bnd_b hf
              refine mcall_i (As := [.int (a4 - (3 : Int32))]) (rest := []) (n := 1) ⟨hx, hb, hml, hown, hts⟩ (cm_crooked l D h ad cy (a4 - (3 : Int32)) x12 x24 hc25 _) (cwV 1 hts gX12_ahead_X12_crooked rfl rfl rfl ⟨rfl, nd_crooked⟩ ⟨Nat.le_of_ble_eq_true rfl, Nat.le_of_ble_eq_true rfl⟩) hI hA rfl hl.1 (Nat.le_of_ble_eq_true rfl) dX12_ahead_101 ⟨Nat.zero_le _, Nat.zero_le _⟩ (fun H locs hI => ?_)
              refine lv_goto (tgt := 119) hx hb dX12_ahead_104 (by decide) ?_
              refine lv_istore (lv' := [(5, .int x24.2), (0, .ref h), (1, .int a1), (2, .int a2), (3, .int a3), (4, .int a4)]) hx hb dX12_ahead_119 hl (by decide) rfl (fun ls hl => ?_)
              refine lv_aload_n hx hb dX12_ahead_121 rfl (lv_at hl 1 rfl) ?_
              obtain ⟨x26, hc27, hf⟩ := bnd_b hf
              refine mcall_v (As := []) (rest := []) (n := 0) ⟨hx, hb, hml, hown, hts⟩ (cm_putsBack l D h ad cy  x24.1 x26 hc27 _) (cwV 0 hts gX12_ahead_X12_putsBack rfl rfl rfl ⟨rfl, nd_putsBack⟩ ⟨Nat.le_of_ble_eq_true rfl, Nat.le_of_ble_eq_true rfl⟩) hI hA rfl hl.1 (Nat.le_of_ble_eq_true rfl) dX12_ahead_122 ⟨Nat.zero_le _, Nat.zero_le _⟩ (fun H locs hI => ?_)
              refine lv_iload hx hb dX12_ahead_125 (lv_at hl 0 rfl) ?_
              exact mret_i hx hb hr hlocks hI (ret_e hK0 hf) dX12_ahead_127
          · replace hf := ifn c15 hf
            refine lv_aload_n hx hb dX12_ahead_79 rfl (lv_at hl 0 rfl) ?_
            refine lv_iload hx hb dX12_ahead_80 (lv_at hl 4 rfl) ?_
            refine lv_iconst (v := 1) hx hb dX12_ahead_82 (by decide) ?_
            refine lv_isub hx hb dX12_ahead_83 ?_
            obtain ⟨x28, hc29, hf⟩ := bnd_b hf
            refine mcall_i (As := [.int (a4 - (1 : Int32))]) (rest := []) (n := 1) ⟨hx, hb, hml, hown, hts⟩ (cm_missOf l D h ad cy (a4 - (1 : Int32)) x12 x28 hc29 _) (cwV 1 hts gX12_ahead_X12_missOf rfl rfl rfl ⟨rfl, nd_missOf⟩ ⟨Nat.le_of_ble_eq_true rfl, Nat.le_of_ble_eq_true rfl⟩) hI hA rfl hl.1 (Nat.le_of_ble_eq_true rfl) dX12_ahead_84 ⟨Nat.zero_le _, Nat.zero_le _⟩ (fun H locs hI => ?_)
            refine lv_goto (tgt := 119) hx hb dX12_ahead_87 (by decide) ?_
            refine lv_istore (lv' := [(5, .int x28.2), (0, .ref h), (1, .int a1), (2, .int a2), (3, .int a3), (4, .int a4)]) hx hb dX12_ahead_119 hl (by decide) rfl (fun ls hl => ?_)
            refine lv_aload_n hx hb dX12_ahead_121 rfl (lv_at hl 1 rfl) ?_
            obtain ⟨x30, hc31, hf⟩ := bnd_b hf
            refine mcall_v (As := []) (rest := []) (n := 0) ⟨hx, hb, hml, hown, hts⟩ (cm_putsBack l D h ad cy  x28.1 x30 hc31 _) (cwV 0 hts gX12_ahead_X12_putsBack rfl rfl rfl ⟨rfl, nd_putsBack⟩ ⟨Nat.le_of_ble_eq_true rfl, Nat.le_of_ble_eq_true rfl⟩) hI hA rfl hl.1 (Nat.le_of_ble_eq_true rfl) dX12_ahead_122 ⟨Nat.zero_le _, Nat.zero_le _⟩ (fun H locs hI => ?_)
            refine lv_iload hx hb dX12_ahead_125 (lv_at hl 0 rfl) ?_
            exact mret_i hx hb hr hlocks hI (ret_e hK0 hf) dX12_ahead_127
        · replace hf := ifp c14 hf
          refine lv_aload_n hx hb dX12_ahead_52 rfl (lv_at hl 0 rfl) ?_
          obtain ⟨x32, hc33, hf⟩ := bnd_b hf
          refine mcall_i (As := []) (rest := []) (n := 0) ⟨hx, hb, hml, hown, hts⟩ (cm_isMet l D h ad cy  x12 x32 hc33 _) (cwV 0 hts gX12_ahead_X12_isMet rfl rfl rfl ⟨rfl, nd_isMet⟩ ⟨Nat.le_of_ble_eq_true rfl, Nat.le_of_ble_eq_true rfl⟩) hI hA rfl hl.1 (Nat.le_of_ble_eq_true rfl) dX12_ahead_53 ⟨Nat.zero_le _, Nat.zero_le _⟩ (fun H locs hI => ?_)
          refine lv_if_eq (tgt := 68) hx hb dX12_ahead_56 (by decide) (fun c34 => ?_) (fun c34 => ?_)
          · replace hf := ifp c34 hf
            refine lv_bipush (v := -2) hx hb dX12_ahead_68 (by decide) ?_
            refine lv_goto (tgt := 119) hx hb dX12_ahead_70 (by decide) ?_
            refine lv_istore (lv' := [(5, .int (-2 : Int32)), (0, .ref h), (1, .int a1), (2, .int a2), (3, .int a3), (4, .int a4)]) hx hb dX12_ahead_119 hl (by decide) rfl (fun ls hl => ?_)
            refine lv_aload_n hx hb dX12_ahead_121 rfl (lv_at hl 1 rfl) ?_
            obtain ⟨x35, hc36, hf⟩ := bnd_b hf
            refine mcall_v (As := []) (rest := []) (n := 0) ⟨hx, hb, hml, hown, hts⟩ (cm_putsBack l D h ad cy  x32.1 x35 hc36 _) (cwV 0 hts gX12_ahead_X12_putsBack rfl rfl rfl ⟨rfl, nd_putsBack⟩ ⟨Nat.le_of_ble_eq_true rfl, Nat.le_of_ble_eq_true rfl⟩) hI hA rfl hl.1 (Nat.le_of_ble_eq_true rfl) dX12_ahead_122 ⟨Nat.zero_le _, Nat.zero_le _⟩ (fun H locs hI => ?_)
            refine lv_iload hx hb dX12_ahead_125 (lv_at hl 0 rfl) ?_
            exact mret_i hx hb hr hlocks hI (ret_e hK0 hf) dX12_ahead_127
          · replace hf := ifn c34 hf
            refine lv_aload_n hx hb dX12_ahead_59 rfl (lv_at hl 0 rfl) ?_
            refine mg_said hx hb hts hin hown k_said hI dX12_ahead_60 ?_
            refine lv_iconst (v := 1) hx hb dX12_ahead_63 (by decide) ?_
            obtain ⟨k37, hf⟩ := chk_b hf
            refine ml_said hx hb hI k37 dX12_ahead_64 ?_
            refine lv_goto (tgt := 119) hx hb dX12_ahead_65 (by decide) ?_
            refine lv_istore (lv' := [(5, .int (x32.1.2.1 26 (1 : Int32).toNatClampNeg)), (0, .ref h), (1, .int a1), (2, .int a2), (3, .int a3), (4, .int a4)]) hx hb dX12_ahead_119 hl (by decide) rfl (fun ls hl => ?_)
            refine lv_aload_n hx hb dX12_ahead_121 rfl (lv_at hl 1 rfl) ?_
            obtain ⟨x38, hc39, hf⟩ := bnd_b hf
            refine mcall_v (As := []) (rest := []) (n := 0) ⟨hx, hb, hml, hown, hts⟩ (cm_putsBack l D h ad cy  x32.1 x38 hc39 _) (cwV 0 hts gX12_ahead_X12_putsBack rfl rfl rfl ⟨rfl, nd_putsBack⟩ ⟨Nat.le_of_ble_eq_true rfl, Nat.le_of_ble_eq_true rfl⟩) hI hA rfl hl.1 (Nat.le_of_ble_eq_true rfl) dX12_ahead_122 ⟨Nat.zero_le _, Nat.zero_le _⟩ (fun H locs hI => ?_)
            refine lv_iload hx hb dX12_ahead_125 (lv_at hl 0 rfl) ?_
            exact mret_i hx hb hr hlocks hI (ret_e hK0 hf) dX12_ahead_127
      · replace hf := ifp c9 hf
        refine lv_iconst (v := -1) hx hb dX12_ahead_34 (by decide) ?_
        exact mret_i hx hb hr hlocks hI (ret_e hK0 hf) dX12_ahead_35
