noncomputable def fm_sum_j75 (st : MSt) : Option (MSt × Int32) :=
  some (st, (1 : Int32))
noncomputable def fm_sum_j46 (t0 : Int32) (st : MSt) : Option ((MSt × Int32) ⊕ ((MSt) ⊕ (MSt))) :=
  (fm_term (msi st 14 ((st.1 14) + (1 : Int32)))).bind fun x9 => (if x9.2 = 0 then some (.inl (x9.1, (0 : Int32))) else (fm_puts t0 (0 : Int32) x9.1).bind fun x12 => some (.inr (.inl x12)))
noncomputable def fm_sum_j27 (st : MSt) : Option ((MSt × Int32) ⊕ ((MSt) ⊕ (MSt))) :=
  chk (inb (st.1 14) 400) ((if (st.2.1 0 (st.1 14).toNatClampNeg) = (43 : Int32) then fm_sum_j46 (2 : Int32) st else fm_sum_j46 (3 : Int32) st))
noncomputable def fm_sum_s9 (st : MSt) : Option ((MSt × Int32) ⊕ ((MSt) ⊕ (MSt))) :=
  (fm_see st).bind fun x4 => (if x4.2 = (43 : Int32) then fm_sum_j27 x4.1 else (fm_see x4.1).bind fun x14 => (if x14.2 = (45 : Int32) then fm_sum_j27 x14.1 else some (.inr (.inr x14.1))))
noncomputable def fm_sum (s0 : MSt) : Option (MSt × Int32) :=
  (fm_term s0).bind fun x1 => (if x1.2 = 0 then some (x1.1, (0 : Int32)) else (iter (fun x : (MSt) => fm_sum_s9 x) mFuel x1.1).bind (Sum.elim (fun o : MSt × Int32 => (some o : Option (MSt × Int32))) (fun x : (MSt) => fm_sum_j75 x)))
theorem nd_sum : yX12_sum.cls ≠ "java/lang/invoke/MethodHandle" ∧ yX12_sum.cls ≠ "java/lang/invoke/VarHandle" ∧ (parseMethodDescriptor yX12_sum.desc).map (fun d => d.parameters.length) = some 0 := by decide +kernel
set_option maxHeartbeats 4000000 in
set_option maxRecDepth 100000 in
theorem cm_sum (l : Launch) (D : va_G) (h : Nat) (ad : Nat → Nat) (cy : Nat → ClassId)  (s0 : MSt) (out : MSt × Int32) (hf : fm_sum s0 = some out) (sz : Nat) : CMi l D h ad cy yX12_sum wsX12_sum { frames := 5, cells := 0, slots := 0, locals := 109 } [] s0 out sz := by
  refine Met.ofW (cc := cX12_sum) (maxL := 2) (ret := (some .boolean)) (by decide) rfl ?_
  intro p e s m args below meth c s₁ B hml hv
  obtain ⟨rfl, hsz, hP, hK, hD0⟩ := hv
  have hx := B.exec
  have hb := B.bytes
  have hr := B.returns
  have hts := atoms_spec (ws := wsX12_sum) B.pre
  have hown : s.vm.findClass RX12 = some m.cls := findClass_of_methodNamed B.named
  have hlocks := B.notSynchronized
  subst hsz
  have hI : MI D (MA h ad cy s0 s.heap.size) h ad cy s s.heap s0 s.heap [] := ⟨hK, hP, hD0.self, va_S.rf⟩
  have hA : ∀ q : Nat, s.heap.size ≤ q → MA h ad cy s0 s.heap.size q := fun q hq => Or.inr hq
  have hin : ∀ w ∈ u_ws RX12 TX12 42, w ∈ wsX12_sum := fun w hw => List.mem_cons_of_mem _ (List.mem_append_right _ hw)
  have k_next : Cond.fieldLink RX12 103 "HalfBridgeModel" "next" "I" ∈ wsX12_sum := by decide +kernel
  have k_tape : Cond.fieldLink RX12 7 "HalfBridgeModel" "tape" "[B" ∈ wsX12_sum := by decide +kernel
  have hl := lv_entry ([.ref h]) (n := 2) (Nat.le_of_ble_eq_true rfl)
  rw [lg_entry_eq]
  generalize (lg_sl ([.ref h]) ++ List.replicate (2 - (lg_sl ([.ref h])).length) Slot.unset).toArray = ls at hl ⊢
  have hl : lv_has ls 2 [(0, .ref h)] := hl
  obtain ⟨K0, hK0, hf⟩ := top_e hf
  have B_75 : ∀   (st : MSt) (H : Heap) (locs : List Loc) (ls : Array Slot), MI D (MA h ad cy s0 s.heap.size) h ad cy s s.heap st H locs → lv_has ls 2 [] → (fm_sum_j75 st).bind K0 = some out → W p l e (headSpec wsX12_sum { frames := 5, cells := 0, slots := 0, locals := 109 }).room s m (([.ref h] : List Value).toArray) below meth c H locs 0 0 (MQ below (MQi D h ad cy s0 out s.heap.size) ([.ref h] : List Value).toArray s 0 0 (MA h ad cy s0 s.heap.size)) (F0 m 75 ls []) := by
    intro st H locs ls hI hl hf
    unfold fm_sum_j75 at hf
    refine lv_iconst (v := 1) hx hb dX12_sum_75 (by decide) ?_
    exact mret_z hx hb hr (by decide) hlocks hI (ret_e hK0 hf) dX12_sum_76
  have L_9 : ∀  (n : Nat)  (st : MSt) (H : Heap) (locs : List Loc) (ls : Array Slot), MI D (MA h ad cy s0 s.heap.size) h ad cy s s.heap st H locs → lv_has ls 2 [(0, .ref h)] → (iter (fun x : (MSt) => fm_sum_s9 x) n st).bind (fun x => ((Sum.elim (fun o : MSt × Int32 => (some o : Option (MSt × Int32))) (fun x : (MSt) => fm_sum_j75 x)) x).bind K0) = some out → W p l e (headSpec wsX12_sum { frames := 5, cells := 0, slots := 0, locals := 109 }).room s m (([.ref h] : List Value).toArray) below meth c H locs 0 0 (MQ below (MQi D h ad cy s0 out s.heap.size) ([.ref h] : List Value).toArray s 0 0 (MA h ad cy s0 s.heap.size)) (F0 m 9 ls []) := by
    intro n
    induction n with
    | zero => intro st H locs ls hI hl hf; exact (iter_0 hf).elim
    | succ n ih =>
      intro st H locs ls hI hl hf
      obtain ⟨K1, hK1, hf⟩ := iter_e hf
      replace hf : (fm_sum_s9 st).bind K1 = some out := hf
      have B_9_46_1 : ∀  (t0 : Int32) (st : MSt) (H : Heap) (locs : List Loc) (ls : Array Slot), MI D (MA h ad cy s0 s.heap.size) h ad cy s s.heap st H locs → lv_has ls 2 [(0, .ref h)] → (fm_sum_j46 t0 st).bind K1 = some out → W p l e (headSpec wsX12_sum { frames := 5, cells := 0, slots := 0, locals := 109 }).room s m (([.ref h] : List Value).toArray) below meth c H locs 0 0 (MQ below (MQi D h ad cy s0 out s.heap.size) ([.ref h] : List Value).toArray s 0 0 (MA h ad cy s0 s.heap.size)) (F0 m 46 ls [.int t0]) := by
        intro t0 st H locs ls hI hl hf
        unfold fm_sum_j46 at hf
        refine lv_istore_n (lv' := [(1, .int t0), (0, .ref h)]) hx hb dX12_sum_46 rfl hl (by decide) rfl (fun ls hl => ?_)
        refine lv_aload_n hx hb dX12_sum_47 rfl (lv_at hl 1 rfl) ?_
        refine lv_dup hx hb dX12_sum_48 rfl ?_
        refine mg_next hx hb hts hin hown k_next hI dX12_sum_49 ?_
        refine lv_iconst (v := 1) hx hb dX12_sum_52 (by decide) ?_
        refine lv_iadd hx hb dX12_sum_53 ?_
        refine mp_next hx hb hts hin hown k_next hI dX12_sum_54 (fun H locs hI => ?_)
        refine lv_aload_n hx hb dX12_sum_57 rfl (lv_at hl 1 rfl) ?_
        obtain ⟨x9, hc10, hf⟩ := bnd_b hf
        refine mcall_i (As := []) (rest := []) (n := 0) ⟨hx, hb, hml, hown, hts⟩ (cm_term l D h ad cy  (msi st 14 ((st.1 14) + (1 : Int32))) x9 hc10 _) (cwV 0 hts gX12_sum_X12_term rfl rfl rfl ⟨rfl, nd_term⟩ ⟨Nat.le_of_ble_eq_true rfl, Nat.le_of_ble_eq_true rfl⟩) hI hA rfl hl.1 (Nat.le_of_ble_eq_true rfl) dX12_sum_58 ⟨Nat.zero_le _, Nat.zero_le _⟩ (fun H locs hI => ?_)
        refine lv_if_ne (tgt := 66) hx hb dX12_sum_61 (by decide) (fun c11 => ?_) (fun c11 => ?_)
        · replace hf := ifn c11 hf
          refine lv_aload_n hx hb dX12_sum_66 rfl (lv_at hl 1 rfl) ?_
          refine lv_iload_n hx hb dX12_sum_67 rfl (lv_at hl 0 rfl) ?_
          refine lv_iconst (v := 0) hx hb dX12_sum_68 (by decide) ?_
          obtain ⟨x12, hc13, hf⟩ := bnd_b hf
          refine mcall_v (As := [.int t0, .int (0 : Int32)]) (rest := []) (n := 2) ⟨hx, hb, hml, hown, hts⟩ (cm_puts l D h ad cy t0 (0 : Int32) x9.1 x12 hc13 _) (cwV 2 hts gX12_sum_X12_puts rfl rfl rfl ⟨rfl, nd_puts⟩ ⟨Nat.le_of_ble_eq_true rfl, Nat.le_of_ble_eq_true rfl⟩) hI hA rfl hl.1 (Nat.le_of_ble_eq_true rfl) dX12_sum_69 ⟨Nat.zero_le _, Nat.zero_le _⟩ (fun H locs hI => ?_)
          refine lv_goto (tgt := 9) hx hb dX12_sum_72 (by decide) ?_
          replace hf := cont_b hK1 hf
          exact ih x12 H locs ls hI (lv_sub hl [1] rfl) hf
        · replace hf := ifp c11 hf
          refine lv_iconst (v := 0) hx hb dX12_sum_64 (by decide) ?_
          replace hf := inl_b hK1 hf
          replace hf : Option.bind (some (x9.1, (0 : Int32))) K0 = some out := hf
          exact mret_z hx hb hr (by decide) hlocks hI (ret_e hK0 hf) dX12_sum_65
      have B_9_27 : ∀   (st : MSt) (H : Heap) (locs : List Loc) (ls : Array Slot), MI D (MA h ad cy s0 s.heap.size) h ad cy s s.heap st H locs → lv_has ls 2 [(0, .ref h)] → (fm_sum_j27 st).bind K1 = some out → W p l e (headSpec wsX12_sum { frames := 5, cells := 0, slots := 0, locals := 109 }).room s m (([.ref h] : List Value).toArray) below meth c H locs 0 0 (MQ below (MQi D h ad cy s0 out s.heap.size) ([.ref h] : List Value).toArray s 0 0 (MA h ad cy s0 s.heap.size)) (F0 m 27 ls []) := by
        intro st H locs ls hI hl hf
        unfold fm_sum_j27 at hf
        refine lv_aload_n hx hb dX12_sum_27 rfl (lv_at hl 0 rfl) ?_
        refine mg_tape hx hb hts hin hown k_tape hI dX12_sum_28 ?_
        refine lv_aload_n hx hb dX12_sum_31 rfl (lv_at hl 0 rfl) ?_
        refine mg_next hx hb hts hin hown k_next hI dX12_sum_32 ?_
        obtain ⟨k7, hf⟩ := chk_b hf
        refine ml_tape hx hb hI k7 dX12_sum_35 ?_
        refine lv_bipush (v := 43) hx hb dX12_sum_36 (by decide) ?_
        refine lv_icmp_ne (tgt := 45) hx hb dX12_sum_38 (by decide) (fun c8 => ?_) (fun c8 => ?_)
        · replace hf := ifn c8 hf
          refine lv_iconst (v := 3) hx hb dX12_sum_45 (by decide) ?_
          exact B_9_46_1 (3 : Int32) st H locs ls hI (lv_sub hl [0] rfl) hf
        · replace hf := ifp c8 hf
          refine lv_iconst (v := 2) hx hb dX12_sum_41 (by decide) ?_
          refine lv_goto (tgt := 46) hx hb dX12_sum_42 (by decide) ?_
          exact B_9_46_1 (2 : Int32) st H locs ls hI (lv_sub hl [0] rfl) hf
      unfold fm_sum_s9 at hf
      refine lv_aload_n hx hb dX12_sum_9 rfl (lv_at hl 0 rfl) ?_
      obtain ⟨x4, hc5, hf⟩ := bnd_b hf
      refine mcall_i (As := []) (rest := []) (n := 0) ⟨hx, hb, hml, hown, hts⟩ (cm_see l D h ad cy  st x4 hc5 _) (cwV 0 hts gX12_sum_X12_see rfl rfl rfl ⟨rfl, nd_see⟩ ⟨Nat.le_of_ble_eq_true rfl, Nat.le_of_ble_eq_true rfl⟩) hI hA rfl hl.1 (Nat.le_of_ble_eq_true rfl) dX12_sum_10 ⟨Nat.zero_le _, Nat.zero_le _⟩ (fun H locs hI => ?_)
      refine lv_bipush (v := 43) hx hb dX12_sum_13 (by decide) ?_
      refine lv_icmp_eq (tgt := 27) hx hb dX12_sum_15 (by decide) (fun c6 => ?_) (fun c6 => ?_)
      · replace hf := ifp c6 hf
        exact B_9_27  x4.1 H locs ls hI (lv_sub hl [0] rfl) hf
      · replace hf := ifn c6 hf
        refine lv_aload_n hx hb dX12_sum_18 rfl (lv_at hl 0 rfl) ?_
        obtain ⟨x14, hc15, hf⟩ := bnd_b hf
        refine mcall_i (As := []) (rest := []) (n := 0) ⟨hx, hb, hml, hown, hts⟩ (cm_see l D h ad cy  x4.1 x14 hc15 _) (cwV 0 hts gX12_sum_X12_see rfl rfl rfl ⟨rfl, nd_see⟩ ⟨Nat.le_of_ble_eq_true rfl, Nat.le_of_ble_eq_true rfl⟩) hI hA rfl hl.1 (Nat.le_of_ble_eq_true rfl) dX12_sum_19 ⟨Nat.zero_le _, Nat.zero_le _⟩ (fun H locs hI => ?_)
        refine lv_bipush (v := 45) hx hb dX12_sum_22 (by decide) ?_
        refine lv_icmp_ne (tgt := 75) hx hb dX12_sum_24 (by decide) (fun c16 => ?_) (fun c16 => ?_)
        · replace hf := ifn c16 hf
          replace hf := exit_b hK1 hf
          exact B_75  x14.1 H locs ls hI (lv_sub hl [] rfl) hf
        · replace hf := ifp c16 hf
          exact B_9_27  x14.1 H locs ls hI (lv_sub hl [0] rfl) hf
  unfold fm_sum at hf
  refine lv_aload_n hx hb dX12_sum_0 rfl (lv_at hl 0 rfl) ?_
  obtain ⟨x1, hc2, hf⟩ := bnd_b hf
  refine mcall_i (As := []) (rest := []) (n := 0) ⟨hx, hb, hml, hown, hts⟩ (cm_term l D h ad cy  s0 x1 hc2 _) (cwV 0 hts gX12_sum_X12_term rfl rfl rfl ⟨rfl, nd_term⟩ ⟨Nat.le_of_ble_eq_true rfl, Nat.le_of_ble_eq_true rfl⟩) hI hA rfl hl.1 (Nat.le_of_ble_eq_true rfl) dX12_sum_1 ⟨Nat.zero_le _, Nat.zero_le _⟩ (fun H locs hI => ?_)
  refine lv_if_ne (tgt := 9) hx hb dX12_sum_4 (by decide) (fun c3 => ?_) (fun c3 => ?_)
  · replace hf := ifn c3 hf
    exact L_9  mFuel x1.1 H locs ls hI (lv_sub hl [0] rfl) (asc_b hf)
  · replace hf := ifp c3 hf
    refine lv_iconst (v := 0) hx hb dX12_sum_7 (by decide) ?_
    exact mret_z hx hb hr (by decide) hlocks hI (ret_e hK0 hf) dX12_sum_8

noncomputable def fm_compare_j152 (t0 : Int32) (st : MSt) : Option (MSt × Int32) :=
  (fm_sum st).bind fun x15 => (if x15.2 = 0 then some (x15.1, (0 : Int32)) else (fm_puts ((6 : Int32) + t0) (0 : Int32) x15.1).bind fun x18 => some (x18, (1 : Int32)))
noncomputable def fm_compare_j105 (v1 : Int32) (v2 : Int32) (v3 : Int32) (st : MSt) : Option (MSt × Int32) :=
  (fm_makes v2 st).bind fun x9 => (if x9.2 = 0 then some (x9.1, (0 : Int32)) else (if v1 = (60 : Int32) then (if v3 = 0 then fm_compare_j152 (0 : Int32) x9.1 else fm_compare_j152 (1 : Int32) x9.1) else (if v1 = (61 : Int32) then fm_compare_j152 (2 : Int32) x9.1 else (if v3 = 0 then fm_compare_j152 (4 : Int32) x9.1 else fm_compare_j152 (3 : Int32) x9.1))))
noncomputable def fm_compare_j90 (v1 : Int32) (v2 : Int32) (t0 : Int32) (st : MSt) : Option (MSt × Int32) :=
  (if t0 = 0 then fm_compare_j105 v1 v2 t0 st else fm_compare_j105 v1 v2 t0 (msi st 14 ((st.1 14) + (1 : Int32))))
noncomputable def fm_compare_j89 (v1 : Int32) (v2 : Int32) (st : MSt) : Option (MSt × Int32) :=
  fm_compare_j90 v1 v2 (0 : Int32) st
noncomputable def fm_compare_j44 (v1 : Int32) (v2 : Int32) (st : MSt) : Option (MSt × Int32) :=
  (if v1 = (61 : Int32) then fm_compare_j89 v1 v2 (msi st 14 ((st.1 14) + (1 : Int32))) else (if ((msi st 14 ((st.1 14) + (1 : Int32))).1 1) ≤ ((msi st 14 ((st.1 14) + (1 : Int32))).1 14) then fm_compare_j89 v1 v2 (msi st 14 ((st.1 14) + (1 : Int32))) else chk (inb ((msi st 14 ((st.1 14) + (1 : Int32))).1 14) 400) ((if ((msi st 14 ((st.1 14) + (1 : Int32))).2.1 0 ((msi st 14 ((st.1 14) + (1 : Int32))).1 14).toNatClampNeg) = (61 : Int32) then fm_compare_j90 v1 v2 (1 : Int32) (msi st 14 ((st.1 14) + (1 : Int32))) else fm_compare_j89 v1 v2 (msi st 14 ((st.1 14) + (1 : Int32)))))))
noncomputable def fm_compare (s0 : MSt) : Option (MSt × Int32) :=
  (fm_sum s0).bind fun x1 => (if x1.2 = 0 then some (x1.1, (0 : Int32)) else (fm_see x1.1).bind fun x4 => (if x4.2 = (60 : Int32) then fm_compare_j44 x4.2 (x4.1.1 14) x4.1 else (if x4.2 = (61 : Int32) then fm_compare_j44 x4.2 (x4.1.1 14) x4.1 else (if x4.2 = (62 : Int32) then fm_compare_j44 x4.2 (x4.1.1 14) x4.1 else (fm_fails (0 : Int32) (x4.1.1 14) x4.1).bind fun x26 => chk (isb x26.2) (some (x26.1, x26.2))))))
theorem nd_compare : yX12_compare.cls ≠ "java/lang/invoke/MethodHandle" ∧ yX12_compare.cls ≠ "java/lang/invoke/VarHandle" ∧ (parseMethodDescriptor yX12_compare.desc).map (fun d => d.parameters.length) = some 0 := by decide +kernel
set_option maxHeartbeats 4000000 in
set_option maxRecDepth 100000 in
theorem cm_compare (l : Launch) (D : va_G) (h : Nat) (ad : Nat → Nat) (cy : Nat → ClassId)  (s0 : MSt) (out : MSt × Int32) (hf : fm_compare s0 = some out) (sz : Nat) : CMi l D h ad cy yX12_compare wsX12_compare { frames := 6, cells := 0, slots := 0, locals := 130 } [] s0 out sz := by
  refine Met.ofW (cc := cX12_compare) (maxL := 5) (ret := (some .boolean)) (by decide) rfl ?_
  intro p e s m args below meth c s₁ B hml hv
  obtain ⟨rfl, hsz, hP, hK, hD0⟩ := hv
  have hx := B.exec
  have hb := B.bytes
  have hr := B.returns
  have hts := atoms_spec (ws := wsX12_compare) B.pre
  have hown : s.vm.findClass RX12 = some m.cls := findClass_of_methodNamed B.named
  have hlocks := B.notSynchronized
  subst hsz
  have hI : MI D (MA h ad cy s0 s.heap.size) h ad cy s s.heap s0 s.heap [] := ⟨hK, hP, hD0.self, va_S.rf⟩
  have hA : ∀ q : Nat, s.heap.size ≤ q → MA h ad cy s0 s.heap.size q := fun q hq => Or.inr hq
  have hin : ∀ w ∈ u_ws RX12 TX12 42, w ∈ wsX12_compare := fun w hw => List.mem_cons_of_mem _ (List.mem_append_right _ hw)
  have k_next : Cond.fieldLink RX12 103 "HalfBridgeModel" "next" "I" ∈ wsX12_compare := by decide +kernel
  have k_tape : Cond.fieldLink RX12 7 "HalfBridgeModel" "tape" "[B" ∈ wsX12_compare := by decide +kernel
  have k_taped : Cond.fieldLink RX12 92 "HalfBridgeModel" "taped" "I" ∈ wsX12_compare := by decide +kernel
  have hl := lv_entry ([.ref h]) (n := 5) (Nat.le_of_ble_eq_true rfl)
  rw [lg_entry_eq]
  generalize (lg_sl ([.ref h]) ++ List.replicate (5 - (lg_sl ([.ref h])).length) Slot.unset).toArray = ls at hl ⊢
  have hl : lv_has ls 5 [(0, .ref h)] := hl
  obtain ⟨K0, hK0, hf⟩ := top_e hf
  have B_152_4 : ∀  (t0 : Int32) (st : MSt) (H : Heap) (locs : List Loc) (ls : Array Slot), MI D (MA h ad cy s0 s.heap.size) h ad cy s s.heap st H locs → lv_has ls 5 [(0, .ref h)] → (fm_compare_j152 t0 st).bind K0 = some out → W p l e (headSpec wsX12_compare { frames := 6, cells := 0, slots := 0, locals := 130 }).room s m (([.ref h] : List Value).toArray) below meth c H locs 0 0 (MQ below (MQi D h ad cy s0 out s.heap.size) ([.ref h] : List Value).toArray s 0 0 (MA h ad cy s0 s.heap.size)) (F0 m 152 ls [.int t0]) := by
    intro t0 st H locs ls hI hl hf
    unfold fm_compare_j152 at hf
    refine lv_istore (lv' := [(4, .int t0), (0, .ref h)]) hx hb dX12_compare_152 hl (by decide) rfl (fun ls hl => ?_)
    refine lv_aload_n hx hb dX12_compare_154 rfl (lv_at hl 1 rfl) ?_
    obtain ⟨x15, hc16, hf⟩ := bnd_b hf
    refine mcall_i (As := []) (rest := []) (n := 0) ⟨hx, hb, hml, hown, hts⟩ (cm_sum l D h ad cy  st x15 hc16 _) (cwV 0 hts gX12_compare_X12_sum rfl rfl rfl ⟨rfl, nd_sum⟩ ⟨Nat.le_of_ble_eq_true rfl, Nat.le_of_ble_eq_true rfl⟩) hI hA rfl hl.1 (Nat.le_of_ble_eq_true rfl) dX12_compare_155 ⟨Nat.zero_le _, Nat.zero_le _⟩ (fun H locs hI => ?_)
    refine lv_if_ne (tgt := 163) hx hb dX12_compare_158 (by decide) (fun c17 => ?_) (fun c17 => ?_)
    · replace hf := ifn c17 hf
      refine lv_aload_n hx hb dX12_compare_163 rfl (lv_at hl 1 rfl) ?_
      refine lv_bipush (v := 6) hx hb dX12_compare_164 (by decide) ?_
      refine lv_iload hx hb dX12_compare_166 (lv_at hl 0 rfl) ?_
      refine lv_iadd hx hb dX12_compare_168 ?_
      refine lv_iconst (v := 0) hx hb dX12_compare_169 (by decide) ?_
      obtain ⟨x18, hc19, hf⟩ := bnd_b hf
      refine mcall_v (As := [.int ((6 : Int32) + t0), .int (0 : Int32)]) (rest := []) (n := 2) ⟨hx, hb, hml, hown, hts⟩ (cm_puts l D h ad cy ((6 : Int32) + t0) (0 : Int32) x15.1 x18 hc19 _) (cwV 2 hts gX12_compare_X12_puts rfl rfl rfl ⟨rfl, nd_puts⟩ ⟨Nat.le_of_ble_eq_true rfl, Nat.le_of_ble_eq_true rfl⟩) hI hA rfl hl.1 (Nat.le_of_ble_eq_true rfl) dX12_compare_170 ⟨Nat.zero_le _, Nat.zero_le _⟩ (fun H locs hI => ?_)
      refine lv_iconst (v := 1) hx hb dX12_compare_173 (by decide) ?_
      exact mret_z hx hb hr (by decide) hlocks hI (ret_e hK0 hf) dX12_compare_174
    · replace hf := ifp c17 hf
      refine lv_iconst (v := 0) hx hb dX12_compare_161 (by decide) ?_
      exact mret_z hx hb hr (by decide) hlocks hI (ret_e hK0 hf) dX12_compare_162
  have B_105 : ∀ (v1 : Int32) (v2 : Int32) (v3 : Int32)  (st : MSt) (H : Heap) (locs : List Loc) (ls : Array Slot), MI D (MA h ad cy s0 s.heap.size) h ad cy s s.heap st H locs → lv_has ls 5 [(0, .ref h), (1, .int v1), (2, .int v2), (3, .int v3)] → (fm_compare_j105 v1 v2 v3 st).bind K0 = some out → W p l e (headSpec wsX12_compare { frames := 6, cells := 0, slots := 0, locals := 130 }).room s m (([.ref h] : List Value).toArray) below meth c H locs 0 0 (MQ below (MQi D h ad cy s0 out s.heap.size) ([.ref h] : List Value).toArray s 0 0 (MA h ad cy s0 s.heap.size)) (F0 m 105 ls []) := by
    intro v1 v2 v3 st H locs ls hI hl hf
    unfold fm_compare_j105 at hf
    refine lv_aload_n hx hb dX12_compare_105 rfl (lv_at hl 0 rfl) ?_
    refine lv_iload_n hx hb dX12_compare_106 rfl (lv_at hl 2 rfl) ?_
    obtain ⟨x9, hc10, hf⟩ := bnd_b hf
    refine mcall_i (As := [.int v2]) (rest := []) (n := 1) ⟨hx, hb, hml, hown, hts⟩ (cm_makes l D h ad cy v2 st x9 hc10 _) (cwV 1 hts gX12_compare_X12_makes rfl rfl rfl ⟨rfl, nd_makes⟩ ⟨Nat.le_of_ble_eq_true rfl, Nat.le_of_ble_eq_true rfl⟩) hI hA rfl hl.1 (Nat.le_of_ble_eq_true rfl) dX12_compare_107 ⟨Nat.zero_le _, Nat.zero_le _⟩ (fun H locs hI => ?_)
    refine lv_if_ne (tgt := 115) hx hb dX12_compare_110 (by decide) (fun c11 => ?_) (fun c11 => ?_)
    · replace hf := ifn c11 hf
      refine lv_iload_n hx hb dX12_compare_115 rfl (lv_at hl 1 rfl) ?_
      refine lv_bipush (v := 60) hx hb dX12_compare_116 (by decide) ?_
      refine lv_icmp_ne (tgt := 133) hx hb dX12_compare_118 (by decide) (fun c12 => ?_) (fun c12 => ?_)
      · replace hf := ifn c12 hf
        refine lv_iload_n hx hb dX12_compare_133 rfl (lv_at hl 1 rfl) ?_
        refine lv_bipush (v := 61) hx hb dX12_compare_134 (by decide) ?_
        refine lv_icmp_ne (tgt := 143) hx hb dX12_compare_136 (by decide) (fun c13 => ?_) (fun c13 => ?_)
        · replace hf := ifn c13 hf
          refine lv_iload_n hx hb dX12_compare_143 rfl (lv_at hl 3 rfl) ?_
          refine lv_if_eq (tgt := 151) hx hb dX12_compare_144 (by decide) (fun c14 => ?_) (fun c14 => ?_)
          · replace hf := ifp c14 hf
            refine lv_iconst (v := 4) hx hb dX12_compare_151 (by decide) ?_
            exact B_152_4 (4 : Int32) x9.1 H locs ls hI (lv_sub hl [0] rfl) hf
          · replace hf := ifn c14 hf
            refine lv_iconst (v := 3) hx hb dX12_compare_147 (by decide) ?_
            refine lv_goto (tgt := 152) hx hb dX12_compare_148 (by decide) ?_
            exact B_152_4 (3 : Int32) x9.1 H locs ls hI (lv_sub hl [0] rfl) hf
        · replace hf := ifp c13 hf
          refine lv_iconst (v := 2) hx hb dX12_compare_139 (by decide) ?_
          refine lv_goto (tgt := 152) hx hb dX12_compare_140 (by decide) ?_
          exact B_152_4 (2 : Int32) x9.1 H locs ls hI (lv_sub hl [0] rfl) hf
      · replace hf := ifp c12 hf
        refine lv_iload_n hx hb dX12_compare_121 rfl (lv_at hl 3 rfl) ?_
        refine lv_if_eq (tgt := 129) hx hb dX12_compare_122 (by decide) (fun c20 => ?_) (fun c20 => ?_)
        · replace hf := ifp c20 hf
          refine lv_iconst (v := 0) hx hb dX12_compare_129 (by decide) ?_
          refine lv_goto (tgt := 152) hx hb dX12_compare_130 (by decide) ?_
          exact B_152_4 (0 : Int32) x9.1 H locs ls hI (lv_sub hl [0] rfl) hf
        · replace hf := ifn c20 hf
          refine lv_iconst (v := 1) hx hb dX12_compare_125 (by decide) ?_
          refine lv_goto (tgt := 152) hx hb dX12_compare_126 (by decide) ?_
          exact B_152_4 (1 : Int32) x9.1 H locs ls hI (lv_sub hl [0] rfl) hf
    · replace hf := ifp c11 hf
      refine lv_iconst (v := 0) hx hb dX12_compare_113 (by decide) ?_
      exact mret_z hx hb hr (by decide) hlocks hI (ret_e hK0 hf) dX12_compare_114
  have B_90_2 : ∀ (v1 : Int32) (v2 : Int32) (t0 : Int32) (st : MSt) (H : Heap) (locs : List Loc) (ls : Array Slot), MI D (MA h ad cy s0 s.heap.size) h ad cy s s.heap st H locs → lv_has ls 5 [(0, .ref h), (1, .int v1), (2, .int v2)] → (fm_compare_j90 v1 v2 t0 st).bind K0 = some out → W p l e (headSpec wsX12_compare { frames := 6, cells := 0, slots := 0, locals := 130 }).room s m (([.ref h] : List Value).toArray) below meth c H locs 0 0 (MQ below (MQi D h ad cy s0 out s.heap.size) ([.ref h] : List Value).toArray s 0 0 (MA h ad cy s0 s.heap.size)) (F0 m 90 ls [.int t0]) := by
    intro v1 v2 t0 st H locs ls hI hl hf
    unfold fm_compare_j90 at hf
    refine lv_istore_n (lv' := [(3, .int t0), (0, .ref h), (1, .int v1), (2, .int v2)]) hx hb dX12_compare_90 rfl hl (by decide) rfl (fun ls hl => ?_)
    refine lv_iload_n hx hb dX12_compare_91 rfl (lv_at hl 0 rfl) ?_
    refine lv_if_eq (tgt := 105) hx hb dX12_compare_92 (by decide) (fun c8 => ?_) (fun c8 => ?_)
    · replace hf := ifp c8 hf
      exact B_105 v1 v2 t0 st H locs ls hI (lv_sub hl [1, 2, 3, 0] rfl) hf
    · replace hf := ifn c8 hf
      refine lv_aload_n hx hb dX12_compare_95 rfl (lv_at hl 1 rfl) ?_
      refine lv_dup hx hb dX12_compare_96 rfl ?_
      refine mg_next hx hb hts hin hown k_next hI dX12_compare_97 ?_
      refine lv_iconst (v := 1) hx hb dX12_compare_100 (by decide) ?_
      refine lv_iadd hx hb dX12_compare_101 ?_
      refine mp_next hx hb hts hin hown k_next hI dX12_compare_102 (fun H locs hI => ?_)
      exact B_105 v1 v2 t0 (msi st 14 ((st.1 14) + (1 : Int32))) H locs ls hI (lv_sub hl [1, 2, 3, 0] rfl) hf
  have B_89 : ∀ (v1 : Int32) (v2 : Int32)  (st : MSt) (H : Heap) (locs : List Loc) (ls : Array Slot), MI D (MA h ad cy s0 s.heap.size) h ad cy s s.heap st H locs → lv_has ls 5 [(0, .ref h), (1, .int v1), (2, .int v2)] → (fm_compare_j89 v1 v2 st).bind K0 = some out → W p l e (headSpec wsX12_compare { frames := 6, cells := 0, slots := 0, locals := 130 }).room s m (([.ref h] : List Value).toArray) below meth c H locs 0 0 (MQ below (MQi D h ad cy s0 out s.heap.size) ([.ref h] : List Value).toArray s 0 0 (MA h ad cy s0 s.heap.size)) (F0 m 89 ls []) := by
    intro v1 v2 st H locs ls hI hl hf
    unfold fm_compare_j89 at hf
    refine lv_iconst (v := 0) hx hb dX12_compare_89 (by decide) ?_
    exact B_90_2 v1 v2 (0 : Int32) st H locs ls hI (lv_sub hl [0, 1, 2] rfl) hf
  have B_44 : ∀ (v1 : Int32) (v2 : Int32)  (st : MSt) (H : Heap) (locs : List Loc) (ls : Array Slot), MI D (MA h ad cy s0 s.heap.size) h ad cy s s.heap st H locs → lv_has ls 5 [(0, .ref h), (1, .int v1), (2, .int v2)] → (fm_compare_j44 v1 v2 st).bind K0 = some out → W p l e (headSpec wsX12_compare { frames := 6, cells := 0, slots := 0, locals := 130 }).room s m (([.ref h] : List Value).toArray) below meth c H locs 0 0 (MQ below (MQi D h ad cy s0 out s.heap.size) ([.ref h] : List Value).toArray s 0 0 (MA h ad cy s0 s.heap.size)) (F0 m 44 ls []) := by
    intro v1 v2 st H locs ls hI hl hf
    unfold fm_compare_j44 at hf
    refine lv_aload_n hx hb dX12_compare_44 rfl (lv_at hl 0 rfl) ?_
    refine lv_dup hx hb dX12_compare_45 rfl ?_
    refine mg_next hx hb hts hin hown k_next hI dX12_compare_46 ?_
    refine lv_iconst (v := 1) hx hb dX12_compare_49 (by decide) ?_
    refine lv_iadd hx hb dX12_compare_50 ?_
    refine mp_next hx hb hts hin hown k_next hI dX12_compare_51 (fun H locs hI => ?_)
    refine lv_iload_n hx hb dX12_compare_54 rfl (lv_at hl 1 rfl) ?_
    refine lv_bipush (v := 61) hx hb dX12_compare_55 (by decide) ?_
    refine lv_icmp_eq (tgt := 89) hx hb dX12_compare_57 (by decide) (fun c7 => ?_) (fun c7 => ?_)
    · replace hf := ifp c7 hf
      exact B_89 v1 v2 (msi st 14 ((st.1 14) + (1 : Int32))) H locs ls hI (lv_sub hl [0, 1, 2] rfl) hf
    · replace hf := ifn c7 hf
      refine lv_aload_n hx hb dX12_compare_60 rfl (lv_at hl 0 rfl) ?_
      refine mg_next hx hb hts hin hown k_next hI dX12_compare_61 ?_
      refine lv_aload_n hx hb dX12_compare_64 rfl (lv_at hl 0 rfl) ?_
      refine mg_taped hx hb hts hin hown k_taped hI dX12_compare_65 ?_
      refine lv_icmp_ge (tgt := 89) hx hb dX12_compare_68 (by decide) (fun c21 => ?_) (fun c21 => ?_)
      · replace hf := ifp c21 hf
        exact B_89 v1 v2 (msi st 14 ((st.1 14) + (1 : Int32))) H locs ls hI (lv_sub hl [0, 1, 2] rfl) hf
      · replace hf := ifn c21 hf
        refine lv_aload_n hx hb dX12_compare_71 rfl (lv_at hl 0 rfl) ?_
        refine mg_tape hx hb hts hin hown k_tape hI dX12_compare_72 ?_
        refine lv_aload_n hx hb dX12_compare_75 rfl (lv_at hl 0 rfl) ?_
        refine mg_next hx hb hts hin hown k_next hI dX12_compare_76 ?_
        obtain ⟨k22, hf⟩ := chk_b hf
        refine ml_tape hx hb hI k22 dX12_compare_79 ?_
        refine lv_bipush (v := 61) hx hb dX12_compare_80 (by decide) ?_
        refine lv_icmp_ne (tgt := 89) hx hb dX12_compare_82 (by decide) (fun c23 => ?_) (fun c23 => ?_)
        · replace hf := ifn c23 hf
          exact B_89 v1 v2 (msi st 14 ((st.1 14) + (1 : Int32))) H locs ls hI (lv_sub hl [0, 1, 2] rfl) hf
        · replace hf := ifp c23 hf
          refine lv_iconst (v := 1) hx hb dX12_compare_85 (by decide) ?_
          refine lv_goto (tgt := 90) hx hb dX12_compare_86 (by decide) ?_
          exact B_90_2 v1 v2 (1 : Int32) (msi st 14 ((st.1 14) + (1 : Int32))) H locs ls hI (lv_sub hl [0, 1, 2] rfl) hf
  unfold fm_compare at hf
  refine lv_aload_n hx hb dX12_compare_0 rfl (lv_at hl 0 rfl) ?_
  obtain ⟨x1, hc2, hf⟩ := bnd_b hf
  refine mcall_i (As := []) (rest := []) (n := 0) ⟨hx, hb, hml, hown, hts⟩ (cm_sum l D h ad cy  s0 x1 hc2 _) (cwV 0 hts gX12_compare_X12_sum rfl rfl rfl ⟨rfl, nd_sum⟩ ⟨Nat.le_of_ble_eq_true rfl, Nat.le_of_ble_eq_true rfl⟩) hI hA rfl hl.1 (Nat.le_of_ble_eq_true rfl) dX12_compare_1 ⟨Nat.zero_le _, Nat.zero_le _⟩ (fun H locs hI => ?_)
  refine lv_if_ne (tgt := 9) hx hb dX12_compare_4 (by decide) (fun c3 => ?_) (fun c3 => ?_)
  · replace hf := ifn c3 hf
    refine lv_aload_n hx hb dX12_compare_9 rfl (lv_at hl 0 rfl) ?_
    obtain ⟨x4, hc5, hf⟩ := bnd_b hf
    refine mcall_i (As := []) (rest := []) (n := 0) ⟨hx, hb, hml, hown, hts⟩ (cm_see l D h ad cy  x1.1 x4 hc5 _) (cwV 0 hts gX12_compare_X12_see rfl rfl rfl ⟨rfl, nd_see⟩ ⟨Nat.le_of_ble_eq_true rfl, Nat.le_of_ble_eq_true rfl⟩) hI hA rfl hl.1 (Nat.le_of_ble_eq_true rfl) dX12_compare_10 ⟨Nat.zero_le _, Nat.zero_le _⟩ (fun H locs hI => ?_)
    refine lv_istore_n (lv' := [(1, .int x4.2), (0, .ref h)]) hx hb dX12_compare_13 rfl hl (by decide) rfl (fun ls hl => ?_)
    refine lv_aload_n hx hb dX12_compare_14 rfl (lv_at hl 1 rfl) ?_
    refine mg_next hx hb hts hin hown k_next hI dX12_compare_15 ?_
    refine lv_istore_n (lv' := [(2, .int (x4.1.1 14)), (1, .int x4.2), (0, .ref h)]) hx hb dX12_compare_18 rfl hl (by decide) rfl (fun ls hl => ?_)
    refine lv_iload_n hx hb dX12_compare_19 rfl (lv_at hl 1 rfl) ?_
    refine lv_bipush (v := 60) hx hb dX12_compare_20 (by decide) ?_
    refine lv_icmp_eq (tgt := 44) hx hb dX12_compare_22 (by decide) (fun c6 => ?_) (fun c6 => ?_)
    · replace hf := ifp c6 hf
      exact B_44 x4.2 (x4.1.1 14) x4.1 H locs ls hI (lv_sub hl [2, 1, 0] rfl) hf
    · replace hf := ifn c6 hf
      refine lv_iload_n hx hb dX12_compare_25 rfl (lv_at hl 1 rfl) ?_
      refine lv_bipush (v := 61) hx hb dX12_compare_26 (by decide) ?_
      refine lv_icmp_eq (tgt := 44) hx hb dX12_compare_28 (by decide) (fun c24 => ?_) (fun c24 => ?_)
      · replace hf := ifp c24 hf
        exact B_44 x4.2 (x4.1.1 14) x4.1 H locs ls hI (lv_sub hl [2, 1, 0] rfl) hf
      · replace hf := ifn c24 hf
        refine lv_iload_n hx hb dX12_compare_31 rfl (lv_at hl 1 rfl) ?_
        refine lv_bipush (v := 62) hx hb dX12_compare_32 (by decide) ?_
        refine lv_icmp_eq (tgt := 44) hx hb dX12_compare_34 (by decide) (fun c25 => ?_) (fun c25 => ?_)
        · replace hf := ifp c25 hf
          exact B_44 x4.2 (x4.1.1 14) x4.1 H locs ls hI (lv_sub hl [2, 1, 0] rfl) hf
        · replace hf := ifn c25 hf
          refine lv_aload_n hx hb dX12_compare_37 rfl (lv_at hl 2 rfl) ?_
          refine lv_iconst (v := 0) hx hb dX12_compare_38 (by decide) ?_
          refine lv_iload_n hx hb dX12_compare_39 rfl (lv_at hl 0 rfl) ?_
          obtain ⟨x26, hc27, hf⟩ := bnd_b hf
          refine mcall_i (As := [.int (0 : Int32), .int (x4.1.1 14)]) (rest := []) (n := 2) ⟨hx, hb, hml, hown, hts⟩ (cm_fails l D h ad cy (0 : Int32) (x4.1.1 14) x4.1 x26 hc27 _) (cwV 2 hts gX12_compare_X12_fails rfl rfl rfl ⟨rfl, nd_fails⟩ ⟨Nat.le_of_ble_eq_true rfl, Nat.le_of_ble_eq_true rfl⟩) hI hA rfl hl.1 (Nat.le_of_ble_eq_true rfl) dX12_compare_40 ⟨Nat.zero_le _, Nat.zero_le _⟩ (fun H locs hI => ?_)
          obtain ⟨k28, hf⟩ := chk_b hf
          exact mret_z hx hb hr (isb_nar k28) hlocks hI (ret_e hK0 hf) dX12_compare_43
  · replace hf := ifp c3 hf
    refine lv_iconst (v := 0) hx hb dX12_compare_7 (by decide) ?_
    exact mret_z hx hb hr (by decide) hlocks hI (ret_e hK0 hf) dX12_compare_8
