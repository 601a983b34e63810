noncomputable def fm_fact_j75 (st : MSt) : Option (MSt × Int32) :=
  (fm_compare st).bind fun x1 => chk (isb x1.2) (some (x1.1, x1.2))
noncomputable def fm_fact_s2 (v1 : Int32) (st : MSt) : Option ((MSt × Int32) ⊕ ((Int32 × MSt) ⊕ (Int32 × MSt))) :=
  (if v1 = 0 then some (.inr (.inr (v1, st))) else (fm_see st).bind fun x5 => (fm_isWord (7237492 : Int64) x5.1).bind fun x7 => (if x7.2 = 0 then (if x5.2 = (91 : Int32) then (fm_opens (91 : Int32) x7.1).bind fun x11 => (if x11.2 = 0 then some (.inl (x11.1, (0 : Int32))) else some (.inr (.inl ((1 : Int32), msi x11.1 14 ((x11.1.1 14) + (1 : Int32)))))) else some (.inr (.inl ((0 : Int32), x7.1)))) else (fm_opens (11 : Int32) x7.1).bind fun x14 => (if x14.2 = 0 then some (.inl (x14.1, (0 : Int32))) else (fm_passWord x14.1).bind fun x17 => some (.inr (.inl ((1 : Int32), x17))))))
noncomputable def fm_fact (s0 : MSt) : Option (MSt × Int32) :=
  (iter (fun x : (Int32 × MSt) => fm_fact_s2 x.1 x.2) mFuel ((1 : Int32), s0)).bind (Sum.elim (fun o : MSt × Int32 => (some o : Option (MSt × Int32))) (fun x : (Int32 × MSt) => fm_fact_j75 x.2))
theorem nd_fact : yX12_fact.cls ≠ "java/lang/invoke/MethodHandle" ∧ yX12_fact.cls ≠ "java/lang/invoke/VarHandle" ∧ (parseMethodDescriptor yX12_fact.desc).map (fun d => d.parameters.length) = some 0 := by decide +kernel
set_option maxHeartbeats 4000000 in
set_option maxRecDepth 100000 in
theorem cm_fact (l : Launch) (D : va_G) (h : Nat) (ad : Nat → Nat) (cy : Nat → ClassId)  (s0 : MSt) (out : MSt × Int32) (hf : fm_fact s0 = some out) (sz : Nat) : CMi l D h ad cy yX12_fact wsX12_fact { frames := 7, cells := 0, slots := 0, locals := 154 } [] s0 out sz := by
  refine Met.ofW (cc := cX12_fact) (maxL := 3) (ret := (some .boolean)) (by decide) rfl ?_
  intro p e s m args below meth c s₁ B hml hv
  obtain ⟨rfl, hsz, hP, hK, hD0⟩ := hv
  have hx := B.exec
  have hb := B.bytes
  have hr := B.returns
  have hts := atoms_spec (ws := wsX12_fact) B.pre
  have hown : s.vm.findClass RX12 = some m.cls := findClass_of_methodNamed B.named
  have hlocks := B.notSynchronized
  subst hsz
  have hI : MI D (MA h ad cy s0 s.heap.size) h ad cy s s.heap s0 s.heap [] := ⟨hK, hP, hD0.self, va_S.rf⟩
  have hA : ∀ q : Nat, s.heap.size ≤ q → MA h ad cy s0 s.heap.size q := fun q hq => Or.inr hq
  have hin : ∀ w ∈ u_ws RX12 TX12 42, w ∈ wsX12_fact := fun w hw => List.mem_cons_of_mem _ (List.mem_append_right _ hw)
  have k_next : Cond.fieldLink RX12 103 "HalfBridgeModel" "next" "I" ∈ wsX12_fact := by decide +kernel
  have hl := lv_entry ([.ref h]) (n := 3) (Nat.le_of_ble_eq_true rfl)
  rw [lg_entry_eq]
  generalize (lg_sl ([.ref h]) ++ List.replicate (3 - (lg_sl ([.ref h])).length) Slot.unset).toArray = ls at hl ⊢
  have hl : lv_has ls 3 [(0, .ref h)] := hl
  obtain ⟨K0, hK0, hf⟩ := top_e hf
  have B_75 : ∀   (st : MSt) (H : Heap) (locs : List Loc) (ls : Array Slot), MI D (MA h ad cy s0 s.heap.size) h ad cy s s.heap st H locs → lv_has ls 3 [(0, .ref h)] → (fm_fact_j75 st).bind K0 = some out → W p l e (headSpec wsX12_fact { frames := 7, cells := 0, slots := 0, locals := 154 }).room s m (([.ref h] : List Value).toArray) below meth c H locs 0 0 (MQ below (MQi D h ad cy s0 out s.heap.size) ([.ref h] : List Value).toArray s 0 0 (MA h ad cy s0 s.heap.size)) (F0 m 75 ls []) := by
    intro st H locs ls hI hl hf
    unfold fm_fact_j75 at hf
    refine lv_aload_n hx hb dX12_fact_75 rfl (lv_at hl 0 rfl) ?_
    obtain ⟨x1, hc2, hf⟩ := bnd_b hf
    refine mcall_i (As := []) (rest := []) (n := 0) ⟨hx, hb, hml, hown, hts⟩ (cm_compare l D h ad cy  st x1 hc2 _) (cwV 0 hts gX12_fact_X12_compare rfl rfl rfl ⟨rfl, nd_compare⟩ ⟨Nat.le_of_ble_eq_true rfl, Nat.le_of_ble_eq_true rfl⟩) hI hA rfl hl.1 (Nat.le_of_ble_eq_true rfl) dX12_fact_76 ⟨Nat.zero_le _, Nat.zero_le _⟩ (fun H locs hI => ?_)
    obtain ⟨k3, hf⟩ := chk_b hf
    exact mret_z hx hb hr (isb_nar k3) hlocks hI (ret_e hK0 hf) dX12_fact_79
  have L_2 : ∀  (n : Nat) (v1 : Int32) (st : MSt) (H : Heap) (locs : List Loc) (ls : Array Slot), MI D (MA h ad cy s0 s.heap.size) h ad cy s s.heap st H locs → lv_has ls 3 [(0, .ref h), (1, .int v1)] → (iter (fun x : (Int32 × MSt) => fm_fact_s2 x.1 x.2) n (v1, st)).bind (fun x => ((Sum.elim (fun o : MSt × Int32 => (some o : Option (MSt × Int32))) (fun x : (Int32 × MSt) => fm_fact_j75 x.2)) x).bind K0) = some out → W p l e (headSpec wsX12_fact { frames := 7, cells := 0, slots := 0, locals := 154 }).room s m (([.ref h] : List Value).toArray) below meth c H locs 0 0 (MQ below (MQi D h ad cy s0 out s.heap.size) ([.ref h] : List Value).toArray s 0 0 (MA h ad cy s0 s.heap.size)) (F0 m 2 ls []) := by
    intro n
    induction n with
    | zero => intro v1 st H locs ls hI hl hf; exact (iter_0 hf).elim
    | succ n ih =>
      intro v1 st H locs ls hI hl hf
      obtain ⟨K1, hK1, hf⟩ := iter_e hf
      replace hf : (fm_fact_s2 v1 st).bind K1 = some out := hf
      unfold fm_fact_s2 at hf
      refine lv_iload_n hx hb dX12_fact_2 rfl (lv_at hl 1 rfl) ?_
      refine lv_if_eq (tgt := 75) hx hb dX12_fact_3 (by decide) (fun c4 => ?_) (fun c4 => ?_)
      · replace hf := ifp c4 hf
        replace hf := exit_b hK1 hf
        exact B_75  st H locs ls hI (lv_sub hl [0] rfl) hf
      · replace hf := ifn c4 hf
        refine lv_iconst (v := 0) hx hb dX12_fact_6 (by decide) ?_
        refine lv_istore_n (lv' := [(1, .int (0 : Int32)), (0, .ref h)]) hx hb dX12_fact_7 rfl hl (by decide) rfl (fun ls hl => ?_)
        refine lv_aload_n hx hb dX12_fact_8 rfl (lv_at hl 1 rfl) ?_
        obtain ⟨x5, hc6, hf⟩ := bnd_b hf
        refine mcall_i (As := []) (rest := []) (n := 0) ⟨hx, hb, hml, hown, hts⟩ (cm_see l D h ad cy  st x5 hc6 _) (cwV 0 hts gX12_fact_X12_see rfl rfl rfl ⟨rfl, nd_see⟩ ⟨Nat.le_of_ble_eq_true rfl, Nat.le_of_ble_eq_true rfl⟩) hI hA rfl hl.1 (Nat.le_of_ble_eq_true rfl) dX12_fact_9 ⟨Nat.zero_le _, Nat.zero_le _⟩ (fun H locs hI => ?_)
        refine lv_istore_n (lv' := [(2, .int x5.2), (1, .int (0 : Int32)), (0, .ref h)]) hx hb dX12_fact_12 rfl hl (by decide) rfl (fun ls hl => ?_)
        refine lv_aload_n hx hb dX12_fact_13 rfl (lv_at hl 2 rfl) ?_
        refine lv_ldc2 (v := 7237492) hx hb hown (hts (.constantLong RX12 193 (7237492)) (by decide +kernel)) dX12_fact_14 ?_
        obtain ⟨x7, hc8, hf⟩ := bnd_b hf
        refine mcall_i (As := [.long (7237492 : Int64)]) (rest := []) (n := 1) ⟨hx, hb, hml, hown, hts⟩ (cm_isWord l D h ad cy (7237492 : Int64) x5.1 x7 hc8 _) (cwV 1 hts gX12_fact_X12_isWord rfl rfl rfl ⟨rfl, nd_isWord⟩ ⟨Nat.le_of_ble_eq_true rfl, Nat.le_of_ble_eq_true rfl⟩) hI hA rfl hl.1 (Nat.le_of_ble_eq_true rfl) dX12_fact_17 ⟨Nat.zero_le _, Nat.zero_le _⟩ (fun H locs hI => ?_)
        refine lv_if_eq (tgt := 43) hx hb dX12_fact_20 (by decide) (fun c9 => ?_) (fun c9 => ?_)
        · replace hf := ifp c9 hf
          refine lv_iload_n hx hb dX12_fact_43 rfl (lv_at hl 0 rfl) ?_
          refine lv_bipush (v := 91) hx hb dX12_fact_44 (by decide) ?_
          refine lv_icmp_ne (tgt := 72) hx hb dX12_fact_46 (by decide) (fun c10 => ?_) (fun c10 => ?_)
          · replace hf := ifn c10 hf
            refine lv_goto (tgt := 2) hx hb dX12_fact_72 (by decide) ?_
            replace hf := cont_b hK1 hf
            exact ih (0 : Int32) x7.1 H locs ls hI (lv_sub hl [2, 1] rfl) hf
          · replace hf := ifp c10 hf
            refine lv_aload_n hx hb dX12_fact_49 rfl (lv_at hl 2 rfl) ?_
            refine lv_bipush (v := 91) hx hb dX12_fact_50 (by decide) ?_
            obtain ⟨x11, hc12, hf⟩ := bnd_b hf
            refine mcall_i (As := [.int (91 : Int32)]) (rest := []) (n := 1) ⟨hx, hb, hml, hown, hts⟩ (cm_opens l D h ad cy (91 : Int32) x7.1 x11 hc12 _) (cwV 1 hts gX12_fact_X12_opens rfl rfl rfl ⟨rfl, nd_opens⟩ ⟨Nat.le_of_ble_eq_true rfl, Nat.le_of_ble_eq_true rfl⟩) hI hA rfl hl.1 (Nat.le_of_ble_eq_true rfl) dX12_fact_52 ⟨Nat.zero_le _, Nat.zero_le _⟩ (fun H locs hI => ?_)
            refine lv_if_ne (tgt := 60) hx hb dX12_fact_55 (by decide) (fun c13 => ?_) (fun c13 => ?_)
            · replace hf := ifn c13 hf
              refine lv_aload_n hx hb dX12_fact_60 rfl (lv_at hl 2 rfl) ?_
              refine lv_dup hx hb dX12_fact_61 rfl ?_
              refine mg_next hx hb hts hin hown k_next hI dX12_fact_62 ?_
              refine lv_iconst (v := 1) hx hb dX12_fact_65 (by decide) ?_
              refine lv_iadd hx hb dX12_fact_66 ?_
              refine mp_next hx hb hts hin hown k_next hI dX12_fact_67 (fun H locs hI => ?_)
              refine lv_iconst (v := 1) hx hb dX12_fact_70 (by decide) ?_
              refine lv_istore_n (lv' := [(1, .int (1 : Int32)), (2, .int x5.2), (0, .ref h)]) hx hb dX12_fact_71 rfl hl (by decide) rfl (fun ls hl => ?_)
              refine lv_goto (tgt := 2) hx hb dX12_fact_72 (by decide) ?_
              replace hf := cont_b hK1 hf
              exact ih (1 : Int32) (msi x11.1 14 ((x11.1.1 14) + (1 : Int32))) H locs ls hI (lv_sub hl [2, 0] rfl) hf
            · replace hf := ifp c13 hf
              refine lv_iconst (v := 0) hx hb dX12_fact_58 (by decide) ?_
              replace hf := inl_b hK1 hf
              replace hf : Option.bind (some (x11.1, (0 : Int32))) K0 = some out := hf
              exact mret_z hx hb hr (by decide) hlocks hI (ret_e hK0 hf) dX12_fact_59
        · replace hf := ifn c9 hf
          refine lv_aload_n hx hb dX12_fact_23 rfl (lv_at hl 2 rfl) ?_
          refine lv_bipush (v := 11) hx hb dX12_fact_24 (by decide) ?_
          obtain ⟨x14, hc15, hf⟩ := bnd_b hf
          refine mcall_i (As := [.int (11 : Int32)]) (rest := []) (n := 1) ⟨hx, hb, hml, hown, hts⟩ (cm_opens l D h ad cy (11 : Int32) x7.1 x14 hc15 _) (cwV 1 hts gX12_fact_X12_opens rfl rfl rfl ⟨rfl, nd_opens⟩ ⟨Nat.le_of_ble_eq_true rfl, Nat.le_of_ble_eq_true rfl⟩) hI hA rfl hl.1 (Nat.le_of_ble_eq_true rfl) dX12_fact_26 ⟨Nat.zero_le _, Nat.zero_le _⟩ (fun H locs hI => ?_)
          refine lv_if_ne (tgt := 34) hx hb dX12_fact_29 (by decide) (fun c16 => ?_) (fun c16 => ?_)
          · replace hf := ifn c16 hf
            refine lv_aload_n hx hb dX12_fact_34 rfl (lv_at hl 2 rfl) ?_
            obtain ⟨x17, hc18, hf⟩ := bnd_b hf
            refine mcall_v (As := []) (rest := []) (n := 0) ⟨hx, hb, hml, hown, hts⟩ (cm_passWord l D h ad cy  x14.1 x17 hc18 _) (cwV 0 hts gX12_fact_X12_passWord rfl rfl rfl ⟨rfl, nd_passWord⟩ ⟨Nat.le_of_ble_eq_true rfl, Nat.le_of_ble_eq_true rfl⟩) hI hA rfl hl.1 (Nat.le_of_ble_eq_true rfl) dX12_fact_35 ⟨Nat.zero_le _, Nat.zero_le _⟩ (fun H locs hI => ?_)
            refine lv_iconst (v := 1) hx hb dX12_fact_38 (by decide) ?_
            refine lv_istore_n (lv' := [(1, .int (1 : Int32)), (2, .int x5.2), (0, .ref h)]) hx hb dX12_fact_39 rfl hl (by decide) rfl (fun ls hl => ?_)
            refine lv_goto (tgt := 72) hx hb dX12_fact_40 (by decide) ?_
            refine lv_goto (tgt := 2) hx hb dX12_fact_72 (by decide) ?_
            replace hf := cont_b hK1 hf
            exact ih (1 : Int32) x17 H locs ls hI (lv_sub hl [2, 0] rfl) hf
          · replace hf := ifp c16 hf
            refine lv_iconst (v := 0) hx hb dX12_fact_32 (by decide) ?_
            replace hf := inl_b hK1 hf
            replace hf : Option.bind (some (x14.1, (0 : Int32))) K0 = some out := hf
            exact mret_z hx hb hr (by decide) hlocks hI (ret_e hK0 hf) dX12_fact_33
  unfold fm_fact at hf
  refine lv_iconst (v := 1) hx hb dX12_fact_0 (by decide) ?_
  refine lv_istore_n (lv' := [(1, .int (1 : Int32)), (0, .ref h)]) hx hb dX12_fact_1 rfl hl (by decide) rfl (fun ls hl => ?_)
  exact L_2  mFuel (1 : Int32) s0 s.heap [] ls hI (lv_sub hl [1, 0] rfl) (asc_b hf)

noncomputable def fm_isInside_j29 (st : MSt) : Option (MSt × Int32) :=
  some (st, (0 : Int32))
noncomputable def fm_isInside_s2 (v1 : Int32) (st : MSt) : Option ((MSt × Int32) ⊕ ((Int32 × MSt) ⊕ (Int32 × MSt))) :=
  (if (st.1 22) ≤ v1 then some (.inr (.inr (v1, st))) else chk (inb v1 400) ((if (st.2.1 21 v1.toNatClampNeg) = (91 : Int32) then some (.inl (st, (1 : Int32))) else some (.inr (.inl ((v1 + 1), st))))))
noncomputable def fm_isInside (s0 : MSt) : Option (MSt × Int32) :=
  (iter (fun x : (Int32 × MSt) => fm_isInside_s2 x.1 x.2) mFuel ((0 : Int32), s0)).bind (Sum.elim (fun o : MSt × Int32 => (some o : Option (MSt × Int32))) (fun x : (Int32 × MSt) => fm_isInside_j29 x.2))
theorem nd_isInside : yX12_isInside.cls ≠ "java/lang/invoke/MethodHandle" ∧ yX12_isInside.cls ≠ "java/lang/invoke/VarHandle" ∧ (parseMethodDescriptor yX12_isInside.desc).map (fun d => d.parameters.length) = some 0 := by decide +kernel
set_option maxHeartbeats 4000000 in
set_option maxRecDepth 100000 in
theorem cm_isInside (l : Launch) (D : va_G) (h : Nat) (ad : Nat → Nat) (cy : Nat → ClassId)  (s0 : MSt) (out : MSt × Int32) (hf : fm_isInside s0 = some out) (sz : Nat) : CMi l D h ad cy yX12_isInside wsX12_isInside { frames := 0, cells := 0, slots := 0, locals := 0 } [] s0 out sz := by
  refine Met.ofW (cc := cX12_isInside) (maxL := 2) (ret := (some .boolean)) (by decide) rfl ?_
  intro p e s m args below meth c s₁ B hml hv
  obtain ⟨rfl, hsz, hP, hK, hD0⟩ := hv
  have hx := B.exec
  have hb := B.bytes
  have hr := B.returns
  have hts := atoms_spec (ws := wsX12_isInside) B.pre
  have hown : s.vm.findClass RX12 = some m.cls := findClass_of_methodNamed B.named
  have hlocks := B.notSynchronized
  subst hsz
  have hI : MI D (MA h ad cy s0 s.heap.size) h ad cy s s.heap s0 s.heap [] := ⟨hK, hP, hD0.self, va_S.rf⟩
  have hA : ∀ q : Nat, s.heap.size ≤ q → MA h ad cy s0 s.heap.size q := fun q hq => Or.inr hq
  have hin : ∀ w ∈ u_ws RX12 TX12 42, w ∈ wsX12_isInside := fun w hw => List.mem_cons_of_mem _ (List.mem_append_right _ hw)
  have k_open : Cond.fieldLink RX12 35 "HalfBridgeModel" "open" "[I" ∈ wsX12_isInside := by decide +kernel
  have k_opened : Cond.fieldLink RX12 162 "HalfBridgeModel" "opened" "I" ∈ wsX12_isInside := by decide +kernel
  have hl := lv_entry ([.ref h]) (n := 2) (Nat.le_of_ble_eq_true rfl)
  rw [lg_entry_eq]
  generalize (lg_sl ([.ref h]) ++ List.replicate (2 - (lg_sl ([.ref h])).length) Slot.unset).toArray = ls at hl ⊢
  have hl : lv_has ls 2 [(0, .ref h)] := hl
  obtain ⟨K0, hK0, hf⟩ := top_e hf
  have B_29 : ∀   (st : MSt) (H : Heap) (locs : List Loc) (ls : Array Slot), MI D (MA h ad cy s0 s.heap.size) h ad cy s s.heap st H locs → lv_has ls 2 [] → (fm_isInside_j29 st).bind K0 = some out → W p l e (headSpec wsX12_isInside { frames := 0, cells := 0, slots := 0, locals := 0 }).room s m (([.ref h] : List Value).toArray) below meth c H locs 0 0 (MQ below (MQi D h ad cy s0 out s.heap.size) ([.ref h] : List Value).toArray s 0 0 (MA h ad cy s0 s.heap.size)) (F0 m 29 ls []) := by
    intro st H locs ls hI hl hf
    unfold fm_isInside_j29 at hf
    refine lv_iconst (v := 0) hx hb dX12_isInside_29 (by decide) ?_
    exact mret_z hx hb hr (by decide) hlocks hI (ret_e hK0 hf) dX12_isInside_30
  have L_2 : ∀  (n : Nat) (v1 : Int32) (st : MSt) (H : Heap) (locs : List Loc) (ls : Array Slot), MI D (MA h ad cy s0 s.heap.size) h ad cy s s.heap st H locs → lv_has ls 2 [(0, .ref h), (1, .int v1)] → (iter (fun x : (Int32 × MSt) => fm_isInside_s2 x.1 x.2) n (v1, st)).bind (fun x => ((Sum.elim (fun o : MSt × Int32 => (some o : Option (MSt × Int32))) (fun x : (Int32 × MSt) => fm_isInside_j29 x.2)) x).bind K0) = some out → W p l e (headSpec wsX12_isInside { frames := 0, cells := 0, slots := 0, locals := 0 }).room s m (([.ref h] : List Value).toArray) below meth c H locs 0 0 (MQ below (MQi D h ad cy s0 out s.heap.size) ([.ref h] : List Value).toArray s 0 0 (MA h ad cy s0 s.heap.size)) (F0 m 2 ls []) := by
    intro n
    induction n with
    | zero => intro v1 st H locs ls hI hl hf; exact (iter_0 hf).elim
    | succ n ih =>
      intro v1 st H locs ls hI hl hf
      obtain ⟨K1, hK1, hf⟩ := iter_e hf
      replace hf : (fm_isInside_s2 v1 st).bind K1 = some out := hf
      unfold fm_isInside_s2 at hf
      refine lv_iload_n hx hb dX12_isInside_2 rfl (lv_at hl 1 rfl) ?_
      refine lv_aload_n hx hb dX12_isInside_3 rfl (lv_at hl 0 rfl) ?_
      refine mg_opened hx hb hts hin hown k_opened hI dX12_isInside_4 ?_
      refine lv_icmp_ge (tgt := 29) hx hb dX12_isInside_7 (by decide) (fun c1 => ?_) (fun c1 => ?_)
      · replace hf := ifp c1 hf
        replace hf := exit_b hK1 hf
        exact B_29  st H locs ls hI (lv_sub hl [] rfl) hf
      · replace hf := ifn c1 hf
        refine lv_aload_n hx hb dX12_isInside_10 rfl (lv_at hl 0 rfl) ?_
        refine mg_open hx hb hts hin hown k_open hI dX12_isInside_11 ?_
        refine lv_iload_n hx hb dX12_isInside_14 rfl (lv_at hl 1 rfl) ?_
        obtain ⟨k2, hf⟩ := chk_b hf
        refine ml_open hx hb hI k2 dX12_isInside_15 ?_
        refine lv_bipush (v := 91) hx hb dX12_isInside_16 (by decide) ?_
        refine lv_icmp_ne (tgt := 23) hx hb dX12_isInside_18 (by decide) (fun c3 => ?_) (fun c3 => ?_)
        · replace hf := ifn c3 hf
          refine lv_iinc (v := (v1 + 1)) (lv' := [(1, .int (v1 + 1)), (0, .ref h)]) hx hb dX12_isInside_23 hl (k := 1) rfl (ci_ _ (by decide)) (by decide) rfl (fun ls hl => ?_)
          refine lv_goto (tgt := 2) hx hb dX12_isInside_26 (by decide) ?_
          replace hf := cont_b hK1 hf
          exact ih (v1 + 1) st H locs ls hI (lv_sub hl [1, 0] rfl) hf
        · replace hf := ifp c3 hf
          refine lv_iconst (v := 1) hx hb dX12_isInside_21 (by decide) ?_
          replace hf := inl_b hK1 hf
          replace hf : Option.bind (some (st, (1 : Int32))) K0 = some out := hf
          exact mret_z hx hb hr (by decide) hlocks hI (ret_e hK0 hf) dX12_isInside_22
  unfold fm_isInside at hf
  refine lv_iconst (v := 0) hx hb dX12_isInside_0 (by decide) ?_
  refine lv_istore_n (lv' := [(1, .int (0 : Int32)), (0, .ref h)]) hx hb dX12_isInside_1 rfl hl (by decide) rfl (fun ls hl => ?_)
  exact L_2  mFuel (0 : Int32) s0 s.heap [] ls hI (lv_sub hl [1, 0] rfl) (asc_b hf)

noncomputable def fm_closes_j64 (st : MSt) : Option (MSt) :=
  some st
noncomputable def fm_closes_s5 (st : MSt) : Option ((MSt) ⊕ ((MSt) ⊕ (MSt))) :=
  (fm_see st).bind fun x3 => (if x3.2 = (93 : Int32) then (fm_isInside x3.1).bind fun x6 => (if x6.2 = 0 then some (.inr (.inr x6.1)) else (fm_settles (1 : Int32) x6.1).bind fun x9 => (fm_settles (3 : Int32) (msi (msi (msi x9 22 ((x9.1 22) - (1 : Int32))) 19 (((msi x9 22 ((x9.1 22) - (1 : Int32))).1 19) - (1 : Int32))) 14 (((msi (msi x9 22 ((x9.1 22) - (1 : Int32))) 19 (((msi x9 22 ((x9.1 22) - (1 : Int32))).1 19) - (1 : Int32))).1 14) + (1 : Int32)))).bind fun x11 => some (.inr (.inl x11))) else some (.inr (.inr x3.1)))
noncomputable def fm_closes (s0 : MSt) : Option (MSt) :=
  (fm_settles (3 : Int32) s0).bind fun x1 => (iter (fun x : (MSt) => fm_closes_s5 x) mFuel x1).bind (Sum.elim (fun o : MSt => (some o : Option (MSt))) (fun x : (MSt) => fm_closes_j64 x))
theorem nd_closes : yX12_closes.cls ≠ "java/lang/invoke/MethodHandle" ∧ yX12_closes.cls ≠ "java/lang/invoke/VarHandle" ∧ (parseMethodDescriptor yX12_closes.desc).map (fun d => d.parameters.length) = some 0 := by decide +kernel
set_option maxHeartbeats 4000000 in
set_option maxRecDepth 100000 in
theorem cm_closes (l : Launch) (D : va_G) (h : Nat) (ad : Nat → Nat) (cy : Nat → ClassId)  (s0 : MSt) (out : MSt) (hf : fm_closes s0 = some out) (sz : Nat) : CMv l D h ad cy yX12_closes wsX12_closes { frames := 2, cells := 0, slots := 0, locals := 43 } [] s0 out sz := by
  refine Met.ofW (cc := cX12_closes) (maxL := 1) (ret := none) (by decide) rfl ?_
  intro p e s m args below meth c s₁ B hml hv
  obtain ⟨rfl, hsz, hP, hK, hD0⟩ := hv
  have hx := B.exec
  have hb := B.bytes
  have hr := B.returns
  have hts := atoms_spec (ws := wsX12_closes) B.pre
  have hown : s.vm.findClass RX12 = some m.cls := findClass_of_methodNamed B.named
  have hlocks := B.notSynchronized
  subst hsz
  have hI : MI D (MA h ad cy s0 s.heap.size) h ad cy s s.heap s0 s.heap [] := ⟨hK, hP, hD0.self, va_S.rf⟩
  have hA : ∀ q : Nat, s.heap.size ≤ q → MA h ad cy s0 s.heap.size q := fun q hq => Or.inr hq
  have hin : ∀ w ∈ u_ws RX12 TX12 42, w ∈ wsX12_closes := fun w hw => List.mem_cons_of_mem _ (List.mem_append_right _ hw)
  have k_deep : Cond.fieldLink RX12 159 "HalfBridgeModel" "deep" "I" ∈ wsX12_closes := by decide +kernel
  have k_next : Cond.fieldLink RX12 103 "HalfBridgeModel" "next" "I" ∈ wsX12_closes := by decide +kernel
  have k_opened : Cond.fieldLink RX12 162 "HalfBridgeModel" "opened" "I" ∈ wsX12_closes := by decide +kernel
  have hl := lv_entry ([.ref h]) (n := 1) (Nat.le_of_ble_eq_true rfl)
  rw [lg_entry_eq]
  generalize (lg_sl ([.ref h]) ++ List.replicate (1 - (lg_sl ([.ref h])).length) Slot.unset).toArray = ls at hl ⊢
  have hl : lv_has ls 1 [(0, .ref h)] := hl
  obtain ⟨K0, hK0, hf⟩ := top_e hf
  have B_64 : ∀   (st : MSt) (H : Heap) (locs : List Loc) (ls : Array Slot), MI D (MA h ad cy s0 s.heap.size) h ad cy s s.heap st H locs → lv_has ls 1 [] → (fm_closes_j64 st).bind K0 = some out → W p l e (headSpec wsX12_closes { frames := 2, cells := 0, slots := 0, locals := 43 }).room s m (([.ref h] : List Value).toArray) below meth c H locs 0 0 (MQ below (MQv D h ad cy s0 out s.heap.size) ([.ref h] : List Value).toArray s 0 0 (MA h ad cy s0 s.heap.size)) (F0 m 64 ls []) := by
    intro st H locs ls hI hl hf
    unfold fm_closes_j64 at hf
    exact mret_v hx hb hr hlocks hI (ret_e hK0 hf) dX12_closes_64
  have L_5 : ∀  (n : Nat)  (st : MSt) (H : Heap) (locs : List Loc) (ls : Array Slot), MI D (MA h ad cy s0 s.heap.size) h ad cy s s.heap st H locs → lv_has ls 1 [(0, .ref h)] → (iter (fun x : (MSt) => fm_closes_s5 x) n st).bind (fun x => ((Sum.elim (fun o : MSt => (some o : Option (MSt))) (fun x : (MSt) => fm_closes_j64 x)) x).bind K0) = some out → W p l e (headSpec wsX12_closes { frames := 2, cells := 0, slots := 0, locals := 43 }).room s m (([.ref h] : List Value).toArray) below meth c H locs 0 0 (MQ below (MQv D h ad cy s0 out s.heap.size) ([.ref h] : List Value).toArray s 0 0 (MA h ad cy s0 s.heap.size)) (F0 m 5 ls []) := by
    intro n
    induction n with
    | zero => intro st H locs ls hI hl hf; exact (iter_0 hf).elim
    | succ n ih =>
      intro st H locs ls hI hl hf
      obtain ⟨K1, hK1, hf⟩ := iter_e hf
      replace hf : (fm_closes_s5 st).bind K1 = some out := hf
      unfold fm_closes_s5 at hf
      refine lv_aload_n hx hb dX12_closes_5 rfl (lv_at hl 0 rfl) ?_
      obtain ⟨x3, hc4, hf⟩ := bnd_b hf
      refine mcall_i (As := []) (rest := []) (n := 0) ⟨hx, hb, hml, hown, hts⟩ (cm_see l D h ad cy  st x3 hc4 _) (cwV 0 hts gX12_closes_X12_see rfl rfl rfl ⟨rfl, nd_see⟩ ⟨Nat.le_of_ble_eq_true rfl, Nat.le_of_ble_eq_true rfl⟩) hI hA rfl hl.1 (Nat.le_of_ble_eq_true rfl) dX12_closes_6 ⟨Nat.zero_le _, Nat.zero_le _⟩ (fun H locs hI => ?_)
      refine lv_bipush (v := 93) hx hb dX12_closes_9 (by decide) ?_
      refine lv_icmp_ne (tgt := 64) hx hb dX12_closes_11 (by decide) (fun c5 => ?_) (fun c5 => ?_)
      · replace hf := ifn c5 hf
        replace hf := exit_b hK1 hf
        exact B_64  x3.1 H locs ls hI (lv_sub hl [] rfl) hf
      · replace hf := ifp c5 hf
        refine lv_aload_n hx hb dX12_closes_14 rfl (lv_at hl 0 rfl) ?_
        obtain ⟨x6, hc7, hf⟩ := bnd_b hf
        refine mcall_i (As := []) (rest := []) (n := 0) ⟨hx, hb, hml, hown, hts⟩ (cm_isInside l D h ad cy  x3.1 x6 hc7 _) (cwV 0 hts gX12_closes_X12_isInside rfl rfl rfl ⟨rfl, nd_isInside⟩ ⟨Nat.le_of_ble_eq_true rfl, Nat.le_of_ble_eq_true rfl⟩) hI hA rfl hl.1 (Nat.le_of_ble_eq_true rfl) dX12_closes_15 ⟨Nat.zero_le _, Nat.zero_le _⟩ (fun H locs hI => ?_)
        refine lv_if_eq (tgt := 64) hx hb dX12_closes_18 (by decide) (fun c8 => ?_) (fun c8 => ?_)
        · replace hf := ifp c8 hf
          replace hf := exit_b hK1 hf
          exact B_64  x6.1 H locs ls hI (lv_sub hl [] rfl) hf
        · replace hf := ifn c8 hf
          refine lv_aload_n hx hb dX12_closes_21 rfl (lv_at hl 0 rfl) ?_
          refine lv_iconst (v := 1) hx hb dX12_closes_22 (by decide) ?_
          obtain ⟨x9, hc10, hf⟩ := bnd_b hf
          refine mcall_v (As := [.int (1 : Int32)]) (rest := []) (n := 1) ⟨hx, hb, hml, hown, hts⟩ (cm_settles l D h ad cy (1 : Int32) x6.1 x9 hc10 _) (cwV 1 hts gX12_closes_X12_settles rfl rfl rfl ⟨rfl, nd_settles⟩ ⟨Nat.le_of_ble_eq_true rfl, Nat.le_of_ble_eq_true rfl⟩) hI hA rfl hl.1 (Nat.le_of_ble_eq_true rfl) dX12_closes_23 ⟨Nat.zero_le _, Nat.zero_le _⟩ (fun H locs hI => ?_)
          refine lv_aload_n hx hb dX12_closes_26 rfl (lv_at hl 0 rfl) ?_
          refine lv_dup hx hb dX12_closes_27 rfl ?_
          refine mg_opened hx hb hts hin hown k_opened hI dX12_closes_28 ?_
          refine lv_iconst (v := 1) hx hb dX12_closes_31 (by decide) ?_
          refine lv_isub hx hb dX12_closes_32 ?_
          refine mp_opened hx hb hts hin hown k_opened hI dX12_closes_33 (fun H locs hI => ?_)
          refine lv_aload_n hx hb dX12_closes_36 rfl (lv_at hl 0 rfl) ?_
          refine lv_dup hx hb dX12_closes_37 rfl ?_
          refine mg_deep hx hb hts hin hown k_deep hI dX12_closes_38 ?_
          refine lv_iconst (v := 1) hx hb dX12_closes_41 (by decide) ?_
          refine lv_isub hx hb dX12_closes_42 ?_
          refine mp_deep hx hb hts hin hown k_deep hI dX12_closes_43 (fun H locs hI => ?_)
          refine lv_aload_n hx hb dX12_closes_46 rfl (lv_at hl 0 rfl) ?_
          refine lv_dup hx hb dX12_closes_47 rfl ?_
          refine mg_next hx hb hts hin hown k_next hI dX12_closes_48 ?_
          refine lv_iconst (v := 1) hx hb dX12_closes_51 (by decide) ?_
          refine lv_iadd hx hb dX12_closes_52 ?_
          refine mp_next hx hb hts hin hown k_next hI dX12_closes_53 (fun H locs hI => ?_)
          refine lv_aload_n hx hb dX12_closes_56 rfl (lv_at hl 0 rfl) ?_
          refine lv_iconst (v := 3) hx hb dX12_closes_57 (by decide) ?_
          obtain ⟨x11, hc12, hf⟩ := bnd_b hf
          refine mcall_v (As := [.int (3 : Int32)]) (rest := []) (n := 1) ⟨hx, hb, hml, hown, hts⟩ (cm_settles l D h ad cy (3 : Int32) (msi (msi (msi x9 22 ((x9.1 22) - (1 : Int32))) 19 (((msi x9 22 ((x9.1 22) - (1 : Int32))).1 19) - (1 : Int32))) 14 (((msi (msi x9 22 ((x9.1 22) - (1 : Int32))) 19 (((msi x9 22 ((x9.1 22) - (1 : Int32))).1 19) - (1 : Int32))).1 14) + (1 : Int32))) x11 hc12 _) (cwV 1 hts gX12_closes_X12_settles rfl rfl rfl ⟨rfl, nd_settles⟩ ⟨Nat.le_of_ble_eq_true rfl, Nat.le_of_ble_eq_true rfl⟩) hI hA rfl hl.1 (Nat.le_of_ble_eq_true rfl) dX12_closes_58 ⟨Nat.zero_le _, Nat.zero_le _⟩ (fun H locs hI => ?_)
          refine lv_goto (tgt := 5) hx hb dX12_closes_61 (by decide) ?_
          replace hf := cont_b hK1 hf
          exact ih x11 H locs ls hI (lv_sub hl [0] rfl) hf
  unfold fm_closes at hf
  refine lv_aload_n hx hb dX12_closes_0 rfl (lv_at hl 0 rfl) ?_
  refine lv_iconst (v := 3) hx hb dX12_closes_1 (by decide) ?_
  obtain ⟨x1, hc2, hf⟩ := bnd_b hf
  refine mcall_v (As := [.int (3 : Int32)]) (rest := []) (n := 1) ⟨hx, hb, hml, hown, hts⟩ (cm_settles l D h ad cy (3 : Int32) s0 x1 hc2 _) (cwV 1 hts gX12_closes_X12_settles rfl rfl rfl ⟨rfl, nd_settles⟩ ⟨Nat.le_of_ble_eq_true rfl, Nat.le_of_ble_eq_true rfl⟩) hI hA rfl hl.1 (Nat.le_of_ble_eq_true rfl) dX12_closes_2 ⟨Nat.zero_le _, Nat.zero_le _⟩ (fun H locs hI => ?_)
  exact L_5  mFuel x1 H locs ls hI (lv_sub hl [0] rfl) (asc_b hf)
