noncomputable def fm_opens (a1 : Int32) (s0 : MSt) : Option (MSt × Int32) :=
  (if (s0.1 19) = (10 : Int32) then (fm_fails (2 : Int32) (s0.1 14) s0).bind fun x3 => chk (isb x3.2) (some (x3.1, x3.2)) else chk (inb ((msi s0 19 ((s0.1 19) + (1 : Int32))).1 22) 400) (some (msi (msa (msi s0 19 ((s0.1 19) + (1 : Int32))) 21 ((msi s0 19 ((s0.1 19) + (1 : Int32))).1 22).toNatClampNeg a1) 22 (((msa (msi s0 19 ((s0.1 19) + (1 : Int32))) 21 ((msi s0 19 ((s0.1 19) + (1 : Int32))).1 22).toNatClampNeg a1).1 22) + (1 : Int32)), (1 : Int32))))
theorem nd_opens : yX12_opens.cls ≠ "java/lang/invoke/MethodHandle" ∧ yX12_opens.cls ≠ "java/lang/invoke/VarHandle" ∧ (parseMethodDescriptor yX12_opens.desc).map (fun d => d.parameters.length) = some 1 := by decide +kernel
set_option maxHeartbeats 4000000 in
set_option maxRecDepth 100000 in
theorem cm_opens (l : Launch) (D : va_G) (h : Nat) (ad : Nat → Nat) (cy : Nat → ClassId) (a1 : Int32) (s0 : MSt) (out : MSt × Int32) (hf : fm_opens a1 s0 = some out) (sz : Nat) : CMi l D h ad cy yX12_opens wsX12_opens { frames := 1, cells := 0, slots := 0, locals := 22 } [.int a1] s0 out sz := by
  refine Met.ofW (cc := cX12_opens) (maxL := 2) (ret := (some .boolean)) (by decide) rfl ?_
  intro p e s m args below meth c s₁ B hml hv
  obtain ⟨rfl, hsz, hP, hK, hD0⟩ := hv
  have hx := B.exec
  have hb := B.bytes
  have hr := B.returns
  have hts := atoms_spec (ws := wsX12_opens) B.pre
  have hown : s.vm.findClass RX12 = some m.cls := findClass_of_methodNamed B.named
  have hlocks := B.notSynchronized
  subst hsz
  have hI : MI D (MA h ad cy s0 s.heap.size) h ad cy s s.heap s0 s.heap [] := ⟨hK, hP, hD0.self, va_S.rf⟩
  have hA : ∀ q : Nat, s.heap.size ≤ q → MA h ad cy s0 s.heap.size q := fun q hq => Or.inr hq
  have hin : ∀ w ∈ u_ws RX12 TX12 42, w ∈ wsX12_opens := fun w hw => List.mem_cons_of_mem _ (List.mem_append_right _ hw)
  have k_deep : Cond.fieldLink RX12 159 "HalfBridgeModel" "deep" "I" ∈ wsX12_opens := by decide +kernel
  have k_next : Cond.fieldLink RX12 103 "HalfBridgeModel" "next" "I" ∈ wsX12_opens := by decide +kernel
  have k_open : Cond.fieldLink RX12 35 "HalfBridgeModel" "open" "[I" ∈ wsX12_opens := by decide +kernel
  have k_opened : Cond.fieldLink RX12 162 "HalfBridgeModel" "opened" "I" ∈ wsX12_opens := by decide +kernel
  have hl := lv_entry ([.ref h, .int a1]) (n := 2) (Nat.le_of_ble_eq_true rfl)
  rw [lg_entry_eq]
  generalize (lg_sl ([.ref h, .int a1]) ++ List.replicate (2 - (lg_sl ([.ref h, .int a1])).length) Slot.unset).toArray = ls at hl ⊢
  have hl : lv_has ls 2 [(0, .ref h), (1, .int a1)] := hl
  obtain ⟨K0, hK0, hf⟩ := top_e hf
  unfold fm_opens at hf
  refine lv_aload_n hx hb dX12_opens_0 rfl (lv_at hl 0 rfl) ?_
  refine mg_deep hx hb hts hin hown k_deep hI dX12_opens_1 ?_
  refine lv_bipush (v := 10) hx hb dX12_opens_4 (by decide) ?_
  refine lv_icmp_ne (tgt := 19) hx hb dX12_opens_6 (by decide) (fun c1 => ?_) (fun c1 => ?_)
  · replace hf := ifn c1 hf
    refine lv_aload_n hx hb dX12_opens_19 rfl (lv_at hl 0 rfl) ?_
    refine lv_dup hx hb dX12_opens_20 rfl ?_
    refine mg_deep hx hb hts hin hown k_deep hI dX12_opens_21 ?_
    refine lv_iconst (v := 1) hx hb dX12_opens_24 (by decide) ?_
    refine lv_iadd hx hb dX12_opens_25 ?_
    refine mp_deep hx hb hts hin hown k_deep hI dX12_opens_26 (fun H locs hI => ?_)
    refine lv_aload_n hx hb dX12_opens_29 rfl (lv_at hl 0 rfl) ?_
    refine mg_open hx hb hts hin hown k_open hI dX12_opens_30 ?_
    refine lv_aload_n hx hb dX12_opens_33 rfl (lv_at hl 0 rfl) ?_
    refine mg_opened hx hb hts hin hown k_opened hI dX12_opens_34 ?_
    refine lv_iload_n hx hb dX12_opens_37 rfl (lv_at hl 1 rfl) ?_
    obtain ⟨k2, hf⟩ := chk_b hf
    refine ms_open hx hb hI k2 dX12_opens_38 (fun H locs hI => ?_)
    refine lv_aload_n hx hb dX12_opens_39 rfl (lv_at hl 0 rfl) ?_
    refine lv_dup hx hb dX12_opens_40 rfl ?_
    refine mg_opened hx hb hts hin hown k_opened hI dX12_opens_41 ?_
    refine lv_iconst (v := 1) hx hb dX12_opens_44 (by decide) ?_
    refine lv_iadd hx hb dX12_opens_45 ?_
    refine mp_opened hx hb hts hin hown k_opened hI dX12_opens_46 (fun H locs hI => ?_)
    refine lv_iconst (v := 1) hx hb dX12_opens_49 (by decide) ?_
    exact mret_z hx hb hr (by decide) hlocks hI (ret_e hK0 hf) dX12_opens_50
  · replace hf := ifp c1 hf
    refine lv_aload_n hx hb dX12_opens_9 rfl (lv_at hl 0 rfl) ?_
    refine lv_iconst (v := 2) hx hb dX12_opens_10 (by decide) ?_
    refine lv_aload_n hx hb dX12_opens_11 rfl (lv_at hl 0 rfl) ?_
    refine mg_next hx hb hts hin hown k_next hI dX12_opens_12 ?_
    obtain ⟨x3, hc4, hf⟩ := bnd_b hf
    refine mcall_i (As := [.int (2 : Int32), .int (s0.1 14)]) (rest := []) (n := 2) ⟨hx, hb, hml, hown, hts⟩ (cm_fails l D h ad cy (2 : Int32) (s0.1 14) s0 x3 hc4 _) (cwV 2 hts gX12_opens_X12_fails rfl rfl rfl ⟨rfl, nd_fails⟩ ⟨Nat.le_of_ble_eq_true rfl, Nat.le_of_ble_eq_true rfl⟩) hI hA rfl hl.1 (Nat.le_of_ble_eq_true rfl) dX12_opens_15 ⟨Nat.zero_le _, Nat.zero_le _⟩ (fun H locs hI => ?_)
    obtain ⟨k5, hf⟩ := chk_b hf
    exact mret_z hx hb hr (isb_nar k5) hlocks hI (ret_e hK0 hf) dX12_opens_18

noncomputable def fm_strength (a0 : Int32) : Option (Int32) :=
  (if a0 = (13 : Int32) then some (1 : Int32) else (if a0 = (12 : Int32) then some (2 : Int32) else (if a0 = (11 : Int32) then some (3 : Int32) else some (0 : Int32))))
theorem nd_strength : yX12_strength.cls ≠ "java/lang/invoke/MethodHandle" ∧ yX12_strength.cls ≠ "java/lang/invoke/VarHandle" ∧ (parseMethodDescriptor yX12_strength.desc).map (fun d => d.parameters.length) = some 1 := by decide +kernel
set_option maxHeartbeats 4000000 in
set_option maxRecDepth 100000 in
theorem cs_strength (l : Launch) (a0 : Int32) (out : Int32) (hf : fm_strength a0 = some out) (sz : Nat) : CSi l yX12_strength wsX12_strength { frames := 0, cells := 0, slots := 0, locals := 0 } [.int a0] out sz := by
  refine Met.ofW (cc := cX12_strength) (maxL := 1) (ret := (some .int)) (by decide) rfl ?_
  intro p e s m args below meth c s₁ B hml hv
  obtain ⟨rfl, hsz⟩ := hv
  have hx := B.exec
  have hb := B.bytes
  have hr := B.returns
  have hts := atoms_spec (ws := wsX12_strength) B.pre
  have hown : s.vm.findClass RX12 = some m.cls := findClass_of_methodNamed B.named
  have hlocks := B.notSynchronized
  subst hsz
  have hl := lv_entry ([.int a0]) (n := 1) (Nat.le_of_ble_eq_true rfl)
  rw [lg_entry_eq]
  generalize (lg_sl ([.int a0]) ++ List.replicate (1 - (lg_sl ([.int a0])).length) Slot.unset).toArray = ls at hl ⊢
  have hl : lv_has ls 1 [(0, .int a0)] := hl
  obtain ⟨K0, hK0, hf⟩ := top_e hf
  unfold fm_strength at hf
  refine lv_iload_n hx hb dX12_strength_0 rfl (lv_at hl 0 rfl) ?_
  refine lv_bipush (v := 13) hx hb dX12_strength_1 (by decide) ?_
  refine lv_icmp_ne (tgt := 10) hx hb dX12_strength_3 (by decide) (fun c1 => ?_) (fun c1 => ?_)
  · replace hf := ifn c1 hf
    refine lv_iload_n hx hb dX12_strength_10 rfl (lv_at hl 0 rfl) ?_
    refine lv_bipush (v := 12) hx hb dX12_strength_11 (by decide) ?_
    refine lv_icmp_ne (tgt := 20) hx hb dX12_strength_13 (by decide) (fun c2 => ?_) (fun c2 => ?_)
    · replace hf := ifn c2 hf
      refine lv_iload_n hx hb dX12_strength_20 rfl (lv_at hl 0 rfl) ?_
      refine lv_bipush (v := 11) hx hb dX12_strength_21 (by decide) ?_
      refine lv_icmp_ne (tgt := 30) hx hb dX12_strength_23 (by decide) (fun c3 => ?_) (fun c3 => ?_)
      · replace hf := ifn c3 hf
        refine lv_iconst (v := 0) hx hb dX12_strength_30 (by decide) ?_
        exact sret_i hx hb hr hlocks (ret_e hK0 hf) dX12_strength_31
      · replace hf := ifp c3 hf
        refine lv_iconst (v := 3) hx hb dX12_strength_26 (by decide) ?_
        refine lv_goto (tgt := 31) hx hb dX12_strength_27 (by decide) ?_
        exact sret_i hx hb hr hlocks (ret_e hK0 hf) dX12_strength_31
    · replace hf := ifp c2 hf
      refine lv_iconst (v := 2) hx hb dX12_strength_16 (by decide) ?_
      refine lv_goto (tgt := 31) hx hb dX12_strength_17 (by decide) ?_
      exact sret_i hx hb hr hlocks (ret_e hK0 hf) dX12_strength_31
  · replace hf := ifp c1 hf
    refine lv_iconst (v := 1) hx hb dX12_strength_6 (by decide) ?_
    refine lv_goto (tgt := 31) hx hb dX12_strength_7 (by decide) ?_
    exact sret_i hx hb hr hlocks (ret_e hK0 hf) dX12_strength_31

noncomputable def fm_settles_j76 (st : MSt) : Option (MSt) :=
  some st
noncomputable def fm_settles_s0 (v1 : Int32) (st : MSt) : Option ((MSt) ⊕ ((MSt) ⊕ (MSt))) :=
  (if (st.1 22) ≤ 0 then some (.inr (.inr st)) else chk (inb ((st.1 22) - (1 : Int32)) 400) ((fm_strength (st.2.1 21 ((st.1 22) - (1 : Int32)).toNatClampNeg)).bind fun x3 => (if x3 < v1 then some (.inr (.inr st)) else chk (inb ((msi st 22 ((st.1 22) - (1 : Int32))).1 22) 400) ((fm_puts ((msi st 22 ((st.1 22) - (1 : Int32))).2.1 21 ((msi st 22 ((st.1 22) - (1 : Int32))).1 22).toNatClampNeg) (0 : Int32) (msi st 22 ((st.1 22) - (1 : Int32)))).bind fun x7 => chk (inb (x7.1 22) 400) ((if (x7.2.1 21 (x7.1 22).toNatClampNeg) = (11 : Int32) then some (.inr (.inl (msi x7 19 ((x7.1 19) - (1 : Int32))))) else some (.inr (.inl x7))))))))
noncomputable def fm_settles (a1 : Int32) (s0 : MSt) : Option (MSt) :=
  (iter (fun x : (MSt) => fm_settles_s0 a1 x) mFuel s0).bind (Sum.elim (fun o : MSt => (some o : Option (MSt))) (fun x : (MSt) => fm_settles_j76 x))
theorem nd_settles : yX12_settles.cls ≠ "java/lang/invoke/MethodHandle" ∧ yX12_settles.cls ≠ "java/lang/invoke/VarHandle" ∧ (parseMethodDescriptor yX12_settles.desc).map (fun d => d.parameters.length) = some 1 := by decide +kernel
set_option maxHeartbeats 4000000 in
set_option maxRecDepth 100000 in
theorem cm_settles (l : Launch) (D : va_G) (h : Nat) (ad : Nat → Nat) (cy : Nat → ClassId) (a1 : Int32) (s0 : MSt) (out : MSt) (hf : fm_settles a1 s0 = some out) (sz : Nat) : CMv l D h ad cy yX12_settles wsX12_settles { frames := 1, cells := 0, slots := 0, locals := 22 } [.int a1] s0 out sz := by
  refine Met.ofW (cc := cX12_settles) (maxL := 2) (ret := none) (by decide) rfl ?_
  intro p e s m args below meth c s₁ B hml hv
  obtain ⟨rfl, hsz, hP, hK, hD0⟩ := hv
  have hx := B.exec
  have hb := B.bytes
  have hr := B.returns
  have hts := atoms_spec (ws := wsX12_settles) B.pre
  have hown : s.vm.findClass RX12 = some m.cls := findClass_of_methodNamed B.named
  have hlocks := B.notSynchronized
  subst hsz
  have hI : MI D (MA h ad cy s0 s.heap.size) h ad cy s s.heap s0 s.heap [] := ⟨hK, hP, hD0.self, va_S.rf⟩
  have hA : ∀ q : Nat, s.heap.size ≤ q → MA h ad cy s0 s.heap.size q := fun q hq => Or.inr hq
  have hin : ∀ w ∈ u_ws RX12 TX12 42, w ∈ wsX12_settles := fun w hw => List.mem_cons_of_mem _ (List.mem_append_right _ hw)
  have k_deep : Cond.fieldLink RX12 159 "HalfBridgeModel" "deep" "I" ∈ wsX12_settles := by decide +kernel
  have k_open : Cond.fieldLink RX12 35 "HalfBridgeModel" "open" "[I" ∈ wsX12_settles := by decide +kernel
  have k_opened : Cond.fieldLink RX12 162 "HalfBridgeModel" "opened" "I" ∈ wsX12_settles := by decide +kernel
  have hl := lv_entry ([.ref h, .int a1]) (n := 2) (Nat.le_of_ble_eq_true rfl)
  rw [lg_entry_eq]
  generalize (lg_sl ([.ref h, .int a1]) ++ List.replicate (2 - (lg_sl ([.ref h, .int a1])).length) Slot.unset).toArray = ls at hl ⊢
  have hl : lv_has ls 2 [(0, .ref h), (1, .int a1)] := hl
  obtain ⟨K0, hK0, hf⟩ := top_e hf
  have B_76 : ∀   (st : MSt) (H : Heap) (locs : List Loc) (ls : Array Slot), MI D (MA h ad cy s0 s.heap.size) h ad cy s s.heap st H locs → lv_has ls 2 [] → (fm_settles_j76 st).bind K0 = some out → W p l e (headSpec wsX12_settles { frames := 1, cells := 0, slots := 0, locals := 22 }).room s m (([.ref h, .int a1] : List Value).toArray) below meth c H locs 0 0 (MQ below (MQv D h ad cy s0 out s.heap.size) ([.ref h, .int a1] : List Value).toArray s 0 0 (MA h ad cy s0 s.heap.size)) (F0 m 76 ls []) := by
    intro st H locs ls hI hl hf
    unfold fm_settles_j76 at hf
    exact mret_v hx hb hr hlocks hI (ret_e hK0 hf) dX12_settles_76
  have L_0 : ∀ (v1 : Int32) (n : Nat)  (st : MSt) (H : Heap) (locs : List Loc) (ls : Array Slot), MI D (MA h ad cy s0 s.heap.size) h ad cy s s.heap st H locs → lv_has ls 2 [(0, .ref h), (1, .int v1)] → (iter (fun x : (MSt) => fm_settles_s0 v1 x) n st).bind (fun x => ((Sum.elim (fun o : MSt => (some o : Option (MSt))) (fun x : (MSt) => fm_settles_j76 x)) x).bind K0) = some out → W p l e (headSpec wsX12_settles { frames := 1, cells := 0, slots := 0, locals := 22 }).room s m (([.ref h, .int a1] : List Value).toArray) below meth c H locs 0 0 (MQ below (MQv D h ad cy s0 out s.heap.size) ([.ref h, .int a1] : List Value).toArray s 0 0 (MA h ad cy s0 s.heap.size)) (F0 m 0 ls []) := by
    intro v1 n
    induction n with
    | zero => intro st H locs ls hI hl hf; exact (iter_0 hf).elim
    | succ n ih =>
      intro st H locs ls hI hl hf
      obtain ⟨K1, hK1, hf⟩ := iter_e hf
      replace hf : (fm_settles_s0 v1 st).bind K1 = some out := hf
      unfold fm_settles_s0 at hf
      refine lv_aload_n hx hb dX12_settles_0 rfl (lv_at hl 0 rfl) ?_
      refine mg_opened hx hb hts hin hown k_opened hI dX12_settles_1 ?_
      refine lv_if_le (tgt := 76) hx hb dX12_settles_4 (by decide) (fun c1 => ?_) (fun c1 => ?_)
      · replace hf := ifp c1 hf
        replace hf := exit_b hK1 hf
        exact B_76  st H locs ls hI (lv_sub hl [] rfl) hf
      · replace hf := ifn c1 hf
        refine lv_aload_n hx hb dX12_settles_7 rfl (lv_at hl 0 rfl) ?_
        refine mg_open hx hb hts hin hown k_open hI dX12_settles_8 ?_
        refine lv_aload_n hx hb dX12_settles_11 rfl (lv_at hl 0 rfl) ?_
        refine mg_opened hx hb hts hin hown k_opened hI dX12_settles_12 ?_
        refine lv_iconst (v := 1) hx hb dX12_settles_15 (by decide) ?_
        refine lv_isub hx hb dX12_settles_16 ?_
        obtain ⟨k2, hf⟩ := chk_b hf
        refine ml_open hx hb hI k2 dX12_settles_17 ?_
        obtain ⟨x3, hc4, hf⟩ := bnd_b hf
        refine mst_i (As := [.int (st.2.1 21 ((st.1 22) - (1 : Int32)).toNatClampNeg)]) (rest := []) (n := 1) ⟨hx, hb, hml, hown, hts⟩ (cs_strength l (st.2.1 21 ((st.1 22) - (1 : Int32)).toNatClampNeg) x3 hc4 _) (va_cwS 1 hts gX12_settles_X12_strength rfl rfl rfl nd_strength ⟨Nat.le_of_ble_eq_true rfl, Nat.le_of_ble_eq_true rfl⟩) hI hA rfl hl.1 (Nat.le_of_ble_eq_true rfl) dX12_settles_18 ⟨Nat.zero_le _, Nat.zero_le _⟩ (fun H locs hI => ?_)
        refine lv_iload_n hx hb dX12_settles_21 rfl (lv_at hl 1 rfl) ?_
        refine lv_icmp_lt (tgt := 76) hx hb dX12_settles_22 (by decide) (fun c5 => ?_) (fun c5 => ?_)
        · replace hf := ifp c5 hf
          replace hf := exit_b hK1 hf
          exact B_76  st H locs ls hI (lv_sub hl [] rfl) hf
        · replace hf := ifn c5 hf
          refine lv_aload_n hx hb dX12_settles_25 rfl (lv_at hl 0 rfl) ?_
          refine lv_dup hx hb dX12_settles_26 rfl ?_
          refine mg_opened hx hb hts hin hown k_opened hI dX12_settles_27 ?_
          refine lv_iconst (v := 1) hx hb dX12_settles_30 (by decide) ?_
          refine lv_isub hx hb dX12_settles_31 ?_
          refine mp_opened hx hb hts hin hown k_opened hI dX12_settles_32 (fun H locs hI => ?_)
          refine lv_aload_n hx hb dX12_settles_35 rfl (lv_at hl 0 rfl) ?_
          refine lv_aload_n hx hb dX12_settles_36 rfl (lv_at hl 0 rfl) ?_
          refine mg_open hx hb hts hin hown k_open hI dX12_settles_37 ?_
          refine lv_aload_n hx hb dX12_settles_40 rfl (lv_at hl 0 rfl) ?_
          refine mg_opened hx hb hts hin hown k_opened hI dX12_settles_41 ?_
          obtain ⟨k6, hf⟩ := chk_b hf
          refine ml_open hx hb hI k6 dX12_settles_44 ?_
          refine lv_iconst (v := 0) hx hb dX12_settles_45 (by decide) ?_
          obtain ⟨x7, hc8, hf⟩ := bnd_b hf
          refine mcall_v (As := [.int ((msi st 22 ((st.1 22) - (1 : Int32))).2.1 21 ((msi st 22 ((st.1 22) - (1 : Int32))).1 22).toNatClampNeg), .int (0 : Int32)]) (rest := []) (n := 2) ⟨hx, hb, hml, hown, hts⟩ (cm_puts l D h ad cy ((msi st 22 ((st.1 22) - (1 : Int32))).2.1 21 ((msi st 22 ((st.1 22) - (1 : Int32))).1 22).toNatClampNeg) (0 : Int32) (msi st 22 ((st.1 22) - (1 : Int32))) x7 hc8 _) (cwV 2 hts gX12_settles_X12_puts rfl rfl rfl ⟨rfl, nd_puts⟩ ⟨Nat.le_of_ble_eq_true rfl, Nat.le_of_ble_eq_true rfl⟩) hI hA rfl hl.1 (Nat.le_of_ble_eq_true rfl) dX12_settles_46 ⟨Nat.zero_le _, Nat.zero_le _⟩ (fun H locs hI => ?_)
          refine lv_aload_n hx hb dX12_settles_49 rfl (lv_at hl 0 rfl) ?_
          refine mg_open hx hb hts hin hown k_open hI dX12_settles_50 ?_
          refine lv_aload_n hx hb dX12_settles_53 rfl (lv_at hl 0 rfl) ?_
          refine mg_opened hx hb hts hin hown k_opened hI dX12_settles_54 ?_
          obtain ⟨k9, hf⟩ := chk_b hf
          refine ml_open hx hb hI k9 dX12_settles_57 ?_
          refine lv_bipush (v := 11) hx hb dX12_settles_58 (by decide) ?_
          refine lv_icmp_ne (tgt := 0) hx hb dX12_settles_60 (by decide) (fun c10 => ?_) (fun c10 => ?_)
          · replace hf := ifn c10 hf
            replace hf := cont_b hK1 hf
            exact ih x7 H locs ls hI (lv_sub hl [0, 1] rfl) hf
          · replace hf := ifp c10 hf
            refine lv_aload_n hx hb dX12_settles_63 rfl (lv_at hl 0 rfl) ?_
            refine lv_dup hx hb dX12_settles_64 rfl ?_
            refine mg_deep hx hb hts hin hown k_deep hI dX12_settles_65 ?_
            refine lv_iconst (v := 1) hx hb dX12_settles_68 (by decide) ?_
            refine lv_isub hx hb dX12_settles_69 ?_
            refine mp_deep hx hb hts hin hown k_deep hI dX12_settles_70 (fun H locs hI => ?_)
            refine lv_goto (tgt := 0) hx hb dX12_settles_73 (by decide) ?_
            replace hf := cont_b hK1 hf
            exact ih (msi x7 19 ((x7.1 19) - (1 : Int32))) H locs ls hI (lv_sub hl [0, 1] rfl) hf
  unfold fm_settles at hf
  exact L_0 a1 mFuel s0 s.heap [] ls hI (lv_sub hl [0, 1] rfl) (asc_b hf)

noncomputable def fm_value (s0 : MSt) : Option (MSt × Int32) :=
  (fm_see s0).bind fun x1 => (fm_isDigit (x1.1.1 14) x1.1).bind fun x3 => (if x3.2 = 0 then (fm_wordHere x3.1).bind fun x6 => (if 0 ≤ x6.2 then (fm_makes (x1.1.1 14) x6.1).bind fun x9 => (if x9.2 = 0 then some (x9.1, (0 : Int32)) else (fm_passWord x9.1).bind fun x12 => (fm_puts (1 : Int32) x6.2 x12).bind fun x14 => some (x14, (1 : Int32))) else (fm_fails (0 : Int32) (x1.1.1 14) x6.1).bind fun x16 => chk (isb x16.2) (some (x16.1, x16.2))) else (fm_numberHere (0 : Int32) (99999 : Int32) x3.1).bind fun x19 => (if x19.2 = 0 then some (x19.1, (0 : Int32)) else (fm_makes (x1.1.1 14) x19.1).bind fun x22 => (if x22.2 = 0 then some (x22.1, (0 : Int32)) else (fm_puts (0 : Int32) (x22.1.1 16) x22.1).bind fun x25 => some (x25, (1 : Int32)))))
theorem nd_value : yX12_value.cls ≠ "java/lang/invoke/MethodHandle" ∧ yX12_value.cls ≠ "java/lang/invoke/VarHandle" ∧ (parseMethodDescriptor yX12_value.desc).map (fun d => d.parameters.length) = some 0 := by decide +kernel
set_option maxHeartbeats 4000000 in
set_option maxRecDepth 100000 in
theorem cm_value (l : Launch) (D : va_G) (h : Nat) (ad : Nat → Nat) (cy : Nat → ClassId)  (s0 : MSt) (out : MSt × Int32) (hf : fm_value s0 = some out) (sz : Nat) : CMi l D h ad cy yX12_value wsX12_value { frames := 3, cells := 0, slots := 0, locals := 66 } [] s0 out sz := by
  refine Met.ofW (cc := cX12_value) (maxL := 3) (ret := (some .boolean)) (by decide) rfl ?_
  intro p e s m args below meth c s₁ B hml hv
  obtain ⟨rfl, hsz, hP, hK, hD0⟩ := hv
  have hx := B.exec
  have hb := B.bytes
  have hr := B.returns
  have hts := atoms_spec (ws := wsX12_value) B.pre
  have hown : s.vm.findClass RX12 = some m.cls := findClass_of_methodNamed B.named
  have hlocks := B.notSynchronized
  subst hsz
  have hI : MI D (MA h ad cy s0 s.heap.size) h ad cy s s.heap s0 s.heap [] := ⟨hK, hP, hD0.self, va_S.rf⟩
  have hA : ∀ q : Nat, s.heap.size ≤ q → MA h ad cy s0 s.heap.size q := fun q hq => Or.inr hq
  have hin : ∀ w ∈ u_ws RX12 TX12 42, w ∈ wsX12_value := fun w hw => List.mem_cons_of_mem _ (List.mem_append_right _ hw)
  have k_next : Cond.fieldLink RX12 103 "HalfBridgeModel" "next" "I" ∈ wsX12_value := by decide +kernel
  have k_number : Cond.fieldLink RX12 128 "HalfBridgeModel" "number" "I" ∈ wsX12_value := by decide +kernel
  have hl := lv_entry ([.ref h]) (n := 3) (Nat.le_of_ble_eq_true rfl)
  rw [lg_entry_eq]
  generalize (lg_sl ([.ref h]) ++ List.replicate (3 - (lg_sl ([.ref h])).length) Slot.unset).toArray = ls at hl ⊢
  have hl : lv_has ls 3 [(0, .ref h)] := hl
  obtain ⟨K0, hK0, hf⟩ := top_e hf
  unfold fm_value at hf
  refine lv_aload_n hx hb dX12_value_0 rfl (lv_at hl 0 rfl) ?_
  obtain ⟨x1, hc2, hf⟩ := bnd_b hf
  refine mcall_i (As := []) (rest := []) (n := 0) ⟨hx, hb, hml, hown, hts⟩ (cm_see l D h ad cy  s0 x1 hc2 _) (cwV 0 hts gX12_value_X12_see rfl rfl rfl ⟨rfl, nd_see⟩ ⟨Nat.le_of_ble_eq_true rfl, Nat.le_of_ble_eq_true rfl⟩) hI hA rfl hl.1 (Nat.le_of_ble_eq_true rfl) dX12_value_1 ⟨Nat.zero_le _, Nat.zero_le _⟩ (fun H locs hI => ?_)
  refine lv_pop hx hb dX12_value_4 rfl ?_
  refine lv_aload_n hx hb dX12_value_5 rfl (lv_at hl 0 rfl) ?_
  refine mg_next hx hb hts hin hown k_next hI dX12_value_6 ?_
  refine lv_istore_n (lv' := [(1, .int (x1.1.1 14)), (0, .ref h)]) hx hb dX12_value_9 rfl hl (by decide) rfl (fun ls hl => ?_)
  refine lv_aload_n hx hb dX12_value_10 rfl (lv_at hl 1 rfl) ?_
  refine lv_aload_n hx hb dX12_value_11 rfl (lv_at hl 1 rfl) ?_
  refine mg_next hx hb hts hin hown k_next hI dX12_value_12 ?_
  obtain ⟨x3, hc4, hf⟩ := bnd_b hf
  refine mcall_i (As := [.int (x1.1.1 14)]) (rest := []) (n := 1) ⟨hx, hb, hml, hown, hts⟩ (cm_isDigit l D h ad cy (x1.1.1 14) x1.1 x3 hc4 _) (cwV 1 hts gX12_value_X12_isDigit rfl rfl rfl ⟨rfl, nd_isDigit⟩ ⟨Nat.le_of_ble_eq_true rfl, Nat.le_of_ble_eq_true rfl⟩) hI hA rfl hl.1 (Nat.le_of_ble_eq_true rfl) dX12_value_15 ⟨Nat.zero_le _, Nat.zero_le _⟩ (fun H locs hI => ?_)
  refine lv_if_eq (tgt := 52) hx hb dX12_value_18 (by decide) (fun c5 => ?_) (fun c5 => ?_)
  · replace hf := ifp c5 hf
    refine lv_aload_n hx hb dX12_value_52 rfl (lv_at hl 1 rfl) ?_
    obtain ⟨x6, hc7, hf⟩ := bnd_b hf
    refine mcall_i (As := []) (rest := []) (n := 0) ⟨hx, hb, hml, hown, hts⟩ (cm_wordHere l D h ad cy  x3.1 x6 hc7 _) (cwV 0 hts gX12_value_X12_wordHere rfl rfl rfl ⟨rfl, nd_wordHere⟩ ⟨Nat.le_of_ble_eq_true rfl, Nat.le_of_ble_eq_true rfl⟩) hI hA rfl hl.1 (Nat.le_of_ble_eq_true rfl) dX12_value_53 ⟨Nat.zero_le _, Nat.zero_le _⟩ (fun H locs hI => ?_)
    refine lv_istore_n (lv' := [(2, .int x6.2), (1, .int (x1.1.1 14)), (0, .ref h)]) hx hb dX12_value_56 rfl hl (by decide) rfl (fun ls hl => ?_)
    refine lv_iload_n hx hb dX12_value_57 rfl (lv_at hl 0 rfl) ?_
    refine lv_if_ge (tgt := 68) hx hb dX12_value_58 (by decide) (fun c8 => ?_) (fun c8 => ?_)
    · replace hf := ifp c8 hf
      refine lv_aload_n hx hb dX12_value_68 rfl (lv_at hl 2 rfl) ?_
      refine lv_iload_n hx hb dX12_value_69 rfl (lv_at hl 1 rfl) ?_
      obtain ⟨x9, hc10, hf⟩ := bnd_b hf
      refine mcall_i (As := [.int (x1.1.1 14)]) (rest := []) (n := 1) ⟨hx, hb, hml, hown, hts⟩ (cm_makes l D h ad cy (x1.1.1 14) x6.1 x9 hc10 _) (cwV 1 hts gX12_value_X12_makes rfl rfl rfl ⟨rfl, nd_makes⟩ ⟨Nat.le_of_ble_eq_true rfl, Nat.le_of_ble_eq_true rfl⟩) hI hA rfl hl.1 (Nat.le_of_ble_eq_true rfl) dX12_value_70 ⟨Nat.zero_le _, Nat.zero_le _⟩ (fun H locs hI => ?_)
      refine lv_if_ne (tgt := 78) hx hb dX12_value_73 (by decide) (fun c11 => ?_) (fun c11 => ?_)
      · replace hf := ifn c11 hf
        refine lv_aload_n hx hb dX12_value_78 rfl (lv_at hl 2 rfl) ?_
        obtain ⟨x12, hc13, hf⟩ := bnd_b hf
        refine mcall_v (As := []) (rest := []) (n := 0) ⟨hx, hb, hml, hown, hts⟩ (cm_passWord l D h ad cy  x9.1 x12 hc13 _) (cwV 0 hts gX12_value_X12_passWord rfl rfl rfl ⟨rfl, nd_passWord⟩ ⟨Nat.le_of_ble_eq_true rfl, Nat.le_of_ble_eq_true rfl⟩) hI hA rfl hl.1 (Nat.le_of_ble_eq_true rfl) dX12_value_79 ⟨Nat.zero_le _, Nat.zero_le _⟩ (fun H locs hI => ?_)
        refine lv_aload_n hx hb dX12_value_82 rfl (lv_at hl 2 rfl) ?_
        refine lv_iconst (v := 1) hx hb dX12_value_83 (by decide) ?_
        refine lv_iload_n hx hb dX12_value_84 rfl (lv_at hl 0 rfl) ?_
        obtain ⟨x14, hc15, hf⟩ := bnd_b hf
        refine mcall_v (As := [.int (1 : Int32), .int x6.2]) (rest := []) (n := 2) ⟨hx, hb, hml, hown, hts⟩ (cm_puts l D h ad cy (1 : Int32) x6.2 x12 x14 hc15 _) (cwV 2 hts gX12_value_X12_puts rfl rfl rfl ⟨rfl, nd_puts⟩ ⟨Nat.le_of_ble_eq_true rfl, Nat.le_of_ble_eq_true rfl⟩) hI hA rfl hl.1 (Nat.le_of_ble_eq_true rfl) dX12_value_85 ⟨Nat.zero_le _, Nat.zero_le _⟩ (fun H locs hI => ?_)
        refine lv_iconst (v := 1) hx hb dX12_value_88 (by decide) ?_
        exact mret_z hx hb hr (by decide) hlocks hI (ret_e hK0 hf) dX12_value_89
      · replace hf := ifp c11 hf
        refine lv_iconst (v := 0) hx hb dX12_value_76 (by decide) ?_
        exact mret_z hx hb hr (by decide) hlocks hI (ret_e hK0 hf) dX12_value_77
    · replace hf := ifn c8 hf
      refine lv_aload_n hx hb dX12_value_61 rfl (lv_at hl 2 rfl) ?_
      refine lv_iconst (v := 0) hx hb dX12_value_62 (by decide) ?_
      refine lv_iload_n hx hb dX12_value_63 rfl (lv_at hl 1 rfl) ?_
      obtain ⟨x16, hc17, hf⟩ := bnd_b hf
      refine mcall_i (As := [.int (0 : Int32), .int (x1.1.1 14)]) (rest := []) (n := 2) ⟨hx, hb, hml, hown, hts⟩ (cm_fails l D h ad cy (0 : Int32) (x1.1.1 14) x6.1 x16 hc17 _) (cwV 2 hts gX12_value_X12_fails rfl rfl rfl ⟨rfl, nd_fails⟩ ⟨Nat.le_of_ble_eq_true rfl, Nat.le_of_ble_eq_true rfl⟩) hI hA rfl hl.1 (Nat.le_of_ble_eq_true rfl) dX12_value_64 ⟨Nat.zero_le _, Nat.zero_le _⟩ (fun H locs hI => ?_)
      obtain ⟨k18, hf⟩ := chk_b hf
      exact mret_z hx hb hr (isb_nar k18) hlocks hI (ret_e hK0 hf) dX12_value_67
  · replace hf := ifn c5 hf
    refine lv_aload_n hx hb dX12_value_21 rfl (lv_at hl 1 rfl) ?_
    refine lv_iconst (v := 0) hx hb dX12_value_22 (by decide) ?_
    refine lv_ldc (v := 99999) hx hb hown (hts (.constant RX12 173 (99999)) (by decide +kernel)) dX12_value_23 ?_
    obtain ⟨x19, hc20, hf⟩ := bnd_b hf
    refine mcall_i (As := [.int (0 : Int32), .int (99999 : Int32)]) (rest := []) (n := 2) ⟨hx, hb, hml, hown, hts⟩ (cm_numberHere l D h ad cy (0 : Int32) (99999 : Int32) x3.1 x19 hc20 _) (cwV 2 hts gX12_value_X12_numberHere rfl rfl rfl ⟨rfl, nd_numberHere⟩ ⟨Nat.le_of_ble_eq_true rfl, Nat.le_of_ble_eq_true rfl⟩) hI hA rfl hl.1 (Nat.le_of_ble_eq_true rfl) dX12_value_25 ⟨Nat.zero_le _, Nat.zero_le _⟩ (fun H locs hI => ?_)
    refine lv_if_eq (tgt := 39) hx hb dX12_value_28 (by decide) (fun c21 => ?_) (fun c21 => ?_)
    · replace hf := ifp c21 hf
      refine lv_iconst (v := 0) hx hb dX12_value_39 (by decide) ?_
      exact mret_z hx hb hr (by decide) hlocks hI (ret_e hK0 hf) dX12_value_40
    · replace hf := ifn c21 hf
      refine lv_aload_n hx hb dX12_value_31 rfl (lv_at hl 1 rfl) ?_
      refine lv_iload_n hx hb dX12_value_32 rfl (lv_at hl 0 rfl) ?_
      obtain ⟨x22, hc23, hf⟩ := bnd_b hf
      refine mcall_i (As := [.int (x1.1.1 14)]) (rest := []) (n := 1) ⟨hx, hb, hml, hown, hts⟩ (cm_makes l D h ad cy (x1.1.1 14) x19.1 x22 hc23 _) (cwV 1 hts gX12_value_X12_makes rfl rfl rfl ⟨rfl, nd_makes⟩ ⟨Nat.le_of_ble_eq_true rfl, Nat.le_of_ble_eq_true rfl⟩) hI hA rfl hl.1 (Nat.le_of_ble_eq_true rfl) dX12_value_33 ⟨Nat.zero_le _, Nat.zero_le _⟩ (fun H locs hI => ?_)
      refine lv_if_ne (tgt := 41) hx hb dX12_value_36 (by decide) (fun c24 => ?_) (fun c24 => ?_)
      · replace hf := ifn c24 hf
        refine lv_aload_n hx hb dX12_value_41 rfl (lv_at hl 1 rfl) ?_
        refine lv_iconst (v := 0) hx hb dX12_value_42 (by decide) ?_
        refine lv_aload_n hx hb dX12_value_43 rfl (lv_at hl 1 rfl) ?_
        refine mg_number hx hb hts hin hown k_number hI dX12_value_44 ?_
        obtain ⟨x25, hc26, hf⟩ := bnd_b hf
        refine mcall_v (As := [.int (0 : Int32), .int (x22.1.1 16)]) (rest := []) (n := 2) ⟨hx, hb, hml, hown, hts⟩ (cm_puts l D h ad cy (0 : Int32) (x22.1.1 16) x22.1 x25 hc26 _) (cwV 2 hts gX12_value_X12_puts rfl rfl rfl ⟨rfl, nd_puts⟩ ⟨Nat.le_of_ble_eq_true rfl, Nat.le_of_ble_eq_true rfl⟩) hI hA rfl hl.1 (Nat.le_of_ble_eq_true rfl) dX12_value_47 ⟨Nat.zero_le _, Nat.zero_le _⟩ (fun H locs hI => ?_)
        refine lv_iconst (v := 1) hx hb dX12_value_50 (by decide) ?_
        exact mret_z hx hb hr (by decide) hlocks hI (ret_e hK0 hf) dX12_value_51
      · replace hf := ifp c24 hf
        refine lv_iconst (v := 0) hx hb dX12_value_39 (by decide) ?_
        exact mret_z hx hb hr (by decide) hlocks hI (ret_e hK0 hf) dX12_value_40

noncomputable def fm_term_j75 (st : MSt) : Option (MSt × Int32) :=
  some (st, (1 : Int32))
noncomputable def fm_term_j46 (t0 : Int32) (st : MSt) : Option ((MSt × Int32) ⊕ ((MSt) ⊕ (MSt))) :=
  (fm_value (msi st 14 ((st.1 14) + (1 : Int32)))).bind fun x9 => (if x9.2 = 0 then some (.inl (x9.1, (0 : Int32))) else (fm_puts t0 (0 : Int32) x9.1).bind fun x12 => some (.inr (.inl x12)))
noncomputable def fm_term_j27 (st : MSt) : Option ((MSt × Int32) ⊕ ((MSt) ⊕ (MSt))) :=
  chk (inb (st.1 14) 400) ((if (st.2.1 0 (st.1 14).toNatClampNeg) = (42 : Int32) then fm_term_j46 (4 : Int32) st else fm_term_j46 (5 : Int32) st))
noncomputable def fm_term_s9 (st : MSt) : Option ((MSt × Int32) ⊕ ((MSt) ⊕ (MSt))) :=
  (fm_see st).bind fun x4 => (if x4.2 = (42 : Int32) then fm_term_j27 x4.1 else (fm_see x4.1).bind fun x14 => (if x14.2 = (47 : Int32) then fm_term_j27 x14.1 else some (.inr (.inr x14.1))))
noncomputable def fm_term (s0 : MSt) : Option (MSt × Int32) :=
  (fm_value s0).bind fun x1 => (if x1.2 = 0 then some (x1.1, (0 : Int32)) else (iter (fun x : (MSt) => fm_term_s9 x) mFuel x1.1).bind (Sum.elim (fun o : MSt × Int32 => (some o : Option (MSt × Int32))) (fun x : (MSt) => fm_term_j75 x)))
theorem nd_term : yX12_term.cls ≠ "java/lang/invoke/MethodHandle" ∧ yX12_term.cls ≠ "java/lang/invoke/VarHandle" ∧ (parseMethodDescriptor yX12_term.desc).map (fun d => d.parameters.length) = some 0 := by decide +kernel
set_option maxHeartbeats 4000000 in
set_option maxRecDepth 100000 in
theorem cm_term (l : Launch) (D : va_G) (h : Nat) (ad : Nat → Nat) (cy : Nat → ClassId)  (s0 : MSt) (out : MSt × Int32) (hf : fm_term s0 = some out) (sz : Nat) : CMi l D h ad cy yX12_term wsX12_term { frames := 4, cells := 0, slots := 0, locals := 88 } [] s0 out sz := by
  refine Met.ofW (cc := cX12_term) (maxL := 2) (ret := (some .boolean)) (by decide) rfl ?_
  intro p e s m args below meth c s₁ B hml hv
  obtain ⟨rfl, hsz, hP, hK, hD0⟩ := hv
  have hx := B.exec
  have hb := B.bytes
  have hr := B.returns
  have hts := atoms_spec (ws := wsX12_term) B.pre
  have hown : s.vm.findClass RX12 = some m.cls := findClass_of_methodNamed B.named
  have hlocks := B.notSynchronized
  subst hsz
  have hI : MI D (MA h ad cy s0 s.heap.size) h ad cy s s.heap s0 s.heap [] := ⟨hK, hP, hD0.self, va_S.rf⟩
  have hA : ∀ q : Nat, s.heap.size ≤ q → MA h ad cy s0 s.heap.size q := fun q hq => Or.inr hq
  have hin : ∀ w ∈ u_ws RX12 TX12 42, w ∈ wsX12_term := fun w hw => List.mem_cons_of_mem _ (List.mem_append_right _ hw)
  have k_next : Cond.fieldLink RX12 103 "HalfBridgeModel" "next" "I" ∈ wsX12_term := by decide +kernel
  have k_tape : Cond.fieldLink RX12 7 "HalfBridgeModel" "tape" "[B" ∈ wsX12_term := by decide +kernel
  have hl := lv_entry ([.ref h]) (n := 2) (Nat.le_of_ble_eq_true rfl)
  rw [lg_entry_eq]
  generalize (lg_sl ([.ref h]) ++ List.replicate (2 - (lg_sl ([.ref h])).length) Slot.unset).toArray = ls at hl ⊢
  have hl : lv_has ls 2 [(0, .ref h)] := hl
  obtain ⟨K0, hK0, hf⟩ := top_e hf
  have B_75 : ∀   (st : MSt) (H : Heap) (locs : List Loc) (ls : Array Slot), MI D (MA h ad cy s0 s.heap.size) h ad cy s s.heap st H locs → lv_has ls 2 [] → (fm_term_j75 st).bind K0 = some out → W p l e (headSpec wsX12_term { frames := 4, cells := 0, slots := 0, locals := 88 }).room s m (([.ref h] : List Value).toArray) below meth c H locs 0 0 (MQ below (MQi D h ad cy s0 out s.heap.size) ([.ref h] : List Value).toArray s 0 0 (MA h ad cy s0 s.heap.size)) (F0 m 75 ls []) := by
    intro st H locs ls hI hl hf
    unfold fm_term_j75 at hf
    refine lv_iconst (v := 1) hx hb dX12_term_75 (by decide) ?_
    exact mret_z hx hb hr (by decide) hlocks hI (ret_e hK0 hf) dX12_term_76
  have L_9 : ∀  (n : Nat)  (st : MSt) (H : Heap) (locs : List Loc) (ls : Array Slot), MI D (MA h ad cy s0 s.heap.size) h ad cy s s.heap st H locs → lv_has ls 2 [(0, .ref h)] → (iter (fun x : (MSt) => fm_term_s9 x) n st).bind (fun x => ((Sum.elim (fun o : MSt × Int32 => (some o : Option (MSt × Int32))) (fun x : (MSt) => fm_term_j75 x)) x).bind K0) = some out → W p l e (headSpec wsX12_term { frames := 4, cells := 0, slots := 0, locals := 88 }).room s m (([.ref h] : List Value).toArray) below meth c H locs 0 0 (MQ below (MQi D h ad cy s0 out s.heap.size) ([.ref h] : List Value).toArray s 0 0 (MA h ad cy s0 s.heap.size)) (F0 m 9 ls []) := by
    intro n
    induction n with
    | zero => intro st H locs ls hI hl hf; exact (iter_0 hf).elim
    | succ n ih =>
      intro st H locs ls hI hl hf
      obtain ⟨K1, hK1, hf⟩ := iter_e hf
      replace hf : (fm_term_s9 st).bind K1 = some out := hf
      have B_9_46_1 : ∀  (t0 : Int32) (st : MSt) (H : Heap) (locs : List Loc) (ls : Array Slot), MI D (MA h ad cy s0 s.heap.size) h ad cy s s.heap st H locs → lv_has ls 2 [(0, .ref h)] → (fm_term_j46 t0 st).bind K1 = some out → W p l e (headSpec wsX12_term { frames := 4, cells := 0, slots := 0, locals := 88 }).room s m (([.ref h] : List Value).toArray) below meth c H locs 0 0 (MQ below (MQi D h ad cy s0 out s.heap.size) ([.ref h] : List Value).toArray s 0 0 (MA h ad cy s0 s.heap.size)) (F0 m 46 ls [.int t0]) := by
        intro t0 st H locs ls hI hl hf
        unfold fm_term_j46 at hf
        refine lv_istore_n (lv' := [(1, .int t0), (0, .ref h)]) hx hb dX12_term_46 rfl hl (by decide) rfl (fun ls hl => ?_)
        refine lv_aload_n hx hb dX12_term_47 rfl (lv_at hl 1 rfl) ?_
        refine lv_dup hx hb dX12_term_48 rfl ?_
        refine mg_next hx hb hts hin hown k_next hI dX12_term_49 ?_
        refine lv_iconst (v := 1) hx hb dX12_term_52 (by decide) ?_
        refine lv_iadd hx hb dX12_term_53 ?_
        refine mp_next hx hb hts hin hown k_next hI dX12_term_54 (fun H locs hI => ?_)
        refine lv_aload_n hx hb dX12_term_57 rfl (lv_at hl 1 rfl) ?_
        obtain ⟨x9, hc10, hf⟩ := bnd_b hf
        refine mcall_i (As := []) (rest := []) (n := 0) ⟨hx, hb, hml, hown, hts⟩ (cm_value l D h ad cy  (msi st 14 ((st.1 14) + (1 : Int32))) x9 hc10 _) (cwV 0 hts gX12_term_X12_value rfl rfl rfl ⟨rfl, nd_value⟩ ⟨Nat.le_of_ble_eq_true rfl, Nat.le_of_ble_eq_true rfl⟩) hI hA rfl hl.1 (Nat.le_of_ble_eq_true rfl) dX12_term_58 ⟨Nat.zero_le _, Nat.zero_le _⟩ (fun H locs hI => ?_)
        refine lv_if_ne (tgt := 66) hx hb dX12_term_61 (by decide) (fun c11 => ?_) (fun c11 => ?_)
        · replace hf := ifn c11 hf
          refine lv_aload_n hx hb dX12_term_66 rfl (lv_at hl 1 rfl) ?_
          refine lv_iload_n hx hb dX12_term_67 rfl (lv_at hl 0 rfl) ?_
          refine lv_iconst (v := 0) hx hb dX12_term_68 (by decide) ?_
          obtain ⟨x12, hc13, hf⟩ := bnd_b hf
          refine mcall_v (As := [.int t0, .int (0 : Int32)]) (rest := []) (n := 2) ⟨hx, hb, hml, hown, hts⟩ (cm_puts l D h ad cy t0 (0 : Int32) x9.1 x12 hc13 _) (cwV 2 hts gX12_term_X12_puts rfl rfl rfl ⟨rfl, nd_puts⟩ ⟨Nat.le_of_ble_eq_true rfl, Nat.le_of_ble_eq_true rfl⟩) hI hA rfl hl.1 (Nat.le_of_ble_eq_true rfl) dX12_term_69 ⟨Nat.zero_le _, Nat.zero_le _⟩ (fun H locs hI => ?_)
          refine lv_goto (tgt := 9) hx hb dX12_term_72 (by decide) ?_
          replace hf := cont_b hK1 hf
          exact ih x12 H locs ls hI (lv_sub hl [1] rfl) hf
        · replace hf := ifp c11 hf
          refine lv_iconst (v := 0) hx hb dX12_term_64 (by decide) ?_
          replace hf := inl_b hK1 hf
          replace hf : Option.bind (some (x9.1, (0 : Int32))) K0 = some out := hf
          exact mret_z hx hb hr (by decide) hlocks hI (ret_e hK0 hf) dX12_term_65
      have B_9_27 : ∀   (st : MSt) (H : Heap) (locs : List Loc) (ls : Array Slot), MI D (MA h ad cy s0 s.heap.size) h ad cy s s.heap st H locs → lv_has ls 2 [(0, .ref h)] → (fm_term_j27 st).bind K1 = some out → W p l e (headSpec wsX12_term { frames := 4, cells := 0, slots := 0, locals := 88 }).room s m (([.ref h] : List Value).toArray) below meth c H locs 0 0 (MQ below (MQi D h ad cy s0 out s.heap.size) ([.ref h] : List Value).toArray s 0 0 (MA h ad cy s0 s.heap.size)) (F0 m 27 ls []) := by
        intro st H locs ls hI hl hf
        unfold fm_term_j27 at hf
        refine lv_aload_n hx hb dX12_term_27 rfl (lv_at hl 0 rfl) ?_
        refine mg_tape hx hb hts hin hown k_tape hI dX12_term_28 ?_
        refine lv_aload_n hx hb dX12_term_31 rfl (lv_at hl 0 rfl) ?_
        refine mg_next hx hb hts hin hown k_next hI dX12_term_32 ?_
        obtain ⟨k7, hf⟩ := chk_b hf
        refine ml_tape hx hb hI k7 dX12_term_35 ?_
        refine lv_bipush (v := 42) hx hb dX12_term_36 (by decide) ?_
        refine lv_icmp_ne (tgt := 45) hx hb dX12_term_38 (by decide) (fun c8 => ?_) (fun c8 => ?_)
        · replace hf := ifn c8 hf
          refine lv_iconst (v := 5) hx hb dX12_term_45 (by decide) ?_
          exact B_9_46_1 (5 : Int32) st H locs ls hI (lv_sub hl [0] rfl) hf
        · replace hf := ifp c8 hf
          refine lv_iconst (v := 4) hx hb dX12_term_41 (by decide) ?_
          refine lv_goto (tgt := 46) hx hb dX12_term_42 (by decide) ?_
          exact B_9_46_1 (4 : Int32) st H locs ls hI (lv_sub hl [0] rfl) hf
      unfold fm_term_s9 at hf
      refine lv_aload_n hx hb dX12_term_9 rfl (lv_at hl 0 rfl) ?_
      obtain ⟨x4, hc5, hf⟩ := bnd_b hf
      refine mcall_i (As := []) (rest := []) (n := 0) ⟨hx, hb, hml, hown, hts⟩ (cm_see l D h ad cy  st x4 hc5 _) (cwV 0 hts gX12_term_X12_see rfl rfl rfl ⟨rfl, nd_see⟩ ⟨Nat.le_of_ble_eq_true rfl, Nat.le_of_ble_eq_true rfl⟩) hI hA rfl hl.1 (Nat.le_of_ble_eq_true rfl) dX12_term_10 ⟨Nat.zero_le _, Nat.zero_le _⟩ (fun H locs hI => ?_)
      refine lv_bipush (v := 42) hx hb dX12_term_13 (by decide) ?_
      refine lv_icmp_eq (tgt := 27) hx hb dX12_term_15 (by decide) (fun c6 => ?_) (fun c6 => ?_)
      · replace hf := ifp c6 hf
        exact B_9_27  x4.1 H locs ls hI (lv_sub hl [0] rfl) hf
      · replace hf := ifn c6 hf
        refine lv_aload_n hx hb dX12_term_18 rfl (lv_at hl 0 rfl) ?_
        obtain ⟨x14, hc15, hf⟩ := bnd_b hf
        refine mcall_i (As := []) (rest := []) (n := 0) ⟨hx, hb, hml, hown, hts⟩ (cm_see l D h ad cy  x4.1 x14 hc15 _) (cwV 0 hts gX12_term_X12_see rfl rfl rfl ⟨rfl, nd_see⟩ ⟨Nat.le_of_ble_eq_true rfl, Nat.le_of_ble_eq_true rfl⟩) hI hA rfl hl.1 (Nat.le_of_ble_eq_true rfl) dX12_term_19 ⟨Nat.zero_le _, Nat.zero_le _⟩ (fun H locs hI => ?_)
        refine lv_bipush (v := 47) hx hb dX12_term_22 (by decide) ?_
        refine lv_icmp_ne (tgt := 75) hx hb dX12_term_24 (by decide) (fun c16 => ?_) (fun c16 => ?_)
        · replace hf := ifn c16 hf
          replace hf := exit_b hK1 hf
          exact B_75  x14.1 H locs ls hI (lv_sub hl [] rfl) hf
        · replace hf := ifp c16 hf
          exact B_9_27  x14.1 H locs ls hI (lv_sub hl [0] rfl) hf
  unfold fm_term at hf
  refine lv_aload_n hx hb dX12_term_0 rfl (lv_at hl 0 rfl) ?_
  obtain ⟨x1, hc2, hf⟩ := bnd_b hf
  refine mcall_i (As := []) (rest := []) (n := 0) ⟨hx, hb, hml, hown, hts⟩ (cm_value l D h ad cy  s0 x1 hc2 _) (cwV 0 hts gX12_term_X12_value rfl rfl rfl ⟨rfl, nd_value⟩ ⟨Nat.le_of_ble_eq_true rfl, Nat.le_of_ble_eq_true rfl⟩) hI hA rfl hl.1 (Nat.le_of_ble_eq_true rfl) dX12_term_1 ⟨Nat.zero_le _, Nat.zero_le _⟩ (fun H locs hI => ?_)
  refine lv_if_ne (tgt := 9) hx hb dX12_term_4 (by decide) (fun c3 => ?_) (fun c3 => ?_)
  · replace hf := ifn c3 hf
    exact L_9  mFuel x1.1 H locs ls hI (lv_sub hl [0] rfl) (asc_b hf)
  · replace hf := ifp c3 hf
    refine lv_iconst (v := 0) hx hb dX12_term_7 (by decide) ?_
    exact mret_z hx hb hr (by decide) hlocks hI (ret_e hK0 hf) dX12_term_8
