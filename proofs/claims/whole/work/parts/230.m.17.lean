theorem nd_keepsDay : yX12_keepsDay.cls ≠ "java/lang/invoke/MethodHandle" ∧ yX12_keepsDay.cls ≠ "java/lang/invoke/VarHandle" ∧ (parseMethodDescriptor yX12_keepsDay.desc).map (fun d => d.parameters.length) = some 1 := by decide +kernel
set_option maxHeartbeats 4000000 in
set_option maxRecDepth 100000 in
theorem cm_keepsDay (l : Launch) (D : va_G) (h : Nat) (ad : Nat → Nat) (cy : Nat → ClassId) (a1 : Int32) (s0 : MSt) (out : MSt) (hf : fm_keepsDay a1 s0 = some out) (sz : Nat) : CMv l D h ad cy yX12_keepsDay wsX12_keepsDay { frames := 1, cells := 0, slots := 0, locals := 23 } [.int a1] s0 out sz := by
  refine Met.ofW (cc := cX12_keepsDay) (maxL := 5) (ret := none) (by decide) rfl ?_
  intro p e s m args below meth c s₁ B hml hv
  obtain ⟨rfl, hsz, hP, hK, hD0⟩ := hv
  have hx := B.exec
  have hb := B.bytes
  have hr := B.returns
  have hts := atoms_spec (ws := wsX12_keepsDay) B.pre
  have hown : s.vm.findClass RX12 = some m.cls := findClass_of_methodNamed B.named
  have hlocks := B.notSynchronized
  subst hsz
  have hI : MI D (MA h ad cy s0 s.heap.size) h ad cy s s.heap s0 s.heap [] := ⟨hK, hP, hD0.self, va_S.rf⟩
  have hA : ∀ q : Nat, s.heap.size ≤ q → MA h ad cy s0 s.heap.size q := fun q hq => Or.inr hq
  have hin : ∀ w ∈ u_ws RX12 TX12 42, w ∈ wsX12_keepsDay := fun w hw => List.mem_cons_of_mem _ (List.mem_append_right _ hw)
  have k_hasBy : Cond.fieldLink RX12 63 "HalfBridgeModel" "hasBy" "[I" ∈ wsX12_keepsDay := by decide +kernel
  have k_said : Cond.fieldLink RX12 45 "HalfBridgeModel" "said" "[I" ∈ wsX12_keepsDay := by decide +kernel
  have k_yardBy : Cond.fieldLink RX12 67 "HalfBridgeModel" "yardBy" "[I" ∈ wsX12_keepsDay := by decide +kernel
  have hl := lv_entry ([.ref h, .int a1]) (n := 5) (Nat.le_of_ble_eq_true rfl)
  rw [lg_entry_eq]
  generalize (lg_sl ([.ref h, .int a1]) ++ List.replicate (5 - (lg_sl ([.ref h, .int a1])).length) Slot.unset).toArray = ls at hl ⊢
  have hl : lv_has ls 5 [(0, .ref h), (1, .int a1)] := hl
  obtain ⟨K0, hK0, hf⟩ := top_e hf
  have B_98 : ∀   (st : MSt) (H : Heap) (locs : List Loc) (ls : Array Slot), MI D (MA h ad cy s0 s.heap.size) h ad cy s s.heap st H locs → lv_has ls 5 [] → (fm_keepsDay_j98 st).bind K0 = some out → W p l e (headSpec wsX12_keepsDay { frames := 1, cells := 0, slots := 0, locals := 23 }).room s m (([.ref h, .int a1] : List Value).toArray) below meth c H locs 0 0 (MQ below (MQv D h ad cy s0 out s.heap.size) ([.ref h, .int a1] : List Value).toArray s 0 0 (MA h ad cy s0 s.heap.size)) (F0 m 98 ls []) := by
    intro st H locs ls hI hl hf
    unfold fm_keepsDay_j98 at hf
    exact mret_v hx hb hr hlocks hI (ret_e hK0 hf) dX12_keepsDay_98
  have L_2 : ∀ (v1 : Int32) (n : Nat) (v2 : Int32) (st : MSt) (H : Heap) (locs : List Loc) (ls : Array Slot), MI D (MA h ad cy s0 s.heap.size) h ad cy s s.heap st H locs → lv_has ls 5 [(0, .ref h), (1, .int v1), (2, .int v2)] → (iter (fun x : (Int32 × MSt) => fm_keepsDay_s2 v1 x.1 x.2) n (v2, st)).bind (fun x => ((Sum.elim (fun o : MSt => (some o : Option (MSt))) (fun x : (Int32 × MSt) => fm_keepsDay_j98 x.2)) x).bind K0) = some out → W p l e (headSpec wsX12_keepsDay { frames := 1, cells := 0, slots := 0, locals := 23 }).room s m (([.ref h, .int a1] : List Value).toArray) below meth c H locs 0 0 (MQ below (MQv D h ad cy s0 out s.heap.size) ([.ref h, .int a1] : List Value).toArray s 0 0 (MA h ad cy s0 s.heap.size)) (F0 m 2 ls []) := by
    intro v1 n
    induction n with
    | zero => intro v2 st H locs ls hI hl hf; exact (iter_0 hf).elim
    | succ n ih =>
      intro v2 st H locs ls hI hl hf
      obtain ⟨K1, hK1, hf⟩ := iter_e hf
      replace hf : (fm_keepsDay_s2 v1 v2 st).bind K1 = some out := hf
      have B_2_92 : ∀ (v2 : Int32)  (st : MSt) (H : Heap) (locs : List Loc) (ls : Array Slot), MI D (MA h ad cy s0 s.heap.size) h ad cy s s.heap st H locs → lv_has ls 5 [(0, .ref h), (1, .int v1), (2, .int v2)] → (fm_keepsDay_j92 v1 v2 st).bind K1 = some out → W p l e (headSpec wsX12_keepsDay { frames := 1, cells := 0, slots := 0, locals := 23 }).room s m (([.ref h, .int a1] : List Value).toArray) below meth c H locs 0 0 (MQ below (MQv D h ad cy s0 out s.heap.size) ([.ref h, .int a1] : List Value).toArray s 0 0 (MA h ad cy s0 s.heap.size)) (F0 m 92 ls []) := by
        intro v2 st H locs ls hI hl hf
        unfold fm_keepsDay_j92 at hf
        refine lv_iinc (v := (v2 + 1)) (lv' := [(2, .int (v2 + 1)), (0, .ref h), (1, .int v1)]) hx hb dX12_keepsDay_92 hl (k := 2) rfl (ci_ _ (by decide)) (by decide) rfl (fun ls hl => ?_)
        refine lv_goto (tgt := 2) hx hb dX12_keepsDay_95 (by decide) ?_
        replace hf := cont_b hK1 hf
        exact ih (v2 + 1) st H locs ls hI (lv_sub hl [1, 2, 0] rfl) hf
      have L_2_28 : ∀ (v2 : Int32) (n : Nat) (v3 : Int32) (st : MSt) (H : Heap) (locs : List Loc) (ls : Array Slot), MI D (MA h ad cy s0 s.heap.size) h ad cy s s.heap st H locs → lv_has ls 5 [(0, .ref h), (1, .int v1), (2, .int v2), (3, .int v3)] → (iter (fun x : (Int32 × MSt) => fm_keepsDay_s28 v1 v2 x.1 x.2) n (v3, st)).bind (fun x => ((Sum.elim (fun o : MSt => (some (.inl o) : Option ((MSt) ⊕ ((Int32 × MSt) ⊕ (Int32 × MSt))))) (fun x : (Int32 × MSt) => fm_keepsDay_j92 v1 v2 x.2)) x).bind K1) = some out → W p l e (headSpec wsX12_keepsDay { frames := 1, cells := 0, slots := 0, locals := 23 }).room s m (([.ref h, .int a1] : List Value).toArray) below meth c H locs 0 0 (MQ below (MQv D h ad cy s0 out s.heap.size) ([.ref h, .int a1] : List Value).toArray s 0 0 (MA h ad cy s0 s.heap.size)) (F0 m 28 ls []) := by
        intro v2 n
        induction n with
        | zero => intro v3 st H locs ls hI hl hf; exact (iter_0 hf).elim
        | succ n ih =>
          intro v3 st H locs ls hI hl hf
          obtain ⟨K2, hK2, hf⟩ := iter_e hf
          replace hf : (fm_keepsDay_s28 v1 v2 v3 st).bind K2 = some out := hf
          have B_2_28_86 : ∀ (v3 : Int32)  (st : MSt) (H : Heap) (locs : List Loc) (ls : Array Slot), MI D (MA h ad cy s0 s.heap.size) h ad cy s s.heap st H locs → lv_has ls 5 [(0, .ref h), (1, .int v1), (2, .int v2), (3, .int v3)] → (fm_keepsDay_j86 v1 v2 v3 st).bind K2 = some out → W p l e (headSpec wsX12_keepsDay { frames := 1, cells := 0, slots := 0, locals := 23 }).room s m (([.ref h, .int a1] : List Value).toArray) below meth c H locs 0 0 (MQ below (MQv D h ad cy s0 out s.heap.size) ([.ref h, .int a1] : List Value).toArray s 0 0 (MA h ad cy s0 s.heap.size)) (F0 m 86 ls []) := by
            intro v3 st H locs ls hI hl hf
            unfold fm_keepsDay_j86 at hf
            refine lv_iinc (v := (v3 + 1)) (lv' := [(3, .int (v3 + 1)), (0, .ref h), (1, .int v1), (2, .int v2)]) hx hb dX12_keepsDay_86 hl (k := 3) rfl (ci_ _ (by decide)) (by decide) rfl (fun ls hl => ?_)
            refine lv_goto (tgt := 28) hx hb dX12_keepsDay_89 (by decide) ?_
            replace hf := cont_b hK2 hf
            exact ih (v3 + 1) st H locs ls hI (lv_sub hl [1, 2, 3, 0] rfl) hf
          have L_2_28_44 : ∀ (v3 : Int32) (n : Nat) (v4 : Int32) (st : MSt) (H : Heap) (locs : List Loc) (ls : Array Slot), MI D (MA h ad cy s0 s.heap.size) h ad cy s s.heap st H locs → lv_has ls 5 [(0, .ref h), (1, .int v1), (2, .int v2), (3, .int v3), (4, .int v4)] → (iter (fun x : (Int32 × MSt) => fm_keepsDay_s44 v1 v2 v3 x.1 x.2) n (v4, st)).bind (fun x => ((Sum.elim (fun o : MSt => (some (.inl o) : Option ((MSt) ⊕ ((Int32 × MSt) ⊕ (Int32 × MSt))))) (fun x : (Int32 × MSt) => fm_keepsDay_j86 v1 v2 v3 x.2)) x).bind K2) = some out → W p l e (headSpec wsX12_keepsDay { frames := 1, cells := 0, slots := 0, locals := 23 }).room s m (([.ref h, .int a1] : List Value).toArray) below meth c H locs 0 0 (MQ below (MQv D h ad cy s0 out s.heap.size) ([.ref h, .int a1] : List Value).toArray s 0 0 (MA h ad cy s0 s.heap.size)) (F0 m 44 ls []) := by
            intro v3 n
            induction n with
            | zero => intro v4 st H locs ls hI hl hf; exact (iter_0 hf).elim
            | succ n ih =>
              intro v4 st H locs ls hI hl hf
              obtain ⟨K3, hK3, hf⟩ := iter_e hf
              replace hf : (fm_keepsDay_s44 v1 v2 v3 v4 st).bind K3 = some out := hf
              unfold fm_keepsDay_s44 at hf
              refine lv_iload hx hb dX12_keepsDay_44 (lv_at hl 4 rfl) ?_
              refine lv_iconst (v := 2) hx hb dX12_keepsDay_46 (by decide) ?_
              refine lv_icmp_ge (tgt := 86) hx hb dX12_keepsDay_47 (by decide) (fun c6 => ?_) (fun c6 => ?_)
              · replace hf := ifp c6 hf
                replace hf := exit_b hK3 hf
                exact B_2_28_86 v3 st H locs ls hI (lv_sub hl [0, 1, 2, 3] rfl) hf
              · replace hf := ifn c6 hf
                refine lv_aload_n hx hb dX12_keepsDay_50 rfl (lv_at hl 0 rfl) ?_
                refine mg_yardBy hx hb hts hin hown k_yardBy hI dX12_keepsDay_51 ?_
                refine lv_sipush (v := 160) hx hb dX12_keepsDay_54 (by decide) ?_
                refine lv_iload_n hx hb dX12_keepsDay_57 rfl (lv_at hl 1 rfl) ?_
                refine lv_imul hx hb dX12_keepsDay_58 ?_
                refine lv_bipush (v := 80) hx hb dX12_keepsDay_59 (by decide) ?_
                refine lv_iload_n hx hb dX12_keepsDay_61 rfl (lv_at hl 2 rfl) ?_
                refine lv_imul hx hb dX12_keepsDay_62 ?_
                refine lv_iadd hx hb dX12_keepsDay_63 ?_
                refine lv_iconst (v := 2) hx hb dX12_keepsDay_64 (by decide) ?_
                refine lv_iload_n hx hb dX12_keepsDay_65 rfl (lv_at hl 3 rfl) ?_
                refine lv_imul hx hb dX12_keepsDay_66 ?_
                refine lv_iadd hx hb dX12_keepsDay_67 ?_
                refine lv_iload hx hb dX12_keepsDay_68 (lv_at hl 4 rfl) ?_
                refine lv_iadd hx hb dX12_keepsDay_70 ?_
                refine lv_aload_n hx hb dX12_keepsDay_71 rfl (lv_at hl 0 rfl) ?_
                refine lv_iload_n hx hb dX12_keepsDay_72 rfl (lv_at hl 2 rfl) ?_
                refine lv_iload_n hx hb dX12_keepsDay_73 rfl (lv_at hl 3 rfl) ?_
                refine lv_iload hx hb dX12_keepsDay_74 (lv_at hl 4 rfl) ?_
                obtain ⟨x7, hc8, hf⟩ := bnd_b hf
                refine mcall_i (As := [.int v2, .int v3, .int v4]) (rest := [.int (((((160 : Int32) * v1) + ((80 : Int32) * v2)) + ((2 : Int32) * v3)) + v4), .ref (ad 33)]) (n := 3) ⟨hx, hb, hml, hown, hts⟩ (cm_yardOf l D h ad cy v2 v3 v4 st x7 hc8 _) (cwV 3 hts gX12_keepsDay_X12_yardOf rfl rfl rfl ⟨rfl, nd_yardOf⟩ ⟨Nat.le_of_ble_eq_true rfl, Nat.le_of_ble_eq_true rfl⟩) hI hA rfl hl.1 (Nat.le_of_ble_eq_true rfl) dX12_keepsDay_76 ⟨Nat.zero_le _, Nat.zero_le _⟩ (fun H locs hI => ?_)
                obtain ⟨k9, hf⟩ := chk_b hf
                refine ms_yardBy hx hb hI k9 dX12_keepsDay_79 (fun H locs hI => ?_)
                refine lv_iinc (v := (v4 + 1)) (lv' := [(4, .int (v4 + 1)), (0, .ref h), (1, .int v1), (2, .int v2), (3, .int v3)]) hx hb dX12_keepsDay_80 hl (k := 4) rfl (ci_ _ (by decide)) (by decide) rfl (fun ls hl => ?_)
                refine lv_goto (tgt := 44) hx hb dX12_keepsDay_83 (by decide) ?_
                replace hf := cont_b hK3 hf
                exact ih (v4 + 1) (msa x7.1 33 (((((160 : Int32) * v1) + ((80 : Int32) * v2)) + ((2 : Int32) * v3)) + v4).toNatClampNeg x7.2) H locs ls hI (lv_sub hl [1, 2, 3, 4, 0] rfl) hf
          unfold fm_keepsDay_s28 at hf
          refine lv_iload_n hx hb dX12_keepsDay_28 rfl (lv_at hl 3 rfl) ?_
          refine lv_aload_n hx hb dX12_keepsDay_29 rfl (lv_at hl 0 rfl) ?_
          refine mg_said hx hb hts hin hown k_said hI dX12_keepsDay_30 ?_
          refine lv_bipush (v := 6) hx hb dX12_keepsDay_33 (by decide) ?_
          refine lv_iload_n hx hb dX12_keepsDay_35 rfl (lv_at hl 2 rfl) ?_
          refine lv_iadd hx hb dX12_keepsDay_36 ?_
          obtain ⟨k4, hf⟩ := chk_b hf
          refine ml_said hx hb hI k4 dX12_keepsDay_37 ?_
          refine lv_icmp_ge (tgt := 92) hx hb dX12_keepsDay_38 (by decide) (fun c5 => ?_) (fun c5 => ?_)
          · replace hf := ifp c5 hf
            replace hf := exit_b hK2 hf
            exact B_2_92 v2 st H locs ls hI (lv_sub hl [0, 1, 2] rfl) hf
          · replace hf := ifn c5 hf
            refine lv_iconst (v := 0) hx hb dX12_keepsDay_41 (by decide) ?_
            refine lv_istore (lv' := [(4, .int (0 : Int32)), (0, .ref h), (1, .int v1), (2, .int v2), (3, .int v3)]) hx hb dX12_keepsDay_42 hl (by decide) rfl (fun ls hl => ?_)
            exact L_2_28_44 v3 mFuel (0 : Int32) st H locs ls hI (lv_sub hl [1, 2, 3, 4, 0] rfl) (asc_b hf)
      unfold fm_keepsDay_s2 at hf
      refine lv_iload_n hx hb dX12_keepsDay_2 rfl (lv_at hl 2 rfl) ?_
      refine lv_iconst (v := 2) hx hb dX12_keepsDay_3 (by decide) ?_
      refine lv_icmp_ge (tgt := 98) hx hb dX12_keepsDay_4 (by decide) (fun c1 => ?_) (fun c1 => ?_)
      · replace hf := ifp c1 hf
        replace hf := exit_b hK1 hf
        exact B_98  st H locs ls hI (lv_sub hl [] rfl) hf
      · replace hf := ifn c1 hf
        refine lv_aload_n hx hb dX12_keepsDay_7 rfl (lv_at hl 0 rfl) ?_
        refine mg_hasBy hx hb hts hin hown k_hasBy hI dX12_keepsDay_8 ?_
        refine lv_iconst (v := 2) hx hb dX12_keepsDay_11 (by decide) ?_
        refine lv_iload_n hx hb dX12_keepsDay_12 rfl (lv_at hl 1 rfl) ?_
        refine lv_imul hx hb dX12_keepsDay_13 ?_
        refine lv_iload_n hx hb dX12_keepsDay_14 rfl (lv_at hl 2 rfl) ?_
        refine lv_iadd hx hb dX12_keepsDay_15 ?_
        refine lv_aload_n hx hb dX12_keepsDay_16 rfl (lv_at hl 0 rfl) ?_
        refine mg_said hx hb hts hin hown k_said hI dX12_keepsDay_17 ?_
        refine lv_bipush (v := 6) hx hb dX12_keepsDay_20 (by decide) ?_
        refine lv_iload_n hx hb dX12_keepsDay_22 rfl (lv_at hl 2 rfl) ?_
        refine lv_iadd hx hb dX12_keepsDay_23 ?_
        obtain ⟨k2, hf⟩ := chk_b hf
        refine ml_said hx hb hI k2 dX12_keepsDay_24 ?_
        obtain ⟨k3, hf⟩ := chk_b hf
        refine ms_hasBy hx hb hI k3 dX12_keepsDay_25 (fun H locs hI => ?_)
        refine lv_iconst (v := 0) hx hb dX12_keepsDay_26 (by decide) ?_
        refine lv_istore_n (lv' := [(3, .int (0 : Int32)), (0, .ref h), (1, .int v1), (2, .int v2)]) hx hb dX12_keepsDay_27 rfl hl (by decide) rfl (fun ls hl => ?_)
        exact L_2_28 v2 mFuel (0 : Int32) (msa st 32 (((2 : Int32) * v1) + v2).toNatClampNeg (st.2.1 26 ((6 : Int32) + v2).toNatClampNeg)) H locs ls hI (lv_sub hl [1, 2, 3, 0] rfl) (asc_b hf)
  unfold fm_keepsDay at hf
  refine lv_iconst (v := 0) hx hb dX12_keepsDay_0 (by decide) ?_
  refine lv_istore_n (lv' := [(2, .int (0 : Int32)), (0, .ref h), (1, .int a1)]) hx hb dX12_keepsDay_1 rfl hl (by decide) rfl (fun ls hl => ?_)
  exact L_2 a1 mFuel (0 : Int32) s0 s.heap [] ls hI (lv_sub hl [1, 2, 0] rfl) (asc_b hf)

theorem nd_isAgain : yX12_isAgain.cls ≠ "java/lang/invoke/MethodHandle" ∧ yX12_isAgain.cls ≠ "java/lang/invoke/VarHandle" ∧ (parseMethodDescriptor yX12_isAgain.desc).map (fun d => d.parameters.length) = some 2 := by decide +kernel
set_option maxHeartbeats 4000000 in
set_option maxRecDepth 100000 in
theorem cm_isAgain (l : Launch) (D : va_G) (h : Nat) (ad : Nat → Nat) (cy : Nat → ClassId) (a1 : Int32) (a2 : Int32) (s0 : MSt) (out : MSt × Int32) (hf : fm_isAgain a1 a2 s0 = some out) (sz : Nat) : CMi l D h ad cy yX12_isAgain wsX12_isAgain { frames := 0, cells := 0, slots := 0, locals := 0 } [.int a1, .int a2] s0 out sz := by
  refine Met.ofW (cc := cX12_isAgain) (maxL := 5) (ret := (some .boolean)) (by decide) rfl ?_
  intro p e s m args below meth c s₁ B hml hv
  obtain ⟨rfl, hsz, hP, hK, hD0⟩ := hv
  have hx := B.exec
  have hb := B.bytes
  have hr := B.returns
  have hts := atoms_spec (ws := wsX12_isAgain) B.pre
  have hown : s.vm.findClass RX12 = some m.cls := findClass_of_methodNamed B.named
  have hlocks := B.notSynchronized
  subst hsz
  have hI : MI D (MA h ad cy s0 s.heap.size) h ad cy s s.heap s0 s.heap [] := ⟨hK, hP, hD0.self, va_S.rf⟩
  have hA : ∀ q : Nat, s.heap.size ≤ q → MA h ad cy s0 s.heap.size q := fun q hq => Or.inr hq
  have hin : ∀ w ∈ u_ws RX12 TX12 42, w ∈ wsX12_isAgain := fun w hw => List.mem_cons_of_mem _ (List.mem_append_right _ hw)
  have k_hasBy : Cond.fieldLink RX12 63 "HalfBridgeModel" "hasBy" "[I" ∈ wsX12_isAgain := by decide +kernel
  have k_yardBy : Cond.fieldLink RX12 67 "HalfBridgeModel" "yardBy" "[I" ∈ wsX12_isAgain := by decide +kernel
  have hl := lv_entry ([.ref h, .int a1, .int a2]) (n := 5) (Nat.le_of_ble_eq_true rfl)
  rw [lg_entry_eq]
  generalize (lg_sl ([.ref h, .int a1, .int a2]) ++ List.replicate (5 - (lg_sl ([.ref h, .int a1, .int a2])).length) Slot.unset).toArray = ls at hl ⊢
  have hl : lv_has ls 5 [(0, .ref h), (1, .int a1), (2, .int a2)] := hl
  obtain ⟨K0, hK0, hf⟩ := top_e hf
  have B_105 : ∀   (st : MSt) (H : Heap) (locs : List Loc) (ls : Array Slot), MI D (MA h ad cy s0 s.heap.size) h ad cy s s.heap st H locs → lv_has ls 5 [] → (fm_isAgain_j105 st).bind K0 = some out → W p l e (headSpec wsX12_isAgain { frames := 0, cells := 0, slots := 0, locals := 0 }).room s m (([.ref h, .int a1, .int a2] : List Value).toArray) below meth c H locs 0 0 (MQ below (MQi D h ad cy s0 out s.heap.size) ([.ref h, .int a1, .int a2] : List Value).toArray s 0 0 (MA h ad cy s0 s.heap.size)) (F0 m 105 ls []) := by
    intro st H locs ls hI hl hf
    unfold fm_isAgain_j105 at hf
    refine lv_iconst (v := 1) hx hb dX12_isAgain_105 (by decide) ?_
    exact mret_z hx hb hr (by decide) hlocks hI (ret_e hK0 hf) dX12_isAgain_106
  have L_2 : ∀ (v1 : Int32) (v2 : Int32) (n : Nat) (v3 : Int32) (st : MSt) (H : Heap) (locs : List Loc) (ls : Array Slot), MI D (MA h ad cy s0 s.heap.size) h ad cy s s.heap st H locs → lv_has ls 5 [(0, .ref h), (1, .int v1), (2, .int v2), (3, .int v3)] → (iter (fun x : (Int32 × MSt) => fm_isAgain_s2 v1 v2 x.1 x.2) n (v3, st)).bind (fun x => ((Sum.elim (fun o : MSt × Int32 => (some o : Option (MSt × Int32))) (fun x : (Int32 × MSt) => fm_isAgain_j105 x.2)) x).bind K0) = some out → W p l e (headSpec wsX12_isAgain { frames := 0, cells := 0, slots := 0, locals := 0 }).room s m (([.ref h, .int a1, .int a2] : List Value).toArray) below meth c H locs 0 0 (MQ below (MQi D h ad cy s0 out s.heap.size) ([.ref h, .int a1, .int a2] : List Value).toArray s 0 0 (MA h ad cy s0 s.heap.size)) (F0 m 2 ls []) := by
    intro v1 v2 n
    induction n with
    | zero => intro v3 st H locs ls hI hl hf; exact (iter_0 hf).elim
    | succ n ih =>
      intro v3 st H locs ls hI hl hf
      obtain ⟨K1, hK1, hf⟩ := iter_e hf
      replace hf : (fm_isAgain_s2 v1 v2 v3 st).bind K1 = some out := hf
      have B_2_99 : ∀ (v3 : Int32)  (st : MSt) (H : Heap) (locs : List Loc) (ls : Array Slot), MI D (MA h ad cy s0 s.heap.size) h ad cy s s.heap st H locs → lv_has ls 5 [(0, .ref h), (1, .int v1), (2, .int v2), (3, .int v3)] → (fm_isAgain_j99 v1 v2 v3 st).bind K1 = some out → W p l e (headSpec wsX12_isAgain { frames := 0, cells := 0, slots := 0, locals := 0 }).room s m (([.ref h, .int a1, .int a2] : List Value).toArray) below meth c H locs 0 0 (MQ below (MQi D h ad cy s0 out s.heap.size) ([.ref h, .int a1, .int a2] : List Value).toArray s 0 0 (MA h ad cy s0 s.heap.size)) (F0 m 99 ls []) := by
        intro v3 st H locs ls hI hl hf
        unfold fm_isAgain_j99 at hf
        refine lv_iinc (v := (v3 + 1)) (lv' := [(3, .int (v3 + 1)), (0, .ref h), (1, .int v1), (2, .int v2)]) hx hb dX12_isAgain_99 hl (k := 3) rfl (ci_ _ (by decide)) (by decide) rfl (fun ls hl => ?_)
        refine lv_goto (tgt := 2) hx hb dX12_isAgain_102 (by decide) ?_
        replace hf := cont_b hK1 hf
        exact ih (v3 + 1) st H locs ls hI (lv_sub hl [1, 2, 3, 0] rfl) hf
      have L_2_35 : ∀ (v3 : Int32) (n : Nat) (v4 : Int32) (st : MSt) (H : Heap) (locs : List Loc) (ls : Array Slot), MI D (MA h ad cy s0 s.heap.size) h ad cy s s.heap st H locs → lv_has ls 5 [(0, .ref h), (1, .int v1), (2, .int v2), (3, .int v3), (4, .int v4)] → (iter (fun x : (Int32 × MSt) => fm_isAgain_s35 v1 v2 v3 x.1 x.2) n (v4, st)).bind (fun x => ((Sum.elim (fun o : MSt × Int32 => (some (.inl o) : Option ((MSt × Int32) ⊕ ((Int32 × MSt) ⊕ (Int32 × MSt))))) (fun x : (Int32 × MSt) => fm_isAgain_j99 v1 v2 v3 x.2)) x).bind K1) = some out → W p l e (headSpec wsX12_isAgain { frames := 0, cells := 0, slots := 0, locals := 0 }).room s m (([.ref h, .int a1, .int a2] : List Value).toArray) below meth c H locs 0 0 (MQ below (MQi D h ad cy s0 out s.heap.size) ([.ref h, .int a1, .int a2] : List Value).toArray s 0 0 (MA h ad cy s0 s.heap.size)) (F0 m 35 ls []) := by
        intro v3 n
        induction n with
        | zero => intro v4 st H locs ls hI hl hf; exact (iter_0 hf).elim
        | succ n ih =>
          intro v4 st H locs ls hI hl hf
          obtain ⟨K2, hK2, hf⟩ := iter_e hf
          replace hf : (fm_isAgain_s35 v1 v2 v3 v4 st).bind K2 = some out := hf
          unfold fm_isAgain_s35 at hf
          refine lv_iload hx hb dX12_isAgain_35 (lv_at hl 4 rfl) ?_
          refine lv_iconst (v := 2) hx hb dX12_isAgain_37 (by decide) ?_
          refine lv_aload_n hx hb dX12_isAgain_38 rfl (lv_at hl 0 rfl) ?_
          refine mg_hasBy hx hb hts hin hown k_hasBy hI dX12_isAgain_39 ?_
          refine lv_iconst (v := 2) hx hb dX12_isAgain_42 (by decide) ?_
          refine lv_iload_n hx hb dX12_isAgain_43 rfl (lv_at hl 1 rfl) ?_
          refine lv_imul hx hb dX12_isAgain_44 ?_
          refine lv_iload_n hx hb dX12_isAgain_45 rfl (lv_at hl 3 rfl) ?_
          refine lv_iadd hx hb dX12_isAgain_46 ?_
          obtain ⟨k5, hf⟩ := chk_b hf
          refine ml_hasBy hx hb hI k5 dX12_isAgain_47 ?_
          refine lv_imul hx hb dX12_isAgain_48 ?_
          refine lv_icmp_ge (tgt := 99) hx hb dX12_isAgain_49 (by decide) (fun c6 => ?_) (fun c6 => ?_)
          · replace hf := ifp c6 hf
            replace hf := exit_b hK2 hf
            exact B_2_99 v3 st H locs ls hI (lv_sub hl [0, 1, 2, 3] rfl) hf
          · replace hf := ifn c6 hf
            refine lv_aload_n hx hb dX12_isAgain_52 rfl (lv_at hl 0 rfl) ?_
            refine mg_yardBy hx hb hts hin hown k_yardBy hI dX12_isAgain_53 ?_
            refine lv_sipush (v := 160) hx hb dX12_isAgain_56 (by decide) ?_
            refine lv_iload_n hx hb dX12_isAgain_59 rfl (lv_at hl 1 rfl) ?_
            refine lv_imul hx hb dX12_isAgain_60 ?_
            refine lv_bipush (v := 80) hx hb dX12_isAgain_61 (by decide) ?_
            refine lv_iload_n hx hb dX12_isAgain_63 rfl (lv_at hl 3 rfl) ?_
            refine lv_imul hx hb dX12_isAgain_64 ?_
            refine lv_iadd hx hb dX12_isAgain_65 ?_
            refine lv_iload hx hb dX12_isAgain_66 (lv_at hl 4 rfl) ?_
            refine lv_iadd hx hb dX12_isAgain_68 ?_
            obtain ⟨k7, hf⟩ := chk_b hf
            refine ml_yardBy hx hb hI k7 dX12_isAgain_69 ?_
            refine lv_aload_n hx hb dX12_isAgain_70 rfl (lv_at hl 0 rfl) ?_
            refine mg_yardBy hx hb hts hin hown k_yardBy hI dX12_isAgain_71 ?_
            refine lv_sipush (v := 160) hx hb dX12_isAgain_74 (by decide) ?_
            refine lv_iload_n hx hb dX12_isAgain_77 rfl (lv_at hl 2 rfl) ?_
            refine lv_imul hx hb dX12_isAgain_78 ?_
            refine lv_bipush (v := 80) hx hb dX12_isAgain_79 (by decide) ?_
            refine lv_iload_n hx hb dX12_isAgain_81 rfl (lv_at hl 3 rfl) ?_
            refine lv_imul hx hb dX12_isAgain_82 ?_
            refine lv_iadd hx hb dX12_isAgain_83 ?_
            refine lv_iload hx hb dX12_isAgain_84 (lv_at hl 4 rfl) ?_
            refine lv_iadd hx hb dX12_isAgain_86 ?_
            obtain ⟨k8, hf⟩ := chk_b hf
            refine ml_yardBy hx hb hI k8 dX12_isAgain_87 ?_
            refine lv_icmp_eq (tgt := 93) hx hb dX12_isAgain_88 (by decide) (fun c9 => ?_) (fun c9 => ?_)
            · replace hf := ifp c9 hf
              refine lv_iinc (v := (v4 + 1)) (lv' := [(4, .int (v4 + 1)), (0, .ref h), (1, .int v1), (2, .int v2), (3, .int v3)]) hx hb dX12_isAgain_93 hl (k := 4) rfl (ci_ _ (by decide)) (by decide) rfl (fun ls hl => ?_)
              refine lv_goto (tgt := 35) hx hb dX12_isAgain_96 (by decide) ?_
              replace hf := cont_b hK2 hf
              exact ih (v4 + 1) st H locs ls hI (lv_sub hl [1, 2, 3, 4, 0] rfl) hf
            · replace hf := ifn c9 hf
              refine lv_iconst (v := 0) hx hb dX12_isAgain_91 (by decide) ?_
              replace hf := inl_b hK2 hf
              replace hf : Option.bind (some (Sum.inl (st, (0 : Int32)))) K1 = some out := hf
              replace hf := inl_b hK1 hf
              replace hf : Option.bind (some (st, (0 : Int32))) K0 = some out := hf
              exact mret_z hx hb hr (by decide) hlocks hI (ret_e hK0 hf) dX12_isAgain_92
      unfold fm_isAgain_s2 at hf
      refine lv_iload_n hx hb dX12_isAgain_2 rfl (lv_at hl 3 rfl) ?_
      refine lv_iconst (v := 2) hx hb dX12_isAgain_3 (by decide) ?_
      refine lv_icmp_ge (tgt := 105) hx hb dX12_isAgain_4 (by decide) (fun c1 => ?_) (fun c1 => ?_)
      · replace hf := ifp c1 hf
        replace hf := exit_b hK1 hf
        exact B_105  st H locs ls hI (lv_sub hl [] rfl) hf
      · replace hf := ifn c1 hf
        refine lv_aload_n hx hb dX12_isAgain_7 rfl (lv_at hl 0 rfl) ?_
        refine mg_hasBy hx hb hts hin hown k_hasBy hI dX12_isAgain_8 ?_
        refine lv_iconst (v := 2) hx hb dX12_isAgain_11 (by decide) ?_
        refine lv_iload_n hx hb dX12_isAgain_12 rfl (lv_at hl 1 rfl) ?_
        refine lv_imul hx hb dX12_isAgain_13 ?_
        refine lv_iload_n hx hb dX12_isAgain_14 rfl (lv_at hl 3 rfl) ?_
        refine lv_iadd hx hb dX12_isAgain_15 ?_
        obtain ⟨k2, hf⟩ := chk_b hf
        refine ml_hasBy hx hb hI k2 dX12_isAgain_16 ?_
        refine lv_aload_n hx hb dX12_isAgain_17 rfl (lv_at hl 0 rfl) ?_
        refine mg_hasBy hx hb hts hin hown k_hasBy hI dX12_isAgain_18 ?_
        refine lv_iconst (v := 2) hx hb dX12_isAgain_21 (by decide) ?_
        refine lv_iload_n hx hb dX12_isAgain_22 rfl (lv_at hl 2 rfl) ?_
        refine lv_imul hx hb dX12_isAgain_23 ?_
        refine lv_iload_n hx hb dX12_isAgain_24 rfl (lv_at hl 3 rfl) ?_
        refine lv_iadd hx hb dX12_isAgain_25 ?_
        obtain ⟨k3, hf⟩ := chk_b hf
        refine ml_hasBy hx hb hI k3 dX12_isAgain_26 ?_
        refine lv_icmp_eq (tgt := 32) hx hb dX12_isAgain_27 (by decide) (fun c4 => ?_) (fun c4 => ?_)
        · replace hf := ifp c4 hf
          refine lv_iconst (v := 0) hx hb dX12_isAgain_32 (by decide) ?_
          refine lv_istore (lv' := [(4, .int (0 : Int32)), (0, .ref h), (1, .int v1), (2, .int v2), (3, .int v3)]) hx hb dX12_isAgain_33 hl (by decide) rfl (fun ls hl => ?_)
          exact L_2_35 v3 mFuel (0 : Int32) st H locs ls hI (lv_sub hl [1, 2, 3, 4, 0] rfl) (asc_b hf)
        · replace hf := ifn c4 hf
          refine lv_iconst (v := 0) hx hb dX12_isAgain_30 (by decide) ?_
          replace hf := inl_b hK1 hf
          replace hf : Option.bind (some (st, (0 : Int32))) K0 = some out := hf
          exact mret_z hx hb hr (by decide) hlocks hI (ret_e hK0 hf) dX12_isAgain_31
  unfold fm_isAgain at hf
  refine lv_iconst (v := 0) hx hb dX12_isAgain_0 (by decide) ?_
  refine lv_istore_n (lv' := [(3, .int (0 : Int32)), (0, .ref h), (1, .int a1), (2, .int a2)]) hx hb dX12_isAgain_1 rfl hl (by decide) rfl (fun ls hl => ?_)
  exact L_2 a1 a2 mFuel (0 : Int32) s0 s.heap [] ls hI (lv_sub hl [1, 2, 3, 0] rfl) (asc_b hf)

theorem nd_zigs : yX12_zigs.cls ≠ "java/lang/invoke/MethodHandle" ∧ yX12_zigs.cls ≠ "java/lang/invoke/VarHandle" ∧ (parseMethodDescriptor yX12_zigs.desc).map (fun d => d.parameters.length) = some 2 := by decide +kernel
set_option maxHeartbeats 4000000 in
set_option maxRecDepth 100000 in
theorem cm_zigs (l : Launch) (D : va_G) (h : Nat) (ad : Nat → Nat) (cy : Nat → ClassId) (a1 : Int32) (a2 : Int32) (s0 : MSt) (out : MSt) (hf : fm_zigs a1 a2 s0 = some out) (sz : Nat) : CMv l D h ad cy yX12_zigs wsX12_zigs { frames := 5, cells := 0, slots := 0, locals := 123 } [.int a1, .int a2] s0 out sz := by
  refine Met.ofW (cc := cX12_zigs) (maxL := 3) (ret := none) (by decide) rfl ?_
  intro p e s m args below meth c s₁ B hml hv
  obtain ⟨rfl, hsz, hP, hK, hD0⟩ := hv
  have hx := B.exec
  have hb := B.bytes
  have hr := B.returns
  have hts := atoms_spec (ws := wsX12_zigs) B.pre
  have hown : s.vm.findClass RX12 = some m.cls := findClass_of_methodNamed B.named
  have hlocks := B.notSynchronized
  subst hsz
  have hI : MI D (MA h ad cy s0 s.heap.size) h ad cy s s.heap s0 s.heap [] := ⟨hK, hP, hD0.self, va_S.rf⟩
  have hA : ∀ q : Nat, s.heap.size ≤ q → MA h ad cy s0 s.heap.size q := fun q hq => Or.inr hq
  have hl := lv_entry ([.ref h, .int a1, .int a2]) (n := 3) (Nat.le_of_ble_eq_true rfl)
  rw [lg_entry_eq]
  generalize (lg_sl ([.ref h, .int a1, .int a2]) ++ List.replicate (3 - (lg_sl ([.ref h, .int a1, .int a2])).length) Slot.unset).toArray = ls at hl ⊢
  have hl : lv_has ls 3 [(0, .ref h), (1, .int a1), (2, .int a2)] := hl
  obtain ⟨K0, hK0, hf⟩ := top_e hf
  unfold fm_zigs at hf
  refine lv_aload_n hx hb dX12_zigs_0 rfl (lv_at hl 0 rfl) ?_
  obtain ⟨x1, hc2, hf⟩ := bnd_b hf
  refine mcall_i (As := []) (rest := []) (n := 0) ⟨hx, hb, hml, hown, hts⟩ (cm_isMet l D h ad cy  s0 x1 hc2 _) (cwV 0 hts gX12_zigs_X12_isMet rfl rfl rfl ⟨rfl, nd_isMet⟩ ⟨Nat.le_of_ble_eq_true rfl, Nat.le_of_ble_eq_true rfl⟩) hI hA rfl hl.1 (Nat.le_of_ble_eq_true rfl) dX12_zigs_1 ⟨Nat.zero_le _, Nat.zero_le _⟩ (fun H locs hI => ?_)
  refine lv_if_eq (tgt := 8) hx hb dX12_zigs_4 (by decide) (fun c3 => ?_) (fun c3 => ?_)
  · replace hf := ifp c3 hf
    refine lv_aload_n hx hb dX12_zigs_8 rfl (lv_at hl 0 rfl) ?_
    refine lv_iconst (v := 0) hx hb dX12_zigs_9 (by decide) ?_
    refine lv_iload_n hx hb dX12_zigs_10 rfl (lv_at hl 1 rfl) ?_
    obtain ⟨x4, hc5, hf⟩ := bnd_b hf
    refine mcall_v (As := [.int (0 : Int32), .int a1]) (rest := []) (n := 2) ⟨hx, hb, hml, hown, hts⟩ (cm_looks l D h ad cy (0 : Int32) a1 x1.1 x4 hc5 _) (cwV 2 hts gX12_zigs_X12_looks rfl rfl rfl ⟨rfl, nd_looks⟩ ⟨Nat.le_of_ble_eq_true rfl, Nat.le_of_ble_eq_true rfl⟩) hI hA rfl hl.1 (Nat.le_of_ble_eq_true rfl) dX12_zigs_11 ⟨Nat.zero_le _, Nat.zero_le _⟩ (fun H locs hI => ?_)
    refine lv_aload_n hx hb dX12_zigs_14 rfl (lv_at hl 0 rfl) ?_
    refine lv_iconst (v := 1) hx hb dX12_zigs_15 (by decide) ?_
    refine lv_iload_n hx hb dX12_zigs_16 rfl (lv_at hl 2 rfl) ?_
    obtain ⟨x6, hc7, hf⟩ := bnd_b hf
    refine mcall_v (As := [.int (1 : Int32), .int a2]) (rest := []) (n := 2) ⟨hx, hb, hml, hown, hts⟩ (cm_looks l D h ad cy (1 : Int32) a2 x4 x6 hc7 _) (cwV 2 hts gX12_zigs_X12_looks rfl rfl rfl ⟨rfl, nd_looks⟩ ⟨Nat.le_of_ble_eq_true rfl, Nat.le_of_ble_eq_true rfl⟩) hI hA rfl hl.1 (Nat.le_of_ble_eq_true rfl) dX12_zigs_17 ⟨Nat.zero_le _, Nat.zero_le _⟩ (fun H locs hI => ?_)
    refine lv_aload_n hx hb dX12_zigs_20 rfl (lv_at hl 0 rfl) ?_
    refine lv_iconst (v := 0) hx hb dX12_zigs_21 (by decide) ?_
    obtain ⟨x8, hc9, hf⟩ := bnd_b hf
    refine mcall_v (As := [.int (0 : Int32)]) (rest := []) (n := 1) ⟨hx, hb, hml, hown, hts⟩ (cm_acts l D h ad cy (0 : Int32) x6 x8 hc9 _) (cwV 1 hts gX12_zigs_X12_acts rfl rfl rfl ⟨rfl, nd_acts⟩ ⟨Nat.le_of_ble_eq_true rfl, Nat.le_of_ble_eq_true rfl⟩) hI hA rfl hl.1 (Nat.le_of_ble_eq_true rfl) dX12_zigs_22 ⟨Nat.zero_le _, Nat.zero_le _⟩ (fun H locs hI => ?_)
    refine lv_aload_n hx hb dX12_zigs_25 rfl (lv_at hl 0 rfl) ?_
    refine lv_iconst (v := 1) hx hb dX12_zigs_26 (by decide) ?_
    obtain ⟨x10, hc11, hf⟩ := bnd_b hf
    refine mcall_v (As := [.int (1 : Int32)]) (rest := []) (n := 1) ⟨hx, hb, hml, hown, hts⟩ (cm_acts l D h ad cy (1 : Int32) x8 x10 hc11 _) (cwV 1 hts gX12_zigs_X12_acts rfl rfl rfl ⟨rfl, nd_acts⟩ ⟨Nat.le_of_ble_eq_true rfl, Nat.le_of_ble_eq_true rfl⟩) hI hA rfl hl.1 (Nat.le_of_ble_eq_true rfl) dX12_zigs_27 ⟨Nat.zero_le _, Nat.zero_le _⟩ (fun H locs hI => ?_)
    exact mret_v hx hb hr hlocks hI (ret_e hK0 hf) dX12_zigs_30
  · replace hf := ifn c3 hf
    exact mret_v hx hb hr hlocks hI (ret_e hK0 hf) dX12_zigs_7
