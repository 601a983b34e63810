noncomputable def fm_floods_j72 (st : MSt) : Option (MSt) :=
  some st
noncomputable def fm_floods_j66 (v1 : Int32) (st : MSt) : Option ((MSt) ⊕ ((Int32 × MSt) ⊕ (Int32 × MSt))) :=
  some (.inr (.inl ((v1 + 1), st)))
noncomputable def fm_floods_s37 (v1 : Int32) (v2 : Int32) (st : MSt) : Option ((MSt) ⊕ ((Int32 × MSt) ⊕ (Int32 × MSt))) :=
  (if (2 : Int32) ≤ v2 then some (.inr (.inr (v2, st))) else chk (inb (((14 : Int32) + ((2 : Int32) * v1)) + (1 : Int32)) 286) ((fm_takesYards v2 (st.2.1 26 (((14 : Int32) + ((2 : Int32) * v1)) + (1 : Int32)).toNatClampNeg) st).bind fun x8 => some (.inr (.inl ((v2 + 1), x8)))))
noncomputable def fm_floods_s2 (v1 : Int32) (st : MSt) : Option ((MSt) ⊕ ((Int32 × MSt) ⊕ (Int32 × MSt))) :=
  chk (inb (4 : Int32) 286) ((if (st.2.1 26 (4 : Int32).toNatClampNeg) ≤ v1 then some (.inr (.inr (v1, st))) else chk (inb ((14 : Int32) + ((2 : Int32) * v1)) 286) (chk (inb (1 : Int32) 286) ((if (st.2.1 26 ((14 : Int32) + ((2 : Int32) * v1)).toNatClampNeg) = (st.2.1 26 (1 : Int32).toNatClampNeg) then (iter (fun x : (Int32 × MSt) => fm_floods_s37 v1 x.1 x.2) mFuel ((0 : Int32), st)).bind (Sum.elim (fun o : MSt => (some (.inl o) : Option ((MSt) ⊕ ((Int32 × MSt) ⊕ (Int32 × MSt))))) (fun x : (Int32 × MSt) => fm_floods_j66 v1 x.2)) else some (.inr (.inl ((v1 + 1), st))))))))
noncomputable def fm_floods (s0 : MSt) : Option (MSt) :=
  (iter (fun x : (Int32 × MSt) => fm_floods_s2 x.1 x.2) mFuel ((0 : Int32), s0)).bind (Sum.elim (fun o : MSt => (some o : Option (MSt))) (fun x : (Int32 × MSt) => fm_floods_j72 x.2))
theorem nd_floods : yX12_floods.cls ≠ "java/lang/invoke/MethodHandle" ∧ yX12_floods.cls ≠ "java/lang/invoke/VarHandle" ∧ (parseMethodDescriptor yX12_floods.desc).map (fun d => d.parameters.length) = some 0 := by decide +kernel
set_option maxHeartbeats 4000000 in
set_option maxRecDepth 100000 in
theorem cm_floods (l : Launch) (D : va_G) (h : Nat) (ad : Nat → Nat) (cy : Nat → ClassId)  (s0 : MSt) (out : MSt) (hf : fm_floods s0 = some out) (sz : Nat) : CMv l D h ad cy yX12_floods wsX12_floods { frames := 2, cells := 0, slots := 0, locals := 43 } [] s0 out sz := by
  refine Met.ofW (cc := cX12_floods) (maxL := 3) (ret := none) (by decide) rfl ?_
  intro p e s m args below meth c s₁ B hml hv
  obtain ⟨rfl, hsz, hP, hK, hD0⟩ := hv
  have hx := B.exec
  have hb := B.bytes
  have hr := B.returns
  have hts := atoms_spec (ws := wsX12_floods) B.pre
  have hown : s.vm.findClass RX12 = some m.cls := findClass_of_methodNamed B.named
  have hlocks := B.notSynchronized
  subst hsz
  have hI : MI D (MA h ad cy s0 s.heap.size) h ad cy s s.heap s0 s.heap [] := ⟨hK, hP, hD0.self, va_S.rf⟩
  have hA : ∀ q : Nat, s.heap.size ≤ q → MA h ad cy s0 s.heap.size q := fun q hq => Or.inr hq
  have hin : ∀ w ∈ u_ws RX12 TX12 42, w ∈ wsX12_floods := fun w hw => List.mem_cons_of_mem _ (List.mem_append_right _ hw)
  have k_said : Cond.fieldLink RX12 45 "HalfBridgeModel" "said" "[I" ∈ wsX12_floods := by decide +kernel
  have hl := lv_entry ([.ref h]) (n := 3) (Nat.le_of_ble_eq_true rfl)
  rw [lg_entry_eq]
  generalize (lg_sl ([.ref h]) ++ List.replicate (3 - (lg_sl ([.ref h])).length) Slot.unset).toArray = ls at hl ⊢
  have hl : lv_has ls 3 [(0, .ref h)] := hl
  obtain ⟨K0, hK0, hf⟩ := top_e hf
  have B_72 : ∀   (st : MSt) (H : Heap) (locs : List Loc) (ls : Array Slot), MI D (MA h ad cy s0 s.heap.size) h ad cy s s.heap st H locs → lv_has ls 3 [] → (fm_floods_j72 st).bind K0 = some out → W p l e (headSpec wsX12_floods { frames := 2, cells := 0, slots := 0, locals := 43 }).room s m (([.ref h] : List Value).toArray) below meth c H locs 0 0 (MQ below (MQv D h ad cy s0 out s.heap.size) ([.ref h] : List Value).toArray s 0 0 (MA h ad cy s0 s.heap.size)) (F0 m 72 ls []) := by
    intro st H locs ls hI hl hf
    unfold fm_floods_j72 at hf
    exact mret_v hx hb hr hlocks hI (ret_e hK0 hf) dX12_floods_72
  have L_2 : ∀  (n : Nat) (v1 : Int32) (st : MSt) (H : Heap) (locs : List Loc) (ls : Array Slot), MI D (MA h ad cy s0 s.heap.size) h ad cy s s.heap st H locs → lv_has ls 3 [(0, .ref h), (1, .int v1)] → (iter (fun x : (Int32 × MSt) => fm_floods_s2 x.1 x.2) n (v1, st)).bind (fun x => ((Sum.elim (fun o : MSt => (some o : Option (MSt))) (fun x : (Int32 × MSt) => fm_floods_j72 x.2)) x).bind K0) = some out → W p l e (headSpec wsX12_floods { frames := 2, cells := 0, slots := 0, locals := 43 }).room s m (([.ref h] : List Value).toArray) below meth c H locs 0 0 (MQ below (MQv D h ad cy s0 out s.heap.size) ([.ref h] : List Value).toArray s 0 0 (MA h ad cy s0 s.heap.size)) (F0 m 2 ls []) := by
    intro n
    induction n with
    | zero => intro v1 st H locs ls hI hl hf; exact (iter_0 hf).elim
    | succ n ih =>
      intro v1 st H locs ls hI hl hf
      obtain ⟨K1, hK1, hf⟩ := iter_e hf
      replace hf : (fm_floods_s2 v1 st).bind K1 = some out := hf
      have B_2_66 : ∀ (v1 : Int32)  (st : MSt) (H : Heap) (locs : List Loc) (ls : Array Slot), MI D (MA h ad cy s0 s.heap.size) h ad cy s s.heap st H locs → lv_has ls 3 [(0, .ref h), (1, .int v1)] → (fm_floods_j66 v1 st).bind K1 = some out → W p l e (headSpec wsX12_floods { frames := 2, cells := 0, slots := 0, locals := 43 }).room s m (([.ref h] : List Value).toArray) below meth c H locs 0 0 (MQ below (MQv D h ad cy s0 out s.heap.size) ([.ref h] : List Value).toArray s 0 0 (MA h ad cy s0 s.heap.size)) (F0 m 66 ls []) := by
        intro v1 st H locs ls hI hl hf
        unfold fm_floods_j66 at hf
        refine lv_iinc (v := (v1 + 1)) (lv' := [(1, .int (v1 + 1)), (0, .ref h)]) hx hb dX12_floods_66 hl (k := 1) rfl (ci_ _ (by decide)) (by decide) rfl (fun ls hl => ?_)
        refine lv_goto (tgt := 2) hx hb dX12_floods_69 (by decide) ?_
        replace hf := cont_b hK1 hf
        exact ih (v1 + 1) st H locs ls hI (lv_sub hl [1, 0] rfl) hf
      have L_2_37 : ∀ (v1 : Int32) (n : Nat) (v2 : Int32) (st : MSt) (H : Heap) (locs : List Loc) (ls : Array Slot), MI D (MA h ad cy s0 s.heap.size) h ad cy s s.heap st H locs → lv_has ls 3 [(0, .ref h), (1, .int v1), (2, .int v2)] → (iter (fun x : (Int32 × MSt) => fm_floods_s37 v1 x.1 x.2) n (v2, st)).bind (fun x => ((Sum.elim (fun o : MSt => (some (.inl o) : Option ((MSt) ⊕ ((Int32 × MSt) ⊕ (Int32 × MSt))))) (fun x : (Int32 × MSt) => fm_floods_j66 v1 x.2)) x).bind K1) = some out → W p l e (headSpec wsX12_floods { frames := 2, cells := 0, slots := 0, locals := 43 }).room s m (([.ref h] : List Value).toArray) below meth c H locs 0 0 (MQ below (MQv D h ad cy s0 out s.heap.size) ([.ref h] : List Value).toArray s 0 0 (MA h ad cy s0 s.heap.size)) (F0 m 37 ls []) := by
        intro v1 n
        induction n with
        | zero => intro v2 st H locs ls hI hl hf; exact (iter_0 hf).elim
        | succ n ih =>
          intro v2 st H locs ls hI hl hf
          obtain ⟨K2, hK2, hf⟩ := iter_e hf
          replace hf : (fm_floods_s37 v1 v2 st).bind K2 = some out := hf
          unfold fm_floods_s37 at hf
          refine lv_iload_n hx hb dX12_floods_37 rfl (lv_at hl 2 rfl) ?_
          refine lv_iconst (v := 2) hx hb dX12_floods_38 (by decide) ?_
          refine lv_icmp_ge (tgt := 66) hx hb dX12_floods_39 (by decide) (fun c6 => ?_) (fun c6 => ?_)
          · replace hf := ifp c6 hf
            replace hf := exit_b hK2 hf
            exact B_2_66 v1 st H locs ls hI (lv_sub hl [0, 1] rfl) hf
          · replace hf := ifn c6 hf
            refine lv_aload_n hx hb dX12_floods_42 rfl (lv_at hl 0 rfl) ?_
            refine lv_iload_n hx hb dX12_floods_43 rfl (lv_at hl 2 rfl) ?_
            refine lv_aload_n hx hb dX12_floods_44 rfl (lv_at hl 0 rfl) ?_
            refine mg_said hx hb hts hin hown k_said hI dX12_floods_45 ?_
            refine lv_bipush (v := 14) hx hb dX12_floods_48 (by decide) ?_
            refine lv_iconst (v := 2) hx hb dX12_floods_50 (by decide) ?_
            refine lv_iload_n hx hb dX12_floods_51 rfl (lv_at hl 1 rfl) ?_
            refine lv_imul hx hb dX12_floods_52 ?_
            refine lv_iadd hx hb dX12_floods_53 ?_
            refine lv_iconst (v := 1) hx hb dX12_floods_54 (by decide) ?_
            refine lv_iadd hx hb dX12_floods_55 ?_
            obtain ⟨k7, hf⟩ := chk_b hf
            refine ml_said hx hb hI k7 dX12_floods_56 ?_
            obtain ⟨x8, hc9, hf⟩ := bnd_b hf
            refine mcall_v (As := [.int v2, .int (st.2.1 26 (((14 : Int32) + ((2 : Int32) * v1)) + (1 : Int32)).toNatClampNeg)]) (rest := []) (n := 2) ⟨hx, hb, hml, hown, hts⟩ (cm_takesYards l D h ad cy v2 (st.2.1 26 (((14 : Int32) + ((2 : Int32) * v1)) + (1 : Int32)).toNatClampNeg) st x8 hc9 _) (cwV 2 hts gX12_floods_X12_takesYards rfl rfl rfl ⟨rfl, nd_takesYards⟩ ⟨Nat.le_of_ble_eq_true rfl, Nat.le_of_ble_eq_true rfl⟩) hI hA rfl hl.1 (Nat.le_of_ble_eq_true rfl) dX12_floods_57 ⟨Nat.zero_le _, Nat.zero_le _⟩ (fun H locs hI => ?_)
            refine lv_iinc (v := (v2 + 1)) (lv' := [(2, .int (v2 + 1)), (0, .ref h), (1, .int v1)]) hx hb dX12_floods_60 hl (k := 2) rfl (ci_ _ (by decide)) (by decide) rfl (fun ls hl => ?_)
            refine lv_goto (tgt := 37) hx hb dX12_floods_63 (by decide) ?_
            replace hf := cont_b hK2 hf
            exact ih (v2 + 1) x8 H locs ls hI (lv_sub hl [1, 2, 0] rfl) hf
      unfold fm_floods_s2 at hf
      refine lv_iload_n hx hb dX12_floods_2 rfl (lv_at hl 1 rfl) ?_
      refine lv_aload_n hx hb dX12_floods_3 rfl (lv_at hl 0 rfl) ?_
      refine mg_said hx hb hts hin hown k_said hI dX12_floods_4 ?_
      refine lv_iconst (v := 4) hx hb dX12_floods_7 (by decide) ?_
      obtain ⟨k1, hf⟩ := chk_b hf
      refine ml_said hx hb hI k1 dX12_floods_8 ?_
      refine lv_icmp_ge (tgt := 72) hx hb dX12_floods_9 (by decide) (fun c2 => ?_) (fun c2 => ?_)
      · replace hf := ifp c2 hf
        replace hf := exit_b hK1 hf
        exact B_72  st H locs ls hI (lv_sub hl [] rfl) hf
      · replace hf := ifn c2 hf
        refine lv_aload_n hx hb dX12_floods_12 rfl (lv_at hl 0 rfl) ?_
        refine mg_said hx hb hts hin hown k_said hI dX12_floods_13 ?_
        refine lv_bipush (v := 14) hx hb dX12_floods_16 (by decide) ?_
        refine lv_iconst (v := 2) hx hb dX12_floods_18 (by decide) ?_
        refine lv_iload_n hx hb dX12_floods_19 rfl (lv_at hl 1 rfl) ?_
        refine lv_imul hx hb dX12_floods_20 ?_
        refine lv_iadd hx hb dX12_floods_21 ?_
        obtain ⟨k3, hf⟩ := chk_b hf
        refine ml_said hx hb hI k3 dX12_floods_22 ?_
        refine lv_aload_n hx hb dX12_floods_23 rfl (lv_at hl 0 rfl) ?_
        refine mg_said hx hb hts hin hown k_said hI dX12_floods_24 ?_
        refine lv_iconst (v := 1) hx hb dX12_floods_27 (by decide) ?_
        obtain ⟨k4, hf⟩ := chk_b hf
        refine ml_said hx hb hI k4 dX12_floods_28 ?_
        refine lv_icmp_eq (tgt := 35) hx hb dX12_floods_29 (by decide) (fun c5 => ?_) (fun c5 => ?_)
        · replace hf := ifp c5 hf
          refine lv_iconst (v := 0) hx hb dX12_floods_35 (by decide) ?_
          refine lv_istore_n (lv' := [(2, .int (0 : Int32)), (0, .ref h), (1, .int v1)]) hx hb dX12_floods_36 rfl hl (by decide) rfl (fun ls hl => ?_)
          exact L_2_37 v1 mFuel (0 : Int32) st H locs ls hI (lv_sub hl [1, 2, 0] rfl) (asc_b hf)
        · replace hf := ifn c5 hf
          refine lv_goto (tgt := 66) hx hb dX12_floods_32 (by decide) ?_
          refine lv_iinc (v := (v1 + 1)) (lv' := [(1, .int (v1 + 1)), (0, .ref h)]) hx hb dX12_floods_66 hl (k := 1) rfl (ci_ _ (by decide)) (by decide) rfl (fun ls hl => ?_)
          refine lv_goto (tgt := 2) hx hb dX12_floods_69 (by decide) ?_
          replace hf := cont_b hK1 hf
          exact ih (v1 + 1) st H locs ls hI (lv_sub hl [1, 0] rfl) hf
  unfold fm_floods at hf
  refine lv_iconst (v := 0) hx hb dX12_floods_0 (by decide) ?_
  refine lv_istore_n (lv' := [(1, .int (0 : Int32)), (0, .ref h)]) hx hb dX12_floods_1 rfl hl (by decide) rfl (fun ls hl => ?_)
  exact L_2  mFuel (0 : Int32) s0 s.heap [] ls hI (lv_sub hl [1, 0] rfl) (asc_b hf)

noncomputable def fm_passes (a1 : Int32) (a2 : Int32) (s0 : MSt) : Option (MSt) :=
  (fm_looks (0 : Int32) a1 s0).bind fun x1 => (fm_looks (1 : Int32) a2 x1).bind fun x3 => (fm_acts (0 : Int32) x3).bind fun x5 => (fm_acts (1 : Int32) x5).bind fun x7 => (fm_floods x7).bind fun x9 => chk (inb (1 : Int32) 286) (chk (inb (1 : Int32) 286) (some (msa x9 26 (1 : Int32).toNatClampNeg ((x9.2.1 26 (1 : Int32).toNatClampNeg) + (1 : Int32)))))
theorem nd_passes : yX12_passes.cls ≠ "java/lang/invoke/MethodHandle" ∧ yX12_passes.cls ≠ "java/lang/invoke/VarHandle" ∧ (parseMethodDescriptor yX12_passes.desc).map (fun d => d.parameters.length) = some 2 := by decide +kernel
set_option maxHeartbeats 4000000 in
set_option maxRecDepth 100000 in
theorem cm_passes (l : Launch) (D : va_G) (h : Nat) (ad : Nat → Nat) (cy : Nat → ClassId) (a1 : Int32) (a2 : Int32) (s0 : MSt) (out : MSt) (hf : fm_passes a1 a2 s0 = some out) (sz : Nat) : CMv l D h ad cy yX12_passes wsX12_passes { frames := 5, cells := 0, slots := 0, locals := 123 } [.int a1, .int a2] s0 out sz := by
  refine Met.ofW (cc := cX12_passes) (maxL := 3) (ret := none) (by decide) rfl ?_
  intro p e s m args below meth c s₁ B hml hv
  obtain ⟨rfl, hsz, hP, hK, hD0⟩ := hv
  have hx := B.exec
  have hb := B.bytes
  have hr := B.returns
  have hts := atoms_spec (ws := wsX12_passes) B.pre
  have hown : s.vm.findClass RX12 = some m.cls := findClass_of_methodNamed B.named
  have hlocks := B.notSynchronized
  subst hsz
  have hI : MI D (MA h ad cy s0 s.heap.size) h ad cy s s.heap s0 s.heap [] := ⟨hK, hP, hD0.self, va_S.rf⟩
  have hA : ∀ q : Nat, s.heap.size ≤ q → MA h ad cy s0 s.heap.size q := fun q hq => Or.inr hq
  have hin : ∀ w ∈ u_ws RX12 TX12 42, w ∈ wsX12_passes := fun w hw => List.mem_cons_of_mem _ (List.mem_append_right _ hw)
  have k_said : Cond.fieldLink RX12 45 "HalfBridgeModel" "said" "[I" ∈ wsX12_passes := by decide +kernel
  have hl := lv_entry ([.ref h, .int a1, .int a2]) (n := 3) (Nat.le_of_ble_eq_true rfl)
  rw [lg_entry_eq]
  generalize (lg_sl ([.ref h, .int a1, .int a2]) ++ List.replicate (3 - (lg_sl ([.ref h, .int a1, .int a2])).length) Slot.unset).toArray = ls at hl ⊢
  have hl : lv_has ls 3 [(0, .ref h), (1, .int a1), (2, .int a2)] := hl
  obtain ⟨K0, hK0, hf⟩ := top_e hf
  unfold fm_passes at hf
  refine lv_aload_n hx hb dX12_passes_0 rfl (lv_at hl 0 rfl) ?_
  refine lv_iconst (v := 0) hx hb dX12_passes_1 (by decide) ?_
  refine lv_iload_n hx hb dX12_passes_2 rfl (lv_at hl 1 rfl) ?_
  obtain ⟨x1, hc2, hf⟩ := bnd_b hf
  refine mcall_v (As := [.int (0 : Int32), .int a1]) (rest := []) (n := 2) ⟨hx, hb, hml, hown, hts⟩ (cm_looks l D h ad cy (0 : Int32) a1 s0 x1 hc2 _) (cwV 2 hts gX12_passes_X12_looks rfl rfl rfl ⟨rfl, nd_looks⟩ ⟨Nat.le_of_ble_eq_true rfl, Nat.le_of_ble_eq_true rfl⟩) hI hA rfl hl.1 (Nat.le_of_ble_eq_true rfl) dX12_passes_3 ⟨Nat.zero_le _, Nat.zero_le _⟩ (fun H locs hI => ?_)
  refine lv_aload_n hx hb dX12_passes_6 rfl (lv_at hl 0 rfl) ?_
  refine lv_iconst (v := 1) hx hb dX12_passes_7 (by decide) ?_
  refine lv_iload_n hx hb dX12_passes_8 rfl (lv_at hl 2 rfl) ?_
  obtain ⟨x3, hc4, hf⟩ := bnd_b hf
  refine mcall_v (As := [.int (1 : Int32), .int a2]) (rest := []) (n := 2) ⟨hx, hb, hml, hown, hts⟩ (cm_looks l D h ad cy (1 : Int32) a2 x1 x3 hc4 _) (cwV 2 hts gX12_passes_X12_looks rfl rfl rfl ⟨rfl, nd_looks⟩ ⟨Nat.le_of_ble_eq_true rfl, Nat.le_of_ble_eq_true rfl⟩) hI hA rfl hl.1 (Nat.le_of_ble_eq_true rfl) dX12_passes_9 ⟨Nat.zero_le _, Nat.zero_le _⟩ (fun H locs hI => ?_)
  refine lv_aload_n hx hb dX12_passes_12 rfl (lv_at hl 0 rfl) ?_
  refine lv_iconst (v := 0) hx hb dX12_passes_13 (by decide) ?_
  obtain ⟨x5, hc6, hf⟩ := bnd_b hf
  refine mcall_v (As := [.int (0 : Int32)]) (rest := []) (n := 1) ⟨hx, hb, hml, hown, hts⟩ (cm_acts l D h ad cy (0 : Int32) x3 x5 hc6 _) (cwV 1 hts gX12_passes_X12_acts rfl rfl rfl ⟨rfl, nd_acts⟩ ⟨Nat.le_of_ble_eq_true rfl, Nat.le_of_ble_eq_true rfl⟩) hI hA rfl hl.1 (Nat.le_of_ble_eq_true rfl) dX12_passes_14 ⟨Nat.zero_le _, Nat.zero_le _⟩ (fun H locs hI => ?_)
  refine lv_aload_n hx hb dX12_passes_17 rfl (lv_at hl 0 rfl) ?_
  refine lv_iconst (v := 1) hx hb dX12_passes_18 (by decide) ?_
  obtain ⟨x7, hc8, hf⟩ := bnd_b hf
  refine mcall_v (As := [.int (1 : Int32)]) (rest := []) (n := 1) ⟨hx, hb, hml, hown, hts⟩ (cm_acts l D h ad cy (1 : Int32) x5 x7 hc8 _) (cwV 1 hts gX12_passes_X12_acts rfl rfl rfl ⟨rfl, nd_acts⟩ ⟨Nat.le_of_ble_eq_true rfl, Nat.le_of_ble_eq_true rfl⟩) hI hA rfl hl.1 (Nat.le_of_ble_eq_true rfl) dX12_passes_19 ⟨Nat.zero_le _, Nat.zero_le _⟩ (fun H locs hI => ?_)
  refine lv_aload_n hx hb dX12_passes_22 rfl (lv_at hl 0 rfl) ?_
  obtain ⟨x9, hc10, hf⟩ := bnd_b hf
  refine mcall_v (As := []) (rest := []) (n := 0) ⟨hx, hb, hml, hown, hts⟩ (cm_floods l D h ad cy  x7 x9 hc10 _) (cwV 0 hts gX12_passes_X12_floods rfl rfl rfl ⟨rfl, nd_floods⟩ ⟨Nat.le_of_ble_eq_true rfl, Nat.le_of_ble_eq_true rfl⟩) hI hA rfl hl.1 (Nat.le_of_ble_eq_true rfl) dX12_passes_23 ⟨Nat.zero_le _, Nat.zero_le _⟩ (fun H locs hI => ?_)
  refine lv_aload_n hx hb dX12_passes_26 rfl (lv_at hl 0 rfl) ?_
  refine mg_said hx hb hts hin hown k_said hI dX12_passes_27 ?_
  refine lv_iconst (v := 1) hx hb dX12_passes_30 (by decide) ?_
  refine lv_dup2_11 hx hb dX12_passes_31 rfl rfl ?_
  obtain ⟨k11, hf⟩ := chk_b hf
  refine ml_said hx hb hI k11 dX12_passes_32 ?_
  refine lv_iconst (v := 1) hx hb dX12_passes_33 (by decide) ?_
  refine lv_iadd hx hb dX12_passes_34 ?_
  obtain ⟨k12, hf⟩ := chk_b hf
  refine ms_said hx hb hI k12 dX12_passes_35 (fun H locs hI => ?_)
  exact mret_v hx hb hr hlocks hI (ret_e hK0 hf) dX12_passes_36

noncomputable def fm_springs_j32 (st : MSt) : Option (MSt) :=
  some st
noncomputable def fm_springs_s3 (v1 : Int32) (v2 : Int32) (v3 : Int32) (v4 : Int32) (st : MSt) : Option ((MSt) ⊕ ((Int32 × MSt) ⊕ (Int32 × MSt))) :=
  (if v3 ≤ v4 then some (.inr (.inr (v4, st))) else (fm_isMet st).bind fun x2 => (if x2.2 = 0 then (fm_errsAsTold x2.1).bind fun x5 => (fm_passes v1 v2 x5).bind fun x7 => some (.inr (.inl ((v4 + 1), x7))) else some (.inr (.inr (v4, x2.1)))))
noncomputable def fm_springs (a1 : Int32) (a2 : Int32) (a3 : Int32) (s0 : MSt) : Option (MSt) :=
  (iter (fun x : (Int32 × MSt) => fm_springs_s3 a1 a2 a3 x.1 x.2) mFuel ((0 : Int32), s0)).bind (Sum.elim (fun o : MSt => (some o : Option (MSt))) (fun x : (Int32 × MSt) => fm_springs_j32 x.2))
theorem nd_springs : yX12_springs.cls ≠ "java/lang/invoke/MethodHandle" ∧ yX12_springs.cls ≠ "java/lang/invoke/VarHandle" ∧ (parseMethodDescriptor yX12_springs.desc).map (fun d => d.parameters.length) = some 3 := by decide +kernel
set_option maxHeartbeats 4000000 in
set_option maxRecDepth 100000 in
theorem cm_springs (l : Launch) (D : va_G) (h : Nat) (ad : Nat → Nat) (cy : Nat → ClassId) (a1 : Int32) (a2 : Int32) (a3 : Int32) (s0 : MSt) (out : MSt) (hf : fm_springs a1 a2 a3 s0 = some out) (sz : Nat) : CMv l D h ad cy yX12_springs wsX12_springs { frames := 6, cells := 0, slots := 0, locals := 145 } [.int a1, .int a2, .int a3] s0 out sz := by
  refine Met.ofW (cc := cX12_springs) (maxL := 5) (ret := none) (by decide) rfl ?_
  intro p e s m args below meth c s₁ B hml hv
  obtain ⟨rfl, hsz, hP, hK, hD0⟩ := hv
  have hx := B.exec
  have hb := B.bytes
  have hr := B.returns
  have hts := atoms_spec (ws := wsX12_springs) B.pre
  have hown : s.vm.findClass RX12 = some m.cls := findClass_of_methodNamed B.named
  have hlocks := B.notSynchronized
  subst hsz
  have hI : MI D (MA h ad cy s0 s.heap.size) h ad cy s s.heap s0 s.heap [] := ⟨hK, hP, hD0.self, va_S.rf⟩
  have hA : ∀ q : Nat, s.heap.size ≤ q → MA h ad cy s0 s.heap.size q := fun q hq => Or.inr hq
  have hl := lv_entry ([.ref h, .int a1, .int a2, .int a3]) (n := 5) (Nat.le_of_ble_eq_true rfl)
  rw [lg_entry_eq]
  generalize (lg_sl ([.ref h, .int a1, .int a2, .int a3]) ++ List.replicate (5 - (lg_sl ([.ref h, .int a1, .int a2, .int a3])).length) Slot.unset).toArray = ls at hl ⊢
  have hl : lv_has ls 5 [(0, .ref h), (1, .int a1), (2, .int a2), (3, .int a3)] := hl
  obtain ⟨K0, hK0, hf⟩ := top_e hf
  have B_32 : ∀   (st : MSt) (H : Heap) (locs : List Loc) (ls : Array Slot), MI D (MA h ad cy s0 s.heap.size) h ad cy s s.heap st H locs → lv_has ls 5 [] → (fm_springs_j32 st).bind K0 = some out → W p l e (headSpec wsX12_springs { frames := 6, cells := 0, slots := 0, locals := 145 }).room s m (([.ref h, .int a1, .int a2, .int a3] : List Value).toArray) below meth c H locs 0 0 (MQ below (MQv D h ad cy s0 out s.heap.size) ([.ref h, .int a1, .int a2, .int a3] : List Value).toArray s 0 0 (MA h ad cy s0 s.heap.size)) (F0 m 32 ls []) := by
    intro st H locs ls hI hl hf
    unfold fm_springs_j32 at hf
    exact mret_v hx hb hr hlocks hI (ret_e hK0 hf) dX12_springs_32
  have L_3 : ∀ (v1 : Int32) (v2 : Int32) (v3 : Int32) (n : Nat) (v4 : Int32) (st : MSt) (H : Heap) (locs : List Loc) (ls : Array Slot), MI D (MA h ad cy s0 s.heap.size) h ad cy s s.heap st H locs → lv_has ls 5 [(0, .ref h), (1, .int v1), (2, .int v2), (3, .int v3), (4, .int v4)] → (iter (fun x : (Int32 × MSt) => fm_springs_s3 v1 v2 v3 x.1 x.2) n (v4, st)).bind (fun x => ((Sum.elim (fun o : MSt => (some o : Option (MSt))) (fun x : (Int32 × MSt) => fm_springs_j32 x.2)) x).bind K0) = some out → W p l e (headSpec wsX12_springs { frames := 6, cells := 0, slots := 0, locals := 145 }).room s m (([.ref h, .int a1, .int a2, .int a3] : List Value).toArray) below meth c H locs 0 0 (MQ below (MQv D h ad cy s0 out s.heap.size) ([.ref h, .int a1, .int a2, .int a3] : List Value).toArray s 0 0 (MA h ad cy s0 s.heap.size)) (F0 m 3 ls []) := by
    intro v1 v2 v3 n
    induction n with
    | zero => intro v4 st H locs ls hI hl hf; exact (iter_0 hf).elim
    | succ n ih =>
      intro v4 st H locs ls hI hl hf
      obtain ⟨K1, hK1, hf⟩ := iter_e hf
      replace hf : (fm_springs_s3 v1 v2 v3 v4 st).bind K1 = some out := hf
      unfold fm_springs_s3 at hf
      refine lv_iload hx hb dX12_springs_3 (lv_at hl 4 rfl) ?_
      refine lv_iload_n hx hb dX12_springs_5 rfl (lv_at hl 3 rfl) ?_
      refine lv_icmp_ge (tgt := 32) hx hb dX12_springs_6 (by decide) (fun c1 => ?_) (fun c1 => ?_)
      · replace hf := ifp c1 hf
        replace hf := exit_b hK1 hf
        exact B_32  st H locs ls hI (lv_sub hl [] rfl) hf
      · replace hf := ifn c1 hf
        refine lv_aload_n hx hb dX12_springs_9 rfl (lv_at hl 0 rfl) ?_
        obtain ⟨x2, hc3, hf⟩ := bnd_b hf
        refine mcall_i (As := []) (rest := []) (n := 0) ⟨hx, hb, hml, hown, hts⟩ (cm_isMet l D h ad cy  st x2 hc3 _) (cwV 0 hts gX12_springs_X12_isMet rfl rfl rfl ⟨rfl, nd_isMet⟩ ⟨Nat.le_of_ble_eq_true rfl, Nat.le_of_ble_eq_true rfl⟩) hI hA rfl hl.1 (Nat.le_of_ble_eq_true rfl) dX12_springs_10 ⟨Nat.zero_le _, Nat.zero_le _⟩ (fun H locs hI => ?_)
        refine lv_if_ne (tgt := 32) hx hb dX12_springs_13 (by decide) (fun c4 => ?_) (fun c4 => ?_)
        · replace hf := ifn c4 hf
          replace hf := exit_b hK1 hf
          exact B_32  x2.1 H locs ls hI (lv_sub hl [] rfl) hf
        · replace hf := ifp c4 hf
          refine lv_aload_n hx hb dX12_springs_16 rfl (lv_at hl 0 rfl) ?_
          obtain ⟨x5, hc6, hf⟩ := bnd_b hf
          refine mcall_v (As := []) (rest := []) (n := 0) ⟨hx, hb, hml, hown, hts⟩ (cm_errsAsTold l D h ad cy  x2.1 x5 hc6 _) (cwV 0 hts gX12_springs_X12_errsAsTold rfl rfl rfl ⟨rfl, nd_errsAsTold⟩ ⟨Nat.le_of_ble_eq_true rfl, Nat.le_of_ble_eq_true rfl⟩) hI hA rfl hl.1 (Nat.le_of_ble_eq_true rfl) dX12_springs_17 ⟨Nat.zero_le _, Nat.zero_le _⟩ (fun H locs hI => ?_)
          refine lv_aload_n hx hb dX12_springs_20 rfl (lv_at hl 0 rfl) ?_
          refine lv_iload_n hx hb dX12_springs_21 rfl (lv_at hl 1 rfl) ?_
          refine lv_iload_n hx hb dX12_springs_22 rfl (lv_at hl 2 rfl) ?_
          obtain ⟨x7, hc8, hf⟩ := bnd_b hf
          refine mcall_v (As := [.int v1, .int v2]) (rest := []) (n := 2) ⟨hx, hb, hml, hown, hts⟩ (cm_passes l D h ad cy v1 v2 x5 x7 hc8 _) (cwV 2 hts gX12_springs_X12_passes rfl rfl rfl ⟨rfl, nd_passes⟩ ⟨Nat.le_of_ble_eq_true rfl, Nat.le_of_ble_eq_true rfl⟩) hI hA rfl hl.1 (Nat.le_of_ble_eq_true rfl) dX12_springs_23 ⟨Nat.zero_le _, Nat.zero_le _⟩ (fun H locs hI => ?_)
          refine lv_iinc (v := (v4 + 1)) (lv' := [(4, .int (v4 + 1)), (0, .ref h), (1, .int v1), (2, .int v2), (3, .int v3)]) hx hb dX12_springs_26 hl (k := 4) rfl (ci_ _ (by decide)) (by decide) rfl (fun ls hl => ?_)
          refine lv_goto (tgt := 3) hx hb dX12_springs_29 (by decide) ?_
          replace hf := cont_b hK1 hf
          exact ih (v4 + 1) x7 H locs ls hI (lv_sub hl [1, 2, 3, 4, 0] rfl) hf
  unfold fm_springs at hf
  refine lv_iconst (v := 0) hx hb dX12_springs_0 (by decide) ?_
  refine lv_istore (lv' := [(4, .int (0 : Int32)), (0, .ref h), (1, .int a1), (2, .int a2), (3, .int a3)]) hx hb dX12_springs_1 hl (by decide) rfl (fun ls hl => ?_)
  exact L_3 a1 a2 a3 mFuel (0 : Int32) s0 s.heap [] ls hI (lv_sub hl [1, 2, 3, 4, 0] rfl) (asc_b hf)

noncomputable def fm_canAsk (a1 : Int32) (a2 : Int32) (s0 : MSt) : Option (MSt × Int32) :=
  (fm_isRiver s0).bind fun x1 => (if x1.2 = 0 then some (x1.1, (0 : Int32)) else (fm_isRule a1 x1.1).bind fun x4 => (if x4.2 = 0 then some (x4.1, (0 : Int32)) else (fm_isRule a2 x4.1).bind fun x7 => (if x7.2 = 0 then some (x7.1, (0 : Int32)) else some (x7.1, (1 : Int32)))))
theorem nd_canAsk : yX12_canAsk.cls ≠ "java/lang/invoke/MethodHandle" ∧ yX12_canAsk.cls ≠ "java/lang/invoke/VarHandle" ∧ (parseMethodDescriptor yX12_canAsk.desc).map (fun d => d.parameters.length) = some 2 := by decide +kernel
set_option maxHeartbeats 4000000 in
set_option maxRecDepth 100000 in
theorem cm_canAsk (l : Launch) (D : va_G) (h : Nat) (ad : Nat → Nat) (cy : Nat → ClassId) (a1 : Int32) (a2 : Int32) (s0 : MSt) (out : MSt × Int32) (hf : fm_canAsk a1 a2 s0 = some out) (sz : Nat) : CMi l D h ad cy yX12_canAsk wsX12_canAsk { frames := 1, cells := 0, slots := 0, locals := 21 } [.int a1, .int a2] s0 out sz := by
  refine Met.ofW (cc := cX12_canAsk) (maxL := 3) (ret := (some .boolean)) (by decide) rfl ?_
  intro p e s m args below meth c s₁ B hml hv
  obtain ⟨rfl, hsz, hP, hK, hD0⟩ := hv
  have hx := B.exec
  have hb := B.bytes
  have hr := B.returns
  have hts := atoms_spec (ws := wsX12_canAsk) B.pre
  have hown : s.vm.findClass RX12 = some m.cls := findClass_of_methodNamed B.named
  have hlocks := B.notSynchronized
  subst hsz
  have hI : MI D (MA h ad cy s0 s.heap.size) h ad cy s s.heap s0 s.heap [] := ⟨hK, hP, hD0.self, va_S.rf⟩
  have hA : ∀ q : Nat, s.heap.size ≤ q → MA h ad cy s0 s.heap.size q := fun q hq => Or.inr hq
  have hl := lv_entry ([.ref h, .int a1, .int a2]) (n := 3) (Nat.le_of_ble_eq_true rfl)
  rw [lg_entry_eq]
  generalize (lg_sl ([.ref h, .int a1, .int a2]) ++ List.replicate (3 - (lg_sl ([.ref h, .int a1, .int a2])).length) Slot.unset).toArray = ls at hl ⊢
  have hl : lv_has ls 3 [(0, .ref h), (1, .int a1), (2, .int a2)] := hl
  obtain ⟨K0, hK0, hf⟩ := top_e hf
  unfold fm_canAsk at hf
  refine lv_aload_n hx hb dX12_canAsk_0 rfl (lv_at hl 0 rfl) ?_
  obtain ⟨x1, hc2, hf⟩ := bnd_b hf
  refine mcall_i (As := []) (rest := []) (n := 0) ⟨hx, hb, hml, hown, hts⟩ (cm_isRiver l D h ad cy  s0 x1 hc2 _) (cwV 0 hts gX12_canAsk_X12_isRiver rfl rfl rfl ⟨rfl, nd_isRiver⟩ ⟨Nat.le_of_ble_eq_true rfl, Nat.le_of_ble_eq_true rfl⟩) hI hA rfl hl.1 (Nat.le_of_ble_eq_true rfl) dX12_canAsk_1 ⟨Nat.zero_le _, Nat.zero_le _⟩ (fun H locs hI => ?_)
  refine lv_if_eq (tgt := 27) hx hb dX12_canAsk_4 (by decide) (fun c3 => ?_) (fun c3 => ?_)
  · replace hf := ifp c3 hf
    refine lv_iconst (v := 0) hx hb dX12_canAsk_27 (by decide) ?_
    exact mret_z hx hb hr (by decide) hlocks hI (ret_e hK0 hf) dX12_canAsk_28
  · replace hf := ifn c3 hf
    refine lv_aload_n hx hb dX12_canAsk_7 rfl (lv_at hl 0 rfl) ?_
    refine lv_iload_n hx hb dX12_canAsk_8 rfl (lv_at hl 1 rfl) ?_
    obtain ⟨x4, hc5, hf⟩ := bnd_b hf
    refine mcall_i (As := [.int a1]) (rest := []) (n := 1) ⟨hx, hb, hml, hown, hts⟩ (cm_isRule l D h ad cy a1 x1.1 x4 hc5 _) (cwV 1 hts gX12_canAsk_X12_isRule rfl rfl rfl ⟨rfl, nd_isRule⟩ ⟨Nat.le_of_ble_eq_true rfl, Nat.le_of_ble_eq_true rfl⟩) hI hA rfl hl.1 (Nat.le_of_ble_eq_true rfl) dX12_canAsk_9 ⟨Nat.zero_le _, Nat.zero_le _⟩ (fun H locs hI => ?_)
    refine lv_if_eq (tgt := 27) hx hb dX12_canAsk_12 (by decide) (fun c6 => ?_) (fun c6 => ?_)
    · replace hf := ifp c6 hf
      refine lv_iconst (v := 0) hx hb dX12_canAsk_27 (by decide) ?_
      exact mret_z hx hb hr (by decide) hlocks hI (ret_e hK0 hf) dX12_canAsk_28
    · replace hf := ifn c6 hf
      refine lv_aload_n hx hb dX12_canAsk_15 rfl (lv_at hl 0 rfl) ?_
      refine lv_iload_n hx hb dX12_canAsk_16 rfl (lv_at hl 2 rfl) ?_
      obtain ⟨x7, hc8, hf⟩ := bnd_b hf
      refine mcall_i (As := [.int a2]) (rest := []) (n := 1) ⟨hx, hb, hml, hown, hts⟩ (cm_isRule l D h ad cy a2 x4.1 x7 hc8 _) (cwV 1 hts gX12_canAsk_X12_isRule rfl rfl rfl ⟨rfl, nd_isRule⟩ ⟨Nat.le_of_ble_eq_true rfl, Nat.le_of_ble_eq_true rfl⟩) hI hA rfl hl.1 (Nat.le_of_ble_eq_true rfl) dX12_canAsk_17 ⟨Nat.zero_le _, Nat.zero_le _⟩ (fun H locs hI => ?_)
      refine lv_if_eq (tgt := 27) hx hb dX12_canAsk_20 (by decide) (fun c9 => ?_) (fun c9 => ?_)
      · replace hf := ifp c9 hf
        refine lv_iconst (v := 0) hx hb dX12_canAsk_27 (by decide) ?_
        exact mret_z hx hb hr (by decide) hlocks hI (ret_e hK0 hf) dX12_canAsk_28
      · replace hf := ifn c9 hf
        refine lv_iconst (v := 1) hx hb dX12_canAsk_23 (by decide) ?_
        refine lv_goto (tgt := 28) hx hb dX12_canAsk_24 (by decide) ?_
        exact mret_z hx hb hr (by decide) hlocks hI (ret_e hK0 hf) dX12_canAsk_28

noncomputable def fm_spring (a1 : Int32) (a2 : Int32) (a3 : Int32) (s0 : MSt) : Option (MSt × Int32) :=
  (fm_canAsk a1 a2 s0).bind fun x1 => (if x1.2 = 0 then some (x1.1, (-1 : Int32)) else (fm_in (a3.toInt64) (1 : Int64) (200 : Int64)).bind fun x4 => (if x4 = 0 then some (x1.1, (-1 : Int32)) else chk (inb (1 : Int32) 286) ((if ((x1.1.2.1 26 (1 : Int32).toNatClampNeg) + a3) ≤ (9999 : Int32) then (fm_springs a1 a2 a3 x1.1).bind fun x9 => chk (inb (1 : Int32) 286) (some (x9, (x9.2.1 26 (1 : Int32).toNatClampNeg))) else some (x1.1, (-1 : Int32))))))
theorem nd_spring : yX12_spring.cls ≠ "java/lang/invoke/MethodHandle" ∧ yX12_spring.cls ≠ "java/lang/invoke/VarHandle" ∧ (parseMethodDescriptor yX12_spring.desc).map (fun d => d.parameters.length) = some 3 := by decide +kernel
set_option maxHeartbeats 4000000 in
set_option maxRecDepth 100000 in
theorem cm_spring (l : Launch) (D : va_G) (h : Nat) (ad : Nat → Nat) (cy : Nat → ClassId) (a1 : Int32) (a2 : Int32) (a3 : Int32) (s0 : MSt) (out : MSt × Int32) (hf : fm_spring a1 a2 a3 s0 = some out) (sz : Nat) : CMi l D h ad cy yX12_spring wsX12_spring { frames := 7, cells := 0, slots := 0, locals := 169 } [.int a1, .int a2, .int a3] s0 out sz := by
  refine Met.ofW (cc := cX12_spring) (maxL := 4) (ret := (some .int)) (by decide) rfl ?_
  intro p e s m args below meth c s₁ B hml hv
  obtain ⟨rfl, hsz, hP, hK, hD0⟩ := hv
  have hx := B.exec
  have hb := B.bytes
  have hr := B.returns
  have hts := atoms_spec (ws := wsX12_spring) B.pre
  have hown : s.vm.findClass RX12 = some m.cls := findClass_of_methodNamed B.named
  have hlocks := B.notSynchronized
  subst hsz
  have hI : MI D (MA h ad cy s0 s.heap.size) h ad cy s s.heap s0 s.heap [] := ⟨hK, hP, hD0.self, va_S.rf⟩
  have hA : ∀ q : Nat, s.heap.size ≤ q → MA h ad cy s0 s.heap.size q := fun q hq => Or.inr hq
  have hin : ∀ w ∈ u_ws RX12 TX12 42, w ∈ wsX12_spring := fun w hw => List.mem_cons_of_mem _ (List.mem_append_right _ hw)
  have k_said : Cond.fieldLink RX12 45 "HalfBridgeModel" "said" "[I" ∈ wsX12_spring := by decide +kernel
  have hl := lv_entry ([.ref h, .int a1, .int a2, .int a3]) (n := 4) (Nat.le_of_ble_eq_true rfl)
  rw [lg_entry_eq]
  generalize (lg_sl ([.ref h, .int a1, .int a2, .int a3]) ++ List.replicate (4 - (lg_sl ([.ref h, .int a1, .int a2, .int a3])).length) Slot.unset).toArray = ls at hl ⊢
  have hl : lv_has ls 4 [(0, .ref h), (1, .int a1), (2, .int a2), (3, .int a3)] := hl
  obtain ⟨K0, hK0, hf⟩ := top_e hf
  unfold fm_spring at hf
  refine lv_aload_n hx hb dX12_spring_0 rfl (lv_at hl 0 rfl) ?_
  refine lv_iload_n hx hb dX12_spring_1 rfl (lv_at hl 1 rfl) ?_
  refine lv_iload_n hx hb dX12_spring_2 rfl (lv_at hl 2 rfl) ?_
  obtain ⟨x1, hc2, hf⟩ := bnd_b hf
  refine mcall_i (As := [.int a1, .int a2]) (rest := []) (n := 2) ⟨hx, hb, hml, hown, hts⟩ (cm_canAsk l D h ad cy a1 a2 s0 x1 hc2 _) (cwV 2 hts gX12_spring_X12_canAsk rfl rfl rfl ⟨rfl, nd_canAsk⟩ ⟨Nat.le_of_ble_eq_true rfl, Nat.le_of_ble_eq_true rfl⟩) hI hA rfl hl.1 (Nat.le_of_ble_eq_true rfl) dX12_spring_3 ⟨Nat.zero_le _, Nat.zero_le _⟩ (fun H locs hI => ?_)
  refine lv_if_eq (tgt := 35) hx hb dX12_spring_6 (by decide) (fun c3 => ?_) (fun c3 => ?_)
  · replace hf := ifp c3 hf
    refine lv_iconst (v := -1) hx hb dX12_spring_35 (by decide) ?_
    exact mret_i hx hb hr hlocks hI (ret_e hK0 hf) dX12_spring_36
  · replace hf := ifn c3 hf
    refine lv_iload_n hx hb dX12_spring_9 rfl (lv_at hl 3 rfl) ?_
    refine lv_i2l (v := (a3.toInt64)) hx hb dX12_spring_10 rfl ?_
    refine lv_lconst (v := 1) hx hb dX12_spring_11 (by decide) ?_
    refine lv_ldc2 (v := 200) hx hb hown (hts (.constantLong RX12 405 (200)) (by decide +kernel)) dX12_spring_12 ?_
    obtain ⟨x4, hc5, hf⟩ := bnd_b hf
    refine mst_i (As := [.long (a3.toInt64), .long (1 : Int64), .long (200 : Int64)]) (rest := []) (n := 3) ⟨hx, hb, hml, hown, hts⟩ (cs_in l (a3.toInt64) (1 : Int64) (200 : Int64) x4 hc5 _) (va_cwS 3 hts gX12_spring_X12_in rfl rfl rfl nd_in ⟨Nat.le_of_ble_eq_true rfl, Nat.le_of_ble_eq_true rfl⟩) hI hA rfl hl.1 (Nat.le_of_ble_eq_true rfl) dX12_spring_15 ⟨Nat.zero_le _, Nat.zero_le _⟩ (fun H locs hI => ?_)
    refine lv_if_eq (tgt := 35) hx hb dX12_spring_18 (by decide) (fun c6 => ?_) (fun c6 => ?_)
    · replace hf := ifp c6 hf
      refine lv_iconst (v := -1) hx hb dX12_spring_35 (by decide) ?_
      exact mret_i hx hb hr hlocks hI (ret_e hK0 hf) dX12_spring_36
    · replace hf := ifn c6 hf
      refine lv_aload_n hx hb dX12_spring_21 rfl (lv_at hl 0 rfl) ?_
      refine mg_said hx hb hts hin hown k_said hI dX12_spring_22 ?_
      refine lv_iconst (v := 1) hx hb dX12_spring_25 (by decide) ?_
      obtain ⟨k7, hf⟩ := chk_b hf
      refine ml_said hx hb hI k7 dX12_spring_26 ?_
      refine lv_iload_n hx hb dX12_spring_27 rfl (lv_at hl 3 rfl) ?_
      refine lv_iadd hx hb dX12_spring_28 ?_
      refine lv_sipush (v := 9999) hx hb dX12_spring_29 (by decide) ?_
      refine lv_icmp_le (tgt := 37) hx hb dX12_spring_32 (by decide) (fun c8 => ?_) (fun c8 => ?_)
      · replace hf := ifp c8 hf
        refine lv_aload_n hx hb dX12_spring_37 rfl (lv_at hl 0 rfl) ?_
        refine lv_iload_n hx hb dX12_spring_38 rfl (lv_at hl 1 rfl) ?_
        refine lv_iload_n hx hb dX12_spring_39 rfl (lv_at hl 2 rfl) ?_
        refine lv_iload_n hx hb dX12_spring_40 rfl (lv_at hl 3 rfl) ?_
        obtain ⟨x9, hc10, hf⟩ := bnd_b hf
        refine mcall_v (As := [.int a1, .int a2, .int a3]) (rest := []) (n := 3) ⟨hx, hb, hml, hown, hts⟩ (cm_springs l D h ad cy a1 a2 a3 x1.1 x9 hc10 _) (cwV 3 hts gX12_spring_X12_springs rfl rfl rfl ⟨rfl, nd_springs⟩ ⟨Nat.le_of_ble_eq_true rfl, Nat.le_of_ble_eq_true rfl⟩) hI hA rfl hl.1 (Nat.le_of_ble_eq_true rfl) dX12_spring_41 ⟨Nat.zero_le _, Nat.zero_le _⟩ (fun H locs hI => ?_)
        refine lv_aload_n hx hb dX12_spring_44 rfl (lv_at hl 0 rfl) ?_
        refine mg_said hx hb hts hin hown k_said hI dX12_spring_45 ?_
        refine lv_iconst (v := 1) hx hb dX12_spring_48 (by decide) ?_
        obtain ⟨k11, hf⟩ := chk_b hf
        refine ml_said hx hb hI k11 dX12_spring_49 ?_
        exact mret_i hx hb hr hlocks hI (ret_e hK0 hf) dX12_spring_50
      · replace hf := ifn c8 hf
        refine lv_iconst (v := -1) hx hb dX12_spring_35 (by decide) ?_
        exact mret_i hx hb hr hlocks hI (ret_e hK0 hf) dX12_spring_36

noncomputable def fm_missOf (a1 : Int32) (s0 : MSt) : Option (MSt × Int32) :=
  (fm_tipOf (0 : Int32) a1 s0).bind fun x1 => (fm_tipOf (1 : Int32) a1 x1.1).bind fun x3 => (fm_plain (x1.2 - x3.2)).bind fun x5 => some (x3.1, x5)
theorem nd_missOf : yX12_missOf.cls ≠ "java/lang/invoke/MethodHandle" ∧ yX12_missOf.cls ≠ "java/lang/invoke/VarHandle" ∧ (parseMethodDescriptor yX12_missOf.desc).map (fun d => d.parameters.length) = some 1 := by decide +kernel
set_option maxHeartbeats 4000000 in
set_option maxRecDepth 100000 in
theorem cm_missOf (l : Launch) (D : va_G) (h : Nat) (ad : Nat → Nat) (cy : Nat → ClassId) (a1 : Int32) (s0 : MSt) (out : MSt × Int32) (hf : fm_missOf a1 s0 = some out) (sz : Nat) : CMi l D h ad cy yX12_missOf wsX12_missOf { frames := 2, cells := 0, slots := 0, locals := 45 } [.int a1] s0 out sz := by
  refine Met.ofW (cc := cX12_missOf) (maxL := 2) (ret := (some .int)) (by decide) rfl ?_
  intro p e s m args below meth c s₁ B hml hv
  obtain ⟨rfl, hsz, hP, hK, hD0⟩ := hv
  have hx := B.exec
  have hb := B.bytes
  have hr := B.returns
  have hts := atoms_spec (ws := wsX12_missOf) B.pre
  have hown : s.vm.findClass RX12 = some m.cls := findClass_of_methodNamed B.named
  have hlocks := B.notSynchronized
  subst hsz
  have hI : MI D (MA h ad cy s0 s.heap.size) h ad cy s s.heap s0 s.heap [] := ⟨hK, hP, hD0.self, va_S.rf⟩
  have hA : ∀ q : Nat, s.heap.size ≤ q → MA h ad cy s0 s.heap.size q := fun q hq => Or.inr hq
  have hl := lv_entry ([.ref h, .int a1]) (n := 2) (Nat.le_of_ble_eq_true rfl)
  rw [lg_entry_eq]
  generalize (lg_sl ([.ref h, .int a1]) ++ List.replicate (2 - (lg_sl ([.ref h, .int a1])).length) Slot.unset).toArray = ls at hl ⊢
  have hl : lv_has ls 2 [(0, .ref h), (1, .int a1)] := hl
  obtain ⟨K0, hK0, hf⟩ := top_e hf
  unfold fm_missOf at hf
  refine lv_aload_n hx hb dX12_missOf_0 rfl (lv_at hl 0 rfl) ?_
  refine lv_iconst (v := 0) hx hb dX12_missOf_1 (by decide) ?_
  refine lv_iload_n hx hb dX12_missOf_2 rfl (lv_at hl 1 rfl) ?_
  obtain ⟨x1, hc2, hf⟩ := bnd_b hf
  refine mcall_i (As := [.int (0 : Int32), .int a1]) (rest := []) (n := 2) ⟨hx, hb, hml, hown, hts⟩ (cm_tipOf l D h ad cy (0 : Int32) a1 s0 x1 hc2 _) (cwV 2 hts gX12_missOf_X12_tipOf rfl rfl rfl ⟨rfl, nd_tipOf⟩ ⟨Nat.le_of_ble_eq_true rfl, Nat.le_of_ble_eq_true rfl⟩) hI hA rfl hl.1 (Nat.le_of_ble_eq_true rfl) dX12_missOf_3 ⟨Nat.zero_le _, Nat.zero_le _⟩ (fun H locs hI => ?_)
  refine lv_aload_n hx hb dX12_missOf_6 rfl (lv_at hl 0 rfl) ?_
  refine lv_iconst (v := 1) hx hb dX12_missOf_7 (by decide) ?_
  refine lv_iload_n hx hb dX12_missOf_8 rfl (lv_at hl 1 rfl) ?_
  obtain ⟨x3, hc4, hf⟩ := bnd_b hf
  refine mcall_i (As := [.int (1 : Int32), .int a1]) (rest := [.int x1.2]) (n := 2) ⟨hx, hb, hml, hown, hts⟩ (cm_tipOf l D h ad cy (1 : Int32) a1 x1.1 x3 hc4 _) (cwV 2 hts gX12_missOf_X12_tipOf rfl rfl rfl ⟨rfl, nd_tipOf⟩ ⟨Nat.le_of_ble_eq_true rfl, Nat.le_of_ble_eq_true rfl⟩) hI hA rfl hl.1 (Nat.le_of_ble_eq_true rfl) dX12_missOf_9 ⟨Nat.zero_le _, Nat.zero_le _⟩ (fun H locs hI => ?_)
  refine lv_isub hx hb dX12_missOf_12 ?_
  obtain ⟨x5, hc6, hf⟩ := bnd_b hf
  refine mst_i (As := [.int (x1.2 - x3.2)]) (rest := []) (n := 1) ⟨hx, hb, hml, hown, hts⟩ (cs_plain l (x1.2 - x3.2) x5 hc6 _) (va_cwS 1 hts gX12_missOf_X12_plain rfl rfl rfl nd_plain ⟨Nat.le_of_ble_eq_true rfl, Nat.le_of_ble_eq_true rfl⟩) hI hA rfl hl.1 (Nat.le_of_ble_eq_true rfl) dX12_missOf_13 ⟨Nat.zero_le _, Nat.zero_le _⟩ (fun H locs hI => ?_)
  exact mret_i hx hb hr hlocks hI (ret_e hK0 hf) dX12_missOf_16
