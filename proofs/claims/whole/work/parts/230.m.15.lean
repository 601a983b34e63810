theorem nd_passes : yX12_passes.cls ≠ "java/lang/invoke/MethodHandle" ∧ yX12_passes.cls ≠ "java/lang/invoke/VarHandle" ∧ (parseMethodDescriptor yX12_passes.desc).map (fun d => d.parameters.length) = some 2 := by decide +kernel
set_option maxHeartbeats 4000000 in
set_option maxRecDepth 100000 in
theorem cm_passes (l : Launch) (D : va_G) (h : Nat) (ad : Nat → Nat) (cy : Nat → ClassId) (a1 : Int32) (a2 : Int32) (s0 : MSt) (out : MSt) (hf : fm_passes a1 a2 s0 = some out) (sz : Nat) : CMv l D h ad cy yX12_passes wsX12_passes { frames := 5, cells := 0, slots := 0, locals := 123 } [.int a1, .int a2] s0 out sz := by
  refine Met.ofW (cc := cX12_passes) (maxL := 3) (ret := none) (by decide) rfl ?_
  intro p e s m args below meth c s₁ B hml hv
  obtain ⟨rfl, hsz, hP, hK, hD0⟩ := hv
  have hx := B.exec
  have hb := B.bytes
  have hr := B.returns
  have hts := atoms_spec (ws := wsX12_passes) B.pre
  have hown : s.vm.findClass RX12 = some m.cls := findClass_of_methodNamed B.named
  have hlocks := B.notSynchronized
  subst hsz
  have hI : MI D (MA h ad cy s0 s.heap.size) h ad cy s s.heap s0 s.heap [] := ⟨hK, hP, hD0.self, va_S.rf⟩
  have hA : ∀ q : Nat, s.heap.size ≤ q → MA h ad cy s0 s.heap.size q := fun q hq => Or.inr hq
  have hin : ∀ w ∈ u_ws RX12 TX12 42, w ∈ wsX12_passes := fun w hw => List.mem_cons_of_mem _ (List.mem_append_right _ hw)
  have k_said : Cond.fieldLink RX12 45 "HalfBridgeModel" "said" "[I" ∈ wsX12_passes := by decide +kernel
  have hl := lv_entry ([.ref h, .int a1, .int a2]) (n := 3) (Nat.le_of_ble_eq_true rfl)
  rw [lg_entry_eq]
  generalize (lg_sl ([.ref h, .int a1, .int a2]) ++ List.replicate (3 - (lg_sl ([.ref h, .int a1, .int a2])).length) Slot.unset).toArray = ls at hl ⊢
  have hl : lv_has ls 3 [(0, .ref h), (1, .int a1), (2, .int a2)] := hl
  obtain ⟨K0, hK0, hf⟩ := top_e hf
  unfold fm_passes at hf
  refine lv_aload_n hx hb dX12_passes_0 rfl (lv_at hl 0 rfl) ?_
  refine lv_iconst (v := 0) hx hb dX12_passes_1 (by decide) ?_
  refine lv_iload_n hx hb dX12_passes_2 rfl (lv_at hl 1 rfl) ?_
  obtain ⟨x1, hc2, hf⟩ := bnd_b hf
  refine mcall_v (As := [.int (0 : Int32), .int a1]) (rest := []) (n := 2) ⟨hx, hb, hml, hown, hts⟩ (cm_looks l D h ad cy (0 : Int32) a1 s0 x1 hc2 _) (cwV 2 hts gX12_passes_X12_looks rfl rfl rfl ⟨rfl, nd_looks⟩ ⟨Nat.le_of_ble_eq_true rfl, Nat.le_of_ble_eq_true rfl⟩) hI hA rfl hl.1 (Nat.le_of_ble_eq_true rfl) dX12_passes_3 ⟨Nat.zero_le _, Nat.zero_le _⟩ (fun H locs hI => ?_)
  refine lv_aload_n hx hb dX12_passes_6 rfl (lv_at hl 0 rfl) ?_
  refine lv_iconst (v := 1) hx hb dX12_passes_7 (by decide) ?_
  refine lv_iload_n hx hb dX12_passes_8 rfl (lv_at hl 2 rfl) ?_
  obtain ⟨x3, hc4, hf⟩ := bnd_b hf
  refine mcall_v (As := [.int (1 : Int32), .int a2]) (rest := []) (n := 2) ⟨hx, hb, hml, hown, hts⟩ (cm_looks l D h ad cy (1 : Int32) a2 x1 x3 hc4 _) (cwV 2 hts gX12_passes_X12_looks rfl rfl rfl ⟨rfl, nd_looks⟩ ⟨Nat.le_of_ble_eq_true rfl, Nat.le_of_ble_eq_true rfl⟩) hI hA rfl hl.1 (Nat.le_of_ble_eq_true rfl) dX12_passes_9 ⟨Nat.zero_le _, Nat.zero_le _⟩ (fun H locs hI => ?_)
  refine lv_aload_n hx hb dX12_passes_12 rfl (lv_at hl 0 rfl) ?_
  refine lv_iconst (v := 0) hx hb dX12_passes_13 (by decide) ?_
  obtain ⟨x5, hc6, hf⟩ := bnd_b hf
  refine mcall_v (As := [.int (0 : Int32)]) (rest := []) (n := 1) ⟨hx, hb, hml, hown, hts⟩ (cm_acts l D h ad cy (0 : Int32) x3 x5 hc6 _) (cwV 1 hts gX12_passes_X12_acts rfl rfl rfl ⟨rfl, nd_acts⟩ ⟨Nat.le_of_ble_eq_true rfl, Nat.le_of_ble_eq_true rfl⟩) hI hA rfl hl.1 (Nat.le_of_ble_eq_true rfl) dX12_passes_14 ⟨Nat.zero_le _, Nat.zero_le _⟩ (fun H locs hI => ?_)
  refine lv_aload_n hx hb dX12_passes_17 rfl (lv_at hl 0 rfl) ?_
  refine lv_iconst (v := 1) hx hb dX12_passes_18 (by decide) ?_
  obtain ⟨x7, hc8, hf⟩ := bnd_b hf
  refine mcall_v (As := [.int (1 : Int32)]) (rest := []) (n := 1) ⟨hx, hb, hml, hown, hts⟩ (cm_acts l D h ad cy (1 : Int32) x5 x7 hc8 _) (cwV 1 hts gX12_passes_X12_acts rfl rfl rfl ⟨rfl, nd_acts⟩ ⟨Nat.le_of_ble_eq_true rfl, Nat.le_of_ble_eq_true rfl⟩) hI hA rfl hl.1 (Nat.le_of_ble_eq_true rfl) dX12_passes_19 ⟨Nat.zero_le _, Nat.zero_le _⟩ (fun H locs hI => ?_)
  refine lv_aload_n hx hb dX12_passes_22 rfl (lv_at hl 0 rfl) ?_
  obtain ⟨x9, hc10, hf⟩ := bnd_b hf
  refine mcall_v (As := []) (rest := []) (n := 0) ⟨hx, hb, hml, hown, hts⟩ (cm_floods l D h ad cy  x7 x9 hc10 _) (cwV 0 hts gX12_passes_X12_floods rfl rfl rfl ⟨rfl, nd_floods⟩ ⟨Nat.le_of_ble_eq_true rfl, Nat.le_of_ble_eq_true rfl⟩) hI hA rfl hl.1 (Nat.le_of_ble_eq_true rfl) dX12_passes_23 ⟨Nat.zero_le _, Nat.zero_le _⟩ (fun H locs hI => ?_)
  refine lv_aload_n hx hb dX12_passes_26 rfl (lv_at hl 0 rfl) ?_
  refine mg_said hx hb hts hin hown k_said hI dX12_passes_27 ?_
  refine lv_iconst (v := 1) hx hb dX12_passes_30 (by decide) ?_
  refine lv_dup2_11 hx hb dX12_passes_31 rfl rfl ?_
  obtain ⟨k11, hf⟩ := chk_b hf
  refine ml_said hx hb hI k11 dX12_passes_32 ?_
  refine lv_iconst (v := 1) hx hb dX12_passes_33 (by decide) ?_
  refine lv_iadd hx hb dX12_passes_34 ?_
  obtain ⟨k12, hf⟩ := chk_b hf
  refine ms_said hx hb hI k12 dX12_passes_35 (fun H locs hI => ?_)
  exact mret_v hx hb hr hlocks hI (ret_e hK0 hf) dX12_passes_36

theorem nd_springs : yX12_springs.cls ≠ "java/lang/invoke/MethodHandle" ∧ yX12_springs.cls ≠ "java/lang/invoke/VarHandle" ∧ (parseMethodDescriptor yX12_springs.desc).map (fun d => d.parameters.length) = some 3 := by decide +kernel
set_option maxHeartbeats 4000000 in
set_option maxRecDepth 100000 in
theorem cm_springs (l : Launch) (D : va_G) (h : Nat) (ad : Nat → Nat) (cy : Nat → ClassId) (a1 : Int32) (a2 : Int32) (a3 : Int32) (s0 : MSt) (out : MSt) (hf : fm_springs a1 a2 a3 s0 = some out) (sz : Nat) : CMv l D h ad cy yX12_springs wsX12_springs { frames := 6, cells := 0, slots := 0, locals := 145 } [.int a1, .int a2, .int a3] s0 out sz := by
  refine Met.ofW (cc := cX12_springs) (maxL := 5) (ret := none) (by decide) rfl ?_
  intro p e s m args below meth c s₁ B hml hv
  obtain ⟨rfl, hsz, hP, hK, hD0⟩ := hv
  have hx := B.exec
  have hb := B.bytes
  have hr := B.returns
  have hts := atoms_spec (ws := wsX12_springs) B.pre
  have hown : s.vm.findClass RX12 = some m.cls := findClass_of_methodNamed B.named
  have hlocks := B.notSynchronized
  subst hsz
  have hI : MI D (MA h ad cy s0 s.heap.size) h ad cy s s.heap s0 s.heap [] := ⟨hK, hP, hD0.self, va_S.rf⟩
  have hA : ∀ q : Nat, s.heap.size ≤ q → MA h ad cy s0 s.heap.size q := fun q hq => Or.inr hq
  have hl := lv_entry ([.ref h, .int a1, .int a2, .int a3]) (n := 5) (Nat.le_of_ble_eq_true rfl)
  rw [lg_entry_eq]
  generalize (lg_sl ([.ref h, .int a1, .int a2, .int a3]) ++ List.replicate (5 - (lg_sl ([.ref h, .int a1, .int a2, .int a3])).length) Slot.unset).toArray = ls at hl ⊢
  have hl : lv_has ls 5 [(0, .ref h), (1, .int a1), (2, .int a2), (3, .int a3)] := hl
  obtain ⟨K0, hK0, hf⟩ := top_e hf
  have B_32 : ∀   (st : MSt) (H : Heap) (locs : List Loc) (ls : Array Slot), MI D (MA h ad cy s0 s.heap.size) h ad cy s s.heap st H locs → lv_has ls 5 [] → (fm_springs_j32 st).bind K0 = some out → W p l e (headSpec wsX12_springs { frames := 6, cells := 0, slots := 0, locals := 145 }).room s m (([.ref h, .int a1, .int a2, .int a3] : List Value).toArray) below meth c H locs 0 0 (MQ below (MQv D h ad cy s0 out s.heap.size) ([.ref h, .int a1, .int a2, .int a3] : List Value).toArray s 0 0 (MA h ad cy s0 s.heap.size)) (F0 m 32 ls []) := by
    intro st H locs ls hI hl hf
    unfold fm_springs_j32 at hf
    exact mret_v hx hb hr hlocks hI (ret_e hK0 hf) dX12_springs_32
  have L_3 : ∀ (v1 : Int32) (v2 : Int32) (v3 : Int32) (n : Nat) (v4 : Int32) (st : MSt) (H : Heap) (locs : List Loc) (ls : Array Slot), MI D (MA h ad cy s0 s.heap.size) h ad cy s s.heap st H locs → lv_has ls 5 [(0, .ref h), (1, .int v1), (2, .int v2), (3, .int v3), (4, .int v4)] → (iter (fun x : (Int32 × MSt) => fm_springs_s3 v1 v2 v3 x.1 x.2) n (v4, st)).bind (fun x => ((Sum.elim (fun o : MSt => (some o : Option (MSt))) (fun x : (Int32 × MSt) => fm_springs_j32 x.2)) x).bind K0) = some out → W p l e (headSpec wsX12_springs { frames := 6, cells := 0, slots := 0, locals := 145 }).room s m (([.ref h, .int a1, .int a2, .int a3] : List Value).toArray) below meth c H locs 0 0 (MQ below (MQv D h ad cy s0 out s.heap.size) ([.ref h, .int a1, .int a2, .int a3] : List Value).toArray s 0 0 (MA h ad cy s0 s.heap.size)) (F0 m 3 ls []) := by
    intro v1 v2 v3 n
    induction n with
    | zero => intro v4 st H locs ls hI hl hf; exact (iter_0 hf).elim
    | succ n ih =>
      intro v4 st H locs ls hI hl hf
      obtain ⟨K1, hK1, hf⟩ := iter_e hf
      replace hf : (fm_springs_s3 v1 v2 v3 v4 st).bind K1 = some out := hf
      unfold fm_springs_s3 at hf
      refine lv_iload hx hb dX12_springs_3 (lv_at hl 4 rfl) ?_
      refine lv_iload_n hx hb dX12_springs_5 rfl (lv_at hl 3 rfl) ?_
      refine lv_icmp_ge (tgt := 32) hx hb dX12_springs_6 (by decide) (fun c1 => ?_) (fun c1 => ?_)
      · replace hf := ifp c1 hf
        replace hf := exit_b hK1 hf
        exact B_32  st H locs ls hI (lv_sub hl [] rfl) hf
      · replace hf := ifn c1 hf
        refine lv_aload_n hx hb dX12_springs_9 rfl (lv_at hl 0 rfl) ?_
        obtain ⟨x2, hc3, hf⟩ := bnd_b hf
        refine mcall_i (As := []) (rest := []) (n := 0) ⟨hx, hb, hml, hown, hts⟩ (cm_isMet l D h ad cy  st x2 hc3 _) (cwV 0 hts gX12_springs_X12_isMet rfl rfl rfl ⟨rfl, nd_isMet⟩ ⟨Nat.le_of_ble_eq_true rfl, Nat.le_of_ble_eq_true rfl⟩) hI hA rfl hl.1 (Nat.le_of_ble_eq_true rfl) dX12_springs_10 ⟨Nat.zero_le _, Nat.zero_le _⟩ (fun H locs hI => ?_)
        refine lv_if_ne (tgt := 32) hx hb dX12_springs_13 (by decide) (fun c4 => ?_) (fun c4 => ?_)
        · replace hf := ifn c4 hf
          replace hf := exit_b hK1 hf
          exact B_32  x2.1 H locs ls hI (lv_sub hl [] rfl) hf
        · replace hf := ifp c4 hf
          refine lv_aload_n hx hb dX12_springs_16 rfl (lv_at hl 0 rfl) ?_
          obtain ⟨x5, hc6, hf⟩ := bnd_b hf
          refine mcall_v (As := []) (rest := []) (n := 0) ⟨hx, hb, hml, hown, hts⟩ (cm_errsAsTold l D h ad cy  x2.1 x5 hc6 _) (cwV 0 hts gX12_springs_X12_errsAsTold rfl rfl rfl ⟨rfl, nd_errsAsTold⟩ ⟨Nat.le_of_ble_eq_true rfl, Nat.le_of_ble_eq_true rfl⟩) hI hA rfl hl.1 (Nat.le_of_ble_eq_true rfl) dX12_springs_17 ⟨Nat.zero_le _, Nat.zero_le _⟩ (fun H locs hI => ?_)
          refine lv_aload_n hx hb dX12_springs_20 rfl (lv_at hl 0 rfl) ?_
          refine lv_iload_n hx hb dX12_springs_21 rfl (lv_at hl 1 rfl) ?_
          refine lv_iload_n hx hb dX12_springs_22 rfl (lv_at hl 2 rfl) ?_
          obtain ⟨x7, hc8, hf⟩ := bnd_b hf
          refine mcall_v (As := [.int v1, .int v2]) (rest := []) (n := 2) ⟨hx, hb, hml, hown, hts⟩ (cm_passes l D h ad cy v1 v2 x5 x7 hc8 _) (cwV 2 hts gX12_springs_X12_passes rfl rfl rfl ⟨rfl, nd_passes⟩ ⟨Nat.le_of_ble_eq_true rfl, Nat.le_of_ble_eq_true rfl⟩) hI hA rfl hl.1 (Nat.le_of_ble_eq_true rfl) dX12_springs_23 ⟨Nat.zero_le _, Nat.zero_le _⟩ (fun H locs hI => ?_)
          refine lv_iinc (v := (v4 + 1)) (lv' := [(4, .int (v4 + 1)), (0, .ref h), (1, .int v1), (2, .int v2), (3, .int v3)]) hx hb dX12_springs_26 hl (k := 4) rfl (ci_ _ (by decide)) (by decide) rfl (fun ls hl => ?_)
          refine lv_goto (tgt := 3) hx hb dX12_springs_29 (by decide) ?_
          replace hf := cont_b hK1 hf
          exact ih (v4 + 1) x7 H locs ls hI (lv_sub hl [1, 2, 3, 4, 0] rfl) hf
  unfold fm_springs at hf
  refine lv_iconst (v := 0) hx hb dX12_springs_0 (by decide) ?_
  refine lv_istore (lv' := [(4, .int (0 : Int32)), (0, .ref h), (1, .int a1), (2, .int a2), (3, .int a3)]) hx hb dX12_springs_1 hl (by decide) rfl (fun ls hl => ?_)
  exact L_3 a1 a2 a3 mFuel (0 : Int32) s0 s.heap [] ls hI (lv_sub hl [1, 2, 3, 4, 0] rfl) (asc_b hf)

theorem nd_canAsk : yX12_canAsk.cls ≠ "java/lang/invoke/MethodHandle" ∧ yX12_canAsk.cls ≠ "java/lang/invoke/VarHandle" ∧ (parseMethodDescriptor yX12_canAsk.desc).map (fun d => d.parameters.length) = some 2 := by decide +kernel
set_option maxHeartbeats 4000000 in
set_option maxRecDepth 100000 in
theorem cm_canAsk (l : Launch) (D : va_G) (h : Nat) (ad : Nat → Nat) (cy : Nat → ClassId) (a1 : Int32) (a2 : Int32) (s0 : MSt) (out : MSt × Int32) (hf : fm_canAsk a1 a2 s0 = some out) (sz : Nat) : CMi l D h ad cy yX12_canAsk wsX12_canAsk { frames := 1, cells := 0, slots := 0, locals := 21 } [.int a1, .int a2] s0 out sz := by
  refine Met.ofW (cc := cX12_canAsk) (maxL := 3) (ret := (some .boolean)) (by decide) rfl ?_
  intro p e s m args below meth c s₁ B hml hv
  obtain ⟨rfl, hsz, hP, hK, hD0⟩ := hv
  have hx := B.exec
  have hb := B.bytes
  have hr := B.returns
  have hts := atoms_spec (ws := wsX12_canAsk) B.pre
  have hown : s.vm.findClass RX12 = some m.cls := findClass_of_methodNamed B.named
  have hlocks := B.notSynchronized
  subst hsz
  have hI : MI D (MA h ad cy s0 s.heap.size) h ad cy s s.heap s0 s.heap [] := ⟨hK, hP, hD0.self, va_S.rf⟩
  have hA : ∀ q : Nat, s.heap.size ≤ q → MA h ad cy s0 s.heap.size q := fun q hq => Or.inr hq
  have hl := lv_entry ([.ref h, .int a1, .int a2]) (n := 3) (Nat.le_of_ble_eq_true rfl)
  rw [lg_entry_eq]
  generalize (lg_sl ([.ref h, .int a1, .int a2]) ++ List.replicate (3 - (lg_sl ([.ref h, .int a1, .int a2])).length) Slot.unset).toArray = ls at hl ⊢
  have hl : lv_has ls 3 [(0, .ref h), (1, .int a1), (2, .int a2)] := hl
  obtain ⟨K0, hK0, hf⟩ := top_e hf
  unfold fm_canAsk at hf
  refine lv_aload_n hx hb dX12_canAsk_0 rfl (lv_at hl 0 rfl) ?_
  obtain ⟨x1, hc2, hf⟩ := bnd_b hf
  refine mcall_i (As := []) (rest := []) (n := 0) ⟨hx, hb, hml, hown, hts⟩ (cm_isRiver l D h ad cy  s0 x1 hc2 _) (cwV 0 hts gX12_canAsk_X12_isRiver rfl rfl rfl ⟨rfl, nd_isRiver⟩ ⟨Nat.le_of_ble_eq_true rfl, Nat.le_of_ble_eq_true rfl⟩) hI hA rfl hl.1 (Nat.le_of_ble_eq_true rfl) dX12_canAsk_1 ⟨Nat.zero_le _, Nat.zero_le _⟩ (fun H locs hI => ?_)
  refine lv_if_eq (tgt := 27) hx hb dX12_canAsk_4 (by decide) (fun c3 => ?_) (fun c3 => ?_)
  · replace hf := ifp c3 hf
    refine lv_iconst (v := 0) hx hb dX12_canAsk_27 (by decide) ?_
    exact mret_z hx hb hr (by decide) hlocks hI (ret_e hK0 hf) dX12_canAsk_28
  · replace hf := ifn c3 hf
    refine lv_aload_n hx hb dX12_canAsk_7 rfl (lv_at hl 0 rfl) ?_
    refine lv_iload_n hx hb dX12_canAsk_8 rfl (lv_at hl 1 rfl) ?_
    obtain ⟨x4, hc5, hf⟩ := bnd_b hf
    refine mcall_i (As := [.int a1]) (rest := []) (n := 1) ⟨hx, hb, hml, hown, hts⟩ (cm_isRule l D h ad cy a1 x1.1 x4 hc5 _) (cwV 1 hts gX12_canAsk_X12_isRule rfl rfl rfl ⟨rfl, nd_isRule⟩ ⟨Nat.le_of_ble_eq_true rfl, Nat.le_of_ble_eq_true rfl⟩) hI hA rfl hl.1 (Nat.le_of_ble_eq_true rfl) dX12_canAsk_9 ⟨Nat.zero_le _, Nat.zero_le _⟩ (fun H locs hI => ?_)
    refine lv_if_eq (tgt := 27) hx hb dX12_canAsk_12 (by decide) (fun c6 => ?_) (fun c6 => ?_)
    · replace hf := ifp c6 hf
      refine lv_iconst (v := 0) hx hb dX12_canAsk_27 (by decide) ?_
      exact mret_z hx hb hr (by decide) hlocks hI (ret_e hK0 hf) dX12_canAsk_28
    · replace hf := ifn c6 hf
      refine lv_aload_n hx hb dX12_canAsk_15 rfl (lv_at hl 0 rfl) ?_
      refine lv_iload_n hx hb dX12_canAsk_16 rfl (lv_at hl 2 rfl) ?_
      obtain ⟨x7, hc8, hf⟩ := bnd_b hf
      refine mcall_i (As := [.int a2]) (rest := []) (n := 1) ⟨hx, hb, hml, hown, hts⟩ (cm_isRule l D h ad cy a2 x4.1 x7 hc8 _) (cwV 1 hts gX12_canAsk_X12_isRule rfl rfl rfl ⟨rfl, nd_isRule⟩ ⟨Nat.le_of_ble_eq_true rfl, Nat.le_of_ble_eq_true rfl⟩) hI hA rfl hl.1 (Nat.le_of_ble_eq_true rfl) dX12_canAsk_17 ⟨Nat.zero_le _, Nat.zero_le _⟩ (fun H locs hI => ?_)
      refine lv_if_eq (tgt := 27) hx hb dX12_canAsk_20 (by decide) (fun c9 => ?_) (fun c9 => ?_)
      · replace hf := ifp c9 hf
        refine lv_iconst (v := 0) hx hb dX12_canAsk_27 (by decide) ?_
        exact mret_z hx hb hr (by decide) hlocks hI (ret_e hK0 hf) dX12_canAsk_28
      · replace hf := ifn c9 hf
        refine lv_iconst (v := 1) hx hb dX12_canAsk_23 (by decide) ?_
        refine lv_goto (tgt := 28) hx hb dX12_canAsk_24 (by decide) ?_
        exact mret_z hx hb hr (by decide) hlocks hI (ret_e hK0 hf) dX12_canAsk_28

theorem nd_spring : yX12_spring.cls ≠ "java/lang/invoke/MethodHandle" ∧ yX12_spring.cls ≠ "java/lang/invoke/VarHandle" ∧ (parseMethodDescriptor yX12_spring.desc).map (fun d => d.parameters.length) = some 3 := by decide +kernel
set_option maxHeartbeats 4000000 in
set_option maxRecDepth 100000 in
theorem cm_spring (l : Launch) (D : va_G) (h : Nat) (ad : Nat → Nat) (cy : Nat → ClassId) (a1 : Int32) (a2 : Int32) (a3 : Int32) (s0 : MSt) (out : MSt × Int32) (hf : fm_spring a1 a2 a3 s0 = some out) (sz : Nat) : CMi l D h ad cy yX12_spring wsX12_spring { frames := 7, cells := 0, slots := 0, locals := 169 } [.int a1, .int a2, .int a3] s0 out sz := by
  refine Met.ofW (cc := cX12_spring) (maxL := 4) (ret := (some .int)) (by decide) rfl ?_
  intro p e s m args below meth c s₁ B hml hv
  obtain ⟨rfl, hsz, hP, hK, hD0⟩ := hv
  have hx := B.exec
  have hb := B.bytes
  have hr := B.returns
  have hts := atoms_spec (ws := wsX12_spring) B.pre
  have hown : s.vm.findClass RX12 = some m.cls := findClass_of_methodNamed B.named
  have hlocks := B.notSynchronized
  subst hsz
  have hI : MI D (MA h ad cy s0 s.heap.size) h ad cy s s.heap s0 s.heap [] := ⟨hK, hP, hD0.self, va_S.rf⟩
  have hA : ∀ q : Nat, s.heap.size ≤ q → MA h ad cy s0 s.heap.size q := fun q hq => Or.inr hq
  have hin : ∀ w ∈ u_ws RX12 TX12 42, w ∈ wsX12_spring := fun w hw => List.mem_cons_of_mem _ (List.mem_append_right _ hw)
  have k_said : Cond.fieldLink RX12 45 "HalfBridgeModel" "said" "[I" ∈ wsX12_spring := by decide +kernel
  have hl := lv_entry ([.ref h, .int a1, .int a2, .int a3]) (n := 4) (Nat.le_of_ble_eq_true rfl)
  rw [lg_entry_eq]
  generalize (lg_sl ([.ref h, .int a1, .int a2, .int a3]) ++ List.replicate (4 - (lg_sl ([.ref h, .int a1, .int a2, .int a3])).length) Slot.unset).toArray = ls at hl ⊢
  have hl : lv_has ls 4 [(0, .ref h), (1, .int a1), (2, .int a2), (3, .int a3)] := hl
  obtain ⟨K0, hK0, hf⟩ := top_e hf
  unfold fm_spring at hf
  refine lv_aload_n hx hb dX12_spring_0 rfl (lv_at hl 0 rfl) ?_
  refine lv_iload_n hx hb dX12_spring_1 rfl (lv_at hl 1 rfl) ?_
  refine lv_iload_n hx hb dX12_spring_2 rfl (lv_at hl 2 rfl) ?_
  obtain ⟨x1, hc2, hf⟩ := bnd_b hf
  refine mcall_i (As := [.int a1, .int a2]) (rest := []) (n := 2) ⟨hx, hb, hml, hown, hts⟩ (cm_canAsk l D h ad cy a1 a2 s0 x1 hc2 _) (cwV 2 hts gX12_spring_X12_canAsk rfl rfl rfl ⟨rfl, nd_canAsk⟩ ⟨Nat.le_of_ble_eq_true rfl, Nat.le_of_ble_eq_true rfl⟩) hI hA rfl hl.1 (Nat.le_of_ble_eq_true rfl) dX12_spring_3 ⟨Nat.zero_le _, Nat.zero_le _⟩ (fun H locs hI => ?_)
  refine lv_if_eq (tgt := 35) hx hb dX12_spring_6 (by decide) (fun c3 => ?_) (fun c3 => ?_)
  · replace hf := ifp c3 hf
    refine lv_iconst (v := -1) hx hb dX12_spring_35 (by decide) ?_
    exact mret_i hx hb hr hlocks hI (ret_e hK0 hf) dX12_spring_36
  · replace hf := ifn c3 hf
    refine lv_iload_n hx hb dX12_spring_9 rfl (lv_at hl 3 rfl) ?_
    refine lv_i2l (v := (a3.toInt64)) hx hb dX12_spring_10 rfl ?_
    refine lv_lconst (v := 1) hx hb dX12_spring_11 (by decide) ?_
    refine lv_ldc2 (v := 200) hx hb hown (hts (.constantLong RX12 405 (200)) (by decide +kernel)) dX12_spring_12 ?_
    obtain ⟨x4, hc5, hf⟩ := bnd_b hf
    refine mst_i (As := [.long (a3.toInt64), .long (1 : Int64), .long (200 : Int64)]) (rest := []) (n := 3) ⟨hx, hb, hml, hown, hts⟩ (cs_in l (a3.toInt64) (1 : Int64) (200 : Int64) x4 hc5 _) (va_cwS 3 hts gX12_spring_X12_in rfl rfl rfl nd_in ⟨Nat.le_of_ble_eq_true rfl, Nat.le_of_ble_eq_true rfl⟩) hI hA rfl hl.1 (Nat.le_of_ble_eq_true rfl) dX12_spring_15 ⟨Nat.zero_le _, Nat.zero_le _⟩ (fun H locs hI => ?_)
    refine lv_if_eq (tgt := 35) hx hb dX12_spring_18 (by decide) (fun c6 => ?_) (fun c6 => ?_)
    · replace hf := ifp c6 hf
      refine lv_iconst (v := -1) hx hb dX12_spring_35 (by decide) ?_
      exact mret_i hx hb hr hlocks hI (ret_e hK0 hf) dX12_spring_36
    · replace hf := ifn c6 hf
      refine lv_aload_n hx hb dX12_spring_21 rfl (lv_at hl 0 rfl) ?_
      refine mg_said hx hb hts hin hown k_said hI dX12_spring_22 ?_
      refine lv_iconst (v := 1) hx hb dX12_spring_25 (by decide) ?_
      obtain ⟨k7, hf⟩ := chk_b hf
      refine ml_said hx hb hI k7 dX12_spring_26 ?_
      refine lv_iload_n hx hb dX12_spring_27 rfl (lv_at hl 3 rfl) ?_
      refine lv_iadd hx hb dX12_spring_28 ?_
      refine lv_sipush (v := 9999) hx hb dX12_spring_29 (by decide) ?_
      refine lv_icmp_le (tgt := 37) hx hb dX12_spring_32 (by decide) (fun c8 => ?_) (fun c8 => ?_)
      · replace hf := ifp c8 hf
        refine lv_aload_n hx hb dX12_spring_37 rfl (lv_at hl 0 rfl) ?_
        refine lv_iload_n hx hb dX12_spring_38 rfl (lv_at hl 1 rfl) ?_
        refine lv_iload_n hx hb dX12_spring_39 rfl (lv_at hl 2 rfl) ?_
        refine lv_iload_n hx hb dX12_spring_40 rfl (lv_at hl 3 rfl) ?_
        obtain ⟨x9, hc10, hf⟩ := bnd_b hf
        refine mcall_v (As := [.int a1, .int a2, .int a3]) (rest := []) (n := 3) ⟨hx, hb, hml, hown, hts⟩ (cm_springs l D h ad cy a1 a2 a3 x1.1 x9 hc10 _) (cwV 3 hts gX12_spring_X12_springs rfl rfl rfl ⟨rfl, nd_springs⟩ ⟨Nat.le_of_ble_eq_true rfl, Nat.le_of_ble_eq_true rfl⟩) hI hA rfl hl.1 (Nat.le_of_ble_eq_true rfl) dX12_spring_41 ⟨Nat.zero_le _, Nat.zero_le _⟩ (fun H locs hI => ?_)
        refine lv_aload_n hx hb dX12_spring_44 rfl (lv_at hl 0 rfl) ?_
        refine mg_said hx hb hts hin hown k_said hI dX12_spring_45 ?_
        refine lv_iconst (v := 1) hx hb dX12_spring_48 (by decide) ?_
        obtain ⟨k11, hf⟩ := chk_b hf
        refine ml_said hx hb hI k11 dX12_spring_49 ?_
        exact mret_i hx hb hr hlocks hI (ret_e hK0 hf) dX12_spring_50
      · replace hf := ifn c8 hf
        refine lv_iconst (v := -1) hx hb dX12_spring_35 (by decide) ?_
        exact mret_i hx hb hr hlocks hI (ret_e hK0 hf) dX12_spring_36

theorem nd_missOf : yX12_missOf.cls ≠ "java/lang/invoke/MethodHandle" ∧ yX12_missOf.cls ≠ "java/lang/invoke/VarHandle" ∧ (parseMethodDescriptor yX12_missOf.desc).map (fun d => d.parameters.length) = some 1 := by decide +kernel
set_option maxHeartbeats 4000000 in
set_option maxRecDepth 100000 in
theorem cm_missOf (l : Launch) (D : va_G) (h : Nat) (ad : Nat → Nat) (cy : Nat → ClassId) (a1 : Int32) (s0 : MSt) (out : MSt × Int32) (hf : fm_missOf a1 s0 = some out) (sz : Nat) : CMi l D h ad cy yX12_missOf wsX12_missOf { frames := 2, cells := 0, slots := 0, locals := 45 } [.int a1] s0 out sz := by
  refine Met.ofW (cc := cX12_missOf) (maxL := 2) (ret := (some .int)) (by decide) rfl ?_
  intro p e s m args below meth c s₁ B hml hv
  obtain ⟨rfl, hsz, hP, hK, hD0⟩ := hv
  have hx := B.exec
  have hb := B.bytes
  have hr := B.returns
  have hts := atoms_spec (ws := wsX12_missOf) B.pre
  have hown : s.vm.findClass RX12 = some m.cls := findClass_of_methodNamed B.named
  have hlocks := B.notSynchronized
  subst hsz
  have hI : MI D (MA h ad cy s0 s.heap.size) h ad cy s s.heap s0 s.heap [] := ⟨hK, hP, hD0.self, va_S.rf⟩
  have hA : ∀ q : Nat, s.heap.size ≤ q → MA h ad cy s0 s.heap.size q := fun q hq => Or.inr hq
  have hl := lv_entry ([.ref h, .int a1]) (n := 2) (Nat.le_of_ble_eq_true rfl)
  rw [lg_entry_eq]
  generalize (lg_sl ([.ref h, .int a1]) ++ List.replicate (2 - (lg_sl ([.ref h, .int a1])).length) Slot.unset).toArray = ls at hl ⊢
  have hl : lv_has ls 2 [(0, .ref h), (1, .int a1)] := hl
  obtain ⟨K0, hK0, hf⟩ := top_e hf
  unfold fm_missOf at hf
  refine lv_aload_n hx hb dX12_missOf_0 rfl (lv_at hl 0 rfl) ?_
  refine lv_iconst (v := 0) hx hb dX12_missOf_1 (by decide) ?_
  refine lv_iload_n hx hb dX12_missOf_2 rfl (lv_at hl 1 rfl) ?_
  obtain ⟨x1, hc2, hf⟩ := bnd_b hf
  refine mcall_i (As := [.int (0 : Int32), .int a1]) (rest := []) (n := 2) ⟨hx, hb, hml, hown, hts⟩ (cm_tipOf l D h ad cy (0 : Int32) a1 s0 x1 hc2 _) (cwV 2 hts gX12_missOf_X12_tipOf rfl rfl rfl ⟨rfl, nd_tipOf⟩ ⟨Nat.le_of_ble_eq_true rfl, Nat.le_of_ble_eq_true rfl⟩) hI hA rfl hl.1 (Nat.le_of_ble_eq_true rfl) dX12_missOf_3 ⟨Nat.zero_le _, Nat.zero_le _⟩ (fun H locs hI => ?_)
  refine lv_aload_n hx hb dX12_missOf_6 rfl (lv_at hl 0 rfl) ?_
  refine lv_iconst (v := 1) hx hb dX12_missOf_7 (by decide) ?_
  refine lv_iload_n hx hb dX12_missOf_8 rfl (lv_at hl 1 rfl) ?_
  obtain ⟨x3, hc4, hf⟩ := bnd_b hf
  refine mcall_i (As := [.int (1 : Int32), .int a1]) (rest := [.int x1.2]) (n := 2) ⟨hx, hb, hml, hown, hts⟩ (cm_tipOf l D h ad cy (1 : Int32) a1 x1.1 x3 hc4 _) (cwV 2 hts gX12_missOf_X12_tipOf rfl rfl rfl ⟨rfl, nd_tipOf⟩ ⟨Nat.le_of_ble_eq_true rfl, Nat.le_of_ble_eq_true rfl⟩) hI hA rfl hl.1 (Nat.le_of_ble_eq_true rfl) dX12_missOf_9 ⟨Nat.zero_le _, Nat.zero_le _⟩ (fun H locs hI => ?_)
  refine lv_isub hx hb dX12_missOf_12 ?_
  obtain ⟨x5, hc6, hf⟩ := bnd_b hf
  refine mst_i (As := [.int (x1.2 - x3.2)]) (rest := []) (n := 1) ⟨hx, hb, hml, hown, hts⟩ (cs_plain l (x1.2 - x3.2) x5 hc6 _) (va_cwS 1 hts gX12_missOf_X12_plain rfl rfl rfl nd_plain ⟨Nat.le_of_ble_eq_true rfl, Nat.le_of_ble_eq_true rfl⟩) hI hA rfl hl.1 (Nat.le_of_ble_eq_true rfl) dX12_missOf_13 ⟨Nat.zero_le _, Nat.zero_le _⟩ (fun H locs hI => ?_)
  exact mret_i hx hb hr hlocks hI (ret_e hK0 hf) dX12_missOf_16

theorem nd_isInTime : yX12_isInTime.cls ≠ "java/lang/invoke/MethodHandle" ∧ yX12_isInTime.cls ≠ "java/lang/invoke/VarHandle" ∧ (parseMethodDescriptor yX12_isInTime.desc).map (fun d => d.parameters.length) = some 0 := by decide +kernel
set_option maxHeartbeats 4000000 in
set_option maxRecDepth 100000 in
theorem cm_isInTime (l : Launch) (D : va_G) (h : Nat) (ad : Nat → Nat) (cy : Nat → ClassId)  (s0 : MSt) (out : MSt × Int32) (hf : fm_isInTime s0 = some out) (sz : Nat) : CMi l D h ad cy yX12_isInTime wsX12_isInTime { frames := 3, cells := 0, slots := 0, locals := 66 } [] s0 out sz := by
  refine Met.ofW (cc := cX12_isInTime) (maxL := 1) (ret := (some .boolean)) (by decide) rfl ?_
  intro p e s m args below meth c s₁ B hml hv
  obtain ⟨rfl, hsz, hP, hK, hD0⟩ := hv
  have hx := B.exec
  have hb := B.bytes
  have hr := B.returns
  have hts := atoms_spec (ws := wsX12_isInTime) B.pre
  have hown : s.vm.findClass RX12 = some m.cls := findClass_of_methodNamed B.named
  have hlocks := B.notSynchronized
  subst hsz
  have hI : MI D (MA h ad cy s0 s.heap.size) h ad cy s s.heap s0 s.heap [] := ⟨hK, hP, hD0.self, va_S.rf⟩
  have hA : ∀ q : Nat, s.heap.size ≤ q → MA h ad cy s0 s.heap.size q := fun q hq => Or.inr hq
  have hin : ∀ w ∈ u_ws RX12 TX12 42, w ∈ wsX12_isInTime := fun w hw => List.mem_cons_of_mem _ (List.mem_append_right _ hw)
  have k_said : Cond.fieldLink RX12 45 "HalfBridgeModel" "said" "[I" ∈ wsX12_isInTime := by decide +kernel
  have hl := lv_entry ([.ref h]) (n := 1) (Nat.le_of_ble_eq_true rfl)
  rw [lg_entry_eq]
  generalize (lg_sl ([.ref h]) ++ List.replicate (1 - (lg_sl ([.ref h])).length) Slot.unset).toArray = ls at hl ⊢
  have hl : lv_has ls 1 [(0, .ref h)] := hl
  obtain ⟨K0, hK0, hf⟩ := top_e hf
  unfold fm_isInTime at hf
  refine lv_aload_n hx hb dX12_isInTime_0 rfl (lv_at hl 0 rfl) ?_
  obtain ⟨x1, hc2, hf⟩ := bnd_b hf
  refine mcall_i (As := []) (rest := []) (n := 0) ⟨hx, hb, hml, hown, hts⟩ (cm_isMet l D h ad cy  s0 x1 hc2 _) (cwV 0 hts gX12_isInTime_X12_isMet rfl rfl rfl ⟨rfl, nd_isMet⟩ ⟨Nat.le_of_ble_eq_true rfl, Nat.le_of_ble_eq_true rfl⟩) hI hA rfl hl.1 (Nat.le_of_ble_eq_true rfl) dX12_isInTime_1 ⟨Nat.zero_le _, Nat.zero_le _⟩ (fun H locs hI => ?_)
  refine lv_if_eq (tgt := 39) hx hb dX12_isInTime_4 (by decide) (fun c3 => ?_) (fun c3 => ?_)
  · replace hf := ifp c3 hf
    refine lv_iconst (v := 0) hx hb dX12_isInTime_39 (by decide) ?_
    exact mret_z hx hb hr (by decide) hlocks hI (ret_e hK0 hf) dX12_isInTime_40
  · replace hf := ifn c3 hf
    refine lv_aload_n hx hb dX12_isInTime_7 rfl (lv_at hl 0 rfl) ?_
    refine lv_iconst (v := 0) hx hb dX12_isInTime_8 (by decide) ?_
    obtain ⟨x4, hc5, hf⟩ := bnd_b hf
    refine mcall_i (As := [.int (0 : Int32)]) (rest := []) (n := 1) ⟨hx, hb, hml, hown, hts⟩ (cm_missOf l D h ad cy (0 : Int32) x1.1 x4 hc5 _) (cwV 1 hts gX12_isInTime_X12_missOf rfl rfl rfl ⟨rfl, nd_missOf⟩ ⟨Nat.le_of_ble_eq_true rfl, Nat.le_of_ble_eq_true rfl⟩) hI hA rfl hl.1 (Nat.le_of_ble_eq_true rfl) dX12_isInTime_9 ⟨Nat.zero_le _, Nat.zero_le _⟩ (fun H locs hI => ?_)
    refine lv_aload_n hx hb dX12_isInTime_12 rfl (lv_at hl 0 rfl) ?_
    refine mg_said hx hb hts hin hown k_said hI dX12_isInTime_13 ?_
    refine lv_iconst (v := 3) hx hb dX12_isInTime_16 (by decide) ?_
    obtain ⟨k6, hf⟩ := chk_b hf
    refine ml_said hx hb hI k6 dX12_isInTime_17 ?_
    refine lv_icmp_gt (tgt := 39) hx hb dX12_isInTime_18 (by decide) (fun c7 => ?_) (fun c7 => ?_)
    · replace hf := ifp c7 hf
      refine lv_iconst (v := 0) hx hb dX12_isInTime_39 (by decide) ?_
      exact mret_z hx hb hr (by decide) hlocks hI (ret_e hK0 hf) dX12_isInTime_40
    · replace hf := ifn c7 hf
      refine lv_aload_n hx hb dX12_isInTime_21 rfl (lv_at hl 0 rfl) ?_
      refine lv_iconst (v := 1) hx hb dX12_isInTime_22 (by decide) ?_
      obtain ⟨x8, hc9, hf⟩ := bnd_b hf
      refine mcall_i (As := [.int (1 : Int32)]) (rest := []) (n := 1) ⟨hx, hb, hml, hown, hts⟩ (cm_missOf l D h ad cy (1 : Int32) x4.1 x8 hc9 _) (cwV 1 hts gX12_isInTime_X12_missOf rfl rfl rfl ⟨rfl, nd_missOf⟩ ⟨Nat.le_of_ble_eq_true rfl, Nat.le_of_ble_eq_true rfl⟩) hI hA rfl hl.1 (Nat.le_of_ble_eq_true rfl) dX12_isInTime_23 ⟨Nat.zero_le _, Nat.zero_le _⟩ (fun H locs hI => ?_)
      refine lv_aload_n hx hb dX12_isInTime_26 rfl (lv_at hl 0 rfl) ?_
      refine mg_said hx hb hts hin hown k_said hI dX12_isInTime_27 ?_
      refine lv_iconst (v := 3) hx hb dX12_isInTime_30 (by decide) ?_
      obtain ⟨k10, hf⟩ := chk_b hf
      refine ml_said hx hb hI k10 dX12_isInTime_31 ?_
      refine lv_icmp_gt (tgt := 39) hx hb dX12_isInTime_32 (by decide) (fun c11 => ?_) (fun c11 => ?_)
      · replace hf := ifp c11 hf
        refine lv_iconst (v := 0) hx hb dX12_isInTime_39 (by decide) ?_
        exact mret_z hx hb hr (by decide) hlocks hI (ret_e hK0 hf) dX12_isInTime_40
      · replace hf := ifn c11 hf
        refine lv_iconst (v := 1) hx hb dX12_isInTime_35 (by decide) ?_
        refine lv_goto (tgt := 40) hx hb dX12_isInTime_36 (by decide) ?_
        exact mret_z hx hb hr (by decide) hlocks hI (ret_e hK0 hf) dX12_isInTime_40

theorem nd_miss : yX12_miss.cls ≠ "java/lang/invoke/MethodHandle" ∧ yX12_miss.cls ≠ "java/lang/invoke/VarHandle" ∧ (parseMethodDescriptor yX12_miss.desc).map (fun d => d.parameters.length) = some 1 := by decide +kernel
set_option maxHeartbeats 4000000 in
set_option maxRecDepth 100000 in
theorem cm_miss (l : Launch) (D : va_G) (h : Nat) (ad : Nat → Nat) (cy : Nat → ClassId) (a1 : Int32) (s0 : MSt) (out : MSt × Int32) (hf : fm_miss a1 s0 = some out) (sz : Nat) : CMi l D h ad cy yX12_miss wsX12_miss { frames := 4, cells := 0, slots := 0, locals := 86 } [.int a1] s0 out sz := by
  refine Met.ofW (cc := cX12_miss) (maxL := 2) (ret := (some .int)) (by decide) rfl ?_
  intro p e s m args below meth c s₁ B hml hv
  obtain ⟨rfl, hsz, hP, hK, hD0⟩ := hv
  have hx := B.exec
  have hb := B.bytes
  have hr := B.returns
  have hts := atoms_spec (ws := wsX12_miss) B.pre
  have hown : s.vm.findClass RX12 = some m.cls := findClass_of_methodNamed B.named
  have hlocks := B.notSynchronized
  subst hsz
  have hI : MI D (MA h ad cy s0 s.heap.size) h ad cy s s.heap s0 s.heap [] := ⟨hK, hP, hD0.self, va_S.rf⟩
  have hA : ∀ q : Nat, s.heap.size ≤ q → MA h ad cy s0 s.heap.size q := fun q hq => Or.inr hq
  have hl := lv_entry ([.ref h, .int a1]) (n := 2) (Nat.le_of_ble_eq_true rfl)
  rw [lg_entry_eq]
  generalize (lg_sl ([.ref h, .int a1]) ++ List.replicate (2 - (lg_sl ([.ref h, .int a1])).length) Slot.unset).toArray = ls at hl ⊢
  have hl : lv_has ls 2 [(0, .ref h), (1, .int a1)] := hl
  obtain ⟨K0, hK0, hf⟩ := top_e hf
  unfold fm_miss at hf
  refine lv_aload_n hx hb dX12_miss_0 rfl (lv_at hl 0 rfl) ?_
  obtain ⟨x1, hc2, hf⟩ := bnd_b hf
  refine mcall_i (As := []) (rest := []) (n := 0) ⟨hx, hb, hml, hown, hts⟩ (cm_isRiver l D h ad cy  s0 x1 hc2 _) (cwV 0 hts gX12_miss_X12_isRiver rfl rfl rfl ⟨rfl, nd_isRiver⟩ ⟨Nat.le_of_ble_eq_true rfl, Nat.le_of_ble_eq_true rfl⟩) hI hA rfl hl.1 (Nat.le_of_ble_eq_true rfl) dX12_miss_1 ⟨Nat.zero_le _, Nat.zero_le _⟩ (fun H locs hI => ?_)
  refine lv_if_eq (tgt := 19) hx hb dX12_miss_4 (by decide) (fun c3 => ?_) (fun c3 => ?_)
  · replace hf := ifp c3 hf
    refine lv_iconst (v := -1) hx hb dX12_miss_19 (by decide) ?_
    exact mret_i hx hb hr hlocks hI (ret_e hK0 hf) dX12_miss_20
  · replace hf := ifn c3 hf
    refine lv_iload_n hx hb dX12_miss_7 rfl (lv_at hl 1 rfl) ?_
    refine lv_i2l (v := (a1.toInt64)) hx hb dX12_miss_8 rfl ?_
    refine lv_lconst (v := 0) hx hb dX12_miss_9 (by decide) ?_
    refine lv_ldc2 (v := 3) hx hb hown (hts (.constantLong RX12 337 (3)) (by decide +kernel)) dX12_miss_10 ?_
    obtain ⟨x4, hc5, hf⟩ := bnd_b hf
    refine mst_i (As := [.long (a1.toInt64), .long (0 : Int64), .long (3 : Int64)]) (rest := []) (n := 3) ⟨hx, hb, hml, hown, hts⟩ (cs_in l (a1.toInt64) (0 : Int64) (3 : Int64) x4 hc5 _) (va_cwS 3 hts gX12_miss_X12_in rfl rfl rfl nd_in ⟨Nat.le_of_ble_eq_true rfl, Nat.le_of_ble_eq_true rfl⟩) hI hA rfl hl.1 (Nat.le_of_ble_eq_true rfl) dX12_miss_13 ⟨Nat.zero_le _, Nat.zero_le _⟩ (fun H locs hI => ?_)
    refine lv_if_ne (tgt := 21) hx hb dX12_miss_16 (by decide) (fun c6 => ?_) (fun c6 => ?_)
    · replace hf := ifn c6 hf
      refine lv_iload_n hx hb dX12_miss_21 rfl (lv_at hl 1 rfl) ?_
      refine lv_iconst (v := 2) hx hb dX12_miss_22 (by decide) ?_
      refine lv_icmp_ge (tgt := 34) hx hb dX12_miss_23 (by decide) (fun c7 => ?_) (fun c7 => ?_)
      · replace hf := ifp c7 hf
        refine lv_iload_n hx hb dX12_miss_34 rfl (lv_at hl 1 rfl) ?_
        refine lv_iconst (v := 2) hx hb dX12_miss_35 (by decide) ?_
        refine lv_icmp_ne (tgt := 54) hx hb dX12_miss_36 (by decide) (fun c8 => ?_) (fun c8 => ?_)
        · replace hf := ifn c8 hf
          refine lv_aload_n hx hb dX12_miss_54 rfl (lv_at hl 0 rfl) ?_
          obtain ⟨x9, hc10, hf⟩ := bnd_b hf
          refine mcall_i (As := []) (rest := []) (n := 0) ⟨hx, hb, hml, hown, hts⟩ (cm_isInTime l D h ad cy  x1.1 x9 hc10 _) (cwV 0 hts gX12_miss_X12_isInTime rfl rfl rfl ⟨rfl, nd_isInTime⟩ ⟨Nat.le_of_ble_eq_true rfl, Nat.le_of_ble_eq_true rfl⟩) hI hA rfl hl.1 (Nat.le_of_ble_eq_true rfl) dX12_miss_55 ⟨Nat.zero_le _, Nat.zero_le _⟩ (fun H locs hI => ?_)
          refine lv_if_eq (tgt := 65) hx hb dX12_miss_58 (by decide) (fun c11 => ?_) (fun c11 => ?_)
          · replace hf := ifp c11 hf
            refine lv_iconst (v := 0) hx hb dX12_miss_65 (by decide) ?_
            exact mret_i hx hb hr hlocks hI (ret_e hK0 hf) dX12_miss_66
          · replace hf := ifn c11 hf
            refine lv_iconst (v := 1) hx hb dX12_miss_61 (by decide) ?_
            refine lv_goto (tgt := 66) hx hb dX12_miss_62 (by decide) ?_
            exact mret_i hx hb hr hlocks hI (ret_e hK0 hf) dX12_miss_66
        · replace hf := ifp c8 hf
          refine lv_aload_n hx hb dX12_miss_39 rfl (lv_at hl 0 rfl) ?_
          obtain ⟨x12, hc13, hf⟩ := bnd_b hf
          refine mcall_i (As := []) (rest := []) (n := 0) ⟨hx, hb, hml, hown, hts⟩ (cm_isMet l D h ad cy  x1.1 x12 hc13 _) (cwV 0 hts gX12_miss_X12_isMet rfl rfl rfl ⟨rfl, nd_isMet⟩ ⟨Nat.le_of_ble_eq_true rfl, Nat.le_of_ble_eq_true rfl⟩) hI hA rfl hl.1 (Nat.le_of_ble_eq_true rfl) dX12_miss_40 ⟨Nat.zero_le _, Nat.zero_le _⟩ (fun H locs hI => ?_)
          refine lv_if_eq (tgt := 50) hx hb dX12_miss_43 (by decide) (fun c14 => ?_) (fun c14 => ?_)
          · replace hf := ifp c14 hf
            refine lv_iconst (v := 0) hx hb dX12_miss_50 (by decide) ?_
            refine lv_goto (tgt := 66) hx hb dX12_miss_51 (by decide) ?_
            exact mret_i hx hb hr hlocks hI (ret_e hK0 hf) dX12_miss_66
          · replace hf := ifn c14 hf
            refine lv_iconst (v := 1) hx hb dX12_miss_46 (by decide) ?_
            refine lv_goto (tgt := 66) hx hb dX12_miss_47 (by decide) ?_
            exact mret_i hx hb hr hlocks hI (ret_e hK0 hf) dX12_miss_66
      · replace hf := ifn c7 hf
        refine lv_aload_n hx hb dX12_miss_26 rfl (lv_at hl 0 rfl) ?_
        refine lv_iload_n hx hb dX12_miss_27 rfl (lv_at hl 1 rfl) ?_
        obtain ⟨x15, hc16, hf⟩ := bnd_b hf
        refine mcall_i (As := [.int a1]) (rest := []) (n := 1) ⟨hx, hb, hml, hown, hts⟩ (cm_missOf l D h ad cy a1 x1.1 x15 hc16 _) (cwV 1 hts gX12_miss_X12_missOf rfl rfl rfl ⟨rfl, nd_missOf⟩ ⟨Nat.le_of_ble_eq_true rfl, Nat.le_of_ble_eq_true rfl⟩) hI hA rfl hl.1 (Nat.le_of_ble_eq_true rfl) dX12_miss_28 ⟨Nat.zero_le _, Nat.zero_le _⟩ (fun H locs hI => ?_)
        refine lv_goto (tgt := 66) hx hb dX12_miss_31 (by decide) ?_
        exact mret_i hx hb hr hlocks hI (ret_e hK0 hf) dX12_miss_66
    · replace hf := ifp c6 hf
      refine lv_iconst (v := -1) hx hb dX12_miss_19 (by decide) ?_
      exact mret_i hx hb hr hlocks hI (ret_e hK0 hf) dX12_miss_20
