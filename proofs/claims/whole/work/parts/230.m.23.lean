theorem nd_ruin : yX12_ruin.cls ≠ "java/lang/invoke/MethodHandle" ∧ yX12_ruin.cls ≠ "java/lang/invoke/VarHandle" ∧ (parseMethodDescriptor yX12_ruin.desc).map (fun d => d.parameters.length) = some 3 := by decide +kernel
set_option maxHeartbeats 4000000 in
set_option maxRecDepth 100000 in
theorem cm_ruin (l : Launch) (D : va_G) (h : Nat) (ad : Nat → Nat) (cy : Nat → ClassId) (a1 : Int32) (a2 : Int32) (a3 : Int32) (s0 : MSt) (out : MSt × Int32) (hf : fm_ruin a1 a2 a3 s0 = some out) (sz : Nat) : CMi l D h ad cy yX12_ruin wsX12_ruin { frames := 1, cells := 0, slots := 0, locals := 25 } [.int a1, .int a2, .int a3] s0 out sz := by
  refine Met.ofW (cc := cX12_ruin) (maxL := 5) (ret := (some .boolean)) (by decide) rfl ?_
  intro p e s m args below meth c s₁ B hml hv
  obtain ⟨rfl, hsz, hP, hK, hD0⟩ := hv
  have hx := B.exec
  have hb := B.bytes
  have hr := B.returns
  have hts := atoms_spec (ws := wsX12_ruin) B.pre
  have hown : s.vm.findClass RX12 = some m.cls := findClass_of_methodNamed B.named
  have hlocks := B.notSynchronized
  subst hsz
  have hI : MI D (MA h ad cy s0 s.heap.size) h ad cy s s.heap s0 s.heap [] := ⟨hK, hP, hD0.self, va_S.rf⟩
  have hA : ∀ q : Nat, s.heap.size ≤ q → MA h ad cy s0 s.heap.size q := fun q hq => Or.inr hq
  have hin : ∀ w ∈ u_ws RX12 TX12 42, w ∈ wsX12_ruin := fun w hw => List.mem_cons_of_mem _ (List.mem_append_right _ hw)
  have k_said : Cond.fieldLink RX12 45 "HalfBridgeModel" "said" "[I" ∈ wsX12_ruin := by decide +kernel
  have hl := lv_entry ([.ref h, .int a1, .int a2, .int a3]) (n := 5) (Nat.le_of_ble_eq_true rfl)
  rw [lg_entry_eq]
  generalize (lg_sl ([.ref h, .int a1, .int a2, .int a3]) ++ List.replicate (5 - (lg_sl ([.ref h, .int a1, .int a2, .int a3])).length) Slot.unset).toArray = ls at hl ⊢
  have hl : lv_has ls 5 [(0, .ref h), (1, .int a1), (2, .int a2), (3, .int a3)] := hl
  obtain ⟨K0, hK0, hf⟩ := top_e hf
  have B_80 : ∀   (st : MSt) (H : Heap) (locs : List Loc) (ls : Array Slot), MI D (MA h ad cy s0 s.heap.size) h ad cy s s.heap st H locs → lv_has ls 5 [] → (fm_ruin_j80 st).bind K0 = some out → W p l e (headSpec wsX12_ruin { frames := 1, cells := 0, slots := 0, locals := 25 }).room s m (([.ref h, .int a1, .int a2, .int a3] : List Value).toArray) below meth c H locs 0 0 (MQ below (MQi D h ad cy s0 out s.heap.size) ([.ref h, .int a1, .int a2, .int a3] : List Value).toArray s 0 0 (MA h ad cy s0 s.heap.size)) (F0 m 80 ls []) := by
    intro st H locs ls hI hl hf
    unfold fm_ruin_j80 at hf
    refine lv_goto (tgt := 98) hx hb dX12_ruin_80 (by decide) ?_
    refine lv_iconst (v := 1) hx hb dX12_ruin_98 (by decide) ?_
    exact mret_z hx hb hr (by decide) hlocks hI (ret_e hK0 hf) dX12_ruin_99
  have L_55 : ∀  (n : Nat) (v4 : Int32) (st : MSt) (H : Heap) (locs : List Loc) (ls : Array Slot), MI D (MA h ad cy s0 s.heap.size) h ad cy s s.heap st H locs → lv_has ls 5 [(0, .ref h), (4, .int v4)] → (iter (fun x : (Int32 × MSt) => fm_ruin_s55 x.1 x.2) n (v4, st)).bind (fun x => ((Sum.elim (fun o : MSt × Int32 => (some o : Option (MSt × Int32))) (fun x : (Int32 × MSt) => fm_ruin_j80 x.2)) x).bind K0) = some out → W p l e (headSpec wsX12_ruin { frames := 1, cells := 0, slots := 0, locals := 25 }).room s m (([.ref h, .int a1, .int a2, .int a3] : List Value).toArray) below meth c H locs 0 0 (MQ below (MQi D h ad cy s0 out s.heap.size) ([.ref h, .int a1, .int a2, .int a3] : List Value).toArray s 0 0 (MA h ad cy s0 s.heap.size)) (F0 m 55 ls []) := by
    intro n
    induction n with
    | zero => intro v4 st H locs ls hI hl hf; exact (iter_0 hf).elim
    | succ n ih =>
      intro v4 st H locs ls hI hl hf
      obtain ⟨K1, hK1, hf⟩ := iter_e hf
      replace hf : (fm_ruin_s55 v4 st).bind K1 = some out := hf
      unfold fm_ruin_s55 at hf
      refine lv_iload hx hb dX12_ruin_55 (lv_at hl 1 rfl) ?_
      refine lv_bipush (v := 80) hx hb dX12_ruin_57 (by decide) ?_
      refine lv_icmp_ge (tgt := 80) hx hb dX12_ruin_59 (by decide) (fun c13 => ?_) (fun c13 => ?_)
      · replace hf := ifp c13 hf
        replace hf := exit_b hK1 hf
        exact B_80  st H locs ls hI (lv_sub hl [] rfl) hf
      · replace hf := ifn c13 hf
        refine lv_aload_n hx hb dX12_ruin_62 rfl (lv_at hl 0 rfl) ?_
        refine mg_said hx hb hts hin hown k_said hI dX12_ruin_63 ?_
        refine lv_bipush (v := 46) hx hb dX12_ruin_66 (by decide) ?_
        refine lv_iload hx hb dX12_ruin_68 (lv_at hl 1 rfl) ?_
        refine lv_iadd hx hb dX12_ruin_70 ?_
        refine lv_ldc (v := 99999) hx hb hown (hts (.constant RX12 173 (99999)) (by decide +kernel)) dX12_ruin_71 ?_
        obtain ⟨k14, hf⟩ := chk_b hf
        refine ms_said hx hb hI k14 dX12_ruin_73 (fun H locs hI => ?_)
        refine lv_iinc (v := (v4 + 1)) (lv' := [(4, .int (v4 + 1)), (0, .ref h)]) hx hb dX12_ruin_74 hl (k := 1) rfl (ci_ _ (by decide)) (by decide) rfl (fun ls hl => ?_)
        refine lv_goto (tgt := 55) hx hb dX12_ruin_77 (by decide) ?_
        replace hf := cont_b hK1 hf
        exact ih (v4 + 1) (msa st 26 ((46 : Int32) + v4).toNatClampNeg (99999 : Int32)) H locs ls hI (lv_sub hl [1, 0] rfl) hf
  have B_48 : ∀ (v1 : Int32) (v2 : Int32) (v3 : Int32)  (st : MSt) (H : Heap) (locs : List Loc) (ls : Array Slot), MI D (MA h ad cy s0 s.heap.size) h ad cy s s.heap st H locs → lv_has ls 5 [(0, .ref h), (1, .int v1), (2, .int v2), (3, .int v3)] → (fm_ruin_j48 v1 v2 v3 st).bind K0 = some out → W p l e (headSpec wsX12_ruin { frames := 1, cells := 0, slots := 0, locals := 25 }).room s m (([.ref h, .int a1, .int a2, .int a3] : List Value).toArray) below meth c H locs 0 0 (MQ below (MQi D h ad cy s0 out s.heap.size) ([.ref h, .int a1, .int a2, .int a3] : List Value).toArray s 0 0 (MA h ad cy s0 s.heap.size)) (F0 m 48 ls []) := by
    intro v1 v2 v3 st H locs ls hI hl hf
    unfold fm_ruin_j48 at hf
    refine lv_iload_n hx hb dX12_ruin_48 rfl (lv_at hl 2 rfl) ?_
    refine lv_if_ge (tgt := 83) hx hb dX12_ruin_49 (by decide) (fun c11 => ?_) (fun c11 => ?_)
    · replace hf := ifp c11 hf
      refine lv_aload_n hx hb dX12_ruin_83 rfl (lv_at hl 0 rfl) ?_
      refine mg_said hx hb hts hin hown k_said hI dX12_ruin_84 ?_
      refine lv_bipush (v := 46) hx hb dX12_ruin_87 (by decide) ?_
      refine lv_bipush (v := 40) hx hb dX12_ruin_89 (by decide) ?_
      refine lv_iload_n hx hb dX12_ruin_91 rfl (lv_at hl 1 rfl) ?_
      refine lv_imul hx hb dX12_ruin_92 ?_
      refine lv_iadd hx hb dX12_ruin_93 ?_
      refine lv_iload_n hx hb dX12_ruin_94 rfl (lv_at hl 2 rfl) ?_
      refine lv_iadd hx hb dX12_ruin_95 ?_
      refine lv_iload_n hx hb dX12_ruin_96 rfl (lv_at hl 3 rfl) ?_
      obtain ⟨k12, hf⟩ := chk_b hf
      refine ms_said hx hb hI k12 dX12_ruin_97 (fun H locs hI => ?_)
      refine lv_iconst (v := 1) hx hb dX12_ruin_98 (by decide) ?_
      exact mret_z hx hb hr (by decide) hlocks hI (ret_e hK0 hf) dX12_ruin_99
    · replace hf := ifn c11 hf
      refine lv_iconst (v := 0) hx hb dX12_ruin_52 (by decide) ?_
      refine lv_istore (lv' := [(4, .int (0 : Int32)), (0, .ref h), (1, .int v1), (2, .int v2), (3, .int v3)]) hx hb dX12_ruin_53 hl (by decide) rfl (fun ls hl => ?_)
      exact L_55  mFuel (0 : Int32) st H locs ls hI (lv_sub hl [1, 0] rfl) (asc_b hf)
  unfold fm_ruin at hf
  refine lv_aload_n hx hb dX12_ruin_0 rfl (lv_at hl 0 rfl) ?_
  obtain ⟨x1, hc2, hf⟩ := bnd_b hf
  refine mcall_i (As := []) (rest := []) (n := 0) ⟨hx, hb, hml, hown, hts⟩ (cm_isRiver l D h ad cy  s0 x1 hc2 _) (cwV 0 hts gX12_ruin_X12_isRiver rfl rfl rfl ⟨rfl, nd_isRiver⟩ ⟨Nat.le_of_ble_eq_true rfl, Nat.le_of_ble_eq_true rfl⟩) hI hA rfl hl.1 (Nat.le_of_ble_eq_true rfl) dX12_ruin_1 ⟨Nat.zero_le _, Nat.zero_le _⟩ (fun H locs hI => ?_)
  refine lv_if_eq (tgt := 46) hx hb dX12_ruin_4 (by decide) (fun c3 => ?_) (fun c3 => ?_)
  · replace hf := ifp c3 hf
    refine lv_iconst (v := 0) hx hb dX12_ruin_46 (by decide) ?_
    exact mret_z hx hb hr (by decide) hlocks hI (ret_e hK0 hf) dX12_ruin_47
  · replace hf := ifn c3 hf
    refine lv_iload_n hx hb dX12_ruin_7 rfl (lv_at hl 1 rfl) ?_
    obtain ⟨x4, hc5, hf⟩ := bnd_b hf
    refine mst_i (As := [.int a1]) (rest := []) (n := 1) ⟨hx, hb, hml, hown, hts⟩ (cs_isSide l a1 x4 hc5 _) (va_cwS 1 hts gX12_ruin_X12_isSide rfl rfl rfl nd_isSide ⟨Nat.le_of_ble_eq_true rfl, Nat.le_of_ble_eq_true rfl⟩) hI hA rfl hl.1 (Nat.le_of_ble_eq_true rfl) dX12_ruin_8 ⟨Nat.zero_le _, Nat.zero_le _⟩ (fun H locs hI => ?_)
    refine lv_if_eq (tgt := 46) hx hb dX12_ruin_11 (by decide) (fun c6 => ?_) (fun c6 => ?_)
    · replace hf := ifp c6 hf
      refine lv_iconst (v := 0) hx hb dX12_ruin_46 (by decide) ?_
      exact mret_z hx hb hr (by decide) hlocks hI (ret_e hK0 hf) dX12_ruin_47
    · replace hf := ifn c6 hf
      refine lv_iload_n hx hb dX12_ruin_14 rfl (lv_at hl 2 rfl) ?_
      refine lv_i2l (v := (a2.toInt64)) hx hb dX12_ruin_15 rfl ?_
      refine lv_ldc2 (v := -1) hx hb hown (hts (.constantLong RX12 473 (-1)) (by decide +kernel)) dX12_ruin_16 ?_
      refine lv_ldc2 (v := 39) hx hb hown (hts (.constantLong RX12 475 (39)) (by decide +kernel)) dX12_ruin_19 ?_
      obtain ⟨x7, hc8, hf⟩ := bnd_b hf
      refine mst_i (As := [.long (a2.toInt64), .long (-1 : Int64), .long (39 : Int64)]) (rest := []) (n := 3) ⟨hx, hb, hml, hown, hts⟩ (cs_in l (a2.toInt64) (-1 : Int64) (39 : Int64) x7 hc8 _) (va_cwS 3 hts gX12_ruin_X12_in rfl rfl rfl nd_in ⟨Nat.le_of_ble_eq_true rfl, Nat.le_of_ble_eq_true rfl⟩) hI hA rfl hl.1 (Nat.le_of_ble_eq_true rfl) dX12_ruin_22 ⟨Nat.zero_le _, Nat.zero_le _⟩ (fun H locs hI => ?_)
      refine lv_if_eq (tgt := 46) hx hb dX12_ruin_25 (by decide) (fun c9 => ?_) (fun c9 => ?_)
      · replace hf := ifp c9 hf
        refine lv_iconst (v := 0) hx hb dX12_ruin_46 (by decide) ?_
        exact mret_z hx hb hr (by decide) hlocks hI (ret_e hK0 hf) dX12_ruin_47
      · replace hf := ifn c9 hf
        refine lv_iload_n hx hb dX12_ruin_28 rfl (lv_at hl 2 rfl) ?_
        refine lv_if_lt (tgt := 48) hx hb dX12_ruin_29 (by decide) (fun c10 => ?_) (fun c10 => ?_)
        · replace hf := ifp c10 hf
          exact B_48 a1 a2 a3 x1.1 H locs ls hI (lv_sub hl [0, 1, 2, 3] rfl) hf
        · replace hf := ifn c10 hf
          refine lv_iload_n hx hb dX12_ruin_32 rfl (lv_at hl 3 rfl) ?_
          refine lv_i2l (v := (a3.toInt64)) hx hb dX12_ruin_33 rfl ?_
          refine lv_ldc2 (v := -9999) hx hb hown (hts (.constantLong RX12 477 (-9999)) (by decide +kernel)) dX12_ruin_34 ?_
          refine lv_ldc2 (v := 9999) hx hb hown (hts (.constantLong RX12 479 (9999)) (by decide +kernel)) dX12_ruin_37 ?_
          obtain ⟨x15, hc16, hf⟩ := bnd_b hf
          refine mst_i (As := [.long (a3.toInt64), .long (-9999 : Int64), .long (9999 : Int64)]) (rest := []) (n := 3) ⟨hx, hb, hml, hown, hts⟩ (cs_in l (a3.toInt64) (-9999 : Int64) (9999 : Int64) x15 hc16 _) (va_cwS 3 hts gX12_ruin_X12_in rfl rfl rfl nd_in ⟨Nat.le_of_ble_eq_true rfl, Nat.le_of_ble_eq_true rfl⟩) hI hA rfl hl.1 (Nat.le_of_ble_eq_true rfl) dX12_ruin_40 ⟨Nat.zero_le _, Nat.zero_le _⟩ (fun H locs hI => ?_)
          refine lv_if_ne (tgt := 48) hx hb dX12_ruin_43 (by decide) (fun c17 => ?_) (fun c17 => ?_)
          · replace hf := ifn c17 hf
            exact B_48 a1 a2 a3 x1.1 H locs ls hI (lv_sub hl [0, 1, 2, 3] rfl) hf
          · replace hf := ifp c17 hf
            refine lv_iconst (v := 0) hx hb dX12_ruin_46 (by decide) ?_
            exact mret_z hx hb hr (by decide) hlocks hI (ret_e hK0 hf) dX12_ruin_47

theorem nd_areRuins : yX12_areRuins.cls ≠ "java/lang/invoke/MethodHandle" ∧ yX12_areRuins.cls ≠ "java/lang/invoke/VarHandle" ∧ (parseMethodDescriptor yX12_areRuins.desc).map (fun d => d.parameters.length) = some 0 := by decide +kernel
set_option maxHeartbeats 4000000 in
set_option maxRecDepth 100000 in
theorem cm_areRuins (l : Launch) (D : va_G) (h : Nat) (ad : Nat → Nat) (cy : Nat → ClassId)  (s0 : MSt) (out : MSt × Int32) (hf : fm_areRuins s0 = some out) (sz : Nat) : CMi l D h ad cy yX12_areRuins wsX12_areRuins { frames := 1, cells := 0, slots := 0, locals := 23 } [] s0 out sz := by
  refine Met.ofW (cc := cX12_areRuins) (maxL := 4) (ret := (some .boolean)) (by decide) rfl ?_
  intro p e s m args below meth c s₁ B hml hv
  obtain ⟨rfl, hsz, hP, hK, hD0⟩ := hv
  have hx := B.exec
  have hb := B.bytes
  have hr := B.returns
  have hts := atoms_spec (ws := wsX12_areRuins) B.pre
  have hown : s.vm.findClass RX12 = some m.cls := findClass_of_methodNamed B.named
  have hlocks := B.notSynchronized
  subst hsz
  have hI : MI D (MA h ad cy s0 s.heap.size) h ad cy s s.heap s0 s.heap [] := ⟨hK, hP, hD0.self, va_S.rf⟩
  have hA : ∀ q : Nat, s.heap.size ≤ q → MA h ad cy s0 s.heap.size q := fun q hq => Or.inr hq
  have hin : ∀ w ∈ u_ws RX12 TX12 42, w ∈ wsX12_areRuins := fun w hw => List.mem_cons_of_mem _ (List.mem_append_right _ hw)
  have k_said : Cond.fieldLink RX12 45 "HalfBridgeModel" "said" "[I" ∈ wsX12_areRuins := by decide +kernel
  have hl := lv_entry ([.ref h]) (n := 4) (Nat.le_of_ble_eq_true rfl)
  rw [lg_entry_eq]
  generalize (lg_sl ([.ref h]) ++ List.replicate (4 - (lg_sl ([.ref h])).length) Slot.unset).toArray = ls at hl ⊢
  have hl : lv_has ls 4 [(0, .ref h)] := hl
  obtain ⟨K0, hK0, hf⟩ := top_e hf
  have B_74 : ∀   (st : MSt) (H : Heap) (locs : List Loc) (ls : Array Slot), MI D (MA h ad cy s0 s.heap.size) h ad cy s s.heap st H locs → lv_has ls 4 [] → (fm_areRuins_j74 st).bind K0 = some out → W p l e (headSpec wsX12_areRuins { frames := 1, cells := 0, slots := 0, locals := 23 }).room s m (([.ref h] : List Value).toArray) below meth c H locs 0 0 (MQ below (MQi D h ad cy s0 out s.heap.size) ([.ref h] : List Value).toArray s 0 0 (MA h ad cy s0 s.heap.size)) (F0 m 74 ls []) := by
    intro st H locs ls hI hl hf
    unfold fm_areRuins_j74 at hf
    refine lv_iconst (v := 1) hx hb dX12_areRuins_74 (by decide) ?_
    exact mret_z hx hb hr (by decide) hlocks hI (ret_e hK0 hf) dX12_areRuins_75
  have L_2 : ∀  (n : Nat) (v1 : Int32) (st : MSt) (H : Heap) (locs : List Loc) (ls : Array Slot), MI D (MA h ad cy s0 s.heap.size) h ad cy s s.heap st H locs → lv_has ls 4 [(0, .ref h), (1, .int v1)] → (iter (fun x : (Int32 × MSt) => fm_areRuins_s2 x.1 x.2) n (v1, st)).bind (fun x => ((Sum.elim (fun o : MSt × Int32 => (some o : Option (MSt × Int32))) (fun x : (Int32 × MSt) => fm_areRuins_j74 x.2)) x).bind K0) = some out → W p l e (headSpec wsX12_areRuins { frames := 1, cells := 0, slots := 0, locals := 23 }).room s m (([.ref h] : List Value).toArray) below meth c H locs 0 0 (MQ below (MQi D h ad cy s0 out s.heap.size) ([.ref h] : List Value).toArray s 0 0 (MA h ad cy s0 s.heap.size)) (F0 m 2 ls []) := by
    intro n
    induction n with
    | zero => intro v1 st H locs ls hI hl hf; exact (iter_0 hf).elim
    | succ n ih =>
      intro v1 st H locs ls hI hl hf
      obtain ⟨K1, hK1, hf⟩ := iter_e hf
      replace hf : (fm_areRuins_s2 v1 st).bind K1 = some out := hf
      have B_2_68 : ∀ (v1 : Int32)  (st : MSt) (H : Heap) (locs : List Loc) (ls : Array Slot), MI D (MA h ad cy s0 s.heap.size) h ad cy s s.heap st H locs → lv_has ls 4 [(0, .ref h), (1, .int v1)] → (fm_areRuins_j68 v1 st).bind K1 = some out → W p l e (headSpec wsX12_areRuins { frames := 1, cells := 0, slots := 0, locals := 23 }).room s m (([.ref h] : List Value).toArray) below meth c H locs 0 0 (MQ below (MQi D h ad cy s0 out s.heap.size) ([.ref h] : List Value).toArray s 0 0 (MA h ad cy s0 s.heap.size)) (F0 m 68 ls []) := by
        intro v1 st H locs ls hI hl hf
        unfold fm_areRuins_j68 at hf
        refine lv_iinc (v := (v1 + 1)) (lv' := [(1, .int (v1 + 1)), (0, .ref h)]) hx hb dX12_areRuins_68 hl (k := 1) rfl (ci_ _ (by decide)) (by decide) rfl (fun ls hl => ?_)
        refine lv_goto (tgt := 2) hx hb dX12_areRuins_71 (by decide) ?_
        replace hf := cont_b hK1 hf
        exact ih (v1 + 1) st H locs ls hI (lv_sub hl [1, 0] rfl) hf
      have L_2_9 : ∀ (v1 : Int32) (n : Nat) (v2 : Int32) (st : MSt) (H : Heap) (locs : List Loc) (ls : Array Slot), MI D (MA h ad cy s0 s.heap.size) h ad cy s s.heap st H locs → lv_has ls 4 [(0, .ref h), (1, .int v1), (2, .int v2)] → (iter (fun x : (Int32 × MSt) => fm_areRuins_s9 v1 x.1 x.2) n (v2, st)).bind (fun x => ((Sum.elim (fun o : MSt × Int32 => (some (.inl o) : Option ((MSt × Int32) ⊕ ((Int32 × MSt) ⊕ (Int32 × MSt))))) (fun x : (Int32 × MSt) => fm_areRuins_j68 v1 x.2)) x).bind K1) = some out → W p l e (headSpec wsX12_areRuins { frames := 1, cells := 0, slots := 0, locals := 23 }).room s m (([.ref h] : List Value).toArray) below meth c H locs 0 0 (MQ below (MQi D h ad cy s0 out s.heap.size) ([.ref h] : List Value).toArray s 0 0 (MA h ad cy s0 s.heap.size)) (F0 m 9 ls []) := by
        intro v1 n
        induction n with
        | zero => intro v2 st H locs ls hI hl hf; exact (iter_0 hf).elim
        | succ n ih =>
          intro v2 st H locs ls hI hl hf
          obtain ⟨K2, hK2, hf⟩ := iter_e hf
          replace hf : (fm_areRuins_s9 v1 v2 st).bind K2 = some out := hf
          unfold fm_areRuins_s9 at hf
          refine lv_iload_n hx hb dX12_areRuins_9 rfl (lv_at hl 2 rfl) ?_
          refine lv_bipush (v := 40) hx hb dX12_areRuins_10 (by decide) ?_
          refine lv_icmp_ge (tgt := 68) hx hb dX12_areRuins_12 (by decide) (fun c2 => ?_) (fun c2 => ?_)
          · replace hf := ifp c2 hf
            replace hf := exit_b hK2 hf
            exact B_2_68 v1 st H locs ls hI (lv_sub hl [0, 1] rfl) hf
          · replace hf := ifn c2 hf
            refine lv_aload_n hx hb dX12_areRuins_15 rfl (lv_at hl 0 rfl) ?_
            refine mg_said hx hb hts hin hown k_said hI dX12_areRuins_16 ?_
            refine lv_bipush (v := 46) hx hb dX12_areRuins_19 (by decide) ?_
            refine lv_bipush (v := 40) hx hb dX12_areRuins_21 (by decide) ?_
            refine lv_iload_n hx hb dX12_areRuins_23 rfl (lv_at hl 1 rfl) ?_
            refine lv_imul hx hb dX12_areRuins_24 ?_
            refine lv_iadd hx hb dX12_areRuins_25 ?_
            refine lv_iload_n hx hb dX12_areRuins_26 rfl (lv_at hl 2 rfl) ?_
            refine lv_iadd hx hb dX12_areRuins_27 ?_
            obtain ⟨k3, hf⟩ := chk_b hf
            refine ml_said hx hb hI k3 dX12_areRuins_28 ?_
            refine lv_istore_n (lv' := [(3, .int (st.2.1 26 (((46 : Int32) + ((40 : Int32) * v1)) + v2).toNatClampNeg)), (0, .ref h), (1, .int v1), (2, .int v2)]) hx hb dX12_areRuins_29 rfl hl (by decide) rfl (fun ls hl => ?_)
            refine lv_iload_n hx hb dX12_areRuins_30 rfl (lv_at hl 0 rfl) ?_
            refine lv_ldc (v := 99999) hx hb hown (hts (.constant RX12 173 (99999)) (by decide +kernel)) dX12_areRuins_31 ?_
            refine lv_icmp_eq (tgt := 62) hx hb dX12_areRuins_33 (by decide) (fun c4 => ?_) (fun c4 => ?_)
            · replace hf := ifp c4 hf
              refine lv_iinc (v := (v2 + 1)) (lv' := [(2, .int (v2 + 1)), (3, .int (st.2.1 26 (((46 : Int32) + ((40 : Int32) * v1)) + v2).toNatClampNeg)), (0, .ref h), (1, .int v1)]) hx hb dX12_areRuins_62 hl (k := 3) rfl (ci_ _ (by decide)) (by decide) rfl (fun ls hl => ?_)
              refine lv_goto (tgt := 9) hx hb dX12_areRuins_65 (by decide) ?_
              replace hf := cont_b hK2 hf
              exact ih (v2 + 1) st H locs ls hI (lv_sub hl [2, 3, 0] rfl) hf
            · replace hf := ifn c4 hf
              refine lv_iload_n hx hb dX12_areRuins_36 rfl (lv_at hl 3 rfl) ?_
              refine lv_aload_n hx hb dX12_areRuins_37 rfl (lv_at hl 1 rfl) ?_
              refine mg_said hx hb hts hin hown k_said hI dX12_areRuins_38 ?_
              refine lv_bipush (v := 6) hx hb dX12_areRuins_41 (by decide) ?_
              refine lv_iload_n hx hb dX12_areRuins_43 rfl (lv_at hl 2 rfl) ?_
              refine lv_iadd hx hb dX12_areRuins_44 ?_
              obtain ⟨k5, hf⟩ := chk_b hf
              refine ml_said hx hb hI k5 dX12_areRuins_45 ?_
              refine lv_icmp_ge (tgt := 60) hx hb dX12_areRuins_46 (by decide) (fun c6 => ?_) (fun c6 => ?_)
              · replace hf := ifp c6 hf
                refine lv_iconst (v := 0) hx hb dX12_areRuins_60 (by decide) ?_
                replace hf := inl_b hK2 hf
                replace hf : Option.bind (some (Sum.inl (st, (0 : Int32)))) K1 = some out := hf
                replace hf := inl_b hK1 hf
                replace hf : Option.bind (some (st, (0 : Int32))) K0 = some out := hf
                exact mret_z hx hb hr (by decide) hlocks hI (ret_e hK0 hf) dX12_areRuins_61
              · replace hf := ifn c6 hf
                refine lv_aload_n hx hb dX12_areRuins_49 rfl (lv_at hl 1 rfl) ?_
                refine lv_iload_n hx hb dX12_areRuins_50 rfl (lv_at hl 2 rfl) ?_
                refine lv_iload_n hx hb dX12_areRuins_51 rfl (lv_at hl 3 rfl) ?_
                refine lv_iconst (v := 0) hx hb dX12_areRuins_52 (by decide) ?_
                obtain ⟨x7, hc8, hf⟩ := bnd_b hf
                refine mcall_i (As := [.int v1, .int v2, .int (0 : Int32)]) (rest := []) (n := 3) ⟨hx, hb, hml, hown, hts⟩ (cm_yardOf l D h ad cy v1 v2 (0 : Int32) st x7 hc8 _) (cwV 3 hts gX12_areRuins_X12_yardOf rfl rfl rfl ⟨rfl, nd_yardOf⟩ ⟨Nat.le_of_ble_eq_true rfl, Nat.le_of_ble_eq_true rfl⟩) hI hA rfl hl.1 (Nat.le_of_ble_eq_true rfl) dX12_areRuins_53 ⟨Nat.zero_le _, Nat.zero_le _⟩ (fun H locs hI => ?_)
                refine lv_iload_n hx hb dX12_areRuins_56 rfl (lv_at hl 0 rfl) ?_
                refine lv_icmp_eq (tgt := 62) hx hb dX12_areRuins_57 (by decide) (fun c9 => ?_) (fun c9 => ?_)
                · replace hf := ifp c9 hf
                  refine lv_iinc (v := (v2 + 1)) (lv' := [(2, .int (v2 + 1)), (3, .int (st.2.1 26 (((46 : Int32) + ((40 : Int32) * v1)) + v2).toNatClampNeg)), (0, .ref h), (1, .int v1)]) hx hb dX12_areRuins_62 hl (k := 3) rfl (ci_ _ (by decide)) (by decide) rfl (fun ls hl => ?_)
                  refine lv_goto (tgt := 9) hx hb dX12_areRuins_65 (by decide) ?_
                  replace hf := cont_b hK2 hf
                  exact ih (v2 + 1) x7.1 H locs ls hI (lv_sub hl [2, 3, 0] rfl) hf
                · replace hf := ifn c9 hf
                  refine lv_iconst (v := 0) hx hb dX12_areRuins_60 (by decide) ?_
                  replace hf := inl_b hK2 hf
                  replace hf : Option.bind (some (Sum.inl (x7.1, (0 : Int32)))) K1 = some out := hf
                  replace hf := inl_b hK1 hf
                  replace hf : Option.bind (some (x7.1, (0 : Int32))) K0 = some out := hf
                  exact mret_z hx hb hr (by decide) hlocks hI (ret_e hK0 hf) dX12_areRuins_61
      unfold fm_areRuins_s2 at hf
      refine lv_iload_n hx hb dX12_areRuins_2 rfl (lv_at hl 1 rfl) ?_
      refine lv_iconst (v := 2) hx hb dX12_areRuins_3 (by decide) ?_
      refine lv_icmp_ge (tgt := 74) hx hb dX12_areRuins_4 (by decide) (fun c1 => ?_) (fun c1 => ?_)
      · replace hf := ifp c1 hf
        replace hf := exit_b hK1 hf
        exact B_74  st H locs ls hI (lv_sub hl [] rfl) hf
      · replace hf := ifn c1 hf
        refine lv_iconst (v := 0) hx hb dX12_areRuins_7 (by decide) ?_
        refine lv_istore_n (lv' := [(2, .int (0 : Int32)), (0, .ref h), (1, .int v1)]) hx hb dX12_areRuins_8 rfl hl (by decide) rfl (fun ls hl => ?_)
        exact L_2_9 v1 mFuel (0 : Int32) st H locs ls hI (lv_sub hl [1, 2, 0] rfl) (asc_b hf)
  unfold fm_areRuins at hf
  refine lv_iconst (v := 0) hx hb dX12_areRuins_0 (by decide) ?_
  refine lv_istore_n (lv' := [(1, .int (0 : Int32)), (0, .ref h)]) hx hb dX12_areRuins_1 rfl hl (by decide) rfl (fun ls hl => ?_)
  exact L_2  mFuel (0 : Int32) s0 s.heap [] ls hI (lv_sub hl [1, 0] rfl) (asc_b hf)

theorem nd_figure : yX12_figure.cls ≠ "java/lang/invoke/MethodHandle" ∧ yX12_figure.cls ≠ "java/lang/invoke/VarHandle" ∧ (parseMethodDescriptor yX12_figure.desc).map (fun d => d.parameters.length) = some 2 := by decide +kernel
set_option maxHeartbeats 4000000 in
set_option maxRecDepth 100000 in
theorem cs_figure (l : Launch) (a0 : Int32) (a1 : Int32) (out : Int32) (hf : fm_figure a0 a1 = some out) (sz : Nat) : CSi l yX12_figure wsX12_figure { frames := 0, cells := 0, slots := 0, locals := 0 } [.int a0, .int a1] out sz := by
  refine Met.ofW (cc := cX12_figure) (maxL := 4) (ret := (some .int)) (by decide) rfl ?_
  intro p e s m args below meth c s₁ B hml hv
  obtain ⟨rfl, hsz⟩ := hv
  have hx := B.exec
  have hb := B.bytes
  have hr := B.returns
  have hts := atoms_spec (ws := wsX12_figure) B.pre
  have hown : s.vm.findClass RX12 = some m.cls := findClass_of_methodNamed B.named
  have hlocks := B.notSynchronized
  subst hsz
  have hl := lv_entry ([.int a0, .int a1]) (n := 4) (Nat.le_of_ble_eq_true rfl)
  rw [lg_entry_eq]
  generalize (lg_sl ([.int a0, .int a1]) ++ List.replicate (4 - (lg_sl ([.int a0, .int a1])).length) Slot.unset).toArray = ls at hl ⊢
  have hl : lv_has ls 4 [(0, .int a0), (1, .int a1)] := hl
  obtain ⟨K0, hK0, hf⟩ := top_e hf
  have B_19 : ∀ (v2 : Int32)  (ls : Array Slot), lv_has ls 4 [(2, .int v2)] → (fm_figure_j19 v2).bind K0 = some out → W p l e (headSpec wsX12_figure { frames := 0, cells := 0, slots := 0, locals := 0 }).room s m (([.int a0, .int a1] : List Value).toArray) below meth c s.heap [] 0 0 (MQ below (SQi out s.heap.size) ([.int a0, .int a1] : List Value).toArray s 0 0 (fun q => s.heap.size ≤ q)) (F0 m 19 ls []) := by
    intro v2 ls hl hf
    unfold fm_figure_j19 at hf
    refine lv_iload_n hx hb dX12_figure_19 rfl (lv_at hl 0 rfl) ?_
    refine lv_iconst (v := 3) hx hb dX12_figure_20 (by decide) ?_
    refine lv_irem hx hb dX12_figure_21 (by decide) ?_
    refine lv_iconst (v := 1) hx hb dX12_figure_22 (by decide) ?_
    refine lv_isub hx hb dX12_figure_23 ?_
    exact sret_i hx hb hr hlocks (ret_e hK0 hf) dX12_figure_24
  have L_4 : ∀ (v1 : Int32) (n : Nat) (v2 : Int32) (v3 : Int32) (ls : Array Slot), lv_has ls 4 [(1, .int v1), (2, .int v2), (3, .int v3)] → (iter (fun x : (Int32 × Int32) => fm_figure_s4 v1 x.1 x.2) n (v2, v3)).bind (fun x => ((Sum.elim (fun o : Int32 => (some o : Option (Int32))) (fun x : (Int32 × Int32) => fm_figure_j19 x.1)) x).bind K0) = some out → W p l e (headSpec wsX12_figure { frames := 0, cells := 0, slots := 0, locals := 0 }).room s m (([.int a0, .int a1] : List Value).toArray) below meth c s.heap [] 0 0 (MQ below (SQi out s.heap.size) ([.int a0, .int a1] : List Value).toArray s 0 0 (fun q => s.heap.size ≤ q)) (F0 m 4 ls []) := by
    intro v1 n
    induction n with
    | zero => intro v2 v3 ls hl hf; exact (iter_0 hf).elim
    | succ n ih =>
      intro v2 v3 ls hl hf
      obtain ⟨K1, hK1, hf⟩ := iter_e hf
      replace hf : (fm_figure_s4 v1 v2 v3).bind K1 = some out := hf
      unfold fm_figure_s4 at hf
      refine lv_iload_n hx hb dX12_figure_4 rfl (lv_at hl 2 rfl) ?_
      refine lv_iload_n hx hb dX12_figure_5 rfl (lv_at hl 0 rfl) ?_
      refine lv_icmp_ge (tgt := 19) hx hb dX12_figure_6 (by decide) (fun c1 => ?_) (fun c1 => ?_)
      · replace hf := ifp c1 hf
        replace hf := exit_b hK1 hf
        exact B_19 v2 ls  (lv_sub hl [1] rfl) hf
      · replace hf := ifn c1 hf
        refine lv_iload_n hx hb dX12_figure_9 rfl (lv_at hl 1 rfl) ?_
        refine lv_iconst (v := 3) hx hb dX12_figure_10 (by decide) ?_
        refine lv_idiv hx hb dX12_figure_11 (by decide) ?_
        refine lv_istore_n (lv' := [(2, .int (v2 / (3 : Int32))), (1, .int v1), (3, .int v3)]) hx hb dX12_figure_12 rfl hl (by decide) rfl (fun ls hl => ?_)
        refine lv_iinc (v := (v3 + 1)) (lv' := [(3, .int (v3 + 1)), (2, .int (v2 / (3 : Int32))), (1, .int v1)]) hx hb dX12_figure_13 hl (k := 2) rfl (ci_ _ (by decide)) (by decide) rfl (fun ls hl => ?_)
        refine lv_goto (tgt := 4) hx hb dX12_figure_16 (by decide) ?_
        replace hf := cont_b hK1 hf
        exact ih (v2 / (3 : Int32)) (v3 + 1) ls  (lv_sub hl [2, 1, 0] rfl) hf
  unfold fm_figure at hf
  refine lv_iload_n hx hb dX12_figure_0 rfl (lv_at hl 0 rfl) ?_
  refine lv_istore_n (lv' := [(2, .int a0), (0, .int a0), (1, .int a1)]) hx hb dX12_figure_1 rfl hl (by decide) rfl (fun ls hl => ?_)
  refine lv_iconst (v := 0) hx hb dX12_figure_2 (by decide) ?_
  refine lv_istore_n (lv' := [(3, .int (0 : Int32)), (2, .int a0), (0, .int a0), (1, .int a1)]) hx hb dX12_figure_3 rfl hl (by decide) rfl (fun ls hl => ?_)
  exact L_4 a1 mFuel a0 (0 : Int32) ls  (lv_sub hl [3, 1, 0] rfl) (asc_b hf)
