noncomputable def fm_numberHere_j117 (v3 : Int32) (st : MSt) : Option (MSt × Int32) :=
  (fm_fails (1 : Int32) v3 st).bind fun x7 => (if x7.2 = 0 then some (x7.1, (0 : Int32)) else some (x7.1, (1 : Int32)))
noncomputable def fm_numberHere_j88 (v1 : Int32) (v2 : Int32) (v3 : Int32) (v4 : Int32) (st : MSt) : Option (MSt × Int32) :=
  (if (5 : Int32) < (((msi st 16 v4).1 14) - v3) then fm_numberHere_j117 v3 (msi st 16 v4) else (fm_in (v4.toInt64) (v1.toInt64) (v2.toInt64)).bind fun x10 => (if x10 = 0 then fm_numberHere_j117 v3 (msi st 16 v4) else some (msi st 16 v4, (1 : Int32))))
noncomputable def fm_numberHere_s34 (v1 : Int32) (v2 : Int32) (v3 : Int32) (v4 : Int32) (st : MSt) : Option ((MSt × Int32) ⊕ ((Int32 × MSt) ⊕ (Int32 × MSt))) :=
  (fm_isDigit (st.1 14) st).bind fun x13 => (if x13.2 = 0 then some (.inr (.inr (v4, x13.1))) else (if (5 : Int32) ≤ ((x13.1.1 14) - v3) then some (.inr (.inl (v4, msi x13.1 14 ((x13.1.1 14) + (1 : Int32))))) else chk (inb (x13.1.1 14) 400) (some (.inr (.inl (((((10 : Int32) * v4) + (x13.1.2.1 0 (x13.1.1 14).toNatClampNeg)) - (48 : Int32)), msi x13.1 14 ((x13.1.1 14) + (1 : Int32))))))))
noncomputable def fm_numberHere (a1 : Int32) (a2 : Int32) (s0 : MSt) : Option (MSt × Int32) :=
  (fm_see s0).bind fun x1 => (fm_isDigit (x1.1.1 14) x1.1).bind fun x3 => (if x3.2 = 0 then (fm_fails (0 : Int32) (x3.1.1 14) x3.1).bind fun x18 => chk (isb x18.2) (some (x18.1, x18.2)) else (iter (fun x : (Int32 × MSt) => fm_numberHere_s34 a1 a2 (x3.1.1 14) x.1 x.2) mFuel ((0 : Int32), x3.1)).bind (Sum.elim (fun o : MSt × Int32 => (some o : Option (MSt × Int32))) (fun x : (Int32 × MSt) => fm_numberHere_j88 a1 a2 (x3.1.1 14) x.1 x.2)))
theorem nd_numberHere : yX12_numberHere.cls ≠ "java/lang/invoke/MethodHandle" ∧ yX12_numberHere.cls ≠ "java/lang/invoke/VarHandle" ∧ (parseMethodDescriptor yX12_numberHere.desc).map (fun d => d.parameters.length) = some 2 := by decide +kernel
set_option maxHeartbeats 4000000 in
set_option maxRecDepth 100000 in
theorem cm_numberHere (l : Launch) (D : va_G) (h : Nat) (ad : Nat → Nat) (cy : Nat → ClassId) (a1 : Int32) (a2 : Int32) (s0 : MSt) (out : MSt × Int32) (hf : fm_numberHere a1 a2 s0 = some out) (sz : Nat) : CMi l D h ad cy yX12_numberHere wsX12_numberHere { frames := 1, cells := 0, slots := 0, locals := 25 } [.int a1, .int a2] s0 out sz := by
  refine Met.ofW (cc := cX12_numberHere) (maxL := 5) (ret := (some .boolean)) (by decide) rfl ?_
  intro p e s m args below meth c s₁ B hml hv
  obtain ⟨rfl, hsz, hP, hK, hD0⟩ := hv
  have hx := B.exec
  have hb := B.bytes
  have hr := B.returns
  have hts := atoms_spec (ws := wsX12_numberHere) B.pre
  have hown : s.vm.findClass RX12 = some m.cls := findClass_of_methodNamed B.named
  have hlocks := B.notSynchronized
  subst hsz
  have hI : MI D (MA h ad cy s0 s.heap.size) h ad cy s s.heap s0 s.heap [] := ⟨hK, hP, hD0.self, va_S.rf⟩
  have hA : ∀ q : Nat, s.heap.size ≤ q → MA h ad cy s0 s.heap.size q := fun q hq => Or.inr hq
  have hin : ∀ w ∈ u_ws RX12 TX12 42, w ∈ wsX12_numberHere := fun w hw => List.mem_cons_of_mem _ (List.mem_append_right _ hw)
  have k_next : Cond.fieldLink RX12 103 "HalfBridgeModel" "next" "I" ∈ wsX12_numberHere := by decide +kernel
  have k_number : Cond.fieldLink RX12 128 "HalfBridgeModel" "number" "I" ∈ wsX12_numberHere := by decide +kernel
  have k_tape : Cond.fieldLink RX12 7 "HalfBridgeModel" "tape" "[B" ∈ wsX12_numberHere := by decide +kernel
  have hl := lv_entry ([.ref h, .int a1, .int a2]) (n := 5) (Nat.le_of_ble_eq_true rfl)
  rw [lg_entry_eq]
  generalize (lg_sl ([.ref h, .int a1, .int a2]) ++ List.replicate (5 - (lg_sl ([.ref h, .int a1, .int a2])).length) Slot.unset).toArray = ls at hl ⊢
  have hl : lv_has ls 5 [(0, .ref h), (1, .int a1), (2, .int a2)] := hl
  obtain ⟨K0, hK0, hf⟩ := top_e hf
  have B_117 : ∀ (v3 : Int32)  (st : MSt) (H : Heap) (locs : List Loc) (ls : Array Slot), MI D (MA h ad cy s0 s.heap.size) h ad cy s s.heap st H locs → lv_has ls 5 [(0, .ref h), (3, .int v3)] → (fm_numberHere_j117 v3 st).bind K0 = some out → W p l e (headSpec wsX12_numberHere { frames := 1, cells := 0, slots := 0, locals := 25 }).room s m (([.ref h, .int a1, .int a2] : List Value).toArray) below meth c H locs 0 0 (MQ below (MQi D h ad cy s0 out s.heap.size) ([.ref h, .int a1, .int a2] : List Value).toArray s 0 0 (MA h ad cy s0 s.heap.size)) (F0 m 117 ls []) := by
    intro v3 st H locs ls hI hl hf
    unfold fm_numberHere_j117 at hf
    refine lv_aload_n hx hb dX12_numberHere_117 rfl (lv_at hl 0 rfl) ?_
    refine lv_iconst (v := 1) hx hb dX12_numberHere_118 (by decide) ?_
    refine lv_iload_n hx hb dX12_numberHere_119 rfl (lv_at hl 1 rfl) ?_
    obtain ⟨x7, hc8, hf⟩ := bnd_b hf
    refine mcall_i (As := [.int (1 : Int32), .int v3]) (rest := []) (n := 2) ⟨hx, hb, hml, hown, hts⟩ (cm_fails l D h ad cy (1 : Int32) v3 st x7 hc8 _) (cwV 2 hts gX12_numberHere_X12_fails rfl rfl rfl ⟨rfl, nd_fails⟩ ⟨Nat.le_of_ble_eq_true rfl, Nat.le_of_ble_eq_true rfl⟩) hI hA rfl hl.1 (Nat.le_of_ble_eq_true rfl) dX12_numberHere_120 ⟨Nat.zero_le _, Nat.zero_le _⟩ (fun H locs hI => ?_)
    refine lv_if_eq (tgt := 130) hx hb dX12_numberHere_123 (by decide) (fun c9 => ?_) (fun c9 => ?_)
    · replace hf := ifp c9 hf
      refine lv_iconst (v := 0) hx hb dX12_numberHere_130 (by decide) ?_
      exact mret_z hx hb hr (by decide) hlocks hI (ret_e hK0 hf) dX12_numberHere_131
    · replace hf := ifn c9 hf
      refine lv_iconst (v := 1) hx hb dX12_numberHere_126 (by decide) ?_
      refine lv_goto (tgt := 131) hx hb dX12_numberHere_127 (by decide) ?_
      exact mret_z hx hb hr (by decide) hlocks hI (ret_e hK0 hf) dX12_numberHere_131
  have B_88 : ∀ (v1 : Int32) (v2 : Int32) (v3 : Int32) (v4 : Int32)  (st : MSt) (H : Heap) (locs : List Loc) (ls : Array Slot), MI D (MA h ad cy s0 s.heap.size) h ad cy s s.heap st H locs → lv_has ls 5 [(0, .ref h), (1, .int v1), (2, .int v2), (3, .int v3), (4, .int v4)] → (fm_numberHere_j88 v1 v2 v3 v4 st).bind K0 = some out → W p l e (headSpec wsX12_numberHere { frames := 1, cells := 0, slots := 0, locals := 25 }).room s m (([.ref h, .int a1, .int a2] : List Value).toArray) below meth c H locs 0 0 (MQ below (MQi D h ad cy s0 out s.heap.size) ([.ref h, .int a1, .int a2] : List Value).toArray s 0 0 (MA h ad cy s0 s.heap.size)) (F0 m 88 ls []) := by
    intro v1 v2 v3 v4 st H locs ls hI hl hf
    unfold fm_numberHere_j88 at hf
    refine lv_aload_n hx hb dX12_numberHere_88 rfl (lv_at hl 0 rfl) ?_
    refine lv_iload hx hb dX12_numberHere_89 (lv_at hl 4 rfl) ?_
    refine mp_number hx hb hts hin hown k_number hI dX12_numberHere_91 (fun H locs hI => ?_)
    refine lv_aload_n hx hb dX12_numberHere_94 rfl (lv_at hl 0 rfl) ?_
    refine mg_next hx hb hts hin hown k_next hI dX12_numberHere_95 ?_
    refine lv_iload_n hx hb dX12_numberHere_98 rfl (lv_at hl 3 rfl) ?_
    refine lv_isub hx hb dX12_numberHere_99 ?_
    refine lv_iconst (v := 5) hx hb dX12_numberHere_100 (by decide) ?_
    refine lv_icmp_gt (tgt := 117) hx hb dX12_numberHere_101 (by decide) (fun c6 => ?_) (fun c6 => ?_)
    · replace hf := ifp c6 hf
      exact B_117 v3 (msi st 16 v4) H locs ls hI (lv_sub hl [0, 3] rfl) hf
    · replace hf := ifn c6 hf
      refine lv_iload hx hb dX12_numberHere_104 (lv_at hl 4 rfl) ?_
      refine lv_i2l (v := (v4.toInt64)) hx hb dX12_numberHere_106 rfl ?_
      refine lv_iload_n hx hb dX12_numberHere_107 rfl (lv_at hl 1 rfl) ?_
      refine lv_i2l (v := (v1.toInt64)) hx hb dX12_numberHere_108 rfl ?_
      refine lv_iload_n hx hb dX12_numberHere_109 rfl (lv_at hl 2 rfl) ?_
      refine lv_i2l (v := (v2.toInt64)) hx hb dX12_numberHere_110 rfl ?_
      obtain ⟨x10, hc11, hf⟩ := bnd_b hf
      refine mst_i (As := [.long (v4.toInt64), .long (v1.toInt64), .long (v2.toInt64)]) (rest := []) (n := 3) ⟨hx, hb, hml, hown, hts⟩ (cs_in l (v4.toInt64) (v1.toInt64) (v2.toInt64) x10 hc11 _) (va_cwS 3 hts gX12_numberHere_X12_in rfl rfl rfl nd_in ⟨Nat.le_of_ble_eq_true rfl, Nat.le_of_ble_eq_true rfl⟩) hI hA rfl hl.1 (Nat.le_of_ble_eq_true rfl) dX12_numberHere_111 ⟨Nat.zero_le _, Nat.zero_le _⟩ (fun H locs hI => ?_)
      refine lv_if_ne (tgt := 126) hx hb dX12_numberHere_114 (by decide) (fun c12 => ?_) (fun c12 => ?_)
      · replace hf := ifn c12 hf
        refine lv_iconst (v := 1) hx hb dX12_numberHere_126 (by decide) ?_
        refine lv_goto (tgt := 131) hx hb dX12_numberHere_127 (by decide) ?_
        exact mret_z hx hb hr (by decide) hlocks hI (ret_e hK0 hf) dX12_numberHere_131
      · replace hf := ifp c12 hf
        exact B_117 v3 (msi st 16 v4) H locs ls hI (lv_sub hl [0, 3] rfl) hf
  have L_34 : ∀ (v1 : Int32) (v2 : Int32) (v3 : Int32) (n : Nat) (v4 : Int32) (st : MSt) (H : Heap) (locs : List Loc) (ls : Array Slot), MI D (MA h ad cy s0 s.heap.size) h ad cy s s.heap st H locs → lv_has ls 5 [(0, .ref h), (1, .int v1), (2, .int v2), (3, .int v3), (4, .int v4)] → (iter (fun x : (Int32 × MSt) => fm_numberHere_s34 v1 v2 v3 x.1 x.2) n (v4, st)).bind (fun x => ((Sum.elim (fun o : MSt × Int32 => (some o : Option (MSt × Int32))) (fun x : (Int32 × MSt) => fm_numberHere_j88 v1 v2 v3 x.1 x.2)) x).bind K0) = some out → W p l e (headSpec wsX12_numberHere { frames := 1, cells := 0, slots := 0, locals := 25 }).room s m (([.ref h, .int a1, .int a2] : List Value).toArray) below meth c H locs 0 0 (MQ below (MQi D h ad cy s0 out s.heap.size) ([.ref h, .int a1, .int a2] : List Value).toArray s 0 0 (MA h ad cy s0 s.heap.size)) (F0 m 34 ls []) := by
    intro v1 v2 v3 n
    induction n with
    | zero => intro v4 st H locs ls hI hl hf; exact (iter_0 hf).elim
    | succ n ih =>
      intro v4 st H locs ls hI hl hf
      obtain ⟨K1, hK1, hf⟩ := iter_e hf
      replace hf : (fm_numberHere_s34 v1 v2 v3 v4 st).bind K1 = some out := hf
      unfold fm_numberHere_s34 at hf
      refine lv_aload_n hx hb dX12_numberHere_34 rfl (lv_at hl 0 rfl) ?_
      refine lv_aload_n hx hb dX12_numberHere_35 rfl (lv_at hl 0 rfl) ?_
      refine mg_next hx hb hts hin hown k_next hI dX12_numberHere_36 ?_
      obtain ⟨x13, hc14, hf⟩ := bnd_b hf
      refine mcall_i (As := [.int (st.1 14)]) (rest := []) (n := 1) ⟨hx, hb, hml, hown, hts⟩ (cm_isDigit l D h ad cy (st.1 14) st x13 hc14 _) (cwV 1 hts gX12_numberHere_X12_isDigit rfl rfl rfl ⟨rfl, nd_isDigit⟩ ⟨Nat.le_of_ble_eq_true rfl, Nat.le_of_ble_eq_true rfl⟩) hI hA rfl hl.1 (Nat.le_of_ble_eq_true rfl) dX12_numberHere_39 ⟨Nat.zero_le _, Nat.zero_le _⟩ (fun H locs hI => ?_)
      refine lv_if_eq (tgt := 88) hx hb dX12_numberHere_42 (by decide) (fun c15 => ?_) (fun c15 => ?_)
      · replace hf := ifp c15 hf
        replace hf := exit_b hK1 hf
        exact B_88 v1 v2 v3 v4 x13.1 H locs ls hI (lv_sub hl [0, 1, 2, 3, 4] rfl) hf
      · replace hf := ifn c15 hf
        refine lv_aload_n hx hb dX12_numberHere_45 rfl (lv_at hl 0 rfl) ?_
        refine mg_next hx hb hts hin hown k_next hI dX12_numberHere_46 ?_
        refine lv_iload_n hx hb dX12_numberHere_49 rfl (lv_at hl 3 rfl) ?_
        refine lv_isub hx hb dX12_numberHere_50 ?_
        refine lv_iconst (v := 5) hx hb dX12_numberHere_51 (by decide) ?_
        refine lv_icmp_ge (tgt := 75) hx hb dX12_numberHere_52 (by decide) (fun c16 => ?_) (fun c16 => ?_)
        · replace hf := ifp c16 hf
          refine lv_aload_n hx hb dX12_numberHere_75 rfl (lv_at hl 0 rfl) ?_
          refine lv_dup hx hb dX12_numberHere_76 rfl ?_
          refine mg_next hx hb hts hin hown k_next hI dX12_numberHere_77 ?_
          refine lv_iconst (v := 1) hx hb dX12_numberHere_80 (by decide) ?_
          refine lv_iadd hx hb dX12_numberHere_81 ?_
          refine mp_next hx hb hts hin hown k_next hI dX12_numberHere_82 (fun H locs hI => ?_)
          refine lv_goto (tgt := 34) hx hb dX12_numberHere_85 (by decide) ?_
          replace hf := cont_b hK1 hf
          exact ih v4 (msi x13.1 14 ((x13.1.1 14) + (1 : Int32))) H locs ls hI (lv_sub hl [0, 1, 2, 3, 4] rfl) hf
        · replace hf := ifn c16 hf
          refine lv_bipush (v := 10) hx hb dX12_numberHere_55 (by decide) ?_
          refine lv_iload hx hb dX12_numberHere_57 (lv_at hl 4 rfl) ?_
          refine lv_imul hx hb dX12_numberHere_59 ?_
          refine lv_aload_n hx hb dX12_numberHere_60 rfl (lv_at hl 0 rfl) ?_
          refine mg_tape hx hb hts hin hown k_tape hI dX12_numberHere_61 ?_
          refine lv_aload_n hx hb dX12_numberHere_64 rfl (lv_at hl 0 rfl) ?_
          refine mg_next hx hb hts hin hown k_next hI dX12_numberHere_65 ?_
          obtain ⟨k17, hf⟩ := chk_b hf
          refine ml_tape hx hb hI k17 dX12_numberHere_68 ?_
          refine lv_iadd hx hb dX12_numberHere_69 ?_
          refine lv_bipush (v := 48) hx hb dX12_numberHere_70 (by decide) ?_
          refine lv_isub hx hb dX12_numberHere_72 ?_
          refine lv_istore (lv' := [(4, .int ((((10 : Int32) * v4) + (x13.1.2.1 0 (x13.1.1 14).toNatClampNeg)) - (48 : Int32))), (0, .ref h), (1, .int v1), (2, .int v2), (3, .int v3)]) hx hb dX12_numberHere_73 hl (by decide) rfl (fun ls hl => ?_)
          refine lv_aload_n hx hb dX12_numberHere_75 rfl (lv_at hl 1 rfl) ?_
          refine lv_dup hx hb dX12_numberHere_76 rfl ?_
          refine mg_next hx hb hts hin hown k_next hI dX12_numberHere_77 ?_
          refine lv_iconst (v := 1) hx hb dX12_numberHere_80 (by decide) ?_
          refine lv_iadd hx hb dX12_numberHere_81 ?_
          refine mp_next hx hb hts hin hown k_next hI dX12_numberHere_82 (fun H locs hI => ?_)
          refine lv_goto (tgt := 34) hx hb dX12_numberHere_85 (by decide) ?_
          replace hf := cont_b hK1 hf
          exact ih ((((10 : Int32) * v4) + (x13.1.2.1 0 (x13.1.1 14).toNatClampNeg)) - (48 : Int32)) (msi x13.1 14 ((x13.1.1 14) + (1 : Int32))) H locs ls hI (lv_sub hl [1, 2, 3, 4, 0] rfl) hf
  unfold fm_numberHere at hf
  refine lv_aload_n hx hb dX12_numberHere_0 rfl (lv_at hl 0 rfl) ?_
  obtain ⟨x1, hc2, hf⟩ := bnd_b hf
  refine mcall_i (As := []) (rest := []) (n := 0) ⟨hx, hb, hml, hown, hts⟩ (cm_see l D h ad cy  s0 x1 hc2 _) (cwV 0 hts gX12_numberHere_X12_see rfl rfl rfl ⟨rfl, nd_see⟩ ⟨Nat.le_of_ble_eq_true rfl, Nat.le_of_ble_eq_true rfl⟩) hI hA rfl hl.1 (Nat.le_of_ble_eq_true rfl) dX12_numberHere_1 ⟨Nat.zero_le _, Nat.zero_le _⟩ (fun H locs hI => ?_)
  refine lv_pop hx hb dX12_numberHere_4 rfl ?_
  refine lv_aload_n hx hb dX12_numberHere_5 rfl (lv_at hl 0 rfl) ?_
  refine lv_aload_n hx hb dX12_numberHere_6 rfl (lv_at hl 0 rfl) ?_
  refine mg_next hx hb hts hin hown k_next hI dX12_numberHere_7 ?_
  obtain ⟨x3, hc4, hf⟩ := bnd_b hf
  refine mcall_i (As := [.int (x1.1.1 14)]) (rest := []) (n := 1) ⟨hx, hb, hml, hown, hts⟩ (cm_isDigit l D h ad cy (x1.1.1 14) x1.1 x3 hc4 _) (cwV 1 hts gX12_numberHere_X12_isDigit rfl rfl rfl ⟨rfl, nd_isDigit⟩ ⟨Nat.le_of_ble_eq_true rfl, Nat.le_of_ble_eq_true rfl⟩) hI hA rfl hl.1 (Nat.le_of_ble_eq_true rfl) dX12_numberHere_10 ⟨Nat.zero_le _, Nat.zero_le _⟩ (fun H locs hI => ?_)
  refine lv_if_ne (tgt := 26) hx hb dX12_numberHere_13 (by decide) (fun c5 => ?_) (fun c5 => ?_)
  · replace hf := ifn c5 hf
    refine lv_aload_n hx hb dX12_numberHere_26 rfl (lv_at hl 0 rfl) ?_
    refine mg_next hx hb hts hin hown k_next hI dX12_numberHere_27 ?_
    refine lv_istore_n (lv' := [(3, .int (x3.1.1 14)), (0, .ref h), (1, .int a1), (2, .int a2)]) hx hb dX12_numberHere_30 rfl hl (by decide) rfl (fun ls hl => ?_)
    refine lv_iconst (v := 0) hx hb dX12_numberHere_31 (by decide) ?_
    refine lv_istore (lv' := [(4, .int (0 : Int32)), (3, .int (x3.1.1 14)), (0, .ref h), (1, .int a1), (2, .int a2)]) hx hb dX12_numberHere_32 hl (by decide) rfl (fun ls hl => ?_)
    exact L_34 a1 a2 (x3.1.1 14) mFuel (0 : Int32) x3.1 H locs ls hI (lv_sub hl [2, 3, 4, 1, 0] rfl) (asc_b hf)
  · replace hf := ifp c5 hf
    refine lv_aload_n hx hb dX12_numberHere_16 rfl (lv_at hl 0 rfl) ?_
    refine lv_iconst (v := 0) hx hb dX12_numberHere_17 (by decide) ?_
    refine lv_aload_n hx hb dX12_numberHere_18 rfl (lv_at hl 0 rfl) ?_
    refine mg_next hx hb hts hin hown k_next hI dX12_numberHere_19 ?_
    obtain ⟨x18, hc19, hf⟩ := bnd_b hf
    refine mcall_i (As := [.int (0 : Int32), .int (x3.1.1 14)]) (rest := []) (n := 2) ⟨hx, hb, hml, hown, hts⟩ (cm_fails l D h ad cy (0 : Int32) (x3.1.1 14) x3.1 x18 hc19 _) (cwV 2 hts gX12_numberHere_X12_fails rfl rfl rfl ⟨rfl, nd_fails⟩ ⟨Nat.le_of_ble_eq_true rfl, Nat.le_of_ble_eq_true rfl⟩) hI hA rfl hl.1 (Nat.le_of_ble_eq_true rfl) dX12_numberHere_22 ⟨Nat.zero_le _, Nat.zero_le _⟩ (fun H locs hI => ?_)
    obtain ⟨k20, hf⟩ := chk_b hf
    exact mret_z hx hb hr (isb_nar k20) hlocks hI (ret_e hK0 hf) dX12_numberHere_25

noncomputable def fm_wordHere (s0 : MSt) : Option (MSt × Int32) :=
  (fm_isWord (1936286821 : Int64) s0).bind fun x1 => (if x1.2 = 0 then (fm_isWord (1818848869 : Int64) x1.1).bind fun x4 => (if x4.2 = 0 then (fm_isWord (114784769370228 : Int64) x4.1).bind fun x7 => (if x7.2 = 0 then (fm_isWord (478694368626 : Int64) x7.1).bind fun x10 => (if x10.2 = 0 then (fm_isWord (1952541804 : Int64) x10.1).bind fun x13 => (if x13.2 = 0 then (fm_isWord (6775152 : Int64) x13.1).bind fun x16 => (if x16.2 = 0 then (fm_isWord (6578553 : Int64) x16.1).bind fun x19 => (if x19.2 = 0 then (fm_isWord (521325929587 : Int64) x19.1).bind fun x22 => (if x22.2 = 0 then (fm_isWord (1818325876 : Int64) x22.1).bind fun x25 => (if x25.2 = 0 then some (x25.1, (-1 : Int32)) else some (x25.1, (8 : Int32))) else some (x22.1, (7 : Int32))) else some (x19.1, (6 : Int32))) else some (x16.1, (5 : Int32))) else some (x13.1, (4 : Int32))) else some (x10.1, (3 : Int32))) else some (x7.1, (2 : Int32))) else some (x4.1, (1 : Int32))) else some (x1.1, (0 : Int32)))
theorem nd_wordHere : yX12_wordHere.cls ≠ "java/lang/invoke/MethodHandle" ∧ yX12_wordHere.cls ≠ "java/lang/invoke/VarHandle" ∧ (parseMethodDescriptor yX12_wordHere.desc).map (fun d => d.parameters.length) = some 0 := by decide +kernel
set_option maxHeartbeats 4000000 in
set_option maxRecDepth 100000 in
theorem cm_wordHere (l : Launch) (D : va_G) (h : Nat) (ad : Nat → Nat) (cy : Nat → ClassId)  (s0 : MSt) (out : MSt × Int32) (hf : fm_wordHere s0 = some out) (sz : Nat) : CMi l D h ad cy yX12_wordHere wsX12_wordHere { frames := 2, cells := 0, slots := 0, locals := 46 } [] s0 out sz := by
  refine Met.ofW (cc := cX12_wordHere) (maxL := 1) (ret := (some .int)) (by decide) rfl ?_
  intro p e s m args below meth c s₁ B hml hv
  obtain ⟨rfl, hsz, hP, hK, hD0⟩ := hv
  have hx := B.exec
  have hb := B.bytes
  have hr := B.returns
  have hts := atoms_spec (ws := wsX12_wordHere) B.pre
  have hown : s.vm.findClass RX12 = some m.cls := findClass_of_methodNamed B.named
  have hlocks := B.notSynchronized
  subst hsz
  have hI : MI D (MA h ad cy s0 s.heap.size) h ad cy s s.heap s0 s.heap [] := ⟨hK, hP, hD0.self, va_S.rf⟩
  have hA : ∀ q : Nat, s.heap.size ≤ q → MA h ad cy s0 s.heap.size q := fun q hq => Or.inr hq
  have hl := lv_entry ([.ref h]) (n := 1) (Nat.le_of_ble_eq_true rfl)
  rw [lg_entry_eq]
  generalize (lg_sl ([.ref h]) ++ List.replicate (1 - (lg_sl ([.ref h])).length) Slot.unset).toArray = ls at hl ⊢
  have hl : lv_has ls 1 [(0, .ref h)] := hl
  obtain ⟨K0, hK0, hf⟩ := top_e hf
  unfold fm_wordHere at hf
  refine lv_aload_n hx hb dX12_wordHere_0 rfl (lv_at hl 0 rfl) ?_
  refine lv_ldc2 (v := 1936286821) hx hb hown (hts (.constantLong RX12 135 (1936286821)) (by decide +kernel)) dX12_wordHere_1 ?_
  obtain ⟨x1, hc2, hf⟩ := bnd_b hf
  refine mcall_i (As := [.long (1936286821 : Int64)]) (rest := []) (n := 1) ⟨hx, hb, hml, hown, hts⟩ (cm_isWord l D h ad cy (1936286821 : Int64) s0 x1 hc2 _) (cwV 1 hts gX12_wordHere_X12_isWord rfl rfl rfl ⟨rfl, nd_isWord⟩ ⟨Nat.le_of_ble_eq_true rfl, Nat.le_of_ble_eq_true rfl⟩) hI hA rfl hl.1 (Nat.le_of_ble_eq_true rfl) dX12_wordHere_4 ⟨Nat.zero_le _, Nat.zero_le _⟩ (fun H locs hI => ?_)
  refine lv_if_eq (tgt := 12) hx hb dX12_wordHere_7 (by decide) (fun c3 => ?_) (fun c3 => ?_)
  · replace hf := ifp c3 hf
    refine lv_aload_n hx hb dX12_wordHere_12 rfl (lv_at hl 0 rfl) ?_
    refine lv_ldc2 (v := 1818848869) hx hb hown (hts (.constantLong RX12 137 (1818848869)) (by decide +kernel)) dX12_wordHere_13 ?_
    obtain ⟨x4, hc5, hf⟩ := bnd_b hf
    refine mcall_i (As := [.long (1818848869 : Int64)]) (rest := []) (n := 1) ⟨hx, hb, hml, hown, hts⟩ (cm_isWord l D h ad cy (1818848869 : Int64) x1.1 x4 hc5 _) (cwV 1 hts gX12_wordHere_X12_isWord rfl rfl rfl ⟨rfl, nd_isWord⟩ ⟨Nat.le_of_ble_eq_true rfl, Nat.le_of_ble_eq_true rfl⟩) hI hA rfl hl.1 (Nat.le_of_ble_eq_true rfl) dX12_wordHere_16 ⟨Nat.zero_le _, Nat.zero_le _⟩ (fun H locs hI => ?_)
    refine lv_if_eq (tgt := 24) hx hb dX12_wordHere_19 (by decide) (fun c6 => ?_) (fun c6 => ?_)
    · replace hf := ifp c6 hf
      refine lv_aload_n hx hb dX12_wordHere_24 rfl (lv_at hl 0 rfl) ?_
      refine lv_ldc2 (v := 114784769370228) hx hb hown (hts (.constantLong RX12 139 (114784769370228)) (by decide +kernel)) dX12_wordHere_25 ?_
      obtain ⟨x7, hc8, hf⟩ := bnd_b hf
      refine mcall_i (As := [.long (114784769370228 : Int64)]) (rest := []) (n := 1) ⟨hx, hb, hml, hown, hts⟩ (cm_isWord l D h ad cy (114784769370228 : Int64) x4.1 x7 hc8 _) (cwV 1 hts gX12_wordHere_X12_isWord rfl rfl rfl ⟨rfl, nd_isWord⟩ ⟨Nat.le_of_ble_eq_true rfl, Nat.le_of_ble_eq_true rfl⟩) hI hA rfl hl.1 (Nat.le_of_ble_eq_true rfl) dX12_wordHere_28 ⟨Nat.zero_le _, Nat.zero_le _⟩ (fun H locs hI => ?_)
      refine lv_if_eq (tgt := 36) hx hb dX12_wordHere_31 (by decide) (fun c9 => ?_) (fun c9 => ?_)
      · replace hf := ifp c9 hf
        refine lv_aload_n hx hb dX12_wordHere_36 rfl (lv_at hl 0 rfl) ?_
        refine lv_ldc2 (v := 478694368626) hx hb hown (hts (.constantLong RX12 141 (478694368626)) (by decide +kernel)) dX12_wordHere_37 ?_
        obtain ⟨x10, hc11, hf⟩ := bnd_b hf
        refine mcall_i (As := [.long (478694368626 : Int64)]) (rest := []) (n := 1) ⟨hx, hb, hml, hown, hts⟩ (cm_isWord l D h ad cy (478694368626 : Int64) x7.1 x10 hc11 _) (cwV 1 hts gX12_wordHere_X12_isWord rfl rfl rfl ⟨rfl, nd_isWord⟩ ⟨Nat.le_of_ble_eq_true rfl, Nat.le_of_ble_eq_true rfl⟩) hI hA rfl hl.1 (Nat.le_of_ble_eq_true rfl) dX12_wordHere_40 ⟨Nat.zero_le _, Nat.zero_le _⟩ (fun H locs hI => ?_)
        refine lv_if_eq (tgt := 48) hx hb dX12_wordHere_43 (by decide) (fun c12 => ?_) (fun c12 => ?_)
        · replace hf := ifp c12 hf
          refine lv_aload_n hx hb dX12_wordHere_48 rfl (lv_at hl 0 rfl) ?_
          refine lv_ldc2 (v := 1952541804) hx hb hown (hts (.constantLong RX12 143 (1952541804)) (by decide +kernel)) dX12_wordHere_49 ?_
          obtain ⟨x13, hc14, hf⟩ := bnd_b hf
          refine mcall_i (As := [.long (1952541804 : Int64)]) (rest := []) (n := 1) ⟨hx, hb, hml, hown, hts⟩ (cm_isWord l D h ad cy (1952541804 : Int64) x10.1 x13 hc14 _) (cwV 1 hts gX12_wordHere_X12_isWord rfl rfl rfl ⟨rfl, nd_isWord⟩ ⟨Nat.le_of_ble_eq_true rfl, Nat.le_of_ble_eq_true rfl⟩) hI hA rfl hl.1 (Nat.le_of_ble_eq_true rfl) dX12_wordHere_52 ⟨Nat.zero_le _, Nat.zero_le _⟩ (fun H locs hI => ?_)
          refine lv_if_eq (tgt := 60) hx hb dX12_wordHere_55 (by decide) (fun c15 => ?_) (fun c15 => ?_)
          · replace hf := ifp c15 hf
            refine lv_aload_n hx hb dX12_wordHere_60 rfl (lv_at hl 0 rfl) ?_
            refine lv_ldc2 (v := 6775152) hx hb hown (hts (.constantLong RX12 145 (6775152)) (by decide +kernel)) dX12_wordHere_61 ?_
            obtain ⟨x16, hc17, hf⟩ := bnd_b hf
            refine mcall_i (As := [.long (6775152 : Int64)]) (rest := []) (n := 1) ⟨hx, hb, hml, hown, hts⟩ (cm_isWord l D h ad cy (6775152 : Int64) x13.1 x16 hc17 _) (cwV 1 hts gX12_wordHere_X12_isWord rfl rfl rfl ⟨rfl, nd_isWord⟩ ⟨Nat.le_of_ble_eq_true rfl, Nat.le_of_ble_eq_true rfl⟩) hI hA rfl hl.1 (Nat.le_of_ble_eq_true rfl) dX12_wordHere_64 ⟨Nat.zero_le _, Nat.zero_le _⟩ (fun H locs hI => ?_)
            refine lv_if_eq (tgt := 72) hx hb dX12_wordHere_67 (by decide) (fun c18 => ?_) (fun c18 => ?_)
            · replace hf := ifp c18 hf
              refine lv_aload_n hx hb dX12_wordHere_72 rfl (lv_at hl 0 rfl) ?_
              refine lv_ldc2 (v := 6578553) hx hb hown (hts (.constantLong RX12 147 (6578553)) (by decide +kernel)) dX12_wordHere_73 ?_
              obtain ⟨x19, hc20, hf⟩ := bnd_b hf
              refine mcall_i (As := [.long (6578553 : Int64)]) (rest := []) (n := 1) ⟨hx, hb, hml, hown, hts⟩ (cm_isWord l D h ad cy (6578553 : Int64) x16.1 x19 hc20 _) (cwV 1 hts gX12_wordHere_X12_isWord rfl rfl rfl ⟨rfl, nd_isWord⟩ ⟨Nat.le_of_ble_eq_true rfl, Nat.le_of_ble_eq_true rfl⟩) hI hA rfl hl.1 (Nat.le_of_ble_eq_true rfl) dX12_wordHere_76 ⟨Nat.zero_le _, Nat.zero_le _⟩ (fun H locs hI => ?_)
              refine lv_if_eq (tgt := 85) hx hb dX12_wordHere_79 (by decide) (fun c21 => ?_) (fun c21 => ?_)
              · replace hf := ifp c21 hf
                refine lv_aload_n hx hb dX12_wordHere_85 rfl (lv_at hl 0 rfl) ?_
                refine lv_ldc2 (v := 521325929587) hx hb hown (hts (.constantLong RX12 149 (521325929587)) (by decide +kernel)) dX12_wordHere_86 ?_
                obtain ⟨x22, hc23, hf⟩ := bnd_b hf
                refine mcall_i (As := [.long (521325929587 : Int64)]) (rest := []) (n := 1) ⟨hx, hb, hml, hown, hts⟩ (cm_isWord l D h ad cy (521325929587 : Int64) x19.1 x22 hc23 _) (cwV 1 hts gX12_wordHere_X12_isWord rfl rfl rfl ⟨rfl, nd_isWord⟩ ⟨Nat.le_of_ble_eq_true rfl, Nat.le_of_ble_eq_true rfl⟩) hI hA rfl hl.1 (Nat.le_of_ble_eq_true rfl) dX12_wordHere_89 ⟨Nat.zero_le _, Nat.zero_le _⟩ (fun H locs hI => ?_)
                refine lv_if_eq (tgt := 100) hx hb dX12_wordHere_92 (by decide) (fun c24 => ?_) (fun c24 => ?_)
                · replace hf := ifp c24 hf
                  refine lv_aload_n hx hb dX12_wordHere_100 rfl (lv_at hl 0 rfl) ?_
                  refine lv_ldc2 (v := 1818325876) hx hb hown (hts (.constantLong RX12 151 (1818325876)) (by decide +kernel)) dX12_wordHere_101 ?_
                  obtain ⟨x25, hc26, hf⟩ := bnd_b hf
                  refine mcall_i (As := [.long (1818325876 : Int64)]) (rest := []) (n := 1) ⟨hx, hb, hml, hown, hts⟩ (cm_isWord l D h ad cy (1818325876 : Int64) x22.1 x25 hc26 _) (cwV 1 hts gX12_wordHere_X12_isWord rfl rfl rfl ⟨rfl, nd_isWord⟩ ⟨Nat.le_of_ble_eq_true rfl, Nat.le_of_ble_eq_true rfl⟩) hI hA rfl hl.1 (Nat.le_of_ble_eq_true rfl) dX12_wordHere_104 ⟨Nat.zero_le _, Nat.zero_le _⟩ (fun H locs hI => ?_)
                  refine lv_if_eq (tgt := 115) hx hb dX12_wordHere_107 (by decide) (fun c27 => ?_) (fun c27 => ?_)
                  · replace hf := ifp c27 hf
                    refine lv_iconst (v := -1) hx hb dX12_wordHere_115 (by decide) ?_
                    exact mret_i hx hb hr hlocks hI (ret_e hK0 hf) dX12_wordHere_116
                  · replace hf := ifn c27 hf
                    refine lv_bipush (v := 8) hx hb dX12_wordHere_110 (by decide) ?_
                    refine lv_goto (tgt := 116) hx hb dX12_wordHere_112 (by decide) ?_
                    exact mret_i hx hb hr hlocks hI (ret_e hK0 hf) dX12_wordHere_116
                · replace hf := ifn c24 hf
                  refine lv_bipush (v := 7) hx hb dX12_wordHere_95 (by decide) ?_
                  refine lv_goto (tgt := 116) hx hb dX12_wordHere_97 (by decide) ?_
                  exact mret_i hx hb hr hlocks hI (ret_e hK0 hf) dX12_wordHere_116
              · replace hf := ifn c21 hf
                refine lv_bipush (v := 6) hx hb dX12_wordHere_82 (by decide) ?_
                exact mret_i hx hb hr hlocks hI (ret_e hK0 hf) dX12_wordHere_84
            · replace hf := ifn c18 hf
              refine lv_iconst (v := 5) hx hb dX12_wordHere_70 (by decide) ?_
              exact mret_i hx hb hr hlocks hI (ret_e hK0 hf) dX12_wordHere_71
          · replace hf := ifn c15 hf
            refine lv_iconst (v := 4) hx hb dX12_wordHere_58 (by decide) ?_
            exact mret_i hx hb hr hlocks hI (ret_e hK0 hf) dX12_wordHere_59
        · replace hf := ifn c12 hf
          refine lv_iconst (v := 3) hx hb dX12_wordHere_46 (by decide) ?_
          exact mret_i hx hb hr hlocks hI (ret_e hK0 hf) dX12_wordHere_47
      · replace hf := ifn c9 hf
        refine lv_iconst (v := 2) hx hb dX12_wordHere_34 (by decide) ?_
        exact mret_i hx hb hr hlocks hI (ret_e hK0 hf) dX12_wordHere_35
    · replace hf := ifn c6 hf
      refine lv_iconst (v := 1) hx hb dX12_wordHere_22 (by decide) ?_
      exact mret_i hx hb hr hlocks hI (ret_e hK0 hf) dX12_wordHere_23
  · replace hf := ifn c3 hf
    refine lv_iconst (v := 0) hx hb dX12_wordHere_10 (by decide) ?_
    exact mret_i hx hb hr hlocks hI (ret_e hK0 hf) dX12_wordHere_11

noncomputable def fm_puts (a1 : Int32) (a2 : Int32) (s0 : MSt) : Option (MSt) :=
  chk (inb (s0.1 17) 7) (chk (inb (((400 : Int32) * (s0.1 17)) + (s0.2.1 4 (s0.1 17).toNatClampNeg)) 2400) (chk (inb ((msa s0 3 (((400 : Int32) * (s0.1 17)) + (s0.2.1 4 (s0.1 17).toNatClampNeg)).toNatClampNeg (a1 + ((16 : Int32) * a2))).1 17) 7) (chk (inb ((msa s0 3 (((400 : Int32) * (s0.1 17)) + (s0.2.1 4 (s0.1 17).toNatClampNeg)).toNatClampNeg (a1 + ((16 : Int32) * a2))).1 17) 7) (some (msa (msa s0 3 (((400 : Int32) * (s0.1 17)) + (s0.2.1 4 (s0.1 17).toNatClampNeg)).toNatClampNeg (a1 + ((16 : Int32) * a2))) 4 ((msa s0 3 (((400 : Int32) * (s0.1 17)) + (s0.2.1 4 (s0.1 17).toNatClampNeg)).toNatClampNeg (a1 + ((16 : Int32) * a2))).1 17).toNatClampNeg (((msa s0 3 (((400 : Int32) * (s0.1 17)) + (s0.2.1 4 (s0.1 17).toNatClampNeg)).toNatClampNeg (a1 + ((16 : Int32) * a2))).2.1 4 ((msa s0 3 (((400 : Int32) * (s0.1 17)) + (s0.2.1 4 (s0.1 17).toNatClampNeg)).toNatClampNeg (a1 + ((16 : Int32) * a2))).1 17).toNatClampNeg) + (1 : Int32)))))))
theorem nd_puts : yX12_puts.cls ≠ "java/lang/invoke/MethodHandle" ∧ yX12_puts.cls ≠ "java/lang/invoke/VarHandle" ∧ (parseMethodDescriptor yX12_puts.desc).map (fun d => d.parameters.length) = some 2 := by decide +kernel
set_option maxHeartbeats 4000000 in
set_option maxRecDepth 100000 in
theorem cm_puts (l : Launch) (D : va_G) (h : Nat) (ad : Nat → Nat) (cy : Nat → ClassId) (a1 : Int32) (a2 : Int32) (s0 : MSt) (out : MSt) (hf : fm_puts a1 a2 s0 = some out) (sz : Nat) : CMv l D h ad cy yX12_puts wsX12_puts { frames := 0, cells := 0, slots := 0, locals := 0 } [.int a1, .int a2] s0 out sz := by
  refine Met.ofW (cc := cX12_puts) (maxL := 3) (ret := none) (by decide) rfl ?_
  intro p e s m args below meth c s₁ B hml hv
  obtain ⟨rfl, hsz, hP, hK, hD0⟩ := hv
  have hx := B.exec
  have hb := B.bytes
  have hr := B.returns
  have hts := atoms_spec (ws := wsX12_puts) B.pre
  have hown : s.vm.findClass RX12 = some m.cls := findClass_of_methodNamed B.named
  have hlocks := B.notSynchronized
  subst hsz
  have hI : MI D (MA h ad cy s0 s.heap.size) h ad cy s s.heap s0 s.heap [] := ⟨hK, hP, hD0.self, va_S.rf⟩
  have hA : ∀ q : Nat, s.heap.size ≤ q → MA h ad cy s0 s.heap.size q := fun q hq => Or.inr hq
  have hin : ∀ w ∈ u_ws RX12 TX12 42, w ∈ wsX12_puts := fun w hw => List.mem_cons_of_mem _ (List.mem_append_right _ hw)
  have k_length : Cond.fieldLink RX12 17 "HalfBridgeModel" "length" "[I" ∈ wsX12_puts := by decide +kernel
  have k_sign : Cond.fieldLink RX12 13 "HalfBridgeModel" "sign" "[I" ∈ wsX12_puts := by decide +kernel
  have k_text : Cond.fieldLink RX12 153 "HalfBridgeModel" "text" "I" ∈ wsX12_puts := by decide +kernel
  have hl := lv_entry ([.ref h, .int a1, .int a2]) (n := 3) (Nat.le_of_ble_eq_true rfl)
  rw [lg_entry_eq]
  generalize (lg_sl ([.ref h, .int a1, .int a2]) ++ List.replicate (3 - (lg_sl ([.ref h, .int a1, .int a2])).length) Slot.unset).toArray = ls at hl ⊢
  have hl : lv_has ls 3 [(0, .ref h), (1, .int a1), (2, .int a2)] := hl
  obtain ⟨K0, hK0, hf⟩ := top_e hf
  unfold fm_puts at hf
  refine lv_aload_n hx hb dX12_puts_0 rfl (lv_at hl 0 rfl) ?_
  refine mg_sign hx hb hts hin hown k_sign hI dX12_puts_1 ?_
  refine lv_sipush (v := 400) hx hb dX12_puts_4 (by decide) ?_
  refine lv_aload_n hx hb dX12_puts_7 rfl (lv_at hl 0 rfl) ?_
  refine mg_text hx hb hts hin hown k_text hI dX12_puts_8 ?_
  refine lv_imul hx hb dX12_puts_11 ?_
  refine lv_aload_n hx hb dX12_puts_12 rfl (lv_at hl 0 rfl) ?_
  refine mg_length hx hb hts hin hown k_length hI dX12_puts_13 ?_
  refine lv_aload_n hx hb dX12_puts_16 rfl (lv_at hl 0 rfl) ?_
  refine mg_text hx hb hts hin hown k_text hI dX12_puts_17 ?_
  obtain ⟨k1, hf⟩ := chk_b hf
  refine ml_length hx hb hI k1 dX12_puts_20 ?_
  refine lv_iadd hx hb dX12_puts_21 ?_
  refine lv_iload_n hx hb dX12_puts_22 rfl (lv_at hl 1 rfl) ?_
  refine lv_bipush (v := 16) hx hb dX12_puts_23 (by decide) ?_
  refine lv_iload_n hx hb dX12_puts_25 rfl (lv_at hl 2 rfl) ?_
  refine lv_imul hx hb dX12_puts_26 ?_
  refine lv_iadd hx hb dX12_puts_27 ?_
  obtain ⟨k2, hf⟩ := chk_b hf
  refine ms_sign hx hb hI k2 dX12_puts_28 (fun H locs hI => ?_)
  refine lv_aload_n hx hb dX12_puts_29 rfl (lv_at hl 0 rfl) ?_
  refine mg_length hx hb hts hin hown k_length hI dX12_puts_30 ?_
  refine lv_aload_n hx hb dX12_puts_33 rfl (lv_at hl 0 rfl) ?_
  refine mg_text hx hb hts hin hown k_text hI dX12_puts_34 ?_
  refine lv_dup2_11 hx hb dX12_puts_37 rfl rfl ?_
  obtain ⟨k3, hf⟩ := chk_b hf
  refine ml_length hx hb hI k3 dX12_puts_38 ?_
  refine lv_iconst (v := 1) hx hb dX12_puts_39 (by decide) ?_
  refine lv_iadd hx hb dX12_puts_40 ?_
  obtain ⟨k4, hf⟩ := chk_b hf
  refine ms_length hx hb hI k4 dX12_puts_41 (fun H locs hI => ?_)
  exact mret_v hx hb hr hlocks hI (ret_e hK0 hf) dX12_puts_42

noncomputable def fm_makes (a1 : Int32) (s0 : MSt) : Option (MSt × Int32) :=
  (if (s0.1 18) = (60 : Int32) then (fm_fails (3 : Int32) a1 s0).bind fun x2 => chk (isb x2.2) (some (x2.1, x2.2)) else some (msi s0 18 ((s0.1 18) + (1 : Int32)), (1 : Int32)))
theorem nd_makes : yX12_makes.cls ≠ "java/lang/invoke/MethodHandle" ∧ yX12_makes.cls ≠ "java/lang/invoke/VarHandle" ∧ (parseMethodDescriptor yX12_makes.desc).map (fun d => d.parameters.length) = some 1 := by decide +kernel
set_option maxHeartbeats 4000000 in
set_option maxRecDepth 100000 in
theorem cm_makes (l : Launch) (D : va_G) (h : Nat) (ad : Nat → Nat) (cy : Nat → ClassId) (a1 : Int32) (s0 : MSt) (out : MSt × Int32) (hf : fm_makes a1 s0 = some out) (sz : Nat) : CMi l D h ad cy yX12_makes wsX12_makes { frames := 1, cells := 0, slots := 0, locals := 22 } [.int a1] s0 out sz := by
  refine Met.ofW (cc := cX12_makes) (maxL := 2) (ret := (some .boolean)) (by decide) rfl ?_
  intro p e s m args below meth c s₁ B hml hv
  obtain ⟨rfl, hsz, hP, hK, hD0⟩ := hv
  have hx := B.exec
  have hb := B.bytes
  have hr := B.returns
  have hts := atoms_spec (ws := wsX12_makes) B.pre
  have hown : s.vm.findClass RX12 = some m.cls := findClass_of_methodNamed B.named
  have hlocks := B.notSynchronized
  subst hsz
  have hI : MI D (MA h ad cy s0 s.heap.size) h ad cy s s.heap s0 s.heap [] := ⟨hK, hP, hD0.self, va_S.rf⟩
  have hA : ∀ q : Nat, s.heap.size ≤ q → MA h ad cy s0 s.heap.size q := fun q hq => Or.inr hq
  have hin : ∀ w ∈ u_ws RX12 TX12 42, w ∈ wsX12_makes := fun w hw => List.mem_cons_of_mem _ (List.mem_append_right _ hw)
  have k_made : Cond.fieldLink RX12 156 "HalfBridgeModel" "made" "I" ∈ wsX12_makes := by decide +kernel
  have hl := lv_entry ([.ref h, .int a1]) (n := 2) (Nat.le_of_ble_eq_true rfl)
  rw [lg_entry_eq]
  generalize (lg_sl ([.ref h, .int a1]) ++ List.replicate (2 - (lg_sl ([.ref h, .int a1])).length) Slot.unset).toArray = ls at hl ⊢
  have hl : lv_has ls 2 [(0, .ref h), (1, .int a1)] := hl
  obtain ⟨K0, hK0, hf⟩ := top_e hf
  unfold fm_makes at hf
  refine lv_aload_n hx hb dX12_makes_0 rfl (lv_at hl 0 rfl) ?_
  refine mg_made hx hb hts hin hown k_made hI dX12_makes_1 ?_
  refine lv_bipush (v := 60) hx hb dX12_makes_4 (by decide) ?_
  refine lv_icmp_ne (tgt := 16) hx hb dX12_makes_6 (by decide) (fun c1 => ?_) (fun c1 => ?_)
  · replace hf := ifn c1 hf
    refine lv_aload_n hx hb dX12_makes_16 rfl (lv_at hl 0 rfl) ?_
    refine lv_dup hx hb dX12_makes_17 rfl ?_
    refine mg_made hx hb hts hin hown k_made hI dX12_makes_18 ?_
    refine lv_iconst (v := 1) hx hb dX12_makes_21 (by decide) ?_
    refine lv_iadd hx hb dX12_makes_22 ?_
    refine mp_made hx hb hts hin hown k_made hI dX12_makes_23 (fun H locs hI => ?_)
    refine lv_iconst (v := 1) hx hb dX12_makes_26 (by decide) ?_
    exact mret_z hx hb hr (by decide) hlocks hI (ret_e hK0 hf) dX12_makes_27
  · replace hf := ifp c1 hf
    refine lv_aload_n hx hb dX12_makes_9 rfl (lv_at hl 0 rfl) ?_
    refine lv_iconst (v := 3) hx hb dX12_makes_10 (by decide) ?_
    refine lv_iload_n hx hb dX12_makes_11 rfl (lv_at hl 1 rfl) ?_
    obtain ⟨x2, hc3, hf⟩ := bnd_b hf
    refine mcall_i (As := [.int (3 : Int32), .int a1]) (rest := []) (n := 2) ⟨hx, hb, hml, hown, hts⟩ (cm_fails l D h ad cy (3 : Int32) a1 s0 x2 hc3 _) (cwV 2 hts gX12_makes_X12_fails rfl rfl rfl ⟨rfl, nd_fails⟩ ⟨Nat.le_of_ble_eq_true rfl, Nat.le_of_ble_eq_true rfl⟩) hI hA rfl hl.1 (Nat.le_of_ble_eq_true rfl) dX12_makes_12 ⟨Nat.zero_le _, Nat.zero_le _⟩ (fun H locs hI => ?_)
    obtain ⟨k4, hf⟩ := chk_b hf
    exact mret_z hx hb hr (isb_nar k4) hlocks hI (ret_e hK0 hf) dX12_makes_15
