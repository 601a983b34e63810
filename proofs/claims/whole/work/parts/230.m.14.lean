theorem nd_looks : yX12_looks.cls ≠ "java/lang/invoke/MethodHandle" ∧ yX12_looks.cls ≠ "java/lang/invoke/VarHandle" ∧ (parseMethodDescriptor yX12_looks.desc).map (fun d => d.parameters.length) = some 2 := by decide +kernel
set_option maxHeartbeats 4000000 in
set_option maxRecDepth 100000 in
theorem cm_looks (l : Launch) (D : va_G) (h : Nat) (ad : Nat → Nat) (cy : Nat → ClassId) (a1 : Int32) (a2 : Int32) (s0 : MSt) (out : MSt) (hf : fm_looks a1 a2 s0 = some out) (sz : Nat) : CMv l D h ad cy yX12_looks wsX12_looks { frames := 4, cells := 0, slots := 0, locals := 100 } [.int a1, .int a2] s0 out sz := by
  refine Met.ofW (cc := cX12_looks) (maxL := 4) (ret := none) (by decide) rfl ?_
  intro p e s m args below meth c s₁ B hml hv
  obtain ⟨rfl, hsz, hP, hK, hD0⟩ := hv
  have hx := B.exec
  have hb := B.bytes
  have hr := B.returns
  have hts := atoms_spec (ws := wsX12_looks) B.pre
  have hown : s.vm.findClass RX12 = some m.cls := findClass_of_methodNamed B.named
  have hlocks := B.notSynchronized
  subst hsz
  have hI : MI D (MA h ad cy s0 s.heap.size) h ad cy s s.heap s0 s.heap [] := ⟨hK, hP, hD0.self, va_S.rf⟩
  have hA : ∀ q : Nat, s.heap.size ≤ q → MA h ad cy s0 s.heap.size q := fun q hq => Or.inr hq
  have hin : ∀ w ∈ u_ws RX12 TX12 42, w ∈ wsX12_looks := fun w hw => List.mem_cons_of_mem _ (List.mem_append_right _ hw)
  have k_does : Cond.fieldLink RX12 51 "HalfBridgeModel" "does" "[I" ∈ wsX12_looks := by decide +kernel
  have k_riseBy : Cond.fieldLink RX12 57 "HalfBridgeModel" "riseBy" "[I" ∈ wsX12_looks := by decide +kernel
  have k_said : Cond.fieldLink RX12 45 "HalfBridgeModel" "said" "[I" ∈ wsX12_looks := by decide +kernel
  have k_turnBy : Cond.fieldLink RX12 54 "HalfBridgeModel" "turnBy" "[I" ∈ wsX12_looks := by decide +kernel
  have k_word : Cond.fieldLink RX12 42 "HalfBridgeModel" "word" "[J" ∈ wsX12_looks := by decide +kernel
  have hl := lv_entry ([.ref h, .int a1, .int a2]) (n := 4) (Nat.le_of_ble_eq_true rfl)
  rw [lg_entry_eq]
  generalize (lg_sl ([.ref h, .int a1, .int a2]) ++ List.replicate (4 - (lg_sl ([.ref h, .int a1, .int a2])).length) Slot.unset).toArray = ls at hl ⊢
  have hl : lv_has ls 4 [(0, .ref h), (1, .int a1), (2, .int a2)] := hl
  obtain ⟨K0, hK0, hf⟩ := top_e hf
  have B_154_0 : ∀ (v1 : Int32) (v2 : Int32) (t0 : Int64) (t1 : Int32) (st : MSt) (H : Heap) (locs : List Loc) (ls : Array Slot), MI D (MA h ad cy s0 s.heap.size) h ad cy s s.heap st H locs → lv_has ls 4 [(0, .ref h), (1, .int v1), (2, .int v2)] → (fm_looks_j154 v1 v2 t0 t1 st).bind K0 = some out → W p l e (headSpec wsX12_looks { frames := 4, cells := 0, slots := 0, locals := 100 }).room s m (([.ref h, .int a1, .int a2] : List Value).toArray) below meth c H locs 0 0 (MQ below (MQv D h ad cy s0 out s.heap.size) ([.ref h, .int a1, .int a2] : List Value).toArray s 0 0 (MA h ad cy s0 s.heap.size)) (F0 m 154 ls [.long t0, .int t1, .ref (ad 25)]) := by
    intro v1 v2 t0 t1 st H locs ls hI hl hf
    unfold fm_looks_j154 at hf
    obtain ⟨k28, hf⟩ := chk_b hf
    refine ms_word hx hb hI k28 dX12_looks_154 (fun H locs hI => ?_)
    refine lv_aload_n hx hb dX12_looks_155 rfl (lv_at hl 0 rfl) ?_
    refine lv_iload_n hx hb dX12_looks_156 rfl (lv_at hl 2 rfl) ?_
    refine lv_iconst (v := 3) hx hb dX12_looks_157 (by decide) ?_
    obtain ⟨x29, hc30, hf⟩ := bnd_b hf
    refine mcall_i (As := [.int v2, .int (3 : Int32)]) (rest := []) (n := 2) ⟨hx, hb, hml, hown, hts⟩ (cm_isAny l D h ad cy v2 (3 : Int32) (msl st 25 t1.toNatClampNeg t0) x29 hc30 _) (cwV 2 hts gX12_looks_X12_isAny rfl rfl rfl ⟨rfl, nd_isAny⟩ ⟨Nat.le_of_ble_eq_true rfl, Nat.le_of_ble_eq_true rfl⟩) hI hA rfl hl.1 (Nat.le_of_ble_eq_true rfl) dX12_looks_158 ⟨Nat.zero_le _, Nat.zero_le _⟩ (fun H locs hI => ?_)
    refine lv_if_eq (tgt := 174) hx hb dX12_looks_161 (by decide) (fun c31 => ?_) (fun c31 => ?_)
    · replace hf := ifp c31 hf
      refine lv_aload_n hx hb dX12_looks_174 rfl (lv_at hl 0 rfl) ?_
      refine lv_iload_n hx hb dX12_looks_175 rfl (lv_at hl 2 rfl) ?_
      refine lv_iconst (v := 2) hx hb dX12_looks_176 (by decide) ?_
      obtain ⟨x32, hc33, hf⟩ := bnd_b hf
      refine mcall_i (As := [.int v2, .int (2 : Int32)]) (rest := []) (n := 2) ⟨hx, hb, hml, hown, hts⟩ (cm_isAny l D h ad cy v2 (2 : Int32) x29.1 x32 hc33 _) (cwV 2 hts gX12_looks_X12_isAny rfl rfl rfl ⟨rfl, nd_isAny⟩ ⟨Nat.le_of_ble_eq_true rfl, Nat.le_of_ble_eq_true rfl⟩) hI hA rfl hl.1 (Nat.le_of_ble_eq_true rfl) dX12_looks_177 ⟨Nat.zero_le _, Nat.zero_le _⟩ (fun H locs hI => ?_)
      refine lv_if_eq (tgt := 193) hx hb dX12_looks_180 (by decide) (fun c34 => ?_) (fun c34 => ?_)
      · replace hf := ifp c34 hf
        refine lv_aload_n hx hb dX12_looks_193 rfl (lv_at hl 0 rfl) ?_
        refine mg_turnBy hx hb hts hin hown k_turnBy hI dX12_looks_194 ?_
        refine lv_iload_n hx hb dX12_looks_197 rfl (lv_at hl 1 rfl) ?_
        refine lv_aload_n hx hb dX12_looks_198 rfl (lv_at hl 0 rfl) ?_
        refine lv_iload_n hx hb dX12_looks_199 rfl (lv_at hl 2 rfl) ?_
        refine lv_iconst (v := 0) hx hb dX12_looks_200 (by decide) ?_
        obtain ⟨x35, hc36, hf⟩ := bnd_b hf
        refine mcall_i (As := [.int v2, .int (0 : Int32)]) (rest := [.int v1, .ref (ad 29)]) (n := 2) ⟨hx, hb, hml, hown, hts⟩ (cm_first l D h ad cy v2 (0 : Int32) x32.1 x35 hc36 _) (cwV 2 hts gX12_looks_X12_first rfl rfl rfl ⟨rfl, nd_first⟩ ⟨Nat.le_of_ble_eq_true rfl, Nat.le_of_ble_eq_true rfl⟩) hI hA rfl hl.1 (Nat.le_of_ble_eq_true rfl) dX12_looks_201 ⟨Nat.zero_le _, Nat.zero_le _⟩ (fun H locs hI => ?_)
        obtain ⟨k37, hf⟩ := chk_b hf
        refine ms_turnBy hx hb hI k37 dX12_looks_204 (fun H locs hI => ?_)
        refine lv_aload_n hx hb dX12_looks_205 rfl (lv_at hl 0 rfl) ?_
        refine mg_riseBy hx hb hts hin hown k_riseBy hI dX12_looks_206 ?_
        refine lv_iload_n hx hb dX12_looks_209 rfl (lv_at hl 1 rfl) ?_
        refine lv_aload_n hx hb dX12_looks_210 rfl (lv_at hl 0 rfl) ?_
        refine lv_iload_n hx hb dX12_looks_211 rfl (lv_at hl 2 rfl) ?_
        refine lv_iconst (v := 1) hx hb dX12_looks_212 (by decide) ?_
        obtain ⟨x38, hc39, hf⟩ := bnd_b hf
        refine mcall_i (As := [.int v2, .int (1 : Int32)]) (rest := [.int v1, .ref (ad 30)]) (n := 2) ⟨hx, hb, hml, hown, hts⟩ (cm_first l D h ad cy v2 (1 : Int32) (msa x35.1 29 v1.toNatClampNeg x35.2) x38 hc39 _) (cwV 2 hts gX12_looks_X12_first rfl rfl rfl ⟨rfl, nd_first⟩ ⟨Nat.le_of_ble_eq_true rfl, Nat.le_of_ble_eq_true rfl⟩) hI hA rfl hl.1 (Nat.le_of_ble_eq_true rfl) dX12_looks_213 ⟨Nat.zero_le _, Nat.zero_le _⟩ (fun H locs hI => ?_)
        obtain ⟨k40, hf⟩ := chk_b hf
        refine ms_riseBy hx hb hI k40 dX12_looks_216 (fun H locs hI => ?_)
        exact mret_v hx hb hr hlocks hI (ret_e hK0 hf) dX12_looks_217
      · replace hf := ifn c34 hf
        refine lv_aload_n hx hb dX12_looks_183 rfl (lv_at hl 0 rfl) ?_
        refine mg_does hx hb hts hin hown k_does hI dX12_looks_184 ?_
        refine lv_iload_n hx hb dX12_looks_187 rfl (lv_at hl 1 rfl) ?_
        refine lv_iconst (v := 1) hx hb dX12_looks_188 (by decide) ?_
        obtain ⟨k41, hf⟩ := chk_b hf
        refine ms_does hx hb hI k41 dX12_looks_189 (fun H locs hI => ?_)
        refine lv_goto (tgt := 217) hx hb dX12_looks_190 (by decide) ?_
        exact mret_v hx hb hr hlocks hI (ret_e hK0 hf) dX12_looks_217
    · replace hf := ifn c31 hf
      refine lv_aload_n hx hb dX12_looks_164 rfl (lv_at hl 0 rfl) ?_
      refine mg_does hx hb hts hin hown k_does hI dX12_looks_165 ?_
      refine lv_iload_n hx hb dX12_looks_168 rfl (lv_at hl 1 rfl) ?_
      refine lv_iconst (v := 2) hx hb dX12_looks_169 (by decide) ?_
      obtain ⟨k42, hf⟩ := chk_b hf
      refine ms_does hx hb hI k42 dX12_looks_170 (fun H locs hI => ?_)
      refine lv_goto (tgt := 217) hx hb dX12_looks_171 (by decide) ?_
      exact mret_v hx hb hr hlocks hI (ret_e hK0 hf) dX12_looks_217
  unfold fm_looks at hf
  refine lv_aload_n hx hb dX12_looks_0 rfl (lv_at hl 0 rfl) ?_
  refine mg_does hx hb hts hin hown k_does hI dX12_looks_1 ?_
  refine lv_iload_n hx hb dX12_looks_4 rfl (lv_at hl 1 rfl) ?_
  refine lv_iconst (v := 0) hx hb dX12_looks_5 (by decide) ?_
  obtain ⟨k1, hf⟩ := chk_b hf
  refine ms_does hx hb hI k1 dX12_looks_6 (fun H locs hI => ?_)
  refine lv_aload_n hx hb dX12_looks_7 rfl (lv_at hl 0 rfl) ?_
  refine mg_turnBy hx hb hts hin hown k_turnBy hI dX12_looks_8 ?_
  refine lv_iload_n hx hb dX12_looks_11 rfl (lv_at hl 1 rfl) ?_
  refine lv_iconst (v := 0) hx hb dX12_looks_12 (by decide) ?_
  obtain ⟨k2, hf⟩ := chk_b hf
  refine ms_turnBy hx hb hI k2 dX12_looks_13 (fun H locs hI => ?_)
  refine lv_aload_n hx hb dX12_looks_14 rfl (lv_at hl 0 rfl) ?_
  refine mg_riseBy hx hb hts hin hown k_riseBy hI dX12_looks_15 ?_
  refine lv_iload_n hx hb dX12_looks_18 rfl (lv_at hl 1 rfl) ?_
  refine lv_iconst (v := 0) hx hb dX12_looks_19 (by decide) ?_
  obtain ⟨k3, hf⟩ := chk_b hf
  refine ms_riseBy hx hb hI k3 dX12_looks_20 (fun H locs hI => ?_)
  refine lv_iload_n hx hb dX12_looks_21 rfl (lv_at hl 2 rfl) ?_
  refine lv_if_ge (tgt := 26) hx hb dX12_looks_22 (by decide) (fun c4 => ?_) (fun c4 => ?_)
  · replace hf := ifp c4 hf
    refine lv_aload_n hx hb dX12_looks_26 rfl (lv_at hl 0 rfl) ?_
    refine mg_said hx hb hts hin hown k_said hI dX12_looks_27 ?_
    refine lv_bipush (v := 6) hx hb dX12_looks_30 (by decide) ?_
    refine lv_iload_n hx hb dX12_looks_32 rfl (lv_at hl 1 rfl) ?_
    refine lv_iadd hx hb dX12_looks_33 ?_
    obtain ⟨k5, hf⟩ := chk_b hf
    refine ml_said hx hb hI k5 dX12_looks_34 ?_
    refine lv_istore_n (lv' := [(3, .int ((msa (msa (msa s0 28 a1.toNatClampNeg (0 : Int32)) 29 a1.toNatClampNeg (0 : Int32)) 30 a1.toNatClampNeg (0 : Int32)).2.1 26 ((6 : Int32) + a1).toNatClampNeg)), (0, .ref h), (1, .int a1), (2, .int a2)]) hx hb dX12_looks_35 rfl hl (by decide) rfl (fun ls hl => ?_)
    refine lv_aload_n hx hb dX12_looks_36 rfl (lv_at hl 1 rfl) ?_
    refine mg_word hx hb hts hin hown k_word hI dX12_looks_37 ?_
    refine lv_iconst (v := 0) hx hb dX12_looks_40 (by decide) ?_
    refine lv_iload_n hx hb dX12_looks_41 rfl (lv_at hl 2 rfl) ?_
    refine lv_i2l (v := (a1.toInt64)) hx hb dX12_looks_42 rfl ?_
    obtain ⟨k6, hf⟩ := chk_b hf
    refine ms_word hx hb hI k6 dX12_looks_43 (fun H locs hI => ?_)
    refine lv_aload_n hx hb dX12_looks_44 rfl (lv_at hl 1 rfl) ?_
    refine mg_word hx hb hts hin hown k_word hI dX12_looks_45 ?_
    refine lv_iconst (v := 1) hx hb dX12_looks_48 (by decide) ?_
    refine lv_aload_n hx hb dX12_looks_49 rfl (lv_at hl 1 rfl) ?_
    refine lv_iload_n hx hb dX12_looks_50 rfl (lv_at hl 2 rfl) ?_
    refine lv_iconst (v := 0) hx hb dX12_looks_51 (by decide) ?_
    obtain ⟨x7, hc8, hf⟩ := bnd_b hf
    refine mcall_i (As := [.int a1, .int (0 : Int32)]) (rest := [.int (1 : Int32), .ref (ad 25)]) (n := 2) ⟨hx, hb, hml, hown, hts⟩ (cm_tipOf l D h ad cy a1 (0 : Int32) (msl (msa (msa (msa s0 28 a1.toNatClampNeg (0 : Int32)) 29 a1.toNatClampNeg (0 : Int32)) 30 a1.toNatClampNeg (0 : Int32)) 25 (0 : Int32).toNatClampNeg (a1.toInt64)) x7 hc8 _) (cwV 2 hts gX12_looks_X12_tipOf rfl rfl rfl ⟨rfl, nd_tipOf⟩ ⟨Nat.le_of_ble_eq_true rfl, Nat.le_of_ble_eq_true rfl⟩) hI hA rfl hl.1 (Nat.le_of_ble_eq_true rfl) dX12_looks_52 ⟨Nat.zero_le _, Nat.zero_le _⟩ (fun H locs hI => ?_)
    refine lv_i2l (v := (x7.2.toInt64)) hx hb dX12_looks_55 rfl ?_
    obtain ⟨k9, hf⟩ := chk_b hf
    refine ms_word hx hb hI k9 dX12_looks_56 (fun H locs hI => ?_)
    refine lv_aload_n hx hb dX12_looks_57 rfl (lv_at hl 1 rfl) ?_
    refine mg_word hx hb hts hin hown k_word hI dX12_looks_58 ?_
    refine lv_iconst (v := 2) hx hb dX12_looks_61 (by decide) ?_
    refine lv_aload_n hx hb dX12_looks_62 rfl (lv_at hl 1 rfl) ?_
    refine lv_iload_n hx hb dX12_looks_63 rfl (lv_at hl 2 rfl) ?_
    refine lv_iconst (v := 1) hx hb dX12_looks_64 (by decide) ?_
    obtain ⟨x10, hc11, hf⟩ := bnd_b hf
    refine mcall_i (As := [.int a1, .int (1 : Int32)]) (rest := [.int (2 : Int32), .ref (ad 25)]) (n := 2) ⟨hx, hb, hml, hown, hts⟩ (cm_tipOf l D h ad cy a1 (1 : Int32) (msl x7.1 25 (1 : Int32).toNatClampNeg (x7.2.toInt64)) x10 hc11 _) (cwV 2 hts gX12_looks_X12_tipOf rfl rfl rfl ⟨rfl, nd_tipOf⟩ ⟨Nat.le_of_ble_eq_true rfl, Nat.le_of_ble_eq_true rfl⟩) hI hA rfl hl.1 (Nat.le_of_ble_eq_true rfl) dX12_looks_65 ⟨Nat.zero_le _, Nat.zero_le _⟩ (fun H locs hI => ?_)
    refine lv_i2l (v := (x10.2.toInt64)) hx hb dX12_looks_68 rfl ?_
    obtain ⟨k12, hf⟩ := chk_b hf
    refine ms_word hx hb hI k12 dX12_looks_69 (fun H locs hI => ?_)
    refine lv_aload_n hx hb dX12_looks_70 rfl (lv_at hl 1 rfl) ?_
    refine mg_word hx hb hts hin hown k_word hI dX12_looks_71 ?_
    refine lv_iconst (v := 3) hx hb dX12_looks_74 (by decide) ?_
    refine lv_aload_n hx hb dX12_looks_75 rfl (lv_at hl 1 rfl) ?_
    refine lv_iload_n hx hb dX12_looks_76 rfl (lv_at hl 2 rfl) ?_
    refine lv_iconst (v := 0) hx hb dX12_looks_77 (by decide) ?_
    obtain ⟨x13, hc14, hf⟩ := bnd_b hf
    refine mcall_i (As := [.int a1, .int (0 : Int32)]) (rest := [.int (3 : Int32), .ref (ad 25)]) (n := 2) ⟨hx, hb, hml, hown, hts⟩ (cm_seen l D h ad cy a1 (0 : Int32) (msl x10.1 25 (2 : Int32).toNatClampNeg (x10.2.toInt64)) x13 hc14 _) (cwV 2 hts gX12_looks_X12_seen rfl rfl rfl ⟨rfl, nd_seen⟩ ⟨Nat.le_of_ble_eq_true rfl, Nat.le_of_ble_eq_true rfl⟩) hI hA rfl hl.1 (Nat.le_of_ble_eq_true rfl) dX12_looks_78 ⟨Nat.zero_le _, Nat.zero_le _⟩ (fun H locs hI => ?_)
    refine lv_i2l (v := (x13.2.toInt64)) hx hb dX12_looks_81 rfl ?_
    obtain ⟨k15, hf⟩ := chk_b hf
    refine ms_word hx hb hI k15 dX12_looks_82 (fun H locs hI => ?_)
    refine lv_aload_n hx hb dX12_looks_83 rfl (lv_at hl 1 rfl) ?_
    refine mg_word hx hb hts hin hown k_word hI dX12_looks_84 ?_
    refine lv_iconst (v := 4) hx hb dX12_looks_87 (by decide) ?_
    refine lv_aload_n hx hb dX12_looks_88 rfl (lv_at hl 1 rfl) ?_
    refine lv_iload_n hx hb dX12_looks_89 rfl (lv_at hl 2 rfl) ?_
    refine lv_iconst (v := 1) hx hb dX12_looks_90 (by decide) ?_
    obtain ⟨x16, hc17, hf⟩ := bnd_b hf
    refine mcall_i (As := [.int a1, .int (1 : Int32)]) (rest := [.int (4 : Int32), .ref (ad 25)]) (n := 2) ⟨hx, hb, hml, hown, hts⟩ (cm_seen l D h ad cy a1 (1 : Int32) (msl x13.1 25 (3 : Int32).toNatClampNeg (x13.2.toInt64)) x16 hc17 _) (cwV 2 hts gX12_looks_X12_seen rfl rfl rfl ⟨rfl, nd_seen⟩ ⟨Nat.le_of_ble_eq_true rfl, Nat.le_of_ble_eq_true rfl⟩) hI hA rfl hl.1 (Nat.le_of_ble_eq_true rfl) dX12_looks_91 ⟨Nat.zero_le _, Nat.zero_le _⟩ (fun H locs hI => ?_)
    refine lv_i2l (v := (x16.2.toInt64)) hx hb dX12_looks_94 rfl ?_
    obtain ⟨k18, hf⟩ := chk_b hf
    refine ms_word hx hb hI k18 dX12_looks_95 (fun H locs hI => ?_)
    refine lv_aload_n hx hb dX12_looks_96 rfl (lv_at hl 1 rfl) ?_
    refine mg_word hx hb hts hin hown k_word hI dX12_looks_97 ?_
    refine lv_iconst (v := 5) hx hb dX12_looks_100 (by decide) ?_
    refine lv_aload_n hx hb dX12_looks_101 rfl (lv_at hl 1 rfl) ?_
    obtain ⟨x19, hc20, hf⟩ := bnd_b hf
    refine mcall_i (As := []) (rest := [.int (5 : Int32), .ref (ad 25)]) (n := 0) ⟨hx, hb, hml, hown, hts⟩ (cm_gap l D h ad cy  (msl x16.1 25 (4 : Int32).toNatClampNeg (x16.2.toInt64)) x19 hc20 _) (cwV 0 hts gX12_looks_X12_gap rfl rfl rfl ⟨rfl, nd_gap⟩ ⟨Nat.le_of_ble_eq_true rfl, Nat.le_of_ble_eq_true rfl⟩) hI hA rfl hl.1 (Nat.le_of_ble_eq_true rfl) dX12_looks_102 ⟨Nat.zero_le _, Nat.zero_le _⟩ (fun H locs hI => ?_)
    refine lv_i2l (v := (x19.2.toInt64)) hx hb dX12_looks_105 rfl ?_
    obtain ⟨k21, hf⟩ := chk_b hf
    refine ms_word hx hb hI k21 dX12_looks_106 (fun H locs hI => ?_)
    refine lv_aload_n hx hb dX12_looks_107 rfl (lv_at hl 1 rfl) ?_
    refine mg_word hx hb hts hin hown k_word hI dX12_looks_108 ?_
    refine lv_bipush (v := 6) hx hb dX12_looks_111 (by decide) ?_
    refine lv_aload_n hx hb dX12_looks_113 rfl (lv_at hl 1 rfl) ?_
    refine mg_said hx hb hts hin hown k_said hI dX12_looks_114 ?_
    refine lv_iconst (v := 1) hx hb dX12_looks_117 (by decide) ?_
    obtain ⟨k22, hf⟩ := chk_b hf
    refine ml_said hx hb hI k22 dX12_looks_118 ?_
    refine lv_i2l (v := (((msl x19.1 25 (5 : Int32).toNatClampNeg (x19.2.toInt64)).2.1 26 (1 : Int32).toNatClampNeg).toInt64)) hx hb dX12_looks_119 rfl ?_
    obtain ⟨k23, hf⟩ := chk_b hf
    refine ms_word hx hb hI k23 dX12_looks_120 (fun H locs hI => ?_)
    refine lv_aload_n hx hb dX12_looks_121 rfl (lv_at hl 1 rfl) ?_
    refine mg_word hx hb hts hin hown k_word hI dX12_looks_122 ?_
    refine lv_bipush (v := 7) hx hb dX12_looks_125 (by decide) ?_
    refine lv_iload_n hx hb dX12_looks_127 rfl (lv_at hl 0 rfl) ?_
    refine lv_i2l (v := (((msa (msa (msa s0 28 a1.toNatClampNeg (0 : Int32)) 29 a1.toNatClampNeg (0 : Int32)) 30 a1.toNatClampNeg (0 : Int32)).2.1 26 ((6 : Int32) + a1).toNatClampNeg).toInt64)) hx hb dX12_looks_128 rfl ?_
    obtain ⟨k24, hf⟩ := chk_b hf
    refine ms_word hx hb hI k24 dX12_looks_129 (fun H locs hI => ?_)
    refine lv_aload_n hx hb dX12_looks_130 rfl (lv_at hl 1 rfl) ?_
    refine mg_word hx hb hts hin hown k_word hI dX12_looks_131 ?_
    refine lv_bipush (v := 8) hx hb dX12_looks_134 (by decide) ?_
    refine lv_iload_n hx hb dX12_looks_136 rfl (lv_at hl 0 rfl) ?_
    refine lv_if_ne (tgt := 144) hx hb dX12_looks_137 (by decide) (fun c25 => ?_) (fun c25 => ?_)
    · replace hf := ifn c25 hf
      refine lv_aload_n hx hb dX12_looks_144 rfl (lv_at hl 1 rfl) ?_
      refine lv_iload_n hx hb dX12_looks_145 rfl (lv_at hl 2 rfl) ?_
      refine lv_iload_n hx hb dX12_looks_146 rfl (lv_at hl 0 rfl) ?_
      refine lv_iconst (v := 1) hx hb dX12_looks_147 (by decide) ?_
      refine lv_isub hx hb dX12_looks_148 ?_
      refine lv_iconst (v := 0) hx hb dX12_looks_149 (by decide) ?_
      obtain ⟨x26, hc27, hf⟩ := bnd_b hf
      refine mcall_i (As := [.int a1, .int (((msa (msa (msa s0 28 a1.toNatClampNeg (0 : Int32)) 29 a1.toNatClampNeg (0 : Int32)) 30 a1.toNatClampNeg (0 : Int32)).2.1 26 ((6 : Int32) + a1).toNatClampNeg) - (1 : Int32)), .int (0 : Int32)]) (rest := [.int (8 : Int32), .ref (ad 25)]) (n := 3) ⟨hx, hb, hml, hown, hts⟩ (cm_moreOf l D h ad cy a1 (((msa (msa (msa s0 28 a1.toNatClampNeg (0 : Int32)) 29 a1.toNatClampNeg (0 : Int32)) 30 a1.toNatClampNeg (0 : Int32)).2.1 26 ((6 : Int32) + a1).toNatClampNeg) - (1 : Int32)) (0 : Int32) (msl (msl (msl x19.1 25 (5 : Int32).toNatClampNeg (x19.2.toInt64)) 25 (6 : Int32).toNatClampNeg (((msl x19.1 25 (5 : Int32).toNatClampNeg (x19.2.toInt64)).2.1 26 (1 : Int32).toNatClampNeg).toInt64)) 25 (7 : Int32).toNatClampNeg (((msa (msa (msa s0 28 a1.toNatClampNeg (0 : Int32)) 29 a1.toNatClampNeg (0 : Int32)) 30 a1.toNatClampNeg (0 : Int32)).2.1 26 ((6 : Int32) + a1).toNatClampNeg).toInt64)) x26 hc27 _) (cwV 3 hts gX12_looks_X12_moreOf rfl rfl rfl ⟨rfl, nd_moreOf⟩ ⟨Nat.le_of_ble_eq_true rfl, Nat.le_of_ble_eq_true rfl⟩) hI hA rfl hl.1 (Nat.le_of_ble_eq_true rfl) dX12_looks_150 ⟨Nat.zero_le _, Nat.zero_le _⟩ (fun H locs hI => ?_)
      refine lv_i2l (v := (x26.2.toInt64)) hx hb dX12_looks_153 rfl ?_
      exact B_154_0 a1 a2 (x26.2.toInt64) (8 : Int32) x26.1 H locs ls hI (lv_sub hl [1, 2, 3] rfl) hf
    · replace hf := ifp c25 hf
      refine lv_lconst (v := 0) hx hb dX12_looks_140 (by decide) ?_
      refine lv_goto (tgt := 154) hx hb dX12_looks_141 (by decide) ?_
      exact B_154_0 a1 a2 (0 : Int64) (8 : Int32) (msl (msl (msl x19.1 25 (5 : Int32).toNatClampNeg (x19.2.toInt64)) 25 (6 : Int32).toNatClampNeg (((msl x19.1 25 (5 : Int32).toNatClampNeg (x19.2.toInt64)).2.1 26 (1 : Int32).toNatClampNeg).toInt64)) 25 (7 : Int32).toNatClampNeg (((msa (msa (msa s0 28 a1.toNatClampNeg (0 : Int32)) 29 a1.toNatClampNeg (0 : Int32)) 30 a1.toNatClampNeg (0 : Int32)).2.1 26 ((6 : Int32) + a1).toNatClampNeg).toInt64)) H locs ls hI (lv_sub hl [1, 2, 3] rfl) hf
  · replace hf := ifn c4 hf
    exact mret_v hx hb hr hlocks hI (ret_e hK0 hf) dX12_looks_25

theorem nd_acts : yX12_acts.cls ≠ "java/lang/invoke/MethodHandle" ∧ yX12_acts.cls ≠ "java/lang/invoke/VarHandle" ∧ (parseMethodDescriptor yX12_acts.desc).map (fun d => d.parameters.length) = some 1 := by decide +kernel
set_option maxHeartbeats 4000000 in
set_option maxRecDepth 100000 in
theorem cm_acts (l : Launch) (D : va_G) (h : Nat) (ad : Nat → Nat) (cy : Nat → ClassId) (a1 : Int32) (s0 : MSt) (out : MSt) (hf : fm_acts a1 s0 = some out) (sz : Nat) : CMv l D h ad cy yX12_acts wsX12_acts { frames := 3, cells := 0, slots := 0, locals := 71 } [.int a1] s0 out sz := by
  refine Met.ofW (cc := cX12_acts) (maxL := 2) (ret := none) (by decide) rfl ?_
  intro p e s m args below meth c s₁ B hml hv
  obtain ⟨rfl, hsz, hP, hK, hD0⟩ := hv
  have hx := B.exec
  have hb := B.bytes
  have hr := B.returns
  have hts := atoms_spec (ws := wsX12_acts) B.pre
  have hown : s.vm.findClass RX12 = some m.cls := findClass_of_methodNamed B.named
  have hlocks := B.notSynchronized
  subst hsz
  have hI : MI D (MA h ad cy s0 s.heap.size) h ad cy s s.heap s0 s.heap [] := ⟨hK, hP, hD0.self, va_S.rf⟩
  have hA : ∀ q : Nat, s.heap.size ≤ q → MA h ad cy s0 s.heap.size q := fun q hq => Or.inr hq
  have hin : ∀ w ∈ u_ws RX12 TX12 42, w ∈ wsX12_acts := fun w hw => List.mem_cons_of_mem _ (List.mem_append_right _ hw)
  have k_does : Cond.fieldLink RX12 51 "HalfBridgeModel" "does" "[I" ∈ wsX12_acts := by decide +kernel
  have k_riseBy : Cond.fieldLink RX12 57 "HalfBridgeModel" "riseBy" "[I" ∈ wsX12_acts := by decide +kernel
  have k_turnBy : Cond.fieldLink RX12 54 "HalfBridgeModel" "turnBy" "[I" ∈ wsX12_acts := by decide +kernel
  have hl := lv_entry ([.ref h, .int a1]) (n := 2) (Nat.le_of_ble_eq_true rfl)
  rw [lg_entry_eq]
  generalize (lg_sl ([.ref h, .int a1]) ++ List.replicate (2 - (lg_sl ([.ref h, .int a1])).length) Slot.unset).toArray = ls at hl ⊢
  have hl : lv_has ls 2 [(0, .ref h), (1, .int a1)] := hl
  obtain ⟨K0, hK0, hf⟩ := top_e hf
  unfold fm_acts at hf
  refine lv_aload_n hx hb dX12_acts_0 rfl (lv_at hl 0 rfl) ?_
  refine mg_does hx hb hts hin hown k_does hI dX12_acts_1 ?_
  refine lv_iload_n hx hb dX12_acts_4 rfl (lv_at hl 1 rfl) ?_
  obtain ⟨k1, hf⟩ := chk_b hf
  refine ml_does hx hb hI k1 dX12_acts_5 ?_
  refine lv_iconst (v := 2) hx hb dX12_acts_6 (by decide) ?_
  refine lv_icmp_ne (tgt := 19) hx hb dX12_acts_7 (by decide) (fun c2 => ?_) (fun c2 => ?_)
  · replace hf := ifn c2 hf
    refine lv_aload_n hx hb dX12_acts_19 rfl (lv_at hl 0 rfl) ?_
    refine mg_does hx hb hts hin hown k_does hI dX12_acts_20 ?_
    refine lv_iload_n hx hb dX12_acts_23 rfl (lv_at hl 1 rfl) ?_
    obtain ⟨k3, hf⟩ := chk_b hf
    refine ml_does hx hb hI k3 dX12_acts_24 ?_
    refine lv_if_ne (tgt := 52) hx hb dX12_acts_25 (by decide) (fun c4 => ?_) (fun c4 => ?_)
    · replace hf := ifn c4 hf
      exact mret_v hx hb hr hlocks hI (ret_e hK0 hf) dX12_acts_52
    · replace hf := ifp c4 hf
      refine lv_aload_n hx hb dX12_acts_28 rfl (lv_at hl 0 rfl) ?_
      obtain ⟨x5, hc6, hf⟩ := bnd_b hf
      refine mcall_i (As := []) (rest := []) (n := 0) ⟨hx, hb, hml, hown, hts⟩ (cm_gap l D h ad cy  s0 x5 hc6 _) (cwV 0 hts gX12_acts_X12_gap rfl rfl rfl ⟨rfl, nd_gap⟩ ⟨Nat.le_of_ble_eq_true rfl, Nat.le_of_ble_eq_true rfl⟩) hI hA rfl hl.1 (Nat.le_of_ble_eq_true rfl) dX12_acts_29 ⟨Nat.zero_le _, Nat.zero_le _⟩ (fun H locs hI => ?_)
      refine lv_if_le (tgt := 52) hx hb dX12_acts_32 (by decide) (fun c7 => ?_) (fun c7 => ?_)
      · replace hf := ifp c7 hf
        exact mret_v hx hb hr hlocks hI (ret_e hK0 hf) dX12_acts_52
      · replace hf := ifn c7 hf
        refine lv_aload_n hx hb dX12_acts_35 rfl (lv_at hl 0 rfl) ?_
        refine lv_iload_n hx hb dX12_acts_36 rfl (lv_at hl 1 rfl) ?_
        refine lv_aload_n hx hb dX12_acts_37 rfl (lv_at hl 0 rfl) ?_
        refine mg_turnBy hx hb hts hin hown k_turnBy hI dX12_acts_38 ?_
        refine lv_iload_n hx hb dX12_acts_41 rfl (lv_at hl 1 rfl) ?_
        obtain ⟨k8, hf⟩ := chk_b hf
        refine ml_turnBy hx hb hI k8 dX12_acts_42 ?_
        refine lv_aload_n hx hb dX12_acts_43 rfl (lv_at hl 0 rfl) ?_
        refine mg_riseBy hx hb hts hin hown k_riseBy hI dX12_acts_44 ?_
        refine lv_iload_n hx hb dX12_acts_47 rfl (lv_at hl 1 rfl) ?_
        obtain ⟨k9, hf⟩ := chk_b hf
        refine ml_riseBy hx hb hI k9 dX12_acts_48 ?_
        obtain ⟨x10, hc11, hf⟩ := bnd_b hf
        refine mcall_v (As := [.int a1, .int (x5.1.2.1 29 a1.toNatClampNeg), .int (x5.1.2.1 30 a1.toNatClampNeg)]) (rest := []) (n := 3) ⟨hx, hb, hml, hown, hts⟩ (cm_builds l D h ad cy a1 (x5.1.2.1 29 a1.toNatClampNeg) (x5.1.2.1 30 a1.toNatClampNeg) x5.1 x10 hc11 _) (cwV 3 hts gX12_acts_X12_builds rfl rfl rfl ⟨rfl, nd_builds⟩ ⟨Nat.le_of_ble_eq_true rfl, Nat.le_of_ble_eq_true rfl⟩) hI hA rfl hl.1 (Nat.le_of_ble_eq_true rfl) dX12_acts_49 ⟨Nat.zero_le _, Nat.zero_le _⟩ (fun H locs hI => ?_)
        exact mret_v hx hb hr hlocks hI (ret_e hK0 hf) dX12_acts_52
  · replace hf := ifp c2 hf
    refine lv_aload_n hx hb dX12_acts_10 rfl (lv_at hl 0 rfl) ?_
    refine lv_iload_n hx hb dX12_acts_11 rfl (lv_at hl 1 rfl) ?_
    refine lv_iconst (v := 1) hx hb dX12_acts_12 (by decide) ?_
    obtain ⟨x12, hc13, hf⟩ := bnd_b hf
    refine mcall_v (As := [.int a1, .int (1 : Int32)]) (rest := []) (n := 2) ⟨hx, hb, hml, hown, hts⟩ (cm_takesYards l D h ad cy a1 (1 : Int32) s0 x12 hc13 _) (cwV 2 hts gX12_acts_X12_takesYards rfl rfl rfl ⟨rfl, nd_takesYards⟩ ⟨Nat.le_of_ble_eq_true rfl, Nat.le_of_ble_eq_true rfl⟩) hI hA rfl hl.1 (Nat.le_of_ble_eq_true rfl) dX12_acts_13 ⟨Nat.zero_le _, Nat.zero_le _⟩ (fun H locs hI => ?_)
    refine lv_goto (tgt := 52) hx hb dX12_acts_16 (by decide) ?_
    exact mret_v hx hb hr hlocks hI (ret_e hK0 hf) dX12_acts_52

theorem nd_floods : yX12_floods.cls ≠ "java/lang/invoke/MethodHandle" ∧ yX12_floods.cls ≠ "java/lang/invoke/VarHandle" ∧ (parseMethodDescriptor yX12_floods.desc).map (fun d => d.parameters.length) = some 0 := by decide +kernel
set_option maxHeartbeats 4000000 in
set_option maxRecDepth 100000 in
theorem cm_floods (l : Launch) (D : va_G) (h : Nat) (ad : Nat → Nat) (cy : Nat → ClassId)  (s0 : MSt) (out : MSt) (hf : fm_floods s0 = some out) (sz : Nat) : CMv l D h ad cy yX12_floods wsX12_floods { frames := 2, cells := 0, slots := 0, locals := 43 } [] s0 out sz := by
  refine Met.ofW (cc := cX12_floods) (maxL := 3) (ret := none) (by decide) rfl ?_
  intro p e s m args below meth c s₁ B hml hv
  obtain ⟨rfl, hsz, hP, hK, hD0⟩ := hv
  have hx := B.exec
  have hb := B.bytes
  have hr := B.returns
  have hts := atoms_spec (ws := wsX12_floods) B.pre
  have hown : s.vm.findClass RX12 = some m.cls := findClass_of_methodNamed B.named
  have hlocks := B.notSynchronized
  subst hsz
  have hI : MI D (MA h ad cy s0 s.heap.size) h ad cy s s.heap s0 s.heap [] := ⟨hK, hP, hD0.self, va_S.rf⟩
  have hA : ∀ q : Nat, s.heap.size ≤ q → MA h ad cy s0 s.heap.size q := fun q hq => Or.inr hq
  have hin : ∀ w ∈ u_ws RX12 TX12 42, w ∈ wsX12_floods := fun w hw => List.mem_cons_of_mem _ (List.mem_append_right _ hw)
  have k_said : Cond.fieldLink RX12 45 "HalfBridgeModel" "said" "[I" ∈ wsX12_floods := by decide +kernel
  have hl := lv_entry ([.ref h]) (n := 3) (Nat.le_of_ble_eq_true rfl)
  rw [lg_entry_eq]
  generalize (lg_sl ([.ref h]) ++ List.replicate (3 - (lg_sl ([.ref h])).length) Slot.unset).toArray = ls at hl ⊢
  have hl : lv_has ls 3 [(0, .ref h)] := hl
  obtain ⟨K0, hK0, hf⟩ := top_e hf
  have B_72 : ∀   (st : MSt) (H : Heap) (locs : List Loc) (ls : Array Slot), MI D (MA h ad cy s0 s.heap.size) h ad cy s s.heap st H locs → lv_has ls 3 [] → (fm_floods_j72 st).bind K0 = some out → W p l e (headSpec wsX12_floods { frames := 2, cells := 0, slots := 0, locals := 43 }).room s m (([.ref h] : List Value).toArray) below meth c H locs 0 0 (MQ below (MQv D h ad cy s0 out s.heap.size) ([.ref h] : List Value).toArray s 0 0 (MA h ad cy s0 s.heap.size)) (F0 m 72 ls []) := by
    intro st H locs ls hI hl hf
    unfold fm_floods_j72 at hf
    exact mret_v hx hb hr hlocks hI (ret_e hK0 hf) dX12_floods_72
  have L_2 : ∀  (n : Nat) (v1 : Int32) (st : MSt) (H : Heap) (locs : List Loc) (ls : Array Slot), MI D (MA h ad cy s0 s.heap.size) h ad cy s s.heap st H locs → lv_has ls 3 [(0, .ref h), (1, .int v1)] → (iter (fun x : (Int32 × MSt) => fm_floods_s2 x.1 x.2) n (v1, st)).bind (fun x => ((Sum.elim (fun o : MSt => (some o : Option (MSt))) (fun x : (Int32 × MSt) => fm_floods_j72 x.2)) x).bind K0) = some out → W p l e (headSpec wsX12_floods { frames := 2, cells := 0, slots := 0, locals := 43 }).room s m (([.ref h] : List Value).toArray) below meth c H locs 0 0 (MQ below (MQv D h ad cy s0 out s.heap.size) ([.ref h] : List Value).toArray s 0 0 (MA h ad cy s0 s.heap.size)) (F0 m 2 ls []) := by
    intro n
    induction n with
    | zero => intro v1 st H locs ls hI hl hf; exact (iter_0 hf).elim
    | succ n ih =>
      intro v1 st H locs ls hI hl hf
      obtain ⟨K1, hK1, hf⟩ := iter_e hf
      replace hf : (fm_floods_s2 v1 st).bind K1 = some out := hf
      have B_2_66 : ∀ (v1 : Int32)  (st : MSt) (H : Heap) (locs : List Loc) (ls : Array Slot), MI D (MA h ad cy s0 s.heap.size) h ad cy s s.heap st H locs → lv_has ls 3 [(0, .ref h), (1, .int v1)] → (fm_floods_j66 v1 st).bind K1 = some out → W p l e (headSpec wsX12_floods { frames := 2, cells := 0, slots := 0, locals := 43 }).room s m (([.ref h] : List Value).toArray) below meth c H locs 0 0 (MQ below (MQv D h ad cy s0 out s.heap.size) ([.ref h] : List Value).toArray s 0 0 (MA h ad cy s0 s.heap.size)) (F0 m 66 ls []) := by
        intro v1 st H locs ls hI hl hf
        unfold fm_floods_j66 at hf
        refine lv_iinc (v := (v1 + 1)) (lv' := [(1, .int (v1 + 1)), (0, .ref h)]) hx hb dX12_floods_66 hl (k := 1) rfl (ci_ _ (by decide)) (by decide) rfl (fun ls hl => ?_)
        refine lv_goto (tgt := 2) hx hb dX12_floods_69 (by decide) ?_
        replace hf := cont_b hK1 hf
        exact ih (v1 + 1) st H locs ls hI (lv_sub hl [1, 0] rfl) hf
      have L_2_37 : ∀ (v1 : Int32) (n : Nat) (v2 : Int32) (st : MSt) (H : Heap) (locs : List Loc) (ls : Array Slot), MI D (MA h ad cy s0 s.heap.size) h ad cy s s.heap st H locs → lv_has ls 3 [(0, .ref h), (1, .int v1), (2, .int v2)] → (iter (fun x : (Int32 × MSt) => fm_floods_s37 v1 x.1 x.2) n (v2, st)).bind (fun x => ((Sum.elim (fun o : MSt => (some (.inl o) : Option ((MSt) ⊕ ((Int32 × MSt) ⊕ (Int32 × MSt))))) (fun x : (Int32 × MSt) => fm_floods_j66 v1 x.2)) x).bind K1) = some out → W p l e (headSpec wsX12_floods { frames := 2, cells := 0, slots := 0, locals := 43 }).room s m (([.ref h] : List Value).toArray) below meth c H locs 0 0 (MQ below (MQv D h ad cy s0 out s.heap.size) ([.ref h] : List Value).toArray s 0 0 (MA h ad cy s0 s.heap.size)) (F0 m 37 ls []) := by
        intro v1 n
        induction n with
        | zero => intro v2 st H locs ls hI hl hf; exact (iter_0 hf).elim
        | succ n ih =>
          intro v2 st H locs ls hI hl hf
          obtain ⟨K2, hK2, hf⟩ := iter_e hf
          replace hf : (fm_floods_s37 v1 v2 st).bind K2 = some out := hf
          unfold fm_floods_s37 at hf
          refine lv_iload_n hx hb dX12_floods_37 rfl (lv_at hl 2 rfl) ?_
          refine lv_iconst (v := 2) hx hb dX12_floods_38 (by decide) ?_
          refine lv_icmp_ge (tgt := 66) hx hb dX12_floods_39 (by decide) (fun c6 => ?_) (fun c6 => ?_)
          · replace hf := ifp c6 hf
            replace hf := exit_b hK2 hf
            exact B_2_66 v1 st H locs ls hI (lv_sub hl [0, 1] rfl) hf
          · replace hf := ifn c6 hf
            refine lv_aload_n hx hb dX12_floods_42 rfl (lv_at hl 0 rfl) ?_
            refine lv_iload_n hx hb dX12_floods_43 rfl (lv_at hl 2 rfl) ?_
            refine lv_aload_n hx hb dX12_floods_44 rfl (lv_at hl 0 rfl) ?_
            refine mg_said hx hb hts hin hown k_said hI dX12_floods_45 ?_
            refine lv_bipush (v := 14) hx hb dX12_floods_48 (by decide) ?_
            refine lv_iconst (v := 2) hx hb dX12_floods_50 (by decide) ?_
            refine lv_iload_n hx hb dX12_floods_51 rfl (lv_at hl 1 rfl) ?_
            refine lv_imul hx hb dX12_floods_52 ?_
            refine lv_iadd hx hb dX12_floods_53 ?_
            refine lv_iconst (v := 1) hx hb dX12_floods_54 (by decide) ?_
            refine lv_iadd hx hb dX12_floods_55 ?_
            obtain ⟨k7, hf⟩ := chk_b hf
            refine ml_said hx hb hI k7 dX12_floods_56 ?_
            obtain ⟨x8, hc9, hf⟩ := bnd_b hf
            refine mcall_v (As := [.int v2, .int (st.2.1 26 (((14 : Int32) + ((2 : Int32) * v1)) + (1 : Int32)).toNatClampNeg)]) (rest := []) (n := 2) ⟨hx, hb, hml, hown, hts⟩ (cm_takesYards l D h ad cy v2 (st.2.1 26 (((14 : Int32) + ((2 : Int32) * v1)) + (1 : Int32)).toNatClampNeg) st x8 hc9 _) (cwV 2 hts gX12_floods_X12_takesYards rfl rfl rfl ⟨rfl, nd_takesYards⟩ ⟨Nat.le_of_ble_eq_true rfl, Nat.le_of_ble_eq_true rfl⟩) hI hA rfl hl.1 (Nat.le_of_ble_eq_true rfl) dX12_floods_57 ⟨Nat.zero_le _, Nat.zero_le _⟩ (fun H locs hI => ?_)
            refine lv_iinc (v := (v2 + 1)) (lv' := [(2, .int (v2 + 1)), (0, .ref h), (1, .int v1)]) hx hb dX12_floods_60 hl (k := 2) rfl (ci_ _ (by decide)) (by decide) rfl (fun ls hl => ?_)
            refine lv_goto (tgt := 37) hx hb dX12_floods_63 (by decide) ?_
            replace hf := cont_b hK2 hf
            exact ih (v2 + 1) x8 H locs ls hI (lv_sub hl [1, 2, 0] rfl) hf
      unfold fm_floods_s2 at hf
      refine lv_iload_n hx hb dX12_floods_2 rfl (lv_at hl 1 rfl) ?_
      refine lv_aload_n hx hb dX12_floods_3 rfl (lv_at hl 0 rfl) ?_
      refine mg_said hx hb hts hin hown k_said hI dX12_floods_4 ?_
      refine lv_iconst (v := 4) hx hb dX12_floods_7 (by decide) ?_
      obtain ⟨k1, hf⟩ := chk_b hf
      refine ml_said hx hb hI k1 dX12_floods_8 ?_
      refine lv_icmp_ge (tgt := 72) hx hb dX12_floods_9 (by decide) (fun c2 => ?_) (fun c2 => ?_)
      · replace hf := ifp c2 hf
        replace hf := exit_b hK1 hf
        exact B_72  st H locs ls hI (lv_sub hl [] rfl) hf
      · replace hf := ifn c2 hf
        refine lv_aload_n hx hb dX12_floods_12 rfl (lv_at hl 0 rfl) ?_
        refine mg_said hx hb hts hin hown k_said hI dX12_floods_13 ?_
        refine lv_bipush (v := 14) hx hb dX12_floods_16 (by decide) ?_
        refine lv_iconst (v := 2) hx hb dX12_floods_18 (by decide) ?_
        refine lv_iload_n hx hb dX12_floods_19 rfl (lv_at hl 1 rfl) ?_
        refine lv_imul hx hb dX12_floods_20 ?_
        refine lv_iadd hx hb dX12_floods_21 ?_
        obtain ⟨k3, hf⟩ := chk_b hf
        refine ml_said hx hb hI k3 dX12_floods_22 ?_
        refine lv_aload_n hx hb dX12_floods_23 rfl (lv_at hl 0 rfl) ?_
        refine mg_said hx hb hts hin hown k_said hI dX12_floods_24 ?_
        refine lv_iconst (v := 1) hx hb dX12_floods_27 (by decide) ?_
        obtain ⟨k4, hf⟩ := chk_b hf
        refine ml_said hx hb hI k4 dX12_floods_28 ?_
        refine lv_icmp_eq (tgt := 35) hx hb dX12_floods_29 (by decide) (fun c5 => ?_) (fun c5 => ?_)
        · replace hf := ifp c5 hf
          refine lv_iconst (v := 0) hx hb dX12_floods_35 (by decide) ?_
          refine lv_istore_n (lv' := [(2, .int (0 : Int32)), (0, .ref h), (1, .int v1)]) hx hb dX12_floods_36 rfl hl (by decide) rfl (fun ls hl => ?_)
          exact L_2_37 v1 mFuel (0 : Int32) st H locs ls hI (lv_sub hl [1, 2, 0] rfl) (asc_b hf)
        · replace hf := ifn c5 hf
          refine lv_goto (tgt := 66) hx hb dX12_floods_32 (by decide) ?_
          refine lv_iinc (v := (v1 + 1)) (lv' := [(1, .int (v1 + 1)), (0, .ref h)]) hx hb dX12_floods_66 hl (k := 1) rfl (ci_ _ (by decide)) (by decide) rfl (fun ls hl => ?_)
          refine lv_goto (tgt := 2) hx hb dX12_floods_69 (by decide) ?_
          replace hf := cont_b hK1 hf
          exact ih (v1 + 1) st H locs ls hI (lv_sub hl [1, 0] rfl) hf
  unfold fm_floods at hf
  refine lv_iconst (v := 0) hx hb dX12_floods_0 (by decide) ?_
  refine lv_istore_n (lv' := [(1, .int (0 : Int32)), (0, .ref h)]) hx hb dX12_floods_1 rfl hl (by decide) rfl (fun ls hl => ?_)
  exact L_2  mFuel (0 : Int32) s0 s.heap [] ls hI (lv_sub hl [1, 0] rfl) (asc_b hf)
