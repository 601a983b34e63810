theorem nd_seed : yX12_seed.cls ≠ "java/lang/invoke/MethodHandle" ∧ yX12_seed.cls ≠ "java/lang/invoke/VarHandle" ∧ (parseMethodDescriptor yX12_seed.desc).map (fun d => d.parameters.length) = some 1 := by decide +kernel
set_option maxHeartbeats 4000000 in
set_option maxRecDepth 100000 in
theorem cm_seed (l : Launch) (D : va_G) (h : Nat) (ad : Nat → Nat) (cy : Nat → ClassId) (a1 : Int32) (s0 : MSt) (out : MSt × Int32) (hf : fm_seed a1 s0 = some out) (sz : Nat) : CMi l D h ad cy yX12_seed wsX12_seed { frames := 0, cells := 0, slots := 0, locals := 0 } [.int a1] s0 out sz := by
  refine Met.ofW (cc := cX12_seed) (maxL := 3) (ret := (some .int)) (by decide) rfl ?_
  intro p e s m args below meth c s₁ B hml hv
  obtain ⟨rfl, hsz, hP, hK, hD0⟩ := hv
  have hx := B.exec
  have hb := B.bytes
  have hr := B.returns
  have hts := atoms_spec (ws := wsX12_seed) B.pre
  have hown : s.vm.findClass RX12 = some m.cls := findClass_of_methodNamed B.named
  have hlocks := B.notSynchronized
  subst hsz
  have hI : MI D (MA h ad cy s0 s.heap.size) h ad cy s s.heap s0 s.heap [] := ⟨hK, hP, hD0.self, va_S.rf⟩
  have hA : ∀ q : Nat, s.heap.size ≤ q → MA h ad cy s0 s.heap.size q := fun q hq => Or.inr hq
  have hin : ∀ w ∈ u_ws RX12 TX12 42, w ∈ wsX12_seed := fun w hw => List.mem_cons_of_mem _ (List.mem_append_right _ hw)
  have k_said : Cond.fieldLink RX12 45 "HalfBridgeModel" "said" "[I" ∈ wsX12_seed := by decide +kernel
  have hl := lv_entry ([.ref h, .int a1]) (n := 3) (Nat.le_of_ble_eq_true rfl)
  rw [lg_entry_eq]
  generalize (lg_sl ([.ref h, .int a1]) ++ List.replicate (3 - (lg_sl ([.ref h, .int a1])).length) Slot.unset).toArray = ls at hl ⊢
  have hl : lv_has ls 3 [(0, .ref h), (1, .int a1)] := hl
  obtain ⟨K0, hK0, hf⟩ := top_e hf
  unfold fm_seed at hf
  refine lv_iload_n hx hb dX12_seed_0 rfl (lv_at hl 1 rfl) ?_
  refine lv_if_ge (tgt := 6) hx hb dX12_seed_1 (by decide) (fun c1 => ?_) (fun c1 => ?_)
  · replace hf := ifp c1 hf
    refine lv_aload_n hx hb dX12_seed_6 rfl (lv_at hl 0 rfl) ?_
    refine mg_said hx hb hts hin hown k_said hI dX12_seed_7 ?_
    refine lv_iconst (v := 5) hx hb dX12_seed_10 (by decide) ?_
    obtain ⟨k2, hf⟩ := chk_b hf
    refine ml_said hx hb hI k2 dX12_seed_11 ?_
    refine lv_istore_n (lv' := [(2, .int (s0.2.1 26 (5 : Int32).toNatClampNeg)), (0, .ref h), (1, .int a1)]) hx hb dX12_seed_12 rfl hl (by decide) rfl (fun ls hl => ?_)
    refine lv_aload_n hx hb dX12_seed_13 rfl (lv_at hl 1 rfl) ?_
    refine mg_said hx hb hts hin hown k_said hI dX12_seed_14 ?_
    refine lv_iconst (v := 5) hx hb dX12_seed_17 (by decide) ?_
    refine lv_iload_n hx hb dX12_seed_18 rfl (lv_at hl 2 rfl) ?_
    obtain ⟨k3, hf⟩ := chk_b hf
    refine ms_said hx hb hI k3 dX12_seed_19 (fun H locs hI => ?_)
    refine lv_iload_n hx hb dX12_seed_20 rfl (lv_at hl 0 rfl) ?_
    exact mret_i hx hb hr hlocks hI (ret_e hK0 hf) dX12_seed_21
  · replace hf := ifn c1 hf
    refine lv_iconst (v := -1) hx hb dX12_seed_4 (by decide) ?_
    exact mret_i hx hb hr hlocks hI (ret_e hK0 hf) dX12_seed_5

theorem nd_tried : yX12_tried.cls ≠ "java/lang/invoke/MethodHandle" ∧ yX12_tried.cls ≠ "java/lang/invoke/VarHandle" ∧ (parseMethodDescriptor yX12_tried.desc).map (fun d => d.parameters.length) = some 6 := by decide +kernel
set_option maxHeartbeats 4000000 in
set_option maxRecDepth 100000 in
theorem cm_tried (l : Launch) (D : va_G) (h : Nat) (ad : Nat → Nat) (cy : Nat → ClassId) (a1 : Int32) (a2 : Int32) (a3 : Int32) (a4 : Int32) (a5 : Int32) (a6 : Int32) (s0 : MSt) (out : MSt × Int32) (hf : fm_tried a1 a2 a3 a4 a5 a6 s0 = some out) (sz : Nat) : CMi l D h ad cy yX12_tried wsX12_tried { frames := 6, cells := 0, slots := 0, locals := 145 } [.int a1, .int a2, .int a3, .int a4, .int a5, .int a6] s0 out sz := by
  refine Met.ofW (cc := cX12_tried) (maxL := 13) (ret := (some .int)) (by decide) rfl ?_
  intro p e s m args below meth c s₁ B hml hv
  obtain ⟨rfl, hsz, hP, hK, hD0⟩ := hv
  have hx := B.exec
  have hb := B.bytes
  have hr := B.returns
  have hts := atoms_spec (ws := wsX12_tried) B.pre
  have hown : s.vm.findClass RX12 = some m.cls := findClass_of_methodNamed B.named
  have hlocks := B.notSynchronized
  subst hsz
  have hI : MI D (MA h ad cy s0 s.heap.size) h ad cy s s.heap s0 s.heap [] := ⟨hK, hP, hD0.self, va_S.rf⟩
  have hA : ∀ q : Nat, s.heap.size ≤ q → MA h ad cy s0 s.heap.size q := fun q hq => Or.inr hq
  have hin : ∀ w ∈ u_ws RX12 TX12 42, w ∈ wsX12_tried := fun w hw => List.mem_cons_of_mem _ (List.mem_append_right _ hw)
  have k_said : Cond.fieldLink RX12 45 "HalfBridgeModel" "said" "[I" ∈ wsX12_tried := by decide +kernel
  have hl := lv_entry ([.ref h, .int a1, .int a2, .int a3, .int a4, .int a5, .int a6]) (n := 13) (Nat.le_of_ble_eq_true rfl)
  rw [lg_entry_eq]
  generalize (lg_sl ([.ref h, .int a1, .int a2, .int a3, .int a4, .int a5, .int a6]) ++ List.replicate (13 - (lg_sl ([.ref h, .int a1, .int a2, .int a3, .int a4, .int a5, .int a6])).length) Slot.unset).toArray = ls at hl ⊢
  have hl : lv_has ls 13 [(0, .ref h), (1, .int a1), (2, .int a2), (3, .int a3), (4, .int a4), (5, .int a5), (6, .int a6)] := hl
  obtain ⟨K0, hK0, hf⟩ := top_e hf
  have B_227 : ∀ (v9 : Int32)  (st : MSt) (H : Heap) (locs : List Loc) (ls : Array Slot), MI D (MA h ad cy s0 s.heap.size) h ad cy s s.heap st H locs → lv_has ls 13 [(9, .int v9)] → (fm_tried_j227 v9 st).bind K0 = some out → W p l e (headSpec wsX12_tried { frames := 6, cells := 0, slots := 0, locals := 145 }).room s m (([.ref h, .int a1, .int a2, .int a3, .int a4, .int a5, .int a6] : List Value).toArray) below meth c H locs 0 0 (MQ below (MQi D h ad cy s0 out s.heap.size) ([.ref h, .int a1, .int a2, .int a3, .int a4, .int a5, .int a6] : List Value).toArray s 0 0 (MA h ad cy s0 s.heap.size)) (F0 m 227 ls []) := by
    intro v9 st H locs ls hI hl hf
    unfold fm_tried_j227 at hf
    refine lv_iload hx hb dX12_tried_227 (lv_at hl 0 rfl) ?_
    exact mret_i hx hb hr hlocks hI (ret_e hK0 hf) dX12_tried_229
  have L_79 : ∀ (v1 : Int32) (v2 : Int32) (v3 : Int32) (v4 : Int32) (v5 : Int32) (v6 : Int32) (n : Nat) (v7 : Int64) (v9 : Int32) (v10 : Int32) (st : MSt) (H : Heap) (locs : List Loc) (ls : Array Slot), MI D (MA h ad cy s0 s.heap.size) h ad cy s s.heap st H locs → lv_has ls 13 [(0, .ref h), (1, .int v1), (2, .int v2), (3, .int v3), (4, .int v4), (5, .int v5), (6, .int v6), (7, .long v7), (9, .int v9), (10, .int v10)] → (iter (fun x : (Int64 × Int32 × Int32 × MSt) => fm_tried_s79 v1 v2 v3 v4 v5 v6 x.1 x.2.1 x.2.2.1 x.2.2.2) n (v7, v9, v10, st)).bind (fun x => ((Sum.elim (fun o : MSt × Int32 => (some o : Option (MSt × Int32))) (fun x : (Int64 × Int32 × Int32 × MSt) => fm_tried_j227 x.2.1 x.2.2.2)) x).bind K0) = some out → W p l e (headSpec wsX12_tried { frames := 6, cells := 0, slots := 0, locals := 145 }).room s m (([.ref h, .int a1, .int a2, .int a3, .int a4, .int a5, .int a6] : List Value).toArray) below meth c H locs 0 0 (MQ below (MQi D h ad cy s0 out s.heap.size) ([.ref h, .int a1, .int a2, .int a3, .int a4, .int a5, .int a6] : List Value).toArray s 0 0 (MA h ad cy s0 s.heap.size)) (F0 m 79 ls []) := by
    intro v1 v2 v3 v4 v5 v6 n
    induction n with
    | zero => intro v7 v9 v10 st H locs ls hI hl hf; exact (iter_0 hf).elim
    | succ n ih =>
      intro v7 v9 v10 st H locs ls hI hl hf
      obtain ⟨K1, hK1, hf⟩ := iter_e hf
      replace hf : (fm_tried_s79 v1 v2 v3 v4 v5 v6 v7 v9 v10 st).bind K1 = some out := hf
      have B_79_176 : ∀ (v7 : Int64) (v9 : Int32) (v10 : Int32)  (st : MSt) (H : Heap) (locs : List Loc) (ls : Array Slot), MI D (MA h ad cy s0 s.heap.size) h ad cy s s.heap st H locs → lv_has ls 13 [(0, .ref h), (1, .int v1), (2, .int v2), (3, .int v3), (4, .int v4), (5, .int v5), (6, .int v6), (7, .long v7), (9, .int v9), (10, .int v10)] → (fm_tried_j176 v1 v2 v3 v4 v5 v6 v7 v9 v10 st).bind K1 = some out → W p l e (headSpec wsX12_tried { frames := 6, cells := 0, slots := 0, locals := 145 }).room s m (([.ref h, .int a1, .int a2, .int a3, .int a4, .int a5, .int a6] : List Value).toArray) below meth c H locs 0 0 (MQ below (MQi D h ad cy s0 out s.heap.size) ([.ref h, .int a1, .int a2, .int a3, .int a4, .int a5, .int a6] : List Value).toArray s 0 0 (MA h ad cy s0 s.heap.size)) (F0 m 176 ls []) := by
        intro v7 v9 v10 st H locs ls hI hl hf
        unfold fm_tried_j176 at hf
        refine lv_iload hx hb dX12_tried_176 (lv_at hl 8 rfl) ?_
        refine lv_iload hx hb dX12_tried_178 (lv_at hl 6 rfl) ?_
        refine lv_iconst (v := 1) hx hb dX12_tried_180 (by decide) ?_
        refine lv_icmp_ne (tgt := 202) hx hb dX12_tried_181 (by decide) (fun c20 => ?_) (fun c20 => ?_)
        · replace hf := ifn c20 hf
          refine lv_aload_n hx hb dX12_tried_202 rfl (lv_at hl 0 rfl) ?_
          obtain ⟨x21, hc22, hf⟩ := bnd_b hf
          refine mcall_i (As := []) (rest := [.int v9]) (n := 0) ⟨hx, hb, hml, hown, hts⟩ (cm_isInTime l D h ad cy  st x21 hc22 _) (cwV 0 hts gX12_tried_X12_isInTime rfl rfl rfl ⟨rfl, nd_isInTime⟩ ⟨Nat.le_of_ble_eq_true rfl, Nat.le_of_ble_eq_true rfl⟩) hI hA rfl hl.1 (Nat.le_of_ble_eq_true rfl) dX12_tried_203 ⟨Nat.zero_le _, Nat.zero_le _⟩ (fun H locs hI => ?_)
          refine lv_if_eq (tgt := 213) hx hb dX12_tried_206 (by decide) (fun c23 => ?_) (fun c23 => ?_)
          · replace hf := ifp c23 hf
            refine lv_iconst (v := 0) hx hb dX12_tried_213 (by decide) ?_
            refine lv_iadd hx hb dX12_tried_214 ?_
            refine lv_istore (lv' := [(9, .int (v9 + (0 : Int32))), (0, .ref h), (1, .int v1), (2, .int v2), (3, .int v3), (4, .int v4), (5, .int v5), (6, .int v6), (7, .long v7), (10, .int v10)]) hx hb dX12_tried_215 hl (by decide) rfl (fun ls hl => ?_)
            refine lv_aload_n hx hb dX12_tried_217 rfl (lv_at hl 1 rfl) ?_
            obtain ⟨x24, hc25, hf⟩ := bnd_b hf
            refine mcall_v (As := []) (rest := []) (n := 0) ⟨hx, hb, hml, hown, hts⟩ (cm_putsBack l D h ad cy  x21.1 x24 hc25 _) (cwV 0 hts gX12_tried_X12_putsBack rfl rfl rfl ⟨rfl, nd_putsBack⟩ ⟨Nat.le_of_ble_eq_true rfl, Nat.le_of_ble_eq_true rfl⟩) hI hA rfl hl.1 (Nat.le_of_ble_eq_true rfl) dX12_tried_218 ⟨Nat.zero_le _, Nat.zero_le _⟩ (fun H locs hI => ?_)
            refine lv_iinc (v := (v10 + 1)) (lv' := [(10, .int (v10 + 1)), (9, .int (v9 + (0 : Int32))), (0, .ref h), (1, .int v1), (2, .int v2), (3, .int v3), (4, .int v4), (5, .int v5), (6, .int v6), (7, .long v7)]) hx hb dX12_tried_221 hl (k := 9) rfl (ci_ _ (by decide)) (by decide) rfl (fun ls hl => ?_)
            refine lv_goto (tgt := 79) hx hb dX12_tried_224 (by decide) ?_
            replace hf := cont_b hK1 hf
            exact ih v7 (v9 + (0 : Int32)) (v10 + 1) x24 H locs ls hI (lv_sub hl [2, 3, 4, 5, 6, 7, 8, 9, 1, 0] rfl) hf
          · replace hf := ifn c23 hf
            refine lv_iconst (v := 1) hx hb dX12_tried_209 (by decide) ?_
            refine lv_goto (tgt := 214) hx hb dX12_tried_210 (by decide) ?_
            refine lv_iadd hx hb dX12_tried_214 ?_
            refine lv_istore (lv' := [(9, .int (v9 + (1 : Int32))), (0, .ref h), (1, .int v1), (2, .int v2), (3, .int v3), (4, .int v4), (5, .int v5), (6, .int v6), (7, .long v7), (10, .int v10)]) hx hb dX12_tried_215 hl (by decide) rfl (fun ls hl => ?_)
            refine lv_aload_n hx hb dX12_tried_217 rfl (lv_at hl 1 rfl) ?_
            obtain ⟨x26, hc27, hf⟩ := bnd_b hf
            refine mcall_v (As := []) (rest := []) (n := 0) ⟨hx, hb, hml, hown, hts⟩ (cm_putsBack l D h ad cy  x21.1 x26 hc27 _) (cwV 0 hts gX12_tried_X12_putsBack rfl rfl rfl ⟨rfl, nd_putsBack⟩ ⟨Nat.le_of_ble_eq_true rfl, Nat.le_of_ble_eq_true rfl⟩) hI hA rfl hl.1 (Nat.le_of_ble_eq_true rfl) dX12_tried_218 ⟨Nat.zero_le _, Nat.zero_le _⟩ (fun H locs hI => ?_)
            refine lv_iinc (v := (v10 + 1)) (lv' := [(10, .int (v10 + 1)), (9, .int (v9 + (1 : Int32))), (0, .ref h), (1, .int v1), (2, .int v2), (3, .int v3), (4, .int v4), (5, .int v5), (6, .int v6), (7, .long v7)]) hx hb dX12_tried_221 hl (k := 9) rfl (ci_ _ (by decide)) (by decide) rfl (fun ls hl => ?_)
            refine lv_goto (tgt := 79) hx hb dX12_tried_224 (by decide) ?_
            replace hf := cont_b hK1 hf
            exact ih v7 (v9 + (1 : Int32)) (v10 + 1) x26 H locs ls hI (lv_sub hl [2, 3, 4, 5, 6, 7, 8, 9, 1, 0] rfl) hf
        · replace hf := ifp c20 hf
          refine lv_aload_n hx hb dX12_tried_184 rfl (lv_at hl 0 rfl) ?_
          refine mg_said hx hb hts hin hown k_said hI dX12_tried_185 ?_
          refine lv_bipush (v := 6) hx hb dX12_tried_188 (by decide) ?_
          obtain ⟨k28, hf⟩ := chk_b hf
          refine ml_said hx hb hI k28 dX12_tried_190 ?_
          refine lv_aload_n hx hb dX12_tried_191 rfl (lv_at hl 0 rfl) ?_
          refine mg_said hx hb hts hin hown k_said hI dX12_tried_192 ?_
          refine lv_bipush (v := 7) hx hb dX12_tried_195 (by decide) ?_
          obtain ⟨k29, hf⟩ := chk_b hf
          refine ml_said hx hb hI k29 dX12_tried_197 ?_
          refine lv_iadd hx hb dX12_tried_198 ?_
          refine lv_goto (tgt := 214) hx hb dX12_tried_199 (by decide) ?_
          refine lv_iadd hx hb dX12_tried_214 ?_
          refine lv_istore (lv' := [(9, .int (v9 + ((st.2.1 26 (6 : Int32).toNatClampNeg) + (st.2.1 26 (7 : Int32).toNatClampNeg)))), (0, .ref h), (1, .int v1), (2, .int v2), (3, .int v3), (4, .int v4), (5, .int v5), (6, .int v6), (7, .long v7), (10, .int v10)]) hx hb dX12_tried_215 hl (by decide) rfl (fun ls hl => ?_)
          refine lv_aload_n hx hb dX12_tried_217 rfl (lv_at hl 1 rfl) ?_
          obtain ⟨x30, hc31, hf⟩ := bnd_b hf
          refine mcall_v (As := []) (rest := []) (n := 0) ⟨hx, hb, hml, hown, hts⟩ (cm_putsBack l D h ad cy  st x30 hc31 _) (cwV 0 hts gX12_tried_X12_putsBack rfl rfl rfl ⟨rfl, nd_putsBack⟩ ⟨Nat.le_of_ble_eq_true rfl, Nat.le_of_ble_eq_true rfl⟩) hI hA rfl hl.1 (Nat.le_of_ble_eq_true rfl) dX12_tried_218 ⟨Nat.zero_le _, Nat.zero_le _⟩ (fun H locs hI => ?_)
          refine lv_iinc (v := (v10 + 1)) (lv' := [(10, .int (v10 + 1)), (9, .int (v9 + ((st.2.1 26 (6 : Int32).toNatClampNeg) + (st.2.1 26 (7 : Int32).toNatClampNeg)))), (0, .ref h), (1, .int v1), (2, .int v2), (3, .int v3), (4, .int v4), (5, .int v5), (6, .int v6), (7, .long v7)]) hx hb dX12_tried_221 hl (k := 9) rfl (ci_ _ (by decide)) (by decide) rfl (fun ls hl => ?_)
          refine lv_goto (tgt := 79) hx hb dX12_tried_224 (by decide) ?_
          replace hf := cont_b hK1 hf
          exact ih v7 (v9 + ((st.2.1 26 (6 : Int32).toNatClampNeg) + (st.2.1 26 (7 : Int32).toNatClampNeg))) (v10 + 1) x30 H locs ls hI (lv_sub hl [2, 3, 4, 5, 6, 7, 8, 9, 1, 0] rfl) hf
      have L_79_88 : ∀ (v9 : Int32) (v10 : Int32) (n : Nat) (v7 : Int64) (v11 : Int32) (st : MSt) (H : Heap) (locs : List Loc) (ls : Array Slot), MI D (MA h ad cy s0 s.heap.size) h ad cy s s.heap st H locs → lv_has ls 13 [(0, .ref h), (1, .int v1), (2, .int v2), (3, .int v3), (4, .int v4), (5, .int v5), (6, .int v6), (7, .long v7), (9, .int v9), (10, .int v10), (11, .int v11)] → (iter (fun x : (Int64 × Int32 × MSt) => fm_tried_s88 v1 v2 v3 v4 v5 v6 v9 v10 x.1 x.2.1 x.2.2) n (v7, v11, st)).bind (fun x => ((Sum.elim (fun o : MSt × Int32 => (some (.inl o) : Option ((MSt × Int32) ⊕ ((Int64 × Int32 × Int32 × MSt) ⊕ (Int64 × Int32 × Int32 × MSt))))) (fun x : (Int64 × Int32 × MSt) => fm_tried_j176 v1 v2 v3 v4 v5 v6 x.1 v9 v10 x.2.2)) x).bind K1) = some out → W p l e (headSpec wsX12_tried { frames := 6, cells := 0, slots := 0, locals := 145 }).room s m (([.ref h, .int a1, .int a2, .int a3, .int a4, .int a5, .int a6] : List Value).toArray) below meth c H locs 0 0 (MQ below (MQi D h ad cy s0 out s.heap.size) ([.ref h, .int a1, .int a2, .int a3, .int a4, .int a5, .int a6] : List Value).toArray s 0 0 (MA h ad cy s0 s.heap.size)) (F0 m 88 ls []) := by
        intro v9 v10 n
        induction n with
        | zero => intro v7 v11 st H locs ls hI hl hf; exact (iter_0 hf).elim
        | succ n ih =>
          intro v7 v11 st H locs ls hI hl hf
          obtain ⟨K2, hK2, hf⟩ := iter_e hf
          replace hf : (fm_tried_s88 v1 v2 v3 v4 v5 v6 v9 v10 v7 v11 st).bind K2 = some out := hf
          have B_79_88_170 : ∀ (v7 : Int64) (v11 : Int32)  (st : MSt) (H : Heap) (locs : List Loc) (ls : Array Slot), MI D (MA h ad cy s0 s.heap.size) h ad cy s s.heap st H locs → lv_has ls 13 [(0, .ref h), (1, .int v1), (2, .int v2), (3, .int v3), (4, .int v4), (5, .int v5), (6, .int v6), (7, .long v7), (9, .int v9), (10, .int v10), (11, .int v11)] → (fm_tried_j170 v1 v2 v3 v4 v5 v6 v7 v9 v10 v11 st).bind K2 = some out → W p l e (headSpec wsX12_tried { frames := 6, cells := 0, slots := 0, locals := 145 }).room s m (([.ref h, .int a1, .int a2, .int a3, .int a4, .int a5, .int a6] : List Value).toArray) below meth c H locs 0 0 (MQ below (MQi D h ad cy s0 out s.heap.size) ([.ref h, .int a1, .int a2, .int a3, .int a4, .int a5, .int a6] : List Value).toArray s 0 0 (MA h ad cy s0 s.heap.size)) (F0 m 170 ls []) := by
            intro v7 v11 st H locs ls hI hl hf
            unfold fm_tried_j170 at hf
            refine lv_iinc (v := (v11 + 1)) (lv' := [(11, .int (v11 + 1)), (0, .ref h), (1, .int v1), (2, .int v2), (3, .int v3), (4, .int v4), (5, .int v5), (6, .int v6), (7, .long v7), (9, .int v9), (10, .int v10)]) hx hb dX12_tried_170 hl (k := 10) rfl (ci_ _ (by decide)) (by decide) rfl (fun ls hl => ?_)
            refine lv_goto (tgt := 88) hx hb dX12_tried_173 (by decide) ?_
            replace hf := cont_b hK2 hf
            exact ih v7 (v11 + 1) st H locs ls hI (lv_sub hl [1, 2, 3, 4, 5, 6, 7, 8, 9, 10, 0] rfl) hf
          have L_79_88_151 : ∀ (v7 : Int64) (v11 : Int32) (n : Nat) (v12 : Int32) (st : MSt) (H : Heap) (locs : List Loc) (ls : Array Slot), MI D (MA h ad cy s0 s.heap.size) h ad cy s s.heap st H locs → lv_has ls 13 [(0, .ref h), (1, .int v1), (2, .int v2), (3, .int v3), (4, .int v4), (5, .int v5), (6, .int v6), (7, .long v7), (9, .int v9), (10, .int v10), (11, .int v11), (12, .int v12)] → (iter (fun x : (Int32 × MSt) => fm_tried_s151 v1 v2 v3 v4 v5 v6 v7 v9 v10 v11 x.1 x.2) n (v12, st)).bind (fun x => ((Sum.elim (fun o : MSt × Int32 => (some (.inl o) : Option ((MSt × Int32) ⊕ ((Int64 × Int32 × MSt) ⊕ (Int64 × Int32 × MSt))))) (fun x : (Int32 × MSt) => fm_tried_j170 v1 v2 v3 v4 v5 v6 v7 v9 v10 v11 x.2)) x).bind K2) = some out → W p l e (headSpec wsX12_tried { frames := 6, cells := 0, slots := 0, locals := 145 }).room s m (([.ref h, .int a1, .int a2, .int a3, .int a4, .int a5, .int a6] : List Value).toArray) below meth c H locs 0 0 (MQ below (MQi D h ad cy s0 out s.heap.size) ([.ref h, .int a1, .int a2, .int a3, .int a4, .int a5, .int a6] : List Value).toArray s 0 0 (MA h ad cy s0 s.heap.size)) (F0 m 151 ls []) := by
            intro v7 v11 n
            induction n with
            | zero => intro v12 st H locs ls hI hl hf; exact (iter_0 hf).elim
            | succ n ih =>
              intro v12 st H locs ls hI hl hf
              obtain ⟨K3, hK3, hf⟩ := iter_e hf
              replace hf : (fm_tried_s151 v1 v2 v3 v4 v5 v6 v7 v9 v10 v11 v12 st).bind K3 = some out := hf
              unfold fm_tried_s151 at hf
              refine lv_iload hx hb dX12_tried_151 (lv_at hl 11 rfl) ?_
              refine lv_iconst (v := 2) hx hb dX12_tried_153 (by decide) ?_
              refine lv_icmp_ge (tgt := 170) hx hb dX12_tried_154 (by decide) (fun c41 => ?_) (fun c41 => ?_)
              · replace hf := ifp c41 hf
                replace hf := exit_b hK3 hf
                exact B_79_88_170 v7 v11 st H locs ls hI (lv_sub hl [0, 1, 2, 3, 4, 5, 6, 7, 8, 9, 10] rfl) hf
              · replace hf := ifn c41 hf
                refine lv_aload_n hx hb dX12_tried_157 rfl (lv_at hl 0 rfl) ?_
                refine lv_iload hx hb dX12_tried_158 (lv_at hl 11 rfl) ?_
                refine lv_iconst (v := 1) hx hb dX12_tried_160 (by decide) ?_
                obtain ⟨x42, hc43, hf⟩ := bnd_b hf
                refine mcall_v (As := [.int v12, .int (1 : Int32)]) (rest := []) (n := 2) ⟨hx, hb, hml, hown, hts⟩ (cm_takesYards l D h ad cy v12 (1 : Int32) st x42 hc43 _) (cwV 2 hts gX12_tried_X12_takesYards rfl rfl rfl ⟨rfl, nd_takesYards⟩ ⟨Nat.le_of_ble_eq_true rfl, Nat.le_of_ble_eq_true rfl⟩) hI hA rfl hl.1 (Nat.le_of_ble_eq_true rfl) dX12_tried_161 ⟨Nat.zero_le _, Nat.zero_le _⟩ (fun H locs hI => ?_)
                refine lv_iinc (v := (v12 + 1)) (lv' := [(12, .int (v12 + 1)), (0, .ref h), (1, .int v1), (2, .int v2), (3, .int v3), (4, .int v4), (5, .int v5), (6, .int v6), (7, .long v7), (9, .int v9), (10, .int v10), (11, .int v11)]) hx hb dX12_tried_164 hl (k := 11) rfl (ci_ _ (by decide)) (by decide) rfl (fun ls hl => ?_)
                refine lv_goto (tgt := 151) hx hb dX12_tried_167 (by decide) ?_
                replace hf := cont_b hK3 hf
                exact ih (v12 + 1) x42 H locs ls hI (lv_sub hl [1, 2, 3, 4, 5, 6, 7, 8, 9, 10, 11, 0] rfl) hf
          unfold fm_tried_s88 at hf
          refine lv_iload hx hb dX12_tried_88 (lv_at hl 10 rfl) ?_
          refine lv_iload hx hb dX12_tried_90 (lv_at hl 4 rfl) ?_
          refine lv_icmp_ge (tgt := 176) hx hb dX12_tried_92 (by decide) (fun c32 => ?_) (fun c32 => ?_)
          · replace hf := ifp c32 hf
            replace hf := exit_b hK2 hf
            exact B_79_176 v7 v9 v10 st H locs ls hI (lv_sub hl [0, 1, 2, 3, 4, 5, 6, 7, 8, 9] rfl) hf
          · replace hf := ifn c32 hf
            refine lv_aload_n hx hb dX12_tried_95 rfl (lv_at hl 0 rfl) ?_
            obtain ⟨x33, hc34, hf⟩ := bnd_b hf
            refine mcall_i (As := []) (rest := []) (n := 0) ⟨hx, hb, hml, hown, hts⟩ (cm_isMet l D h ad cy  st x33 hc34 _) (cwV 0 hts gX12_tried_X12_isMet rfl rfl rfl ⟨rfl, nd_isMet⟩ ⟨Nat.le_of_ble_eq_true rfl, Nat.le_of_ble_eq_true rfl⟩) hI hA rfl hl.1 (Nat.le_of_ble_eq_true rfl) dX12_tried_96 ⟨Nat.zero_le _, Nat.zero_le _⟩ (fun H locs hI => ?_)
            refine lv_if_ne (tgt := 176) hx hb dX12_tried_99 (by decide) (fun c35 => ?_) (fun c35 => ?_)
            · replace hf := ifn c35 hf
              replace hf := exit_b hK2 hf
              exact B_79_176 v7 v9 v10 x33.1 H locs ls hI (lv_sub hl [0, 1, 2, 3, 4, 5, 6, 7, 8, 9] rfl) hf
            · replace hf := ifp c35 hf
              refine lv_aload_n hx hb dX12_tried_102 rfl (lv_at hl 0 rfl) ?_
              obtain ⟨x36, hc37, hf⟩ := bnd_b hf
              refine mcall_v (As := []) (rest := []) (n := 0) ⟨hx, hb, hml, hown, hts⟩ (cm_errsAsTold l D h ad cy  x33.1 x36 hc37 _) (cwV 0 hts gX12_tried_X12_errsAsTold rfl rfl rfl ⟨rfl, nd_errsAsTold⟩ ⟨Nat.le_of_ble_eq_true rfl, Nat.le_of_ble_eq_true rfl⟩) hI hA rfl hl.1 (Nat.le_of_ble_eq_true rfl) dX12_tried_103 ⟨Nat.zero_le _, Nat.zero_le _⟩ (fun H locs hI => ?_)
              refine lv_aload_n hx hb dX12_tried_106 rfl (lv_at hl 0 rfl) ?_
              refine lv_iload_n hx hb dX12_tried_107 rfl (lv_at hl 1 rfl) ?_
              refine lv_iload_n hx hb dX12_tried_108 rfl (lv_at hl 2 rfl) ?_
              obtain ⟨x38, hc39, hf⟩ := bnd_b hf
              refine mcall_v (As := [.int v1, .int v2]) (rest := []) (n := 2) ⟨hx, hb, hml, hown, hts⟩ (cm_passes l D h ad cy v1 v2 x36 x38 hc39 _) (cwV 2 hts gX12_tried_X12_passes rfl rfl rfl ⟨rfl, nd_passes⟩ ⟨Nat.le_of_ble_eq_true rfl, Nat.le_of_ble_eq_true rfl⟩) hI hA rfl hl.1 (Nat.le_of_ble_eq_true rfl) dX12_tried_109 ⟨Nat.zero_le _, Nat.zero_le _⟩ (fun H locs hI => ?_)
              refine lv_lload hx hb dX12_tried_112 (lv_at hl 7 rfl) ?_
              refine lv_ldc2 (v := 1103515245) hx hb hown (hts (.constantLong RX12 491 (1103515245)) (by decide +kernel)) dX12_tried_114 ?_
              refine lv_lmul hx hb dX12_tried_117 ?_
              refine lv_ldc2 (v := 12345) hx hb hown (hts (.constantLong RX12 493 (12345)) (by decide +kernel)) dX12_tried_118 ?_
              refine lv_ladd hx hb dX12_tried_121 ?_
              refine lv_ldc2 (v := 2147483648) hx hb hown (hts (.constantLong RX12 495 (2147483648)) (by decide +kernel)) dX12_tried_122 ?_
              refine lv_lrem hx hb dX12_tried_125 (by decide) ?_
              refine lv_lstore (lv' := [(7, .long (((v7 * (1103515245 : Int64)) + (12345 : Int64)) - ((v7 * (1103515245 : Int64)) + (12345 : Int64)) / (2147483648 : Int64) * (2147483648 : Int64))), (0, .ref h), (1, .int v1), (2, .int v2), (3, .int v3), (4, .int v4), (5, .int v5), (6, .int v6), (9, .int v9), (10, .int v10), (11, .int v11)]) hx hb dX12_tried_126 hl (by decide) rfl (fun ls hl => ?_)
              refine lv_lload hx hb dX12_tried_128 (lv_at hl 0 rfl) ?_
              refine lv_ldc2 (v := 65536) hx hb hown (hts (.constantLong RX12 497 (65536)) (by decide +kernel)) dX12_tried_130 ?_
              refine lv_ldiv hx hb dX12_tried_133 (by decide) ?_
              refine lv_ldc2 (v := 100) hx hb hown (hts (.constantLong RX12 489 (100)) (by decide +kernel)) dX12_tried_134 ?_
              refine lv_lrem hx hb dX12_tried_137 (by decide) ?_
              refine lv_iload hx hb dX12_tried_138 (lv_at hl 6 rfl) ?_
              refine lv_i2l (v := (v5.toInt64)) hx hb dX12_tried_140 rfl ?_
              refine W.lcmp hx hb dX12_tried_141 ?_
              refine lv_if_lt (tgt := 148) hx hb dX12_tried_142 (by decide) (fun c40 => ?_) (fun c40 => ?_)
              · replace hf := ifp c40 hf
                refine lv_iconst (v := 0) hx hb dX12_tried_148 (by decide) ?_
                refine lv_istore (lv' := [(12, .int (0 : Int32)), (7, .long (((v7 * (1103515245 : Int64)) + (12345 : Int64)) - ((v7 * (1103515245 : Int64)) + (12345 : Int64)) / (2147483648 : Int64) * (2147483648 : Int64))), (0, .ref h), (1, .int v1), (2, .int v2), (3, .int v3), (4, .int v4), (5, .int v5), (6, .int v6), (9, .int v9), (10, .int v10), (11, .int v11)]) hx hb dX12_tried_149 hl (by decide) rfl (fun ls hl => ?_)
                exact L_79_88_151 (((v7 * (1103515245 : Int64)) + (12345 : Int64)) - ((v7 * (1103515245 : Int64)) + (12345 : Int64)) / (2147483648 : Int64) * (2147483648 : Int64)) v11 mFuel (0 : Int32) x38 H locs ls hI (lv_sub hl [2, 3, 4, 5, 6, 7, 8, 1, 9, 10, 11, 0] rfl) (asc_b hf)
              · replace hf := ifn c40 hf
                refine lv_goto (tgt := 170) hx hb dX12_tried_145 (by decide) ?_
                refine lv_iinc (v := (v11 + 1)) (lv' := [(11, .int (v11 + 1)), (7, .long (((v7 * (1103515245 : Int64)) + (12345 : Int64)) - ((v7 * (1103515245 : Int64)) + (12345 : Int64)) / (2147483648 : Int64) * (2147483648 : Int64))), (0, .ref h), (1, .int v1), (2, .int v2), (3, .int v3), (4, .int v4), (5, .int v5), (6, .int v6), (9, .int v9), (10, .int v10)]) hx hb dX12_tried_170 hl (k := 10) rfl (ci_ _ (by decide)) (by decide) rfl (fun ls hl => ?_)
                refine lv_goto (tgt := 88) hx hb dX12_tried_173 (by decide) ?_
                replace hf := cont_b hK2 hf
                exact ih (((v7 * (1103515245 : Int64)) + (12345 : Int64)) - ((v7 * (1103515245 : Int64)) + (12345 : Int64)) / (2147483648 : Int64) * (2147483648 : Int64)) (v11 + 1) x38 H locs ls hI (lv_sub hl [2, 3, 4, 5, 6, 7, 8, 1, 9, 10, 0] rfl) hf
      unfold fm_tried_s79 at hf
      refine lv_iload hx hb dX12_tried_79 (lv_at hl 9 rfl) ?_
      refine lv_iload_n hx hb dX12_tried_81 rfl (lv_at hl 3 rfl) ?_
      refine lv_icmp_ge (tgt := 227) hx hb dX12_tried_82 (by decide) (fun c19 => ?_) (fun c19 => ?_)
      · replace hf := ifp c19 hf
        replace hf := exit_b hK1 hf
        exact B_227 v9 st H locs ls hI (lv_sub hl [8] rfl) hf
      · replace hf := ifn c19 hf
        refine lv_iconst (v := 0) hx hb dX12_tried_85 (by decide) ?_
        refine lv_istore (lv' := [(11, .int (0 : Int32)), (0, .ref h), (1, .int v1), (2, .int v2), (3, .int v3), (4, .int v4), (5, .int v5), (6, .int v6), (7, .long v7), (9, .int v9), (10, .int v10)]) hx hb dX12_tried_86 hl (by decide) rfl (fun ls hl => ?_)
        exact L_79_88 v9 v10 mFuel v7 (0 : Int32) st H locs ls hI (lv_sub hl [1, 2, 3, 4, 5, 6, 7, 8, 9, 10, 0] rfl) (asc_b hf)
  unfold fm_tried at hf
  refine lv_aload_n hx hb dX12_tried_0 rfl (lv_at hl 0 rfl) ?_
  refine lv_iload_n hx hb dX12_tried_1 rfl (lv_at hl 1 rfl) ?_
  refine lv_iload_n hx hb dX12_tried_2 rfl (lv_at hl 2 rfl) ?_
  obtain ⟨x1, hc2, hf⟩ := bnd_b hf
  refine mcall_i (As := [.int a1, .int a2]) (rest := []) (n := 2) ⟨hx, hb, hml, hown, hts⟩ (cm_canAsk l D h ad cy a1 a2 s0 x1 hc2 _) (cwV 2 hts gX12_tried_X12_canAsk rfl rfl rfl ⟨rfl, nd_canAsk⟩ ⟨Nat.le_of_ble_eq_true rfl, Nat.le_of_ble_eq_true rfl⟩) hI hA rfl hl.1 (Nat.le_of_ble_eq_true rfl) dX12_tried_3 ⟨Nat.zero_le _, Nat.zero_le _⟩ (fun H locs hI => ?_)
  refine lv_if_eq (tgt := 58) hx hb dX12_tried_6 (by decide) (fun c3 => ?_) (fun c3 => ?_)
  · replace hf := ifp c3 hf
    refine lv_iconst (v := -1) hx hb dX12_tried_58 (by decide) ?_
    exact mret_i hx hb hr hlocks hI (ret_e hK0 hf) dX12_tried_59
  · replace hf := ifn c3 hf
    refine lv_iload_n hx hb dX12_tried_9 rfl (lv_at hl 3 rfl) ?_
    refine lv_i2l (v := (a3.toInt64)) hx hb dX12_tried_10 rfl ?_
    refine lv_lconst (v := 1) hx hb dX12_tried_11 (by decide) ?_
    refine lv_ldc2 (v := 20) hx hb hown (hts (.constantLong RX12 487 (20)) (by decide +kernel)) dX12_tried_12 ?_
    obtain ⟨x4, hc5, hf⟩ := bnd_b hf
    refine mst_i (As := [.long (a3.toInt64), .long (1 : Int64), .long (20 : Int64)]) (rest := []) (n := 3) ⟨hx, hb, hml, hown, hts⟩ (cs_in l (a3.toInt64) (1 : Int64) (20 : Int64) x4 hc5 _) (va_cwS 3 hts gX12_tried_X12_in rfl rfl rfl nd_in ⟨Nat.le_of_ble_eq_true rfl, Nat.le_of_ble_eq_true rfl⟩) hI hA rfl hl.1 (Nat.le_of_ble_eq_true rfl) dX12_tried_15 ⟨Nat.zero_le _, Nat.zero_le _⟩ (fun H locs hI => ?_)
    refine lv_if_eq (tgt := 58) hx hb dX12_tried_18 (by decide) (fun c6 => ?_) (fun c6 => ?_)
    · replace hf := ifp c6 hf
      refine lv_iconst (v := -1) hx hb dX12_tried_58 (by decide) ?_
      exact mret_i hx hb hr hlocks hI (ret_e hK0 hf) dX12_tried_59
    · replace hf := ifn c6 hf
      refine lv_iload hx hb dX12_tried_21 (lv_at hl 4 rfl) ?_
      refine lv_i2l (v := (a4.toInt64)) hx hb dX12_tried_23 rfl ?_
      refine lv_lconst (v := 1) hx hb dX12_tried_24 (by decide) ?_
      refine lv_ldc2 (v := 200) hx hb hown (hts (.constantLong RX12 405 (200)) (by decide +kernel)) dX12_tried_25 ?_
      obtain ⟨x7, hc8, hf⟩ := bnd_b hf
      refine mst_i (As := [.long (a4.toInt64), .long (1 : Int64), .long (200 : Int64)]) (rest := []) (n := 3) ⟨hx, hb, hml, hown, hts⟩ (cs_in l (a4.toInt64) (1 : Int64) (200 : Int64) x7 hc8 _) (va_cwS 3 hts gX12_tried_X12_in rfl rfl rfl nd_in ⟨Nat.le_of_ble_eq_true rfl, Nat.le_of_ble_eq_true rfl⟩) hI hA rfl hl.1 (Nat.le_of_ble_eq_true rfl) dX12_tried_28 ⟨Nat.zero_le _, Nat.zero_le _⟩ (fun H locs hI => ?_)
      refine lv_if_eq (tgt := 58) hx hb dX12_tried_31 (by decide) (fun c9 => ?_) (fun c9 => ?_)
      · replace hf := ifp c9 hf
        refine lv_iconst (v := -1) hx hb dX12_tried_58 (by decide) ?_
        exact mret_i hx hb hr hlocks hI (ret_e hK0 hf) dX12_tried_59
      · replace hf := ifn c9 hf
        refine lv_iload hx hb dX12_tried_34 (lv_at hl 5 rfl) ?_
        refine lv_i2l (v := (a5.toInt64)) hx hb dX12_tried_36 rfl ?_
        refine lv_lconst (v := 0) hx hb dX12_tried_37 (by decide) ?_
        refine lv_ldc2 (v := 100) hx hb hown (hts (.constantLong RX12 489 (100)) (by decide +kernel)) dX12_tried_38 ?_
        obtain ⟨x10, hc11, hf⟩ := bnd_b hf
        refine mst_i (As := [.long (a5.toInt64), .long (0 : Int64), .long (100 : Int64)]) (rest := []) (n := 3) ⟨hx, hb, hml, hown, hts⟩ (cs_in l (a5.toInt64) (0 : Int64) (100 : Int64) x10 hc11 _) (va_cwS 3 hts gX12_tried_X12_in rfl rfl rfl nd_in ⟨Nat.le_of_ble_eq_true rfl, Nat.le_of_ble_eq_true rfl⟩) hI hA rfl hl.1 (Nat.le_of_ble_eq_true rfl) dX12_tried_41 ⟨Nat.zero_le _, Nat.zero_le _⟩ (fun H locs hI => ?_)
        refine lv_if_eq (tgt := 58) hx hb dX12_tried_44 (by decide) (fun c12 => ?_) (fun c12 => ?_)
        · replace hf := ifp c12 hf
          refine lv_iconst (v := -1) hx hb dX12_tried_58 (by decide) ?_
          exact mret_i hx hb hr hlocks hI (ret_e hK0 hf) dX12_tried_59
        · replace hf := ifn c12 hf
          refine lv_iload hx hb dX12_tried_47 (lv_at hl 6 rfl) ?_
          refine lv_i2l (v := (a6.toInt64)) hx hb dX12_tried_49 rfl ?_
          refine lv_lconst (v := 0) hx hb dX12_tried_50 (by decide) ?_
          refine lv_lconst (v := 1) hx hb dX12_tried_51 (by decide) ?_
          obtain ⟨x13, hc14, hf⟩ := bnd_b hf
          refine mst_i (As := [.long (a6.toInt64), .long (0 : Int64), .long (1 : Int64)]) (rest := []) (n := 3) ⟨hx, hb, hml, hown, hts⟩ (cs_in l (a6.toInt64) (0 : Int64) (1 : Int64) x13 hc14 _) (va_cwS 3 hts gX12_tried_X12_in rfl rfl rfl nd_in ⟨Nat.le_of_ble_eq_true rfl, Nat.le_of_ble_eq_true rfl⟩) hI hA rfl hl.1 (Nat.le_of_ble_eq_true rfl) dX12_tried_52 ⟨Nat.zero_le _, Nat.zero_le _⟩ (fun H locs hI => ?_)
          refine lv_if_ne (tgt := 60) hx hb dX12_tried_55 (by decide) (fun c15 => ?_) (fun c15 => ?_)
          · replace hf := ifn c15 hf
            refine lv_aload_n hx hb dX12_tried_60 rfl (lv_at hl 0 rfl) ?_
            refine mg_said hx hb hts hin hown k_said hI dX12_tried_61 ?_
            refine lv_iconst (v := 5) hx hb dX12_tried_64 (by decide) ?_
            obtain ⟨k16, hf⟩ := chk_b hf
            refine ml_said hx hb hI k16 dX12_tried_65 ?_
            refine lv_i2l (v := ((x1.1.2.1 26 (5 : Int32).toNatClampNeg).toInt64)) hx hb dX12_tried_66 rfl ?_
            refine lv_lstore (lv' := [(7, .long ((x1.1.2.1 26 (5 : Int32).toNatClampNeg).toInt64)), (0, .ref h), (1, .int a1), (2, .int a2), (3, .int a3), (4, .int a4), (5, .int a5), (6, .int a6)]) hx hb dX12_tried_67 hl (by decide) rfl (fun ls hl => ?_)
            refine lv_iconst (v := 0) hx hb dX12_tried_69 (by decide) ?_
            refine lv_istore (lv' := [(9, .int (0 : Int32)), (7, .long ((x1.1.2.1 26 (5 : Int32).toNatClampNeg).toInt64)), (0, .ref h), (1, .int a1), (2, .int a2), (3, .int a3), (4, .int a4), (5, .int a5), (6, .int a6)]) hx hb dX12_tried_70 hl (by decide) rfl (fun ls hl => ?_)
            refine lv_aload_n hx hb dX12_tried_72 rfl (lv_at hl 2 rfl) ?_
            obtain ⟨x17, hc18, hf⟩ := bnd_b hf
            refine mcall_v (As := []) (rest := []) (n := 0) ⟨hx, hb, hml, hown, hts⟩ (cm_keeps l D h ad cy  x1.1 x17 hc18 _) (cwV 0 hts gX12_tried_X12_keeps rfl rfl rfl ⟨rfl, nd_keeps⟩ ⟨Nat.le_of_ble_eq_true rfl, Nat.le_of_ble_eq_true rfl⟩) hI hA rfl hl.1 (Nat.le_of_ble_eq_true rfl) dX12_tried_73 ⟨Nat.zero_le _, Nat.zero_le _⟩ (fun H locs hI => ?_)
            refine lv_iconst (v := 0) hx hb dX12_tried_76 (by decide) ?_
            refine lv_istore (lv' := [(10, .int (0 : Int32)), (9, .int (0 : Int32)), (7, .long ((x1.1.2.1 26 (5 : Int32).toNatClampNeg).toInt64)), (0, .ref h), (1, .int a1), (2, .int a2), (3, .int a3), (4, .int a4), (5, .int a5), (6, .int a6)]) hx hb dX12_tried_77 hl (by decide) rfl (fun ls hl => ?_)
            exact L_79 a1 a2 a3 a4 a5 a6 mFuel ((x1.1.2.1 26 (5 : Int32).toNatClampNeg).toInt64) (0 : Int32) (0 : Int32) x17 H locs ls hI (lv_sub hl [3, 4, 5, 6, 7, 8, 9, 2, 1, 0] rfl) (asc_b hf)
          · replace hf := ifp c15 hf
            refine lv_iconst (v := -1) hx hb dX12_tried_58 (by decide) ?_
            exact mret_i hx hb hr hlocks hI (ret_e hK0 hf) dX12_tried_59

theorem nd_leap : yX12_leap.cls ≠ "java/lang/invoke/MethodHandle" ∧ yX12_leap.cls ≠ "java/lang/invoke/VarHandle" ∧ (parseMethodDescriptor yX12_leap.desc).map (fun d => d.parameters.length) = some 1 := by decide +kernel
set_option maxHeartbeats 4000000 in
set_option maxRecDepth 100000 in
theorem cm_leap (l : Launch) (D : va_G) (h : Nat) (ad : Nat → Nat) (cy : Nat → ClassId) (a1 : Int32) (s0 : MSt) (out : MSt × Int32) (hf : fm_leap a1 s0 = some out) (sz : Nat) : CMi l D h ad cy yX12_leap wsX12_leap { frames := 1, cells := 0, slots := 0, locals := 25 } [.int a1] s0 out sz := by
  refine Met.ofW (cc := cX12_leap) (maxL := 2) (ret := (some .int)) (by decide) rfl ?_
  intro p e s m args below meth c s₁ B hml hv
  obtain ⟨rfl, hsz, hP, hK, hD0⟩ := hv
  have hx := B.exec
  have hb := B.bytes
  have hr := B.returns
  have hts := atoms_spec (ws := wsX12_leap) B.pre
  have hown : s.vm.findClass RX12 = some m.cls := findClass_of_methodNamed B.named
  have hlocks := B.notSynchronized
  subst hsz
  have hI : MI D (MA h ad cy s0 s.heap.size) h ad cy s s.heap s0 s.heap [] := ⟨hK, hP, hD0.self, va_S.rf⟩
  have hA : ∀ q : Nat, s.heap.size ≤ q → MA h ad cy s0 s.heap.size q := fun q hq => Or.inr hq
  have hl := lv_entry ([.ref h, .int a1]) (n := 2) (Nat.le_of_ble_eq_true rfl)
  rw [lg_entry_eq]
  generalize (lg_sl ([.ref h, .int a1]) ++ List.replicate (2 - (lg_sl ([.ref h, .int a1])).length) Slot.unset).toArray = ls at hl ⊢
  have hl : lv_has ls 2 [(0, .ref h), (1, .int a1)] := hl
  obtain ⟨K0, hK0, hf⟩ := top_e hf
  unfold fm_leap at hf
  refine lv_iload_n hx hb dX12_leap_0 rfl (lv_at hl 1 rfl) ?_
  refine lv_i2l (v := (a1.toInt64)) hx hb dX12_leap_1 rfl ?_
  refine lv_lconst (v := 1) hx hb dX12_leap_2 (by decide) ?_
  refine lv_ldc2 (v := 9999) hx hb hown (hts (.constantLong RX12 479 (9999)) (by decide +kernel)) dX12_leap_3 ?_
  obtain ⟨x1, hc2, hf⟩ := bnd_b hf
  refine mst_i (As := [.long (a1.toInt64), .long (1 : Int64), .long (9999 : Int64)]) (rest := []) (n := 3) ⟨hx, hb, hml, hown, hts⟩ (cs_in l (a1.toInt64) (1 : Int64) (9999 : Int64) x1 hc2 _) (va_cwS 3 hts gX12_leap_X12_in rfl rfl rfl nd_in ⟨Nat.le_of_ble_eq_true rfl, Nat.le_of_ble_eq_true rfl⟩) hI hA rfl hl.1 (Nat.le_of_ble_eq_true rfl) dX12_leap_6 ⟨Nat.zero_le _, Nat.zero_le _⟩ (fun H locs hI => ?_)
  refine lv_if_ne (tgt := 14) hx hb dX12_leap_9 (by decide) (fun c3 => ?_) (fun c3 => ?_)
  · replace hf := ifn c3 hf
    refine lv_iload_n hx hb dX12_leap_14 rfl (lv_at hl 1 rfl) ?_
    refine lv_sipush (v := 400) hx hb dX12_leap_15 (by decide) ?_
    refine lv_irem hx hb dX12_leap_18 (by decide) ?_
    refine lv_if_eq (tgt := 35) hx hb dX12_leap_19 (by decide) (fun c4 => ?_) (fun c4 => ?_)
    · replace hf := ifp c4 hf
      refine lv_iconst (v := 1) hx hb dX12_leap_35 (by decide) ?_
      refine lv_goto (tgt := 40) hx hb dX12_leap_36 (by decide) ?_
      exact mret_i hx hb hr hlocks hI (ret_e hK0 hf) dX12_leap_40
    · replace hf := ifn c4 hf
      refine lv_iload_n hx hb dX12_leap_22 rfl (lv_at hl 1 rfl) ?_
      refine lv_iconst (v := 4) hx hb dX12_leap_23 (by decide) ?_
      refine lv_irem hx hb dX12_leap_24 (by decide) ?_
      refine lv_if_ne (tgt := 39) hx hb dX12_leap_25 (by decide) (fun c5 => ?_) (fun c5 => ?_)
      · replace hf := ifn c5 hf
        refine lv_iconst (v := 0) hx hb dX12_leap_39 (by decide) ?_
        exact mret_i hx hb hr hlocks hI (ret_e hK0 hf) dX12_leap_40
      · replace hf := ifp c5 hf
        refine lv_iload_n hx hb dX12_leap_28 rfl (lv_at hl 1 rfl) ?_
        refine lv_bipush (v := 100) hx hb dX12_leap_29 (by decide) ?_
        refine lv_irem hx hb dX12_leap_31 (by decide) ?_
        refine lv_if_eq (tgt := 39) hx hb dX12_leap_32 (by decide) (fun c6 => ?_) (fun c6 => ?_)
        · replace hf := ifp c6 hf
          refine lv_iconst (v := 0) hx hb dX12_leap_39 (by decide) ?_
          exact mret_i hx hb hr hlocks hI (ret_e hK0 hf) dX12_leap_40
        · replace hf := ifn c6 hf
          refine lv_iconst (v := 1) hx hb dX12_leap_35 (by decide) ?_
          refine lv_goto (tgt := 40) hx hb dX12_leap_36 (by decide) ?_
          exact mret_i hx hb hr hlocks hI (ret_e hK0 hf) dX12_leap_40
  · replace hf := ifp c3 hf
    refine lv_iconst (v := -1) hx hb dX12_leap_12 (by decide) ?_
    exact mret_i hx hb hr hlocks hI (ret_e hK0 hf) dX12_leap_13
