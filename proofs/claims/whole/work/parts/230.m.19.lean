theorem nd_whatever : yX12_whatever.cls ≠ "java/lang/invoke/MethodHandle" ∧ yX12_whatever.cls ≠ "java/lang/invoke/VarHandle" ∧ (parseMethodDescriptor yX12_whatever.desc).map (fun d => d.parameters.length) = some 6 := by decide +kernel
set_option maxHeartbeats 4000000 in
set_option maxRecDepth 100000 in
theorem cm_whatever (l : Launch) (D : va_G) (h : Nat) (ad : Nat → Nat) (cy : Nat → ClassId) (a1 : Int32) (a2 : Int32) (a3 : Int32) (a4 : Int32) (a5 : Int32) (a6 : Int32) (s0 : MSt) (out : MSt × Int32) (hf : fm_whatever a1 a2 a3 a4 a5 a6 s0 = some out) (sz : Nat) : CMi l D h ad cy yX12_whatever wsX12_whatever { frames := 6, cells := 0, slots := 0, locals := 145 } [.int a1, .int a2, .int a3, .int a4, .int a5, .int a6] s0 out sz := by
  refine Met.ofW (cc := cX12_whatever) (maxL := 12) (ret := (some .int)) (by decide) rfl ?_
  intro p e s m args below meth c s₁ B hml hv
  obtain ⟨rfl, hsz, hP, hK, hD0⟩ := hv
  have hx := B.exec
  have hb := B.bytes
  have hr := B.returns
  have hts := atoms_spec (ws := wsX12_whatever) B.pre
  have hown : s.vm.findClass RX12 = some m.cls := findClass_of_methodNamed B.named
  have hlocks := B.notSynchronized
  subst hsz
  have hI : MI D (MA h ad cy s0 s.heap.size) h ad cy s s.heap s0 s.heap [] := ⟨hK, hP, hD0.self, va_S.rf⟩
  have hA : ∀ q : Nat, s.heap.size ≤ q → MA h ad cy s0 s.heap.size q := fun q hq => Or.inr hq
  have hin : ∀ w ∈ u_ws RX12 TX12 42, w ∈ wsX12_whatever := fun w hw => List.mem_cons_of_mem _ (List.mem_append_right _ hw)
  have k_errNow : Cond.fieldLink RX12 48 "HalfBridgeModel" "errNow" "[I" ∈ wsX12_whatever := by decide +kernel
  have hl := lv_entry ([.ref h, .int a1, .int a2, .int a3, .int a4, .int a5, .int a6]) (n := 12) (Nat.le_of_ble_eq_true rfl)
  rw [lg_entry_eq]
  generalize (lg_sl ([.ref h, .int a1, .int a2, .int a3, .int a4, .int a5, .int a6]) ++ List.replicate (12 - (lg_sl ([.ref h, .int a1, .int a2, .int a3, .int a4, .int a5, .int a6])).length) Slot.unset).toArray = ls at hl ⊢
  have hl : lv_has ls 12 [(0, .ref h), (1, .int a1), (2, .int a2), (3, .int a3), (4, .int a4), (5, .int a5), (6, .int a6)] := hl
  obtain ⟨K0, hK0, hf⟩ := top_e hf
  have B_200 : ∀ (v8 : Int32)  (st : MSt) (H : Heap) (locs : List Loc) (ls : Array Slot), MI D (MA h ad cy s0 s.heap.size) h ad cy s s.heap st H locs → lv_has ls 12 [(8, .int v8)] → (fm_whatever_j200 v8 st).bind K0 = some out → W p l e (headSpec wsX12_whatever { frames := 6, cells := 0, slots := 0, locals := 145 }).room s m (([.ref h, .int a1, .int a2, .int a3, .int a4, .int a5, .int a6] : List Value).toArray) below meth c H locs 0 0 (MQ below (MQi D h ad cy s0 out s.heap.size) ([.ref h, .int a1, .int a2, .int a3, .int a4, .int a5, .int a6] : List Value).toArray s 0 0 (MA h ad cy s0 s.heap.size)) (F0 m 200 ls []) := by
    intro v8 st H locs ls hI hl hf
    unfold fm_whatever_j200 at hf
    refine lv_iload hx hb dX12_whatever_200 (lv_at hl 0 rfl) ?_
    exact mret_i hx hb hr hlocks hI (ret_e hK0 hf) dX12_whatever_202
  have L_101 : ∀ (v1 : Int32) (v2 : Int32) (v3 : Int32) (v4 : Int32) (v5 : Int32) (v6 : Int32) (v7 : Int32) (n : Nat) (v8 : Int32) (v9 : Int32) (st : MSt) (H : Heap) (locs : List Loc) (ls : Array Slot), MI D (MA h ad cy s0 s.heap.size) h ad cy s s.heap st H locs → lv_has ls 12 [(0, .ref h), (1, .int v1), (2, .int v2), (3, .int v3), (4, .int v4), (5, .int v5), (6, .int v6), (7, .int v7), (8, .int v8), (9, .int v9)] → (iter (fun x : (Int32 × Int32 × MSt) => fm_whatever_s101 v1 v2 v3 v4 v5 v6 v7 x.1 x.2.1 x.2.2) n (v8, v9, st)).bind (fun x => ((Sum.elim (fun o : MSt × Int32 => (some o : Option (MSt × Int32))) (fun x : (Int32 × Int32 × MSt) => fm_whatever_j200 x.1 x.2.2)) x).bind K0) = some out → W p l e (headSpec wsX12_whatever { frames := 6, cells := 0, slots := 0, locals := 145 }).room s m (([.ref h, .int a1, .int a2, .int a3, .int a4, .int a5, .int a6] : List Value).toArray) below meth c H locs 0 0 (MQ below (MQi D h ad cy s0 out s.heap.size) ([.ref h, .int a1, .int a2, .int a3, .int a4, .int a5, .int a6] : List Value).toArray s 0 0 (MA h ad cy s0 s.heap.size)) (F0 m 101 ls []) := by
    intro v1 v2 v3 v4 v5 v6 v7 n
    induction n with
    | zero => intro v8 v9 st H locs ls hI hl hf; exact (iter_0 hf).elim
    | succ n ih =>
      intro v8 v9 st H locs ls hI hl hf
      obtain ⟨K1, hK1, hf⟩ := iter_e hf
      replace hf : (fm_whatever_s101 v1 v2 v3 v4 v5 v6 v7 v8 v9 st).bind K1 = some out := hf
      have B_101_173 : ∀ (v8 : Int32) (v9 : Int32)  (st : MSt) (H : Heap) (locs : List Loc) (ls : Array Slot), MI D (MA h ad cy s0 s.heap.size) h ad cy s s.heap st H locs → lv_has ls 12 [(0, .ref h), (1, .int v1), (2, .int v2), (3, .int v3), (4, .int v4), (5, .int v5), (6, .int v6), (7, .int v7), (8, .int v8), (9, .int v9)] → (fm_whatever_j173 v1 v2 v3 v4 v5 v6 v7 v8 v9 st).bind K1 = some out → W p l e (headSpec wsX12_whatever { frames := 6, cells := 0, slots := 0, locals := 145 }).room s m (([.ref h, .int a1, .int a2, .int a3, .int a4, .int a5, .int a6] : List Value).toArray) below meth c H locs 0 0 (MQ below (MQi D h ad cy s0 out s.heap.size) ([.ref h, .int a1, .int a2, .int a3, .int a4, .int a5, .int a6] : List Value).toArray s 0 0 (MA h ad cy s0 s.heap.size)) (F0 m 173 ls []) := by
        intro v8 v9 st H locs ls hI hl hf
        unfold fm_whatever_j173 at hf
        refine lv_iload hx hb dX12_whatever_173 (lv_at hl 8 rfl) ?_
        refine lv_aload_n hx hb dX12_whatever_175 rfl (lv_at hl 0 rfl) ?_
        obtain ⟨x22, hc23, hf⟩ := bnd_b hf
        refine mcall_i (As := []) (rest := [.int v8]) (n := 0) ⟨hx, hb, hml, hown, hts⟩ (cm_isInTime l D h ad cy  st x22 hc23 _) (cwV 0 hts gX12_whatever_X12_isInTime rfl rfl rfl ⟨rfl, nd_isInTime⟩ ⟨Nat.le_of_ble_eq_true rfl, Nat.le_of_ble_eq_true rfl⟩) hI hA rfl hl.1 (Nat.le_of_ble_eq_true rfl) dX12_whatever_176 ⟨Nat.zero_le _, Nat.zero_le _⟩ (fun H locs hI => ?_)
        refine lv_if_eq (tgt := 186) hx hb dX12_whatever_179 (by decide) (fun c24 => ?_) (fun c24 => ?_)
        · replace hf := ifp c24 hf
          refine lv_iconst (v := 0) hx hb dX12_whatever_186 (by decide) ?_
          refine lv_iadd hx hb dX12_whatever_187 ?_
          refine lv_istore (lv' := [(8, .int (v8 + (0 : Int32))), (0, .ref h), (1, .int v1), (2, .int v2), (3, .int v3), (4, .int v4), (5, .int v5), (6, .int v6), (7, .int v7), (9, .int v9)]) hx hb dX12_whatever_188 hl (by decide) rfl (fun ls hl => ?_)
          refine lv_aload_n hx hb dX12_whatever_190 rfl (lv_at hl 1 rfl) ?_
          obtain ⟨x25, hc26, hf⟩ := bnd_b hf
          refine mcall_v (As := []) (rest := []) (n := 0) ⟨hx, hb, hml, hown, hts⟩ (cm_putsBack l D h ad cy  x22.1 x25 hc26 _) (cwV 0 hts gX12_whatever_X12_putsBack rfl rfl rfl ⟨rfl, nd_putsBack⟩ ⟨Nat.le_of_ble_eq_true rfl, Nat.le_of_ble_eq_true rfl⟩) hI hA rfl hl.1 (Nat.le_of_ble_eq_true rfl) dX12_whatever_191 ⟨Nat.zero_le _, Nat.zero_le _⟩ (fun H locs hI => ?_)
          refine lv_iinc (v := (v9 + 1)) (lv' := [(9, .int (v9 + 1)), (8, .int (v8 + (0 : Int32))), (0, .ref h), (1, .int v1), (2, .int v2), (3, .int v3), (4, .int v4), (5, .int v5), (6, .int v6), (7, .int v7)]) hx hb dX12_whatever_194 hl (k := 9) rfl (ci_ _ (by decide)) (by decide) rfl (fun ls hl => ?_)
          refine lv_goto (tgt := 101) hx hb dX12_whatever_197 (by decide) ?_
          replace hf := cont_b hK1 hf
          exact ih (v8 + (0 : Int32)) (v9 + 1) x25 H locs ls hI (lv_sub hl [2, 3, 4, 5, 6, 7, 8, 9, 1, 0] rfl) hf
        · replace hf := ifn c24 hf
          refine lv_iconst (v := 1) hx hb dX12_whatever_182 (by decide) ?_
          refine lv_goto (tgt := 187) hx hb dX12_whatever_183 (by decide) ?_
          refine lv_iadd hx hb dX12_whatever_187 ?_
          refine lv_istore (lv' := [(8, .int (v8 + (1 : Int32))), (0, .ref h), (1, .int v1), (2, .int v2), (3, .int v3), (4, .int v4), (5, .int v5), (6, .int v6), (7, .int v7), (9, .int v9)]) hx hb dX12_whatever_188 hl (by decide) rfl (fun ls hl => ?_)
          refine lv_aload_n hx hb dX12_whatever_190 rfl (lv_at hl 1 rfl) ?_
          obtain ⟨x27, hc28, hf⟩ := bnd_b hf
          refine mcall_v (As := []) (rest := []) (n := 0) ⟨hx, hb, hml, hown, hts⟩ (cm_putsBack l D h ad cy  x22.1 x27 hc28 _) (cwV 0 hts gX12_whatever_X12_putsBack rfl rfl rfl ⟨rfl, nd_putsBack⟩ ⟨Nat.le_of_ble_eq_true rfl, Nat.le_of_ble_eq_true rfl⟩) hI hA rfl hl.1 (Nat.le_of_ble_eq_true rfl) dX12_whatever_191 ⟨Nat.zero_le _, Nat.zero_le _⟩ (fun H locs hI => ?_)
          refine lv_iinc (v := (v9 + 1)) (lv' := [(9, .int (v9 + 1)), (8, .int (v8 + (1 : Int32))), (0, .ref h), (1, .int v1), (2, .int v2), (3, .int v3), (4, .int v4), (5, .int v5), (6, .int v6), (7, .int v7)]) hx hb dX12_whatever_194 hl (k := 9) rfl (ci_ _ (by decide)) (by decide) rfl (fun ls hl => ?_)
          refine lv_goto (tgt := 101) hx hb dX12_whatever_197 (by decide) ?_
          replace hf := cont_b hK1 hf
          exact ih (v8 + (1 : Int32)) (v9 + 1) x27 H locs ls hI (lv_sub hl [2, 3, 4, 5, 6, 7, 8, 9, 1, 0] rfl) hf
      have L_101_115 : ∀ (v8 : Int32) (v9 : Int32) (n : Nat) (v10 : Int32) (v11 : Int32) (st : MSt) (H : Heap) (locs : List Loc) (ls : Array Slot), MI D (MA h ad cy s0 s.heap.size) h ad cy s s.heap st H locs → lv_has ls 12 [(0, .ref h), (1, .int v1), (2, .int v2), (3, .int v3), (4, .int v4), (5, .int v5), (6, .int v6), (7, .int v7), (8, .int v8), (9, .int v9), (10, .int v10), (11, .int v11)] → (iter (fun x : (Int32 × Int32 × MSt) => fm_whatever_s115 v1 v2 v3 v4 v5 v6 v7 v8 v9 x.1 x.2.1 x.2.2) n (v10, v11, st)).bind (fun x => ((Sum.elim (fun o : MSt × Int32 => (some (.inl o) : Option ((MSt × Int32) ⊕ ((Int32 × Int32 × MSt) ⊕ (Int32 × Int32 × MSt))))) (fun x : (Int32 × Int32 × MSt) => fm_whatever_j173 v1 v2 v3 v4 v5 v6 v7 v8 v9 x.2.2)) x).bind K1) = some out → W p l e (headSpec wsX12_whatever { frames := 6, cells := 0, slots := 0, locals := 145 }).room s m (([.ref h, .int a1, .int a2, .int a3, .int a4, .int a5, .int a6] : List Value).toArray) below meth c H locs 0 0 (MQ below (MQi D h ad cy s0 out s.heap.size) ([.ref h, .int a1, .int a2, .int a3, .int a4, .int a5, .int a6] : List Value).toArray s 0 0 (MA h ad cy s0 s.heap.size)) (F0 m 115 ls []) := by
        intro v8 v9 n
        induction n with
        | zero => intro v10 v11 st H locs ls hI hl hf; exact (iter_0 hf).elim
        | succ n ih =>
          intro v10 v11 st H locs ls hI hl hf
          obtain ⟨K2, hK2, hf⟩ := iter_e hf
          replace hf : (fm_whatever_s115 v1 v2 v3 v4 v5 v6 v7 v8 v9 v10 v11 st).bind K2 = some out := hf
          have B_101_115_155 : ∀ (v10 : Int32) (v11 : Int32)  (st : MSt) (H : Heap) (locs : List Loc) (ls : Array Slot), MI D (MA h ad cy s0 s.heap.size) h ad cy s s.heap st H locs → lv_has ls 12 [(0, .ref h), (1, .int v1), (2, .int v2), (3, .int v3), (4, .int v4), (5, .int v5), (6, .int v6), (7, .int v7), (8, .int v8), (9, .int v9), (10, .int v10), (11, .int v11)] → (fm_whatever_j155 v1 v2 v3 v4 v5 v6 v7 v8 v9 v10 v11 st).bind K2 = some out → W p l e (headSpec wsX12_whatever { frames := 6, cells := 0, slots := 0, locals := 145 }).room s m (([.ref h, .int a1, .int a2, .int a3, .int a4, .int a5, .int a6] : List Value).toArray) below meth c H locs 0 0 (MQ below (MQi D h ad cy s0 out s.heap.size) ([.ref h, .int a1, .int a2, .int a3, .int a4, .int a5, .int a6] : List Value).toArray s 0 0 (MA h ad cy s0 s.heap.size)) (F0 m 155 ls []) := by
            intro v10 v11 st H locs ls hI hl hf
            unfold fm_whatever_j155 at hf
            refine lv_iload hx hb dX12_whatever_155 (lv_at hl 10 rfl) ?_
            refine lv_iconst (v := 3) hx hb dX12_whatever_157 (by decide) ?_
            refine lv_idiv hx hb dX12_whatever_158 (by decide) ?_
            refine lv_istore (lv' := [(10, .int (v10 / (3 : Int32))), (0, .ref h), (1, .int v1), (2, .int v2), (3, .int v3), (4, .int v4), (5, .int v5), (6, .int v6), (7, .int v7), (8, .int v8), (9, .int v9), (11, .int v11)]) hx hb dX12_whatever_159 hl (by decide) rfl (fun ls hl => ?_)
            refine lv_aload_n hx hb dX12_whatever_161 rfl (lv_at hl 1 rfl) ?_
            refine lv_iload_n hx hb dX12_whatever_162 rfl (lv_at hl 2 rfl) ?_
            refine lv_iload_n hx hb dX12_whatever_163 rfl (lv_at hl 3 rfl) ?_
            obtain ⟨x36, hc37, hf⟩ := bnd_b hf
            refine mcall_v (As := [.int v1, .int v2]) (rest := []) (n := 2) ⟨hx, hb, hml, hown, hts⟩ (cm_passes l D h ad cy v1 v2 st x36 hc37 _) (cwV 2 hts gX12_whatever_X12_passes rfl rfl rfl ⟨rfl, nd_passes⟩ ⟨Nat.le_of_ble_eq_true rfl, Nat.le_of_ble_eq_true rfl⟩) hI hA rfl hl.1 (Nat.le_of_ble_eq_true rfl) dX12_whatever_164 ⟨Nat.zero_le _, Nat.zero_le _⟩ (fun H locs hI => ?_)
            refine lv_iinc (v := (v11 + 1)) (lv' := [(11, .int (v11 + 1)), (10, .int (v10 / (3 : Int32))), (0, .ref h), (1, .int v1), (2, .int v2), (3, .int v3), (4, .int v4), (5, .int v5), (6, .int v6), (7, .int v7), (8, .int v8), (9, .int v9)]) hx hb dX12_whatever_167 hl (k := 11) rfl (ci_ _ (by decide)) (by decide) rfl (fun ls hl => ?_)
            refine lv_goto (tgt := 115) hx hb dX12_whatever_170 (by decide) ?_
            replace hf := cont_b hK2 hf
            exact ih (v10 / (3 : Int32)) (v11 + 1) x36 H locs ls hI (lv_sub hl [2, 3, 4, 5, 6, 7, 8, 9, 10, 11, 1, 0] rfl) hf
          unfold fm_whatever_s115 at hf
          refine lv_iload hx hb dX12_whatever_115 (lv_at hl 11 rfl) ?_
          refine lv_iload_n hx hb dX12_whatever_117 rfl (lv_at hl 3 rfl) ?_
          refine lv_icmp_ge (tgt := 173) hx hb dX12_whatever_118 (by decide) (fun c29 => ?_) (fun c29 => ?_)
          · replace hf := ifp c29 hf
            replace hf := exit_b hK2 hf
            exact B_101_173 v8 v9 st H locs ls hI (lv_sub hl [0, 1, 2, 3, 4, 5, 6, 7, 8, 9] rfl) hf
          · replace hf := ifn c29 hf
            refine lv_aload_n hx hb dX12_whatever_121 rfl (lv_at hl 0 rfl) ?_
            obtain ⟨x30, hc31, hf⟩ := bnd_b hf
            refine mcall_i (As := []) (rest := []) (n := 0) ⟨hx, hb, hml, hown, hts⟩ (cm_isMet l D h ad cy  st x30 hc31 _) (cwV 0 hts gX12_whatever_X12_isMet rfl rfl rfl ⟨rfl, nd_isMet⟩ ⟨Nat.le_of_ble_eq_true rfl, Nat.le_of_ble_eq_true rfl⟩) hI hA rfl hl.1 (Nat.le_of_ble_eq_true rfl) dX12_whatever_122 ⟨Nat.zero_le _, Nat.zero_le _⟩ (fun H locs hI => ?_)
            refine lv_if_ne (tgt := 173) hx hb dX12_whatever_125 (by decide) (fun c32 => ?_) (fun c32 => ?_)
            · replace hf := ifn c32 hf
              replace hf := exit_b hK2 hf
              exact B_101_173 v8 v9 x30.1 H locs ls hI (lv_sub hl [0, 1, 2, 3, 4, 5, 6, 7, 8, 9] rfl) hf
            · replace hf := ifp c32 hf
              refine lv_aload_n hx hb dX12_whatever_128 rfl (lv_at hl 0 rfl) ?_
              obtain ⟨x33, hc34, hf⟩ := bnd_b hf
              refine mcall_v (As := []) (rest := []) (n := 0) ⟨hx, hb, hml, hown, hts⟩ (cm_errsAsTold l D h ad cy  x30.1 x33 hc34 _) (cwV 0 hts gX12_whatever_X12_errsAsTold rfl rfl rfl ⟨rfl, nd_errsAsTold⟩ ⟨Nat.le_of_ble_eq_true rfl, Nat.le_of_ble_eq_true rfl⟩) hI hA rfl hl.1 (Nat.le_of_ble_eq_true rfl) dX12_whatever_129 ⟨Nat.zero_le _, Nat.zero_le _⟩ (fun H locs hI => ?_)
              refine lv_iload hx hb dX12_whatever_132 (lv_at hl 11 rfl) ?_
              refine lv_iload hx hb dX12_whatever_134 (lv_at hl 5 rfl) ?_
              refine lv_icmp_ge (tgt := 155) hx hb dX12_whatever_136 (by decide) (fun c35 => ?_) (fun c35 => ?_)
              · replace hf := ifp c35 hf
                exact B_101_115_155 v10 v11 x33 H locs ls hI (lv_sub hl [0, 1, 2, 3, 4, 5, 6, 7, 8, 9, 10, 11] rfl) hf
              · replace hf := ifn c35 hf
                refine lv_aload_n hx hb dX12_whatever_139 rfl (lv_at hl 0 rfl) ?_
                refine mg_errNow hx hb hts hin hown k_errNow hI dX12_whatever_140 ?_
                refine lv_iload hx hb dX12_whatever_143 (lv_at hl 4 rfl) ?_
                refine lv_iload hx hb dX12_whatever_145 (lv_at hl 10 rfl) ?_
                refine lv_iconst (v := 3) hx hb dX12_whatever_147 (by decide) ?_
                refine lv_irem hx hb dX12_whatever_148 (by decide) ?_
                refine lv_iconst (v := 1) hx hb dX12_whatever_149 (by decide) ?_
                refine lv_isub hx hb dX12_whatever_150 ?_
                refine lv_iload hx hb dX12_whatever_151 (lv_at hl 6 rfl) ?_
                refine lv_imul hx hb dX12_whatever_153 ?_
                obtain ⟨k38, hf⟩ := chk_b hf
                refine ms_errNow hx hb hI k38 dX12_whatever_154 (fun H locs hI => ?_)
                exact B_101_115_155 v10 v11 (msa x33 27 v4.toNatClampNeg (((v10 - v10 / (3 : Int32) * (3 : Int32)) - (1 : Int32)) * v6)) H locs ls hI (lv_sub hl [0, 1, 2, 3, 4, 5, 6, 7, 8, 9, 10, 11] rfl) hf
      unfold fm_whatever_s101 at hf
      refine lv_iload hx hb dX12_whatever_101 (lv_at hl 9 rfl) ?_
      refine lv_iload hx hb dX12_whatever_103 (lv_at hl 7 rfl) ?_
      refine lv_icmp_ge (tgt := 200) hx hb dX12_whatever_105 (by decide) (fun c21 => ?_) (fun c21 => ?_)
      · replace hf := ifp c21 hf
        replace hf := exit_b hK1 hf
        exact B_200 v8 st H locs ls hI (lv_sub hl [8] rfl) hf
      · replace hf := ifn c21 hf
        refine lv_iload hx hb dX12_whatever_108 (lv_at hl 9 rfl) ?_
        refine lv_istore (lv' := [(10, .int v9), (0, .ref h), (1, .int v1), (2, .int v2), (3, .int v3), (4, .int v4), (5, .int v5), (6, .int v6), (7, .int v7), (8, .int v8), (9, .int v9)]) hx hb dX12_whatever_110 hl (by decide) rfl (fun ls hl => ?_)
        refine lv_iconst (v := 0) hx hb dX12_whatever_112 (by decide) ?_
        refine lv_istore (lv' := [(11, .int (0 : Int32)), (10, .int v9), (0, .ref h), (1, .int v1), (2, .int v2), (3, .int v3), (4, .int v4), (5, .int v5), (6, .int v6), (7, .int v7), (8, .int v8), (9, .int v9)]) hx hb dX12_whatever_113 hl (by decide) rfl (fun ls hl => ?_)
        exact L_101_115 v8 v9 mFuel v9 (0 : Int32) st H locs ls hI (lv_sub hl [2, 3, 4, 5, 6, 7, 8, 9, 10, 11, 1, 0] rfl) (asc_b hf)
  have B_89_0 : ∀ (v1 : Int32) (v2 : Int32) (v3 : Int32) (v4 : Int32) (v5 : Int32) (v6 : Int32) (t0 : Int32) (st : MSt) (H : Heap) (locs : List Loc) (ls : Array Slot), MI D (MA h ad cy s0 s.heap.size) h ad cy s s.heap st H locs → lv_has ls 12 [(0, .ref h), (1, .int v1), (2, .int v2), (3, .int v3), (4, .int v4), (5, .int v5), (6, .int v6)] → (fm_whatever_j89 v1 v2 v3 v4 v5 v6 t0 st).bind K0 = some out → W p l e (headSpec wsX12_whatever { frames := 6, cells := 0, slots := 0, locals := 145 }).room s m (([.ref h, .int a1, .int a2, .int a3, .int a4, .int a5, .int a6] : List Value).toArray) below meth c H locs 0 0 (MQ below (MQi D h ad cy s0 out s.heap.size) ([.ref h, .int a1, .int a2, .int a3, .int a4, .int a5, .int a6] : List Value).toArray s 0 0 (MA h ad cy s0 s.heap.size)) (F0 m 89 ls [.int t0]) := by
    intro v1 v2 v3 v4 v5 v6 t0 st H locs ls hI hl hf
    unfold fm_whatever_j89 at hf
    refine lv_istore (lv' := [(7, .int t0), (0, .ref h), (1, .int v1), (2, .int v2), (3, .int v3), (4, .int v4), (5, .int v5), (6, .int v6)]) hx hb dX12_whatever_89 hl (by decide) rfl (fun ls hl => ?_)
    refine lv_iconst (v := 0) hx hb dX12_whatever_91 (by decide) ?_
    refine lv_istore (lv' := [(8, .int (0 : Int32)), (7, .int t0), (0, .ref h), (1, .int v1), (2, .int v2), (3, .int v3), (4, .int v4), (5, .int v5), (6, .int v6)]) hx hb dX12_whatever_92 hl (by decide) rfl (fun ls hl => ?_)
    refine lv_aload_n hx hb dX12_whatever_94 rfl (lv_at hl 2 rfl) ?_
    obtain ⟨x19, hc20, hf⟩ := bnd_b hf
    refine mcall_v (As := []) (rest := []) (n := 0) ⟨hx, hb, hml, hown, hts⟩ (cm_keeps l D h ad cy  st x19 hc20 _) (cwV 0 hts gX12_whatever_X12_keeps rfl rfl rfl ⟨rfl, nd_keeps⟩ ⟨Nat.le_of_ble_eq_true rfl, Nat.le_of_ble_eq_true rfl⟩) hI hA rfl hl.1 (Nat.le_of_ble_eq_true rfl) dX12_whatever_95 ⟨Nat.zero_le _, Nat.zero_le _⟩ (fun H locs hI => ?_)
    refine lv_iconst (v := 0) hx hb dX12_whatever_98 (by decide) ?_
    refine lv_istore (lv' := [(9, .int (0 : Int32)), (8, .int (0 : Int32)), (7, .int t0), (0, .ref h), (1, .int v1), (2, .int v2), (3, .int v3), (4, .int v4), (5, .int v5), (6, .int v6)]) hx hb dX12_whatever_99 hl (by decide) rfl (fun ls hl => ?_)
    exact L_101 v1 v2 v3 v4 v5 v6 t0 mFuel (0 : Int32) (0 : Int32) x19 H locs ls hI (lv_sub hl [3, 4, 5, 6, 7, 8, 9, 2, 1, 0] rfl) (asc_b hf)
  unfold fm_whatever at hf
  refine lv_aload_n hx hb dX12_whatever_0 rfl (lv_at hl 0 rfl) ?_
  refine lv_iload_n hx hb dX12_whatever_1 rfl (lv_at hl 1 rfl) ?_
  refine lv_iload_n hx hb dX12_whatever_2 rfl (lv_at hl 2 rfl) ?_
  obtain ⟨x1, hc2, hf⟩ := bnd_b hf
  refine mcall_i (As := [.int a1, .int a2]) (rest := []) (n := 2) ⟨hx, hb, hml, hown, hts⟩ (cm_canAsk l D h ad cy a1 a2 s0 x1 hc2 _) (cwV 2 hts gX12_whatever_X12_canAsk rfl rfl rfl ⟨rfl, nd_canAsk⟩ ⟨Nat.le_of_ble_eq_true rfl, Nat.le_of_ble_eq_true rfl⟩) hI hA rfl hl.1 (Nat.le_of_ble_eq_true rfl) dX12_whatever_3 ⟨Nat.zero_le _, Nat.zero_le _⟩ (fun H locs hI => ?_)
  refine lv_if_eq (tgt := 55) hx hb dX12_whatever_6 (by decide) (fun c3 => ?_) (fun c3 => ?_)
  · replace hf := ifp c3 hf
    refine lv_iconst (v := -1) hx hb dX12_whatever_55 (by decide) ?_
    exact mret_i hx hb hr hlocks hI (ret_e hK0 hf) dX12_whatever_56
  · replace hf := ifn c3 hf
    refine lv_iload_n hx hb dX12_whatever_9 rfl (lv_at hl 3 rfl) ?_
    refine lv_i2l (v := (a3.toInt64)) hx hb dX12_whatever_10 rfl ?_
    refine lv_lconst (v := 0) hx hb dX12_whatever_11 (by decide) ?_
    refine lv_ldc2 (v := 60) hx hb hown (hts (.constantLong RX12 435 (60)) (by decide +kernel)) dX12_whatever_12 ?_
    obtain ⟨x4, hc5, hf⟩ := bnd_b hf
    refine mst_i (As := [.long (a3.toInt64), .long (0 : Int64), .long (60 : Int64)]) (rest := []) (n := 3) ⟨hx, hb, hml, hown, hts⟩ (cs_in l (a3.toInt64) (0 : Int64) (60 : Int64) x4 hc5 _) (va_cwS 3 hts gX12_whatever_X12_in rfl rfl rfl nd_in ⟨Nat.le_of_ble_eq_true rfl, Nat.le_of_ble_eq_true rfl⟩) hI hA rfl hl.1 (Nat.le_of_ble_eq_true rfl) dX12_whatever_15 ⟨Nat.zero_le _, Nat.zero_le _⟩ (fun H locs hI => ?_)
    refine lv_if_eq (tgt := 55) hx hb dX12_whatever_18 (by decide) (fun c6 => ?_) (fun c6 => ?_)
    · replace hf := ifp c6 hf
      refine lv_iconst (v := -1) hx hb dX12_whatever_55 (by decide) ?_
      exact mret_i hx hb hr hlocks hI (ret_e hK0 hf) dX12_whatever_56
    · replace hf := ifn c6 hf
      refine lv_iload hx hb dX12_whatever_21 (lv_at hl 4 rfl) ?_
      obtain ⟨x7, hc8, hf⟩ := bnd_b hf
      refine mst_i (As := [.int a4]) (rest := []) (n := 1) ⟨hx, hb, hml, hown, hts⟩ (cs_isSide l a4 x7 hc8 _) (va_cwS 1 hts gX12_whatever_X12_isSide rfl rfl rfl nd_isSide ⟨Nat.le_of_ble_eq_true rfl, Nat.le_of_ble_eq_true rfl⟩) hI hA rfl hl.1 (Nat.le_of_ble_eq_true rfl) dX12_whatever_23 ⟨Nat.zero_le _, Nat.zero_le _⟩ (fun H locs hI => ?_)
      refine lv_if_eq (tgt := 55) hx hb dX12_whatever_26 (by decide) (fun c9 => ?_) (fun c9 => ?_)
      · replace hf := ifp c9 hf
        refine lv_iconst (v := -1) hx hb dX12_whatever_55 (by decide) ?_
        exact mret_i hx hb hr hlocks hI (ret_e hK0 hf) dX12_whatever_56
      · replace hf := ifn c9 hf
        refine lv_iload hx hb dX12_whatever_29 (lv_at hl 5 rfl) ?_
        refine lv_i2l (v := (a5.toInt64)) hx hb dX12_whatever_31 rfl ?_
        refine lv_lconst (v := 0) hx hb dX12_whatever_32 (by decide) ?_
        refine lv_ldc2 (v := 3) hx hb hown (hts (.constantLong RX12 337 (3)) (by decide +kernel)) dX12_whatever_33 ?_
        obtain ⟨x10, hc11, hf⟩ := bnd_b hf
        refine mst_i (As := [.long (a5.toInt64), .long (0 : Int64), .long (3 : Int64)]) (rest := []) (n := 3) ⟨hx, hb, hml, hown, hts⟩ (cs_in l (a5.toInt64) (0 : Int64) (3 : Int64) x10 hc11 _) (va_cwS 3 hts gX12_whatever_X12_in rfl rfl rfl nd_in ⟨Nat.le_of_ble_eq_true rfl, Nat.le_of_ble_eq_true rfl⟩) hI hA rfl hl.1 (Nat.le_of_ble_eq_true rfl) dX12_whatever_36 ⟨Nat.zero_le _, Nat.zero_le _⟩ (fun H locs hI => ?_)
        refine lv_if_eq (tgt := 55) hx hb dX12_whatever_39 (by decide) (fun c12 => ?_) (fun c12 => ?_)
        · replace hf := ifp c12 hf
          refine lv_iconst (v := -1) hx hb dX12_whatever_55 (by decide) ?_
          exact mret_i hx hb hr hlocks hI (ret_e hK0 hf) dX12_whatever_56
        · replace hf := ifn c12 hf
          refine lv_iload hx hb dX12_whatever_42 (lv_at hl 6 rfl) ?_
          refine lv_i2l (v := (a6.toInt64)) hx hb dX12_whatever_44 rfl ?_
          refine lv_lconst (v := 1) hx hb dX12_whatever_45 (by decide) ?_
          refine lv_ldc2 (v := 9) hx hb hown (hts (.constantLong RX12 355 (9)) (by decide +kernel)) dX12_whatever_46 ?_
          obtain ⟨x13, hc14, hf⟩ := bnd_b hf
          refine mst_i (As := [.long (a6.toInt64), .long (1 : Int64), .long (9 : Int64)]) (rest := []) (n := 3) ⟨hx, hb, hml, hown, hts⟩ (cs_in l (a6.toInt64) (1 : Int64) (9 : Int64) x13 hc14 _) (va_cwS 3 hts gX12_whatever_X12_in rfl rfl rfl nd_in ⟨Nat.le_of_ble_eq_true rfl, Nat.le_of_ble_eq_true rfl⟩) hI hA rfl hl.1 (Nat.le_of_ble_eq_true rfl) dX12_whatever_49 ⟨Nat.zero_le _, Nat.zero_le _⟩ (fun H locs hI => ?_)
          refine lv_if_ne (tgt := 57) hx hb dX12_whatever_52 (by decide) (fun c15 => ?_) (fun c15 => ?_)
          · replace hf := ifn c15 hf
            refine lv_iload hx hb dX12_whatever_57 (lv_at hl 5 rfl) ?_
            refine lv_if_ne (tgt := 66) hx hb dX12_whatever_59 (by decide) (fun c16 => ?_) (fun c16 => ?_)
            · replace hf := ifn c16 hf
              refine lv_iload hx hb dX12_whatever_66 (lv_at hl 5 rfl) ?_
              refine lv_iconst (v := 1) hx hb dX12_whatever_68 (by decide) ?_
              refine lv_icmp_ne (tgt := 76) hx hb dX12_whatever_69 (by decide) (fun c17 => ?_) (fun c17 => ?_)
              · replace hf := ifn c17 hf
                refine lv_iload hx hb dX12_whatever_76 (lv_at hl 5 rfl) ?_
                refine lv_iconst (v := 2) hx hb dX12_whatever_78 (by decide) ?_
                refine lv_icmp_ne (tgt := 87) hx hb dX12_whatever_79 (by decide) (fun c18 => ?_) (fun c18 => ?_)
                · replace hf := ifn c18 hf
                  refine lv_bipush (v := 27) hx hb dX12_whatever_87 (by decide) ?_
                  exact B_89_0 a1 a2 a3 a4 a5 a6 (27 : Int32) x1.1 H locs ls hI (lv_sub hl [0, 1, 2, 3, 4, 5, 6] rfl) hf
                · replace hf := ifp c18 hf
                  refine lv_bipush (v := 9) hx hb dX12_whatever_82 (by decide) ?_
                  refine lv_goto (tgt := 89) hx hb dX12_whatever_84 (by decide) ?_
                  exact B_89_0 a1 a2 a3 a4 a5 a6 (9 : Int32) x1.1 H locs ls hI (lv_sub hl [0, 1, 2, 3, 4, 5, 6] rfl) hf
              · replace hf := ifp c17 hf
                refine lv_iconst (v := 3) hx hb dX12_whatever_72 (by decide) ?_
                refine lv_goto (tgt := 89) hx hb dX12_whatever_73 (by decide) ?_
                exact B_89_0 a1 a2 a3 a4 a5 a6 (3 : Int32) x1.1 H locs ls hI (lv_sub hl [0, 1, 2, 3, 4, 5, 6] rfl) hf
            · replace hf := ifp c16 hf
              refine lv_iconst (v := 1) hx hb dX12_whatever_62 (by decide) ?_
              refine lv_goto (tgt := 89) hx hb dX12_whatever_63 (by decide) ?_
              exact B_89_0 a1 a2 a3 a4 a5 a6 (1 : Int32) x1.1 H locs ls hI (lv_sub hl [0, 1, 2, 3, 4, 5, 6] rfl) hf
          · replace hf := ifp c15 hf
            refine lv_iconst (v := -1) hx hb dX12_whatever_55 (by decide) ?_
            exact mret_i hx hb hr hlocks hI (ret_e hK0 hf) dX12_whatever_56

theorem nd_keepsAt : yX12_keepsAt.cls ≠ "java/lang/invoke/MethodHandle" ∧ yX12_keepsAt.cls ≠ "java/lang/invoke/VarHandle" ∧ (parseMethodDescriptor yX12_keepsAt.desc).map (fun d => d.parameters.length) = some 1 := by decide +kernel
set_option maxHeartbeats 4000000 in
set_option maxRecDepth 100000 in
theorem cm_keepsAt (l : Launch) (D : va_G) (h : Nat) (ad : Nat → Nat) (cy : Nat → ClassId) (a1 : Int32) (s0 : MSt) (out : MSt) (hf : fm_keepsAt a1 s0 = some out) (sz : Nat) : CMv l D h ad cy yX12_keepsAt wsX12_keepsAt { frames := 0, cells := 0, slots := 0, locals := 0 } [.int a1] s0 out sz := by
  refine Met.ofW (cc := cX12_keepsAt) (maxL := 3) (ret := none) (by decide) rfl ?_
  intro p e s m args below meth c s₁ B hml hv
  obtain ⟨rfl, hsz, hP, hK, hD0⟩ := hv
  have hx := B.exec
  have hb := B.bytes
  have hr := B.returns
  have hts := atoms_spec (ws := wsX12_keepsAt) B.pre
  have hown : s.vm.findClass RX12 = some m.cls := findClass_of_methodNamed B.named
  have hlocks := B.notSynchronized
  subst hsz
  have hI : MI D (MA h ad cy s0 s.heap.size) h ad cy s s.heap s0 s.heap [] := ⟨hK, hP, hD0.self, va_S.rf⟩
  have hA : ∀ q : Nat, s.heap.size ≤ q → MA h ad cy s0 s.heap.size q := fun q hq => Or.inr hq
  have hin : ∀ w ∈ u_ws RX12 TX12 42, w ∈ wsX12_keepsAt := fun w hw => List.mem_cons_of_mem _ (List.mem_append_right _ hw)
  have k_said : Cond.fieldLink RX12 45 "HalfBridgeModel" "said" "[I" ∈ wsX12_keepsAt := by decide +kernel
  have k_stood : Cond.fieldLink RX12 70 "HalfBridgeModel" "stood" "[I" ∈ wsX12_keepsAt := by decide +kernel
  have hl := lv_entry ([.ref h, .int a1]) (n := 3) (Nat.le_of_ble_eq_true rfl)
  rw [lg_entry_eq]
  generalize (lg_sl ([.ref h, .int a1]) ++ List.replicate (3 - (lg_sl ([.ref h, .int a1])).length) Slot.unset).toArray = ls at hl ⊢
  have hl : lv_has ls 3 [(0, .ref h), (1, .int a1)] := hl
  obtain ⟨K0, hK0, hf⟩ := top_e hf
  have B_33 : ∀   (st : MSt) (H : Heap) (locs : List Loc) (ls : Array Slot), MI D (MA h ad cy s0 s.heap.size) h ad cy s s.heap st H locs → lv_has ls 3 [] → (fm_keepsAt_j33 st).bind K0 = some out → W p l e (headSpec wsX12_keepsAt { frames := 0, cells := 0, slots := 0, locals := 0 }).room s m (([.ref h, .int a1] : List Value).toArray) below meth c H locs 0 0 (MQ below (MQv D h ad cy s0 out s.heap.size) ([.ref h, .int a1] : List Value).toArray s 0 0 (MA h ad cy s0 s.heap.size)) (F0 m 33 ls []) := by
    intro st H locs ls hI hl hf
    unfold fm_keepsAt_j33 at hf
    exact mret_v hx hb hr hlocks hI (ret_e hK0 hf) dX12_keepsAt_33
  have L_2 : ∀ (v1 : Int32) (n : Nat) (v2 : Int32) (st : MSt) (H : Heap) (locs : List Loc) (ls : Array Slot), MI D (MA h ad cy s0 s.heap.size) h ad cy s s.heap st H locs → lv_has ls 3 [(0, .ref h), (1, .int v1), (2, .int v2)] → (iter (fun x : (Int32 × MSt) => fm_keepsAt_s2 v1 x.1 x.2) n (v2, st)).bind (fun x => ((Sum.elim (fun o : MSt => (some o : Option (MSt))) (fun x : (Int32 × MSt) => fm_keepsAt_j33 x.2)) x).bind K0) = some out → W p l e (headSpec wsX12_keepsAt { frames := 0, cells := 0, slots := 0, locals := 0 }).room s m (([.ref h, .int a1] : List Value).toArray) below meth c H locs 0 0 (MQ below (MQv D h ad cy s0 out s.heap.size) ([.ref h, .int a1] : List Value).toArray s 0 0 (MA h ad cy s0 s.heap.size)) (F0 m 2 ls []) := by
    intro v1 n
    induction n with
    | zero => intro v2 st H locs ls hI hl hf; exact (iter_0 hf).elim
    | succ n ih =>
      intro v2 st H locs ls hI hl hf
      obtain ⟨K1, hK1, hf⟩ := iter_e hf
      replace hf : (fm_keepsAt_s2 v1 v2 st).bind K1 = some out := hf
      unfold fm_keepsAt_s2 at hf
      refine lv_iload_n hx hb dX12_keepsAt_2 rfl (lv_at hl 2 rfl) ?_
      refine lv_sipush (v := 286) hx hb dX12_keepsAt_3 (by decide) ?_
      refine lv_icmp_ge (tgt := 33) hx hb dX12_keepsAt_6 (by decide) (fun c1 => ?_) (fun c1 => ?_)
      · replace hf := ifp c1 hf
        replace hf := exit_b hK1 hf
        exact B_33  st H locs ls hI (lv_sub hl [] rfl) hf
      · replace hf := ifn c1 hf
        refine lv_aload_n hx hb dX12_keepsAt_9 rfl (lv_at hl 0 rfl) ?_
        refine mg_stood hx hb hts hin hown k_stood hI dX12_keepsAt_10 ?_
        refine lv_sipush (v := 286) hx hb dX12_keepsAt_13 (by decide) ?_
        refine lv_iload_n hx hb dX12_keepsAt_16 rfl (lv_at hl 1 rfl) ?_
        refine lv_imul hx hb dX12_keepsAt_17 ?_
        refine lv_iload_n hx hb dX12_keepsAt_18 rfl (lv_at hl 2 rfl) ?_
        refine lv_iadd hx hb dX12_keepsAt_19 ?_
        refine lv_aload_n hx hb dX12_keepsAt_20 rfl (lv_at hl 0 rfl) ?_
        refine mg_said hx hb hts hin hown k_said hI dX12_keepsAt_21 ?_
        refine lv_iload_n hx hb dX12_keepsAt_24 rfl (lv_at hl 2 rfl) ?_
        obtain ⟨k2, hf⟩ := chk_b hf
        refine ml_said hx hb hI k2 dX12_keepsAt_25 ?_
        obtain ⟨k3, hf⟩ := chk_b hf
        refine ms_stood hx hb hI k3 dX12_keepsAt_26 (fun H locs hI => ?_)
        refine lv_iinc (v := (v2 + 1)) (lv' := [(2, .int (v2 + 1)), (0, .ref h), (1, .int v1)]) hx hb dX12_keepsAt_27 hl (k := 2) rfl (ci_ _ (by decide)) (by decide) rfl (fun ls hl => ?_)
        refine lv_goto (tgt := 2) hx hb dX12_keepsAt_30 (by decide) ?_
        replace hf := cont_b hK1 hf
        exact ih (v2 + 1) (msa st 34 (((286 : Int32) * v1) + v2).toNatClampNeg (st.2.1 26 v2.toNatClampNeg)) H locs ls hI (lv_sub hl [1, 2, 0] rfl) hf
  unfold fm_keepsAt at hf
  refine lv_iconst (v := 0) hx hb dX12_keepsAt_0 (by decide) ?_
  refine lv_istore_n (lv' := [(2, .int (0 : Int32)), (0, .ref h), (1, .int a1)]) hx hb dX12_keepsAt_1 rfl hl (by decide) rfl (fun ls hl => ?_)
  exact L_2 a1 mFuel (0 : Int32) s0 s.heap [] ls hI (lv_sub hl [1, 2, 0] rfl) (asc_b hf)

theorem nd_putsBackAt : yX12_putsBackAt.cls ≠ "java/lang/invoke/MethodHandle" ∧ yX12_putsBackAt.cls ≠ "java/lang/invoke/VarHandle" ∧ (parseMethodDescriptor yX12_putsBackAt.desc).map (fun d => d.parameters.length) = some 1 := by decide +kernel
set_option maxHeartbeats 4000000 in
set_option maxRecDepth 100000 in
theorem cm_putsBackAt (l : Launch) (D : va_G) (h : Nat) (ad : Nat → Nat) (cy : Nat → ClassId) (a1 : Int32) (s0 : MSt) (out : MSt) (hf : fm_putsBackAt a1 s0 = some out) (sz : Nat) : CMv l D h ad cy yX12_putsBackAt wsX12_putsBackAt { frames := 0, cells := 0, slots := 0, locals := 0 } [.int a1] s0 out sz := by
  refine Met.ofW (cc := cX12_putsBackAt) (maxL := 3) (ret := none) (by decide) rfl ?_
  intro p e s m args below meth c s₁ B hml hv
  obtain ⟨rfl, hsz, hP, hK, hD0⟩ := hv
  have hx := B.exec
  have hb := B.bytes
  have hr := B.returns
  have hts := atoms_spec (ws := wsX12_putsBackAt) B.pre
  have hown : s.vm.findClass RX12 = some m.cls := findClass_of_methodNamed B.named
  have hlocks := B.notSynchronized
  subst hsz
  have hI : MI D (MA h ad cy s0 s.heap.size) h ad cy s s.heap s0 s.heap [] := ⟨hK, hP, hD0.self, va_S.rf⟩
  have hA : ∀ q : Nat, s.heap.size ≤ q → MA h ad cy s0 s.heap.size q := fun q hq => Or.inr hq
  have hin : ∀ w ∈ u_ws RX12 TX12 42, w ∈ wsX12_putsBackAt := fun w hw => List.mem_cons_of_mem _ (List.mem_append_right _ hw)
  have k_said : Cond.fieldLink RX12 45 "HalfBridgeModel" "said" "[I" ∈ wsX12_putsBackAt := by decide +kernel
  have k_stood : Cond.fieldLink RX12 70 "HalfBridgeModel" "stood" "[I" ∈ wsX12_putsBackAt := by decide +kernel
  have hl := lv_entry ([.ref h, .int a1]) (n := 3) (Nat.le_of_ble_eq_true rfl)
  rw [lg_entry_eq]
  generalize (lg_sl ([.ref h, .int a1]) ++ List.replicate (3 - (lg_sl ([.ref h, .int a1])).length) Slot.unset).toArray = ls at hl ⊢
  have hl : lv_has ls 3 [(0, .ref h), (1, .int a1)] := hl
  obtain ⟨K0, hK0, hf⟩ := top_e hf
  have B_33 : ∀   (st : MSt) (H : Heap) (locs : List Loc) (ls : Array Slot), MI D (MA h ad cy s0 s.heap.size) h ad cy s s.heap st H locs → lv_has ls 3 [] → (fm_putsBackAt_j33 st).bind K0 = some out → W p l e (headSpec wsX12_putsBackAt { frames := 0, cells := 0, slots := 0, locals := 0 }).room s m (([.ref h, .int a1] : List Value).toArray) below meth c H locs 0 0 (MQ below (MQv D h ad cy s0 out s.heap.size) ([.ref h, .int a1] : List Value).toArray s 0 0 (MA h ad cy s0 s.heap.size)) (F0 m 33 ls []) := by
    intro st H locs ls hI hl hf
    unfold fm_putsBackAt_j33 at hf
    exact mret_v hx hb hr hlocks hI (ret_e hK0 hf) dX12_putsBackAt_33
  have L_2 : ∀ (v1 : Int32) (n : Nat) (v2 : Int32) (st : MSt) (H : Heap) (locs : List Loc) (ls : Array Slot), MI D (MA h ad cy s0 s.heap.size) h ad cy s s.heap st H locs → lv_has ls 3 [(0, .ref h), (1, .int v1), (2, .int v2)] → (iter (fun x : (Int32 × MSt) => fm_putsBackAt_s2 v1 x.1 x.2) n (v2, st)).bind (fun x => ((Sum.elim (fun o : MSt => (some o : Option (MSt))) (fun x : (Int32 × MSt) => fm_putsBackAt_j33 x.2)) x).bind K0) = some out → W p l e (headSpec wsX12_putsBackAt { frames := 0, cells := 0, slots := 0, locals := 0 }).room s m (([.ref h, .int a1] : List Value).toArray) below meth c H locs 0 0 (MQ below (MQv D h ad cy s0 out s.heap.size) ([.ref h, .int a1] : List Value).toArray s 0 0 (MA h ad cy s0 s.heap.size)) (F0 m 2 ls []) := by
    intro v1 n
    induction n with
    | zero => intro v2 st H locs ls hI hl hf; exact (iter_0 hf).elim
    | succ n ih =>
      intro v2 st H locs ls hI hl hf
      obtain ⟨K1, hK1, hf⟩ := iter_e hf
      replace hf : (fm_putsBackAt_s2 v1 v2 st).bind K1 = some out := hf
      unfold fm_putsBackAt_s2 at hf
      refine lv_iload_n hx hb dX12_putsBackAt_2 rfl (lv_at hl 2 rfl) ?_
      refine lv_sipush (v := 286) hx hb dX12_putsBackAt_3 (by decide) ?_
      refine lv_icmp_ge (tgt := 33) hx hb dX12_putsBackAt_6 (by decide) (fun c1 => ?_) (fun c1 => ?_)
      · replace hf := ifp c1 hf
        replace hf := exit_b hK1 hf
        exact B_33  st H locs ls hI (lv_sub hl [] rfl) hf
      · replace hf := ifn c1 hf
        refine lv_aload_n hx hb dX12_putsBackAt_9 rfl (lv_at hl 0 rfl) ?_
        refine mg_said hx hb hts hin hown k_said hI dX12_putsBackAt_10 ?_
        refine lv_iload_n hx hb dX12_putsBackAt_13 rfl (lv_at hl 2 rfl) ?_
        refine lv_aload_n hx hb dX12_putsBackAt_14 rfl (lv_at hl 0 rfl) ?_
        refine mg_stood hx hb hts hin hown k_stood hI dX12_putsBackAt_15 ?_
        refine lv_sipush (v := 286) hx hb dX12_putsBackAt_18 (by decide) ?_
        refine lv_iload_n hx hb dX12_putsBackAt_21 rfl (lv_at hl 1 rfl) ?_
        refine lv_imul hx hb dX12_putsBackAt_22 ?_
        refine lv_iload_n hx hb dX12_putsBackAt_23 rfl (lv_at hl 2 rfl) ?_
        refine lv_iadd hx hb dX12_putsBackAt_24 ?_
        obtain ⟨k2, hf⟩ := chk_b hf
        refine ml_stood hx hb hI k2 dX12_putsBackAt_25 ?_
        obtain ⟨k3, hf⟩ := chk_b hf
        refine ms_said hx hb hI k3 dX12_putsBackAt_26 (fun H locs hI => ?_)
        refine lv_iinc (v := (v2 + 1)) (lv' := [(2, .int (v2 + 1)), (0, .ref h), (1, .int v1)]) hx hb dX12_putsBackAt_27 hl (k := 2) rfl (ci_ _ (by decide)) (by decide) rfl (fun ls hl => ?_)
        refine lv_goto (tgt := 2) hx hb dX12_putsBackAt_30 (by decide) ?_
        replace hf := cont_b hK1 hf
        exact ih (v2 + 1) (msa st 26 v2.toNatClampNeg (st.2.1 34 (((286 : Int32) * v1) + v2).toNatClampNeg)) H locs ls hI (lv_sub hl [1, 2, 0] rfl) hf
  unfold fm_putsBackAt at hf
  refine lv_iconst (v := 0) hx hb dX12_putsBackAt_0 (by decide) ?_
  refine lv_istore_n (lv' := [(2, .int (0 : Int32)), (0, .ref h), (1, .int a1)]) hx hb dX12_putsBackAt_1 rfl hl (by decide) rfl (fun ls hl => ?_)
  exact L_2 a1 mFuel (0 : Int32) s0 s.heap [] ls hI (lv_sub hl [1, 2, 0] rfl) (asc_b hf)
