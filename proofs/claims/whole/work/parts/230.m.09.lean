theorem nd_river : yX12_river.cls ≠ "java/lang/invoke/MethodHandle" ∧ yX12_river.cls ≠ "java/lang/invoke/VarHandle" ∧ (parseMethodDescriptor yX12_river.desc).map (fun d => d.parameters.length) = some 0 := by decide +kernel
set_option maxHeartbeats 4000000 in
set_option maxRecDepth 100000 in
theorem cm_river (l : Launch) (D : va_G) (h : Nat) (ad : Nat → Nat) (cy : Nat → ClassId)  (s0 : MSt) (out : MSt × Int32) (hf : fm_river s0 = some out) (sz : Nat) : CMi l D h ad cy yX12_river wsX12_river { frames := 12, cells := 0, slots := 0, locals := 263 } [] s0 out sz := by
  refine Met.ofW (cc := cX12_river) (maxL := 3) (ret := (some .int)) (by decide) rfl ?_
  intro p e s m args below meth c s₁ B hml hv
  obtain ⟨rfl, hsz, hP, hK, hD0⟩ := hv
  have hx := B.exec
  have hb := B.bytes
  have hr := B.returns
  have hts := atoms_spec (ws := wsX12_river) B.pre
  have hown : s.vm.findClass RX12 = some m.cls := findClass_of_methodNamed B.named
  have hlocks := B.notSynchronized
  subst hsz
  have hI : MI D (MA h ad cy s0 s.heap.size) h ad cy s s.heap s0 s.heap [] := ⟨hK, hP, hD0.self, va_S.rf⟩
  have hA : ∀ q : Nat, s.heap.size ≤ q → MA h ad cy s0 s.heap.size q := fun q hq => Or.inr hq
  have hin : ∀ w ∈ u_ws RX12 TX12 42, w ∈ wsX12_river := fun w hw => List.mem_cons_of_mem _ (List.mem_append_right _ hw)
  have k_bankRead : Cond.fieldLink RX12 26 "HalfBridgeModel" "bankRead" "[I" ∈ wsX12_river := by decide +kernel
  have k_eyesRead : Cond.fieldLink RX12 29 "HalfBridgeModel" "eyesRead" "[I" ∈ wsX12_river := by decide +kernel
  have k_floodRead : Cond.fieldLink RX12 32 "HalfBridgeModel" "floodRead" "[I" ∈ wsX12_river := by decide +kernel
  have k_floodsRead : Cond.fieldLink RX12 234 "HalfBridgeModel" "floodsRead" "I" ∈ wsX12_river := by decide +kernel
  have k_inchesRead : Cond.fieldLink RX12 231 "HalfBridgeModel" "inchesRead" "I" ∈ wsX12_river := by decide +kernel
  have k_said : Cond.fieldLink RX12 45 "HalfBridgeModel" "said" "[I" ∈ wsX12_river := by decide +kernel
  have k_stepRead : Cond.fieldLink RX12 228 "HalfBridgeModel" "stepRead" "I" ∈ wsX12_river := by decide +kernel
  have k_text : Cond.fieldLink RX12 153 "HalfBridgeModel" "text" "I" ∈ wsX12_river := by decide +kernel
  have k_wideRead : Cond.fieldLink RX12 225 "HalfBridgeModel" "wideRead" "I" ∈ wsX12_river := by decide +kernel
  have k_wrong : Cond.fieldLink RX12 100 "HalfBridgeModel" "wrong" "I" ∈ wsX12_river := by decide +kernel
  have hl := lv_entry ([.ref h]) (n := 3) (Nat.le_of_ble_eq_true rfl)
  rw [lg_entry_eq]
  generalize (lg_sl ([.ref h]) ++ List.replicate (3 - (lg_sl ([.ref h])).length) Slot.unset).toArray = ls at hl ⊢
  have hl : lv_has ls 3 [(0, .ref h)] := hl
  obtain ⟨K0, hK0, hf⟩ := top_e hf
  have B_293 : ∀   (st : MSt) (H : Heap) (locs : List Loc) (ls : Array Slot), MI D (MA h ad cy s0 s.heap.size) h ad cy s s.heap st H locs → lv_has ls 3 [(0, .ref h)] → (fm_river_j293 st).bind K0 = some out → W p l e (headSpec wsX12_river { frames := 12, cells := 0, slots := 0, locals := 263 }).room s m (([.ref h] : List Value).toArray) below meth c H locs 0 0 (MQ below (MQi D h ad cy s0 out s.heap.size) ([.ref h] : List Value).toArray s 0 0 (MA h ad cy s0 s.heap.size)) (F0 m 293 ls []) := by
    intro st H locs ls hI hl hf
    unfold fm_river_j293 at hf
    refine lv_aload_n hx hb dX12_river_293 rfl (lv_at hl 0 rfl) ?_
    refine mg_wideRead hx hb hts hin hown k_wideRead hI dX12_river_294 ?_
    exact mret_i hx hb hr hlocks hI (ret_e hK0 hf) dX12_river_297
  have L_270 : ∀  (n : Nat) (v2 : Int32) (st : MSt) (H : Heap) (locs : List Loc) (ls : Array Slot), MI D (MA h ad cy s0 s.heap.size) h ad cy s s.heap st H locs → lv_has ls 3 [(0, .ref h), (2, .int v2)] → (iter (fun x : (Int32 × MSt) => fm_river_s270 x.1 x.2) n (v2, st)).bind (fun x => ((Sum.elim (fun o : MSt × Int32 => (some o : Option (MSt × Int32))) (fun x : (Int32 × MSt) => fm_river_j293 x.2)) x).bind K0) = some out → W p l e (headSpec wsX12_river { frames := 12, cells := 0, slots := 0, locals := 263 }).room s m (([.ref h] : List Value).toArray) below meth c H locs 0 0 (MQ below (MQi D h ad cy s0 out s.heap.size) ([.ref h] : List Value).toArray s 0 0 (MA h ad cy s0 s.heap.size)) (F0 m 270 ls []) := by
    intro n
    induction n with
    | zero => intro v2 st H locs ls hI hl hf; exact (iter_0 hf).elim
    | succ n ih =>
      intro v2 st H locs ls hI hl hf
      obtain ⟨K1, hK1, hf⟩ := iter_e hf
      replace hf : (fm_river_s270 v2 st).bind K1 = some out := hf
      unfold fm_river_s270 at hf
      refine lv_iload_n hx hb dX12_river_270 rfl (lv_at hl 1 rfl) ?_
      refine lv_bipush (v := 80) hx hb dX12_river_271 (by decide) ?_
      refine lv_icmp_ge (tgt := 293) hx hb dX12_river_273 (by decide) (fun c12 => ?_) (fun c12 => ?_)
      · replace hf := ifp c12 hf
        replace hf := exit_b hK1 hf
        exact B_293  st H locs ls hI (lv_sub hl [0] rfl) hf
      · replace hf := ifn c12 hf
        refine lv_aload_n hx hb dX12_river_276 rfl (lv_at hl 0 rfl) ?_
        refine mg_said hx hb hts hin hown k_said hI dX12_river_277 ?_
        refine lv_bipush (v := 46) hx hb dX12_river_280 (by decide) ?_
        refine lv_iload_n hx hb dX12_river_282 rfl (lv_at hl 1 rfl) ?_
        refine lv_iadd hx hb dX12_river_283 ?_
        refine lv_ldc (v := 99999) hx hb hown (hts (.constant RX12 173 (99999)) (by decide +kernel)) dX12_river_284 ?_
        obtain ⟨k13, hf⟩ := chk_b hf
        refine ms_said hx hb hI k13 dX12_river_286 (fun H locs hI => ?_)
        refine lv_iinc (v := (v2 + 1)) (lv' := [(2, .int (v2 + 1)), (0, .ref h)]) hx hb dX12_river_287 hl (k := 1) rfl (ci_ _ (by decide)) (by decide) rfl (fun ls hl => ?_)
        refine lv_goto (tgt := 270) hx hb dX12_river_290 (by decide) ?_
        replace hf := cont_b hK1 hf
        exact ih (v2 + 1) (msa st 26 ((46 : Int32) + v2).toNatClampNeg (99999 : Int32)) H locs ls hI (lv_sub hl [1, 0] rfl) hf
  have B_268 : ∀   (st : MSt) (H : Heap) (locs : List Loc) (ls : Array Slot), MI D (MA h ad cy s0 s.heap.size) h ad cy s s.heap st H locs → lv_has ls 3 [(0, .ref h)] → (fm_river_j268 st).bind K0 = some out → W p l e (headSpec wsX12_river { frames := 12, cells := 0, slots := 0, locals := 263 }).room s m (([.ref h] : List Value).toArray) below meth c H locs 0 0 (MQ below (MQi D h ad cy s0 out s.heap.size) ([.ref h] : List Value).toArray s 0 0 (MA h ad cy s0 s.heap.size)) (F0 m 268 ls []) := by
    intro st H locs ls hI hl hf
    unfold fm_river_j268 at hf
    refine lv_iconst (v := 0) hx hb dX12_river_268 (by decide) ?_
    refine lv_istore_n (lv' := [(2, .int (0 : Int32)), (0, .ref h)]) hx hb dX12_river_269 rfl hl (by decide) rfl (fun ls hl => ?_)
    exact L_270  mFuel (0 : Int32) st H locs ls hI (lv_sub hl [1, 0] rfl) (asc_b hf)
  have L_237 : ∀  (n : Nat) (v2 : Int32) (st : MSt) (H : Heap) (locs : List Loc) (ls : Array Slot), MI D (MA h ad cy s0 s.heap.size) h ad cy s s.heap st H locs → lv_has ls 3 [(0, .ref h), (2, .int v2)] → (iter (fun x : (Int32 × MSt) => fm_river_s237 x.1 x.2) n (v2, st)).bind (fun x => ((Sum.elim (fun o : MSt × Int32 => (some o : Option (MSt × Int32))) (fun x : (Int32 × MSt) => fm_river_j268 x.2)) x).bind K0) = some out → W p l e (headSpec wsX12_river { frames := 12, cells := 0, slots := 0, locals := 263 }).room s m (([.ref h] : List Value).toArray) below meth c H locs 0 0 (MQ below (MQi D h ad cy s0 out s.heap.size) ([.ref h] : List Value).toArray s 0 0 (MA h ad cy s0 s.heap.size)) (F0 m 237 ls []) := by
    intro n
    induction n with
    | zero => intro v2 st H locs ls hI hl hf; exact (iter_0 hf).elim
    | succ n ih =>
      intro v2 st H locs ls hI hl hf
      obtain ⟨K1, hK1, hf⟩ := iter_e hf
      replace hf : (fm_river_s237 v2 st).bind K1 = some out := hf
      unfold fm_river_s237 at hf
      refine lv_iload_n hx hb dX12_river_237 rfl (lv_at hl 1 rfl) ?_
      refine lv_iconst (v := 2) hx hb dX12_river_238 (by decide) ?_
      refine lv_aload_n hx hb dX12_river_239 rfl (lv_at hl 0 rfl) ?_
      refine mg_floodsRead hx hb hts hin hown k_floodsRead hI dX12_river_240 ?_
      refine lv_imul hx hb dX12_river_243 ?_
      refine lv_icmp_ge (tgt := 268) hx hb dX12_river_244 (by decide) (fun c14 => ?_) (fun c14 => ?_)
      · replace hf := ifp c14 hf
        replace hf := exit_b hK1 hf
        exact B_268  st H locs ls hI (lv_sub hl [0] rfl) hf
      · replace hf := ifn c14 hf
        refine lv_aload_n hx hb dX12_river_247 rfl (lv_at hl 0 rfl) ?_
        refine mg_said hx hb hts hin hown k_said hI dX12_river_248 ?_
        refine lv_bipush (v := 14) hx hb dX12_river_251 (by decide) ?_
        refine lv_iload_n hx hb dX12_river_253 rfl (lv_at hl 1 rfl) ?_
        refine lv_iadd hx hb dX12_river_254 ?_
        refine lv_aload_n hx hb dX12_river_255 rfl (lv_at hl 0 rfl) ?_
        refine mg_floodRead hx hb hts hin hown k_floodRead hI dX12_river_256 ?_
        refine lv_iload_n hx hb dX12_river_259 rfl (lv_at hl 1 rfl) ?_
        obtain ⟨k15, hf⟩ := chk_b hf
        refine ml_floodRead hx hb hI k15 dX12_river_260 ?_
        obtain ⟨k16, hf⟩ := chk_b hf
        refine ms_said hx hb hI k16 dX12_river_261 (fun H locs hI => ?_)
        refine lv_iinc (v := (v2 + 1)) (lv' := [(2, .int (v2 + 1)), (0, .ref h)]) hx hb dX12_river_262 hl (k := 1) rfl (ci_ _ (by decide)) (by decide) rfl (fun ls hl => ?_)
        refine lv_goto (tgt := 237) hx hb dX12_river_265 (by decide) ?_
        replace hf := cont_b hK1 hf
        exact ih (v2 + 1) (msa st 26 ((14 : Int32) + v2).toNatClampNeg (st.2.1 13 v2.toNatClampNeg)) H locs ls hI (lv_sub hl [1, 0] rfl) hf
  have B_235 : ∀   (st : MSt) (H : Heap) (locs : List Loc) (ls : Array Slot), MI D (MA h ad cy s0 s.heap.size) h ad cy s s.heap st H locs → lv_has ls 3 [(0, .ref h)] → (fm_river_j235 st).bind K0 = some out → W p l e (headSpec wsX12_river { frames := 12, cells := 0, slots := 0, locals := 263 }).room s m (([.ref h] : List Value).toArray) below meth c H locs 0 0 (MQ below (MQi D h ad cy s0 out s.heap.size) ([.ref h] : List Value).toArray s 0 0 (MA h ad cy s0 s.heap.size)) (F0 m 235 ls []) := by
    intro st H locs ls hI hl hf
    unfold fm_river_j235 at hf
    refine lv_iconst (v := 0) hx hb dX12_river_235 (by decide) ?_
    refine lv_istore_n (lv' := [(2, .int (0 : Int32)), (0, .ref h)]) hx hb dX12_river_236 rfl hl (by decide) rfl (fun ls hl => ?_)
    exact L_237  mFuel (0 : Int32) st H locs ls hI (lv_sub hl [1, 0] rfl) (asc_b hf)
  have L_209 : ∀  (n : Nat) (v2 : Int32) (st : MSt) (H : Heap) (locs : List Loc) (ls : Array Slot), MI D (MA h ad cy s0 s.heap.size) h ad cy s s.heap st H locs → lv_has ls 3 [(0, .ref h), (2, .int v2)] → (iter (fun x : (Int32 × MSt) => fm_river_s209 x.1 x.2) n (v2, st)).bind (fun x => ((Sum.elim (fun o : MSt × Int32 => (some o : Option (MSt × Int32))) (fun x : (Int32 × MSt) => fm_river_j235 x.2)) x).bind K0) = some out → W p l e (headSpec wsX12_river { frames := 12, cells := 0, slots := 0, locals := 263 }).room s m (([.ref h] : List Value).toArray) below meth c H locs 0 0 (MQ below (MQi D h ad cy s0 out s.heap.size) ([.ref h] : List Value).toArray s 0 0 (MA h ad cy s0 s.heap.size)) (F0 m 209 ls []) := by
    intro n
    induction n with
    | zero => intro v2 st H locs ls hI hl hf; exact (iter_0 hf).elim
    | succ n ih =>
      intro v2 st H locs ls hI hl hf
      obtain ⟨K1, hK1, hf⟩ := iter_e hf
      replace hf : (fm_river_s209 v2 st).bind K1 = some out := hf
      unfold fm_river_s209 at hf
      refine lv_iload_n hx hb dX12_river_209 rfl (lv_at hl 1 rfl) ?_
      refine lv_iconst (v := 2) hx hb dX12_river_210 (by decide) ?_
      refine lv_icmp_ge (tgt := 235) hx hb dX12_river_211 (by decide) (fun c17 => ?_) (fun c17 => ?_)
      · replace hf := ifp c17 hf
        replace hf := exit_b hK1 hf
        exact B_235  st H locs ls hI (lv_sub hl [0] rfl) hf
      · replace hf := ifn c17 hf
        refine lv_aload_n hx hb dX12_river_214 rfl (lv_at hl 0 rfl) ?_
        refine mg_said hx hb hts hin hown k_said hI dX12_river_215 ?_
        refine lv_bipush (v := 12) hx hb dX12_river_218 (by decide) ?_
        refine lv_iload_n hx hb dX12_river_220 rfl (lv_at hl 1 rfl) ?_
        refine lv_iadd hx hb dX12_river_221 ?_
        refine lv_aload_n hx hb dX12_river_222 rfl (lv_at hl 0 rfl) ?_
        refine mg_eyesRead hx hb hts hin hown k_eyesRead hI dX12_river_223 ?_
        refine lv_iload_n hx hb dX12_river_226 rfl (lv_at hl 1 rfl) ?_
        obtain ⟨k18, hf⟩ := chk_b hf
        refine ml_eyesRead hx hb hI k18 dX12_river_227 ?_
        obtain ⟨k19, hf⟩ := chk_b hf
        refine ms_said hx hb hI k19 dX12_river_228 (fun H locs hI => ?_)
        refine lv_iinc (v := (v2 + 1)) (lv' := [(2, .int (v2 + 1)), (0, .ref h)]) hx hb dX12_river_229 hl (k := 1) rfl (ci_ _ (by decide)) (by decide) rfl (fun ls hl => ?_)
        refine lv_goto (tgt := 209) hx hb dX12_river_232 (by decide) ?_
        replace hf := cont_b hK1 hf
        exact ih (v2 + 1) (msa st 26 ((12 : Int32) + v2).toNatClampNeg (st.2.1 12 v2.toNatClampNeg)) H locs ls hI (lv_sub hl [1, 0] rfl) hf
  have B_207 : ∀   (st : MSt) (H : Heap) (locs : List Loc) (ls : Array Slot), MI D (MA h ad cy s0 s.heap.size) h ad cy s s.heap st H locs → lv_has ls 3 [(0, .ref h)] → (fm_river_j207 st).bind K0 = some out → W p l e (headSpec wsX12_river { frames := 12, cells := 0, slots := 0, locals := 263 }).room s m (([.ref h] : List Value).toArray) below meth c H locs 0 0 (MQ below (MQi D h ad cy s0 out s.heap.size) ([.ref h] : List Value).toArray s 0 0 (MA h ad cy s0 s.heap.size)) (F0 m 207 ls []) := by
    intro st H locs ls hI hl hf
    unfold fm_river_j207 at hf
    refine lv_iconst (v := 0) hx hb dX12_river_207 (by decide) ?_
    refine lv_istore_n (lv' := [(2, .int (0 : Int32)), (0, .ref h)]) hx hb dX12_river_208 rfl hl (by decide) rfl (fun ls hl => ?_)
    exact L_209  mFuel (0 : Int32) st H locs ls hI (lv_sub hl [1, 0] rfl) (asc_b hf)
  have L_181 : ∀  (n : Nat) (v2 : Int32) (st : MSt) (H : Heap) (locs : List Loc) (ls : Array Slot), MI D (MA h ad cy s0 s.heap.size) h ad cy s s.heap st H locs → lv_has ls 3 [(0, .ref h), (2, .int v2)] → (iter (fun x : (Int32 × MSt) => fm_river_s181 x.1 x.2) n (v2, st)).bind (fun x => ((Sum.elim (fun o : MSt × Int32 => (some o : Option (MSt × Int32))) (fun x : (Int32 × MSt) => fm_river_j207 x.2)) x).bind K0) = some out → W p l e (headSpec wsX12_river { frames := 12, cells := 0, slots := 0, locals := 263 }).room s m (([.ref h] : List Value).toArray) below meth c H locs 0 0 (MQ below (MQi D h ad cy s0 out s.heap.size) ([.ref h] : List Value).toArray s 0 0 (MA h ad cy s0 s.heap.size)) (F0 m 181 ls []) := by
    intro n
    induction n with
    | zero => intro v2 st H locs ls hI hl hf; exact (iter_0 hf).elim
    | succ n ih =>
      intro v2 st H locs ls hI hl hf
      obtain ⟨K1, hK1, hf⟩ := iter_e hf
      replace hf : (fm_river_s181 v2 st).bind K1 = some out := hf
      unfold fm_river_s181 at hf
      refine lv_iload_n hx hb dX12_river_181 rfl (lv_at hl 1 rfl) ?_
      refine lv_iconst (v := 4) hx hb dX12_river_182 (by decide) ?_
      refine lv_icmp_ge (tgt := 207) hx hb dX12_river_183 (by decide) (fun c20 => ?_) (fun c20 => ?_)
      · replace hf := ifp c20 hf
        replace hf := exit_b hK1 hf
        exact B_207  st H locs ls hI (lv_sub hl [0] rfl) hf
      · replace hf := ifn c20 hf
        refine lv_aload_n hx hb dX12_river_186 rfl (lv_at hl 0 rfl) ?_
        refine mg_said hx hb hts hin hown k_said hI dX12_river_187 ?_
        refine lv_bipush (v := 8) hx hb dX12_river_190 (by decide) ?_
        refine lv_iload_n hx hb dX12_river_192 rfl (lv_at hl 1 rfl) ?_
        refine lv_iadd hx hb dX12_river_193 ?_
        refine lv_aload_n hx hb dX12_river_194 rfl (lv_at hl 0 rfl) ?_
        refine mg_bankRead hx hb hts hin hown k_bankRead hI dX12_river_195 ?_
        refine lv_iload_n hx hb dX12_river_198 rfl (lv_at hl 1 rfl) ?_
        obtain ⟨k21, hf⟩ := chk_b hf
        refine ml_bankRead hx hb hI k21 dX12_river_199 ?_
        obtain ⟨k22, hf⟩ := chk_b hf
        refine ms_said hx hb hI k22 dX12_river_200 (fun H locs hI => ?_)
        refine lv_iinc (v := (v2 + 1)) (lv' := [(2, .int (v2 + 1)), (0, .ref h)]) hx hb dX12_river_201 hl (k := 1) rfl (ci_ _ (by decide)) (by decide) rfl (fun ls hl => ?_)
        refine lv_goto (tgt := 181) hx hb dX12_river_204 (by decide) ?_
        replace hf := cont_b hK1 hf
        exact ih (v2 + 1) (msa st 26 ((8 : Int32) + v2).toNatClampNeg (st.2.1 11 v2.toNatClampNeg)) H locs ls hI (lv_sub hl [1, 0] rfl) hf
  have B_161_4 : ∀ (v1 : Int32) (t0 : Int32) (t1 : Int32) (st : MSt) (H : Heap) (locs : List Loc) (ls : Array Slot), MI D (MA h ad cy s0 s.heap.size) h ad cy s s.heap st H locs → lv_has ls 3 [(0, .ref h), (1, .int v1)] → (fm_river_j161 v1 t0 t1 st).bind K0 = some out → W p l e (headSpec wsX12_river { frames := 12, cells := 0, slots := 0, locals := 263 }).room s m (([.ref h] : List Value).toArray) below meth c H locs 0 0 (MQ below (MQi D h ad cy s0 out s.heap.size) ([.ref h] : List Value).toArray s 0 0 (MA h ad cy s0 s.heap.size)) (F0 m 161 ls [.int t0, .int t1, .ref (ad 26)]) := by
    intro v1 t0 t1 st H locs ls hI hl hf
    unfold fm_river_j161 at hf
    obtain ⟨k9, hf⟩ := chk_b hf
    refine ms_said hx hb hI k9 dX12_river_161 (fun H locs hI => ?_)
    refine lv_aload_n hx hb dX12_river_162 rfl (lv_at hl 0 rfl) ?_
    refine mg_said hx hb hts hin hown k_said hI dX12_river_163 ?_
    refine lv_iconst (v := 4) hx hb dX12_river_166 (by decide) ?_
    refine lv_aload_n hx hb dX12_river_167 rfl (lv_at hl 0 rfl) ?_
    refine mg_floodsRead hx hb hts hin hown k_floodsRead hI dX12_river_168 ?_
    obtain ⟨k10, hf⟩ := chk_b hf
    refine ms_said hx hb hI k10 dX12_river_171 (fun H locs hI => ?_)
    refine lv_aload_n hx hb dX12_river_172 rfl (lv_at hl 0 rfl) ?_
    refine mg_said hx hb hts hin hown k_said hI dX12_river_173 ?_
    refine lv_iconst (v := 5) hx hb dX12_river_176 (by decide) ?_
    refine lv_iload_n hx hb dX12_river_177 rfl (lv_at hl 1 rfl) ?_
    obtain ⟨k11, hf⟩ := chk_b hf
    refine ms_said hx hb hI k11 dX12_river_178 (fun H locs hI => ?_)
    refine lv_iconst (v := 0) hx hb dX12_river_179 (by decide) ?_
    refine lv_istore_n (lv' := [(2, .int (0 : Int32)), (0, .ref h), (1, .int v1)]) hx hb dX12_river_180 rfl hl (by decide) rfl (fun ls hl => ?_)
    exact L_181  mFuel (0 : Int32) (msa (msa (msa st 26 t1.toNatClampNeg t0) 26 (4 : Int32).toNatClampNeg ((msa st 26 t1.toNatClampNeg t0).1 10)) 26 (5 : Int32).toNatClampNeg v1) H locs ls hI (lv_sub hl [1, 0] rfl) (asc_b hf)
  have B_140_3 : ∀ (v1 : Int32) (t0 : Int32) (t1 : Int32) (st : MSt) (H : Heap) (locs : List Loc) (ls : Array Slot), MI D (MA h ad cy s0 s.heap.size) h ad cy s s.heap st H locs → lv_has ls 3 [(0, .ref h), (1, .int v1)] → (fm_river_j140 v1 t0 t1 st).bind K0 = some out → W p l e (headSpec wsX12_river { frames := 12, cells := 0, slots := 0, locals := 263 }).room s m (([.ref h] : List Value).toArray) below meth c H locs 0 0 (MQ below (MQi D h ad cy s0 out s.heap.size) ([.ref h] : List Value).toArray s 0 0 (MA h ad cy s0 s.heap.size)) (F0 m 140 ls [.int t0, .int t1, .ref (ad 26)]) := by
    intro v1 t0 t1 st H locs ls hI hl hf
    unfold fm_river_j140 at hf
    obtain ⟨k7, hf⟩ := chk_b hf
    refine ms_said hx hb hI k7 dX12_river_140 (fun H locs hI => ?_)
    refine lv_aload_n hx hb dX12_river_141 rfl (lv_at hl 0 rfl) ?_
    refine mg_said hx hb hts hin hown k_said hI dX12_river_142 ?_
    refine lv_iconst (v := 3) hx hb dX12_river_145 (by decide) ?_
    refine lv_aload_n hx hb dX12_river_146 rfl (lv_at hl 0 rfl) ?_
    refine mg_inchesRead hx hb hts hin hown k_inchesRead hI dX12_river_147 ?_
    refine lv_if_ge (tgt := 157) hx hb dX12_river_150 (by decide) (fun c8 => ?_) (fun c8 => ?_)
    · replace hf := ifp c8 hf
      refine lv_aload_n hx hb dX12_river_157 rfl (lv_at hl 0 rfl) ?_
      refine mg_inchesRead hx hb hts hin hown k_inchesRead hI dX12_river_158 ?_
      exact B_161_4 v1 ((msa st 26 t1.toNatClampNeg t0).1 9) (3 : Int32) (msa st 26 t1.toNatClampNeg t0) H locs ls hI (lv_sub hl [0, 1] rfl) hf
    · replace hf := ifn c8 hf
      refine lv_iconst (v := 0) hx hb dX12_river_153 (by decide) ?_
      refine lv_goto (tgt := 161) hx hb dX12_river_154 (by decide) ?_
      exact B_161_4 v1 (0 : Int32) (3 : Int32) (msa st 26 t1.toNatClampNeg t0) H locs ls hI (lv_sub hl [0, 1] rfl) hf
  have B_110 : ∀ (v1 : Int32)  (st : MSt) (H : Heap) (locs : List Loc) (ls : Array Slot), MI D (MA h ad cy s0 s.heap.size) h ad cy s s.heap st H locs → lv_has ls 3 [(0, .ref h), (1, .int v1)] → (fm_river_j110 v1 st).bind K0 = some out → W p l e (headSpec wsX12_river { frames := 12, cells := 0, slots := 0, locals := 263 }).room s m (([.ref h] : List Value).toArray) below meth c H locs 0 0 (MQ below (MQi D h ad cy s0 out s.heap.size) ([.ref h] : List Value).toArray s 0 0 (MA h ad cy s0 s.heap.size)) (F0 m 110 ls []) := by
    intro v1 st H locs ls hI hl hf
    unfold fm_river_j110 at hf
    refine lv_aload_n hx hb dX12_river_110 rfl (lv_at hl 0 rfl) ?_
    refine mg_said hx hb hts hin hown k_said hI dX12_river_111 ?_
    refine lv_iconst (v := 0) hx hb dX12_river_114 (by decide) ?_
    refine lv_aload_n hx hb dX12_river_115 rfl (lv_at hl 0 rfl) ?_
    refine mg_wideRead hx hb hts hin hown k_wideRead hI dX12_river_116 ?_
    obtain ⟨k5, hf⟩ := chk_b hf
    refine ms_said hx hb hI k5 dX12_river_119 (fun H locs hI => ?_)
    refine lv_aload_n hx hb dX12_river_120 rfl (lv_at hl 0 rfl) ?_
    refine mg_said hx hb hts hin hown k_said hI dX12_river_121 ?_
    refine lv_iconst (v := 2) hx hb dX12_river_124 (by decide) ?_
    refine lv_aload_n hx hb dX12_river_125 rfl (lv_at hl 0 rfl) ?_
    refine mg_stepRead hx hb hts hin hown k_stepRead hI dX12_river_126 ?_
    refine lv_if_ge (tgt := 136) hx hb dX12_river_129 (by decide) (fun c6 => ?_) (fun c6 => ?_)
    · replace hf := ifp c6 hf
      refine lv_aload_n hx hb dX12_river_136 rfl (lv_at hl 0 rfl) ?_
      refine mg_stepRead hx hb hts hin hown k_stepRead hI dX12_river_137 ?_
      exact B_140_3 v1 ((msa st 26 (0 : Int32).toNatClampNeg (st.1 7)).1 8) (2 : Int32) (msa st 26 (0 : Int32).toNatClampNeg (st.1 7)) H locs ls hI (lv_sub hl [0, 1] rfl) hf
    · replace hf := ifn c6 hf
      refine lv_iconst (v := 1) hx hb dX12_river_132 (by decide) ?_
      refine lv_goto (tgt := 140) hx hb dX12_river_133 (by decide) ?_
      exact B_140_3 v1 (1 : Int32) (2 : Int32) (msa st 26 (0 : Int32).toNatClampNeg (st.1 7)) H locs ls hI (lv_sub hl [0, 1] rfl) hf
  have L_90 : ∀ (v1 : Int32) (n : Nat) (v2 : Int32) (st : MSt) (H : Heap) (locs : List Loc) (ls : Array Slot), MI D (MA h ad cy s0 s.heap.size) h ad cy s s.heap st H locs → lv_has ls 3 [(0, .ref h), (1, .int v1), (2, .int v2)] → (iter (fun x : (Int32 × MSt) => fm_river_s90 v1 x.1 x.2) n (v2, st)).bind (fun x => ((Sum.elim (fun o : MSt × Int32 => (some o : Option (MSt × Int32))) (fun x : (Int32 × MSt) => fm_river_j110 v1 x.2)) x).bind K0) = some out → W p l e (headSpec wsX12_river { frames := 12, cells := 0, slots := 0, locals := 263 }).room s m (([.ref h] : List Value).toArray) below meth c H locs 0 0 (MQ below (MQi D h ad cy s0 out s.heap.size) ([.ref h] : List Value).toArray s 0 0 (MA h ad cy s0 s.heap.size)) (F0 m 90 ls []) := by
    intro v1 n
    induction n with
    | zero => intro v2 st H locs ls hI hl hf; exact (iter_0 hf).elim
    | succ n ih =>
      intro v2 st H locs ls hI hl hf
      obtain ⟨K1, hK1, hf⟩ := iter_e hf
      replace hf : (fm_river_s90 v1 v2 st).bind K1 = some out := hf
      unfold fm_river_s90 at hf
      refine lv_iload_n hx hb dX12_river_90 rfl (lv_at hl 2 rfl) ?_
      refine lv_sipush (v := 286) hx hb dX12_river_91 (by decide) ?_
      refine lv_icmp_ge (tgt := 110) hx hb dX12_river_94 (by decide) (fun c23 => ?_) (fun c23 => ?_)
      · replace hf := ifp c23 hf
        replace hf := exit_b hK1 hf
        exact B_110 v1 st H locs ls hI (lv_sub hl [0, 1] rfl) hf
      · replace hf := ifn c23 hf
        refine lv_aload_n hx hb dX12_river_97 rfl (lv_at hl 0 rfl) ?_
        refine mg_said hx hb hts hin hown k_said hI dX12_river_98 ?_
        refine lv_iload_n hx hb dX12_river_101 rfl (lv_at hl 2 rfl) ?_
        refine lv_iconst (v := 0) hx hb dX12_river_102 (by decide) ?_
        obtain ⟨k24, hf⟩ := chk_b hf
        refine ms_said hx hb hI k24 dX12_river_103 (fun H locs hI => ?_)
        refine lv_iinc (v := (v2 + 1)) (lv' := [(2, .int (v2 + 1)), (0, .ref h), (1, .int v1)]) hx hb dX12_river_104 hl (k := 2) rfl (ci_ _ (by decide)) (by decide) rfl (fun ls hl => ?_)
        refine lv_goto (tgt := 90) hx hb dX12_river_107 (by decide) ?_
        replace hf := cont_b hK1 hf
        exact ih (v2 + 1) (msa st 26 v2.toNatClampNeg (0 : Int32)) H locs ls hI (lv_sub hl [1, 2, 0] rfl) hf
  have B_66 : ∀   (st : MSt) (H : Heap) (locs : List Loc) (ls : Array Slot), MI D (MA h ad cy s0 s.heap.size) h ad cy s s.heap st H locs → lv_has ls 3 [(0, .ref h)] → (fm_river_j66 st).bind K0 = some out → W p l e (headSpec wsX12_river { frames := 12, cells := 0, slots := 0, locals := 263 }).room s m (([.ref h] : List Value).toArray) below meth c H locs 0 0 (MQ below (MQi D h ad cy s0 out s.heap.size) ([.ref h] : List Value).toArray s 0 0 (MA h ad cy s0 s.heap.size)) (F0 m 66 ls []) := by
    intro st H locs ls hI hl hf
    unfold fm_river_j66 at hf
    refine lv_aload_n hx hb dX12_river_66 rfl (lv_at hl 0 rfl) ?_
    obtain ⟨x1, hc2, hf⟩ := bnd_b hf
    refine mcall_i (As := []) (rest := []) (n := 0) ⟨hx, hb, hml, hown, hts⟩ (cm_readsAll l D h ad cy  st x1 hc2 _) (cwV 0 hts gX12_river_X12_readsAll rfl rfl rfl ⟨rfl, nd_readsAll⟩ ⟨Nat.le_of_ble_eq_true rfl, Nat.le_of_ble_eq_true rfl⟩) hI hA rfl hl.1 (Nat.le_of_ble_eq_true rfl) dX12_river_67 ⟨Nat.zero_le _, Nat.zero_le _⟩ (fun H locs hI => ?_)
    refine lv_if_ne (tgt := 81) hx hb dX12_river_70 (by decide) (fun c3 => ?_) (fun c3 => ?_)
    · replace hf := ifn c3 hf
      refine lv_aload_n hx hb dX12_river_81 rfl (lv_at hl 0 rfl) ?_
      refine mg_said hx hb hts hin hown k_said hI dX12_river_82 ?_
      refine lv_iconst (v := 5) hx hb dX12_river_85 (by decide) ?_
      obtain ⟨k4, hf⟩ := chk_b hf
      refine ml_said hx hb hI k4 dX12_river_86 ?_
      refine lv_istore_n (lv' := [(1, .int (x1.1.2.1 26 (5 : Int32).toNatClampNeg)), (0, .ref h)]) hx hb dX12_river_87 rfl hl (by decide) rfl (fun ls hl => ?_)
      refine lv_iconst (v := 0) hx hb dX12_river_88 (by decide) ?_
      refine lv_istore_n (lv' := [(2, .int (0 : Int32)), (1, .int (x1.1.2.1 26 (5 : Int32).toNatClampNeg)), (0, .ref h)]) hx hb dX12_river_89 rfl hl (by decide) rfl (fun ls hl => ?_)
      exact L_90 (x1.1.2.1 26 (5 : Int32).toNatClampNeg) mFuel (0 : Int32) x1.1 H locs ls hI (lv_sub hl [2, 1, 0] rfl) (asc_b hf)
    · replace hf := ifp c3 hf
      refine lv_bipush (v := -2) hx hb dX12_river_73 (by decide) ?_
      refine lv_aload_n hx hb dX12_river_75 rfl (lv_at hl 0 rfl) ?_
      refine mg_wrong hx hb hts hin hown k_wrong hI dX12_river_76 ?_
      refine lv_isub hx hb dX12_river_79 ?_
      exact mret_i hx hb hr hlocks hI (ret_e hK0 hf) dX12_river_80
  have L_48 : ∀  (n : Nat) (v1 : Int32) (st : MSt) (H : Heap) (locs : List Loc) (ls : Array Slot), MI D (MA h ad cy s0 s.heap.size) h ad cy s s.heap st H locs → lv_has ls 3 [(0, .ref h), (1, .int v1)] → (iter (fun x : (Int32 × MSt) => fm_river_s48 x.1 x.2) n (v1, st)).bind (fun x => ((Sum.elim (fun o : MSt × Int32 => (some o : Option (MSt × Int32))) (fun x : (Int32 × MSt) => fm_river_j66 x.2)) x).bind K0) = some out → W p l e (headSpec wsX12_river { frames := 12, cells := 0, slots := 0, locals := 263 }).room s m (([.ref h] : List Value).toArray) below meth c H locs 0 0 (MQ below (MQi D h ad cy s0 out s.heap.size) ([.ref h] : List Value).toArray s 0 0 (MA h ad cy s0 s.heap.size)) (F0 m 48 ls []) := by
    intro n
    induction n with
    | zero => intro v1 st H locs ls hI hl hf; exact (iter_0 hf).elim
    | succ n ih =>
      intro v1 st H locs ls hI hl hf
      obtain ⟨K1, hK1, hf⟩ := iter_e hf
      replace hf : (fm_river_s48 v1 st).bind K1 = some out := hf
      unfold fm_river_s48 at hf
      refine lv_iload_n hx hb dX12_river_48 rfl (lv_at hl 1 rfl) ?_
      refine lv_iconst (v := 2) hx hb dX12_river_49 (by decide) ?_
      refine lv_icmp_ge (tgt := 66) hx hb dX12_river_50 (by decide) (fun c25 => ?_) (fun c25 => ?_)
      · replace hf := ifp c25 hf
        replace hf := exit_b hK1 hf
        exact B_66  st H locs ls hI (lv_sub hl [0] rfl) hf
      · replace hf := ifn c25 hf
        refine lv_aload_n hx hb dX12_river_53 rfl (lv_at hl 0 rfl) ?_
        refine mg_eyesRead hx hb hts hin hown k_eyesRead hI dX12_river_54 ?_
        refine lv_iload_n hx hb dX12_river_57 rfl (lv_at hl 1 rfl) ?_
        refine lv_iconst (v := 0) hx hb dX12_river_58 (by decide) ?_
        obtain ⟨k26, hf⟩ := chk_b hf
        refine ms_eyesRead hx hb hI k26 dX12_river_59 (fun H locs hI => ?_)
        refine lv_iinc (v := (v1 + 1)) (lv' := [(1, .int (v1 + 1)), (0, .ref h)]) hx hb dX12_river_60 hl (k := 1) rfl (ci_ _ (by decide)) (by decide) rfl (fun ls hl => ?_)
        refine lv_goto (tgt := 48) hx hb dX12_river_63 (by decide) ?_
        replace hf := cont_b hK1 hf
        exact ih (v1 + 1) (msa st 12 v1.toNatClampNeg (0 : Int32)) H locs ls hI (lv_sub hl [1, 0] rfl) hf
  have B_46 : ∀   (st : MSt) (H : Heap) (locs : List Loc) (ls : Array Slot), MI D (MA h ad cy s0 s.heap.size) h ad cy s s.heap st H locs → lv_has ls 3 [(0, .ref h)] → (fm_river_j46 st).bind K0 = some out → W p l e (headSpec wsX12_river { frames := 12, cells := 0, slots := 0, locals := 263 }).room s m (([.ref h] : List Value).toArray) below meth c H locs 0 0 (MQ below (MQi D h ad cy s0 out s.heap.size) ([.ref h] : List Value).toArray s 0 0 (MA h ad cy s0 s.heap.size)) (F0 m 46 ls []) := by
    intro st H locs ls hI hl hf
    unfold fm_river_j46 at hf
    refine lv_iconst (v := 0) hx hb dX12_river_46 (by decide) ?_
    refine lv_istore_n (lv' := [(1, .int (0 : Int32)), (0, .ref h)]) hx hb dX12_river_47 rfl hl (by decide) rfl (fun ls hl => ?_)
    exact L_48  mFuel (0 : Int32) st H locs ls hI (lv_sub hl [1, 0] rfl) (asc_b hf)
  have L_28 : ∀  (n : Nat) (v1 : Int32) (st : MSt) (H : Heap) (locs : List Loc) (ls : Array Slot), MI D (MA h ad cy s0 s.heap.size) h ad cy s s.heap st H locs → lv_has ls 3 [(0, .ref h), (1, .int v1)] → (iter (fun x : (Int32 × MSt) => fm_river_s28 x.1 x.2) n (v1, st)).bind (fun x => ((Sum.elim (fun o : MSt × Int32 => (some o : Option (MSt × Int32))) (fun x : (Int32 × MSt) => fm_river_j46 x.2)) x).bind K0) = some out → W p l e (headSpec wsX12_river { frames := 12, cells := 0, slots := 0, locals := 263 }).room s m (([.ref h] : List Value).toArray) below meth c H locs 0 0 (MQ below (MQi D h ad cy s0 out s.heap.size) ([.ref h] : List Value).toArray s 0 0 (MA h ad cy s0 s.heap.size)) (F0 m 28 ls []) := by
    intro n
    induction n with
    | zero => intro v1 st H locs ls hI hl hf; exact (iter_0 hf).elim
    | succ n ih =>
      intro v1 st H locs ls hI hl hf
      obtain ⟨K1, hK1, hf⟩ := iter_e hf
      replace hf : (fm_river_s28 v1 st).bind K1 = some out := hf
      unfold fm_river_s28 at hf
      refine lv_iload_n hx hb dX12_river_28 rfl (lv_at hl 1 rfl) ?_
      refine lv_iconst (v := 4) hx hb dX12_river_29 (by decide) ?_
      refine lv_icmp_ge (tgt := 46) hx hb dX12_river_30 (by decide) (fun c27 => ?_) (fun c27 => ?_)
      · replace hf := ifp c27 hf
        replace hf := exit_b hK1 hf
        exact B_46  st H locs ls hI (lv_sub hl [0] rfl) hf
      · replace hf := ifn c27 hf
        refine lv_aload_n hx hb dX12_river_33 rfl (lv_at hl 0 rfl) ?_
        refine mg_bankRead hx hb hts hin hown k_bankRead hI dX12_river_34 ?_
        refine lv_iload_n hx hb dX12_river_37 rfl (lv_at hl 1 rfl) ?_
        refine lv_iconst (v := 0) hx hb dX12_river_38 (by decide) ?_
        obtain ⟨k28, hf⟩ := chk_b hf
        refine ms_bankRead hx hb hI k28 dX12_river_39 (fun H locs hI => ?_)
        refine lv_iinc (v := (v1 + 1)) (lv' := [(1, .int (v1 + 1)), (0, .ref h)]) hx hb dX12_river_40 hl (k := 1) rfl (ci_ _ (by decide)) (by decide) rfl (fun ls hl => ?_)
        refine lv_goto (tgt := 28) hx hb dX12_river_43 (by decide) ?_
        replace hf := cont_b hK1 hf
        exact ih (v1 + 1) (msa st 11 v1.toNatClampNeg (0 : Int32)) H locs ls hI (lv_sub hl [1, 0] rfl) hf
  unfold fm_river at hf
  refine lv_aload_n hx hb dX12_river_0 rfl (lv_at hl 0 rfl) ?_
  refine lv_bipush (v := 6) hx hb dX12_river_1 (by decide) ?_
  refine mp_text hx hb hts hin hown k_text hI dX12_river_3 (fun H locs hI => ?_)
  refine lv_aload_n hx hb dX12_river_6 rfl (lv_at hl 0 rfl) ?_
  refine lv_iconst (v := 0) hx hb dX12_river_7 (by decide) ?_
  refine mp_wideRead hx hb hts hin hown k_wideRead hI dX12_river_8 (fun H locs hI => ?_)
  refine lv_aload_n hx hb dX12_river_11 rfl (lv_at hl 0 rfl) ?_
  refine lv_iconst (v := -1) hx hb dX12_river_12 (by decide) ?_
  refine mp_stepRead hx hb hts hin hown k_stepRead hI dX12_river_13 (fun H locs hI => ?_)
  refine lv_aload_n hx hb dX12_river_16 rfl (lv_at hl 0 rfl) ?_
  refine lv_iconst (v := -1) hx hb dX12_river_17 (by decide) ?_
  refine mp_inchesRead hx hb hts hin hown k_inchesRead hI dX12_river_18 (fun H locs hI => ?_)
  refine lv_aload_n hx hb dX12_river_21 rfl (lv_at hl 0 rfl) ?_
  refine lv_iconst (v := 0) hx hb dX12_river_22 (by decide) ?_
  refine mp_floodsRead hx hb hts hin hown k_floodsRead hI dX12_river_23 (fun H locs hI => ?_)
  refine lv_iconst (v := 0) hx hb dX12_river_26 (by decide) ?_
  refine lv_istore_n (lv' := [(1, .int (0 : Int32)), (0, .ref h)]) hx hb dX12_river_27 rfl hl (by decide) rfl (fun ls hl => ?_)
  exact L_28  mFuel (0 : Int32) (msi (msi (msi (msi (msi s0 17 (6 : Int32)) 7 (0 : Int32)) 8 (-1 : Int32)) 9 (-1 : Int32)) 10 (0 : Int32)) H locs ls hI (lv_sub hl [1, 0] rfl) (asc_b hf)

theorem nd_isRule : yX12_isRule.cls ≠ "java/lang/invoke/MethodHandle" ∧ yX12_isRule.cls ≠ "java/lang/invoke/VarHandle" ∧ (parseMethodDescriptor yX12_isRule.desc).map (fun d => d.parameters.length) = some 1 := by decide +kernel
set_option maxHeartbeats 4000000 in
set_option maxRecDepth 100000 in
theorem cm_isRule (l : Launch) (D : va_G) (h : Nat) (ad : Nat → Nat) (cy : Nat → ClassId) (a1 : Int32) (s0 : MSt) (out : MSt × Int32) (hf : fm_isRule a1 s0 = some out) (sz : Nat) : CMi l D h ad cy yX12_isRule wsX12_isRule { frames := 0, cells := 0, slots := 0, locals := 0 } [.int a1] s0 out sz := by
  refine Met.ofW (cc := cX12_isRule) (maxL := 2) (ret := (some .boolean)) (by decide) rfl ?_
  intro p e s m args below meth c s₁ B hml hv
  obtain ⟨rfl, hsz, hP, hK, hD0⟩ := hv
  have hx := B.exec
  have hb := B.bytes
  have hr := B.returns
  have hts := atoms_spec (ws := wsX12_isRule) B.pre
  have hown : s.vm.findClass RX12 = some m.cls := findClass_of_methodNamed B.named
  have hlocks := B.notSynchronized
  subst hsz
  have hI : MI D (MA h ad cy s0 s.heap.size) h ad cy s s.heap s0 s.heap [] := ⟨hK, hP, hD0.self, va_S.rf⟩
  have hA : ∀ q : Nat, s.heap.size ≤ q → MA h ad cy s0 s.heap.size q := fun q hq => Or.inr hq
  have hin : ∀ w ∈ u_ws RX12 TX12 42, w ∈ wsX12_isRule := fun w hw => List.mem_cons_of_mem _ (List.mem_append_right _ hw)
  have k_rules : Cond.fieldLink RX12 293 "HalfBridgeModel" "rules" "I" ∈ wsX12_isRule := by decide +kernel
  have hl := lv_entry ([.ref h, .int a1]) (n := 2) (Nat.le_of_ble_eq_true rfl)
  rw [lg_entry_eq]
  generalize (lg_sl ([.ref h, .int a1]) ++ List.replicate (2 - (lg_sl ([.ref h, .int a1])).length) Slot.unset).toArray = ls at hl ⊢
  have hl : lv_has ls 2 [(0, .ref h), (1, .int a1)] := hl
  obtain ⟨K0, hK0, hf⟩ := top_e hf
  unfold fm_isRule at hf
  refine lv_iload_n hx hb dX12_isRule_0 rfl (lv_at hl 1 rfl) ?_
  refine lv_iconst (v := -1) hx hb dX12_isRule_1 (by decide) ?_
  refine lv_icmp_lt (tgt := 17) hx hb dX12_isRule_2 (by decide) (fun c1 => ?_) (fun c1 => ?_)
  · replace hf := ifp c1 hf
    refine lv_iconst (v := 0) hx hb dX12_isRule_17 (by decide) ?_
    exact mret_z hx hb hr (by decide) hlocks hI (ret_e hK0 hf) dX12_isRule_18
  · replace hf := ifn c1 hf
    refine lv_iload_n hx hb dX12_isRule_5 rfl (lv_at hl 1 rfl) ?_
    refine lv_aload_n hx hb dX12_isRule_6 rfl (lv_at hl 0 rfl) ?_
    refine mg_rules hx hb hts hin hown k_rules hI dX12_isRule_7 ?_
    refine lv_icmp_ge (tgt := 17) hx hb dX12_isRule_10 (by decide) (fun c2 => ?_) (fun c2 => ?_)
    · replace hf := ifp c2 hf
      refine lv_iconst (v := 0) hx hb dX12_isRule_17 (by decide) ?_
      exact mret_z hx hb hr (by decide) hlocks hI (ret_e hK0 hf) dX12_isRule_18
    · replace hf := ifn c2 hf
      refine lv_iconst (v := 1) hx hb dX12_isRule_13 (by decide) ?_
      refine lv_goto (tgt := 18) hx hb dX12_isRule_14 (by decide) ?_
      exact mret_z hx hb hr (by decide) hlocks hI (ret_e hK0 hf) dX12_isRule_18

theorem nd_push : yX12_push.cls ≠ "java/lang/invoke/MethodHandle" ∧ yX12_push.cls ≠ "java/lang/invoke/VarHandle" ∧ (parseMethodDescriptor yX12_push.desc).map (fun d => d.parameters.length) = some 1 := by decide +kernel
set_option maxHeartbeats 4000000 in
set_option maxRecDepth 100000 in
theorem cm_push (l : Launch) (D : va_G) (h : Nat) (ad : Nat → Nat) (cy : Nat → ClassId) (a1 : Int64) (s0 : MSt) (out : MSt) (hf : fm_push a1 s0 = some out) (sz : Nat) : CMv l D h ad cy yX12_push wsX12_push { frames := 0, cells := 0, slots := 0, locals := 0 } [.long a1] s0 out sz := by
  refine Met.ofW (cc := cX12_push) (maxL := 3) (ret := none) (by decide) rfl ?_
  intro p e s m args below meth c s₁ B hml hv
  obtain ⟨rfl, hsz, hP, hK, hD0⟩ := hv
  have hx := B.exec
  have hb := B.bytes
  have hr := B.returns
  have hts := atoms_spec (ws := wsX12_push) B.pre
  have hown : s.vm.findClass RX12 = some m.cls := findClass_of_methodNamed B.named
  have hlocks := B.notSynchronized
  subst hsz
  have hI : MI D (MA h ad cy s0 s.heap.size) h ad cy s s.heap s0 s.heap [] := ⟨hK, hP, hD0.self, va_S.rf⟩
  have hA : ∀ q : Nat, s.heap.size ≤ q → MA h ad cy s0 s.heap.size q := fun q hq => Or.inr hq
  have hin : ∀ w ∈ u_ws RX12 TX12 42, w ∈ wsX12_push := fun w hw => List.mem_cons_of_mem _ (List.mem_append_right _ hw)
  have k_stack : Cond.fieldLink RX12 38 "HalfBridgeModel" "stack" "[J" ∈ wsX12_push := by decide +kernel
  have k_top : Cond.fieldLink RX12 299 "HalfBridgeModel" "top" "I" ∈ wsX12_push := by decide +kernel
  have hl := lv_entry ([.ref h, .long a1]) (n := 3) (Nat.le_of_ble_eq_true rfl)
  rw [lg_entry_eq]
  generalize (lg_sl ([.ref h, .long a1]) ++ List.replicate (3 - (lg_sl ([.ref h, .long a1])).length) Slot.unset).toArray = ls at hl ⊢
  have hl : lv_has ls 3 [(0, .ref h), (1, .long a1)] := hl
  obtain ⟨K0, hK0, hf⟩ := top_e hf
  unfold fm_push at hf
  refine lv_aload_n hx hb dX12_push_0 rfl (lv_at hl 0 rfl) ?_
  refine mg_stack hx hb hts hin hown k_stack hI dX12_push_1 ?_
  refine lv_aload_n hx hb dX12_push_4 rfl (lv_at hl 0 rfl) ?_
  refine mg_top hx hb hts hin hown k_top hI dX12_push_5 ?_
  refine lv_lload_n hx hb dX12_push_8 rfl (lv_at hl 1 rfl) ?_
  obtain ⟨k1, hf⟩ := chk_b hf
  refine ms_stack hx hb hI k1 dX12_push_9 (fun H locs hI => ?_)
  refine lv_aload_n hx hb dX12_push_10 rfl (lv_at hl 0 rfl) ?_
  refine lv_dup hx hb dX12_push_11 rfl ?_
  refine mg_top hx hb hts hin hown k_top hI dX12_push_12 ?_
  refine lv_iconst (v := 1) hx hb dX12_push_15 (by decide) ?_
  refine lv_iadd hx hb dX12_push_16 ?_
  refine mp_top hx hb hts hin hown k_top hI dX12_push_17 (fun H locs hI => ?_)
  exact mret_v hx hb hr hlocks hI (ret_e hK0 hf) dX12_push_20
