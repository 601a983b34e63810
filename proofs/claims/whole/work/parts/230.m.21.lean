theorem nd_goesThrough : yX12_goesThrough.cls ≠ "java/lang/invoke/MethodHandle" ∧ yX12_goesThrough.cls ≠ "java/lang/invoke/VarHandle" ∧ (parseMethodDescriptor yX12_goesThrough.desc).map (fun d => d.parameters.length) = some 5 := by decide +kernel
set_option maxHeartbeats 4000000 in
set_option maxRecDepth 100000 in
theorem cm_goesThrough (l : Launch) (D : va_G) (h : Nat) (ad : Nat → Nat) (cy : Nat → ClassId) (a1 : Int32) (a2 : Int32) (a3 : Int32) (a4 : Int32) (a5 : Int32) (s0 : MSt) (out : MSt) (hf : fm_goesThrough a1 a2 a3 a4 a5 s0 = some out) (sz : Nat) : CMv l D h ad cy yX12_goesThrough wsX12_goesThrough { frames := 6, cells := 0, slots := 0, locals := 147 } [.int a1, .int a2, .int a3, .int a4, .int a5] s0 out sz := by
  refine Met.ofW (cc := cX12_goesThrough) (maxL := 10) (ret := none) (by decide) rfl ?_
  intro p e s m args below meth c s₁ B hml hv
  obtain ⟨rfl, hsz, hP, hK, hD0⟩ := hv
  have hx := B.exec
  have hb := B.bytes
  have hr := B.returns
  have hts := atoms_spec (ws := wsX12_goesThrough) B.pre
  have hown : s.vm.findClass RX12 = some m.cls := findClass_of_methodNamed B.named
  have hlocks := B.notSynchronized
  subst hsz
  have hI : MI D (MA h ad cy s0 s.heap.size) h ad cy s s.heap s0 s.heap [] := ⟨hK, hP, hD0.self, va_S.rf⟩
  have hA : ∀ q : Nat, s.heap.size ≤ q → MA h ad cy s0 s.heap.size q := fun q hq => Or.inr hq
  have hin : ∀ w ∈ u_ws RX12 TX12 42, w ∈ wsX12_goesThrough := fun w hw => List.mem_cons_of_mem _ (List.mem_append_right _ hw)
  have k_least : Cond.fieldLink RX12 440 "HalfBridgeModel" "least" "I" ∈ wsX12_goesThrough := by decide +kernel
  have k_spent : Cond.fieldLink RX12 76 "HalfBridgeModel" "spent" "[I" ∈ wsX12_goesThrough := by decide +kernel
  have k_tries : Cond.fieldLink RX12 73 "HalfBridgeModel" "tries" "[I" ∈ wsX12_goesThrough := by decide +kernel
  have hl := lv_entry ([.ref h, .int a1, .int a2, .int a3, .int a4, .int a5]) (n := 10) (Nat.le_of_ble_eq_true rfl)
  rw [lg_entry_eq]
  generalize (lg_sl ([.ref h, .int a1, .int a2, .int a3, .int a4, .int a5]) ++ List.replicate (10 - (lg_sl ([.ref h, .int a1, .int a2, .int a3, .int a4, .int a5])).length) Slot.unset).toArray = ls at hl ⊢
  have hl : lv_has ls 10 [(0, .ref h), (1, .int a1), (2, .int a2), (3, .int a3), (4, .int a4), (5, .int a5)] := hl
  obtain ⟨K0, hK0, hf⟩ := top_e hf
  have B_309 : ∀   (st : MSt) (H : Heap) (locs : List Loc) (ls : Array Slot), MI D (MA h ad cy s0 s.heap.size) h ad cy s s.heap st H locs → lv_has ls 10 [(0, .ref h)] → (fm_goesThrough_j309 st).bind K0 = some out → W p l e (headSpec wsX12_goesThrough { frames := 6, cells := 0, slots := 0, locals := 147 }).room s m (([.ref h, .int a1, .int a2, .int a3, .int a4, .int a5] : List Value).toArray) below meth c H locs 0 0 (MQ below (MQv D h ad cy s0 out s.heap.size) ([.ref h, .int a1, .int a2, .int a3, .int a4, .int a5] : List Value).toArray s 0 0 (MA h ad cy s0 s.heap.size)) (F0 m 309 ls []) := by
    intro st H locs ls hI hl hf
    unfold fm_goesThrough_j309 at hf
    refine lv_aload_n hx hb dX12_goesThrough_309 rfl (lv_at hl 0 rfl) ?_
    obtain ⟨x9, hc10, hf⟩ := bnd_b hf
    refine mcall_v (As := []) (rest := []) (n := 0) ⟨hx, hb, hml, hown, hts⟩ (cm_putsBack l D h ad cy  st x9 hc10 _) (cwV 0 hts gX12_goesThrough_X12_putsBack rfl rfl rfl ⟨rfl, nd_putsBack⟩ ⟨Nat.le_of_ble_eq_true rfl, Nat.le_of_ble_eq_true rfl⟩) hI hA rfl hl.1 (Nat.le_of_ble_eq_true rfl) dX12_goesThrough_310 ⟨Nat.zero_le _, Nat.zero_le _⟩ (fun H locs hI => ?_)
    exact mret_v hx hb hr hlocks hI (ret_e hK0 hf) dX12_goesThrough_313
  have L_37 : ∀ (v1 : Int32) (v2 : Int32) (v3 : Int32) (v4 : Int32) (v5 : Int32) (n : Nat) (v6 : Int32) (st : MSt) (H : Heap) (locs : List Loc) (ls : Array Slot), MI D (MA h ad cy s0 s.heap.size) h ad cy s s.heap st H locs → lv_has ls 10 [(0, .ref h), (1, .int v1), (2, .int v2), (3, .int v3), (4, .int v4), (5, .int v5), (6, .int v6)] → (iter (fun x : (Int32 × MSt) => fm_goesThrough_s37 v1 v2 v3 v4 v5 x.1 x.2) n (v6, st)).bind (fun x => ((Sum.elim (fun o : MSt => (some o : Option (MSt))) (fun x : (Int32 × MSt) => fm_goesThrough_j309 x.2)) x).bind K0) = some out → W p l e (headSpec wsX12_goesThrough { frames := 6, cells := 0, slots := 0, locals := 147 }).room s m (([.ref h, .int a1, .int a2, .int a3, .int a4, .int a5] : List Value).toArray) below meth c H locs 0 0 (MQ below (MQv D h ad cy s0 out s.heap.size) ([.ref h, .int a1, .int a2, .int a3, .int a4, .int a5] : List Value).toArray s 0 0 (MA h ad cy s0 s.heap.size)) (F0 m 37 ls []) := by
    intro v1 v2 v3 v4 v5 n
    induction n with
    | zero => intro v6 st H locs ls hI hl hf; exact (iter_0 hf).elim
    | succ n ih =>
      intro v6 st H locs ls hI hl hf
      obtain ⟨K1, hK1, hf⟩ := iter_e hf
      replace hf : (fm_goesThrough_s37 v1 v2 v3 v4 v5 v6 st).bind K1 = some out := hf
      have B_37_277 : ∀ (v6 : Int32) (v8 : Int32)  (st : MSt) (H : Heap) (locs : List Loc) (ls : Array Slot), MI D (MA h ad cy s0 s.heap.size) h ad cy s s.heap st H locs → lv_has ls 10 [(0, .ref h), (1, .int v1), (2, .int v2), (3, .int v3), (4, .int v4), (5, .int v5), (6, .int v6), (8, .int v8)] → (fm_goesThrough_j277 v1 v2 v3 v4 v5 v6 v8 st).bind K1 = some out → W p l e (headSpec wsX12_goesThrough { frames := 6, cells := 0, slots := 0, locals := 147 }).room s m (([.ref h, .int a1, .int a2, .int a3, .int a4, .int a5] : List Value).toArray) below meth c H locs 0 0 (MQ below (MQv D h ad cy s0 out s.heap.size) ([.ref h, .int a1, .int a2, .int a3, .int a4, .int a5] : List Value).toArray s 0 0 (MA h ad cy s0 s.heap.size)) (F0 m 277 ls []) := by
        intro v6 v8 st H locs ls hI hl hf
        unfold fm_goesThrough_j277 at hf
        refine lv_aload_n hx hb dX12_goesThrough_277 rfl (lv_at hl 0 rfl) ?_
        refine lv_iload hx hb dX12_goesThrough_278 (lv_at hl 4 rfl) ?_
        refine lv_if_eq (tgt := 293) hx hb dX12_goesThrough_280 (by decide) (fun c38 => ?_) (fun c38 => ?_)
        · replace hf := ifp c38 hf
          refine lv_iload hx hb dX12_goesThrough_293 (lv_at hl 7 rfl) ?_
          refine mp_least hx hb hts hin hown k_least hI dX12_goesThrough_295 (fun H locs hI => ?_)
          refine lv_aload_n hx hb dX12_goesThrough_298 rfl (lv_at hl 0 rfl) ?_
          refine lv_iload hx hb dX12_goesThrough_299 (lv_at hl 6 rfl) ?_
          refine lv_iconst (v := 1) hx hb dX12_goesThrough_301 (by decide) ?_
          refine lv_iadd hx hb dX12_goesThrough_302 ?_
          obtain ⟨x39, hc40, hf⟩ := bnd_b hf
          refine mcall_v (As := [.int (v6 + (1 : Int32))]) (rest := []) (n := 1) ⟨hx, hb, hml, hown, hts⟩ (cm_takesRow l D h ad cy (v6 + (1 : Int32)) (msi st 38 v8) x39 hc40 _) (cwV 1 hts gX12_goesThrough_X12_takesRow rfl rfl rfl ⟨rfl, nd_takesRow⟩ ⟨Nat.le_of_ble_eq_true rfl, Nat.le_of_ble_eq_true rfl⟩) hI hA rfl hl.1 (Nat.le_of_ble_eq_true rfl) dX12_goesThrough_303 ⟨Nat.zero_le _, Nat.zero_le _⟩ (fun H locs hI => ?_)
          refine lv_goto (tgt := 37) hx hb dX12_goesThrough_306 (by decide) ?_
          replace hf := cont_b hK1 hf
          exact ih v6 x39 H locs ls hI (lv_sub hl [0, 1, 2, 3, 4, 5, 6] rfl) hf
        · replace hf := ifn c38 hf
          refine lv_aload_n hx hb dX12_goesThrough_283 rfl (lv_at hl 0 rfl) ?_
          refine lv_iconst (v := 1) hx hb dX12_goesThrough_284 (by decide) ?_
          refine lv_iload_n hx hb dX12_goesThrough_285 rfl (lv_at hl 1 rfl) ?_
          refine lv_isub hx hb dX12_goesThrough_286 ?_
          obtain ⟨x41, hc42, hf⟩ := bnd_b hf
          refine mcall_i (As := [.int ((1 : Int32) - v1)]) (rest := [.ref h]) (n := 1) ⟨hx, hb, hml, hown, hts⟩ (cm_crooked l D h ad cy ((1 : Int32) - v1) st x41 hc42 _) (cwV 1 hts gX12_goesThrough_X12_crooked rfl rfl rfl ⟨rfl, nd_crooked⟩ ⟨Nat.le_of_ble_eq_true rfl, Nat.le_of_ble_eq_true rfl⟩) hI hA rfl hl.1 (Nat.le_of_ble_eq_true rfl) dX12_goesThrough_287 ⟨Nat.zero_le _, Nat.zero_le _⟩ (fun H locs hI => ?_)
          refine lv_goto (tgt := 295) hx hb dX12_goesThrough_290 (by decide) ?_
          refine mp_least hx hb hts hin hown k_least hI dX12_goesThrough_295 (fun H locs hI => ?_)
          refine lv_aload_n hx hb dX12_goesThrough_298 rfl (lv_at hl 0 rfl) ?_
          refine lv_iload hx hb dX12_goesThrough_299 (lv_at hl 6 rfl) ?_
          refine lv_iconst (v := 1) hx hb dX12_goesThrough_301 (by decide) ?_
          refine lv_iadd hx hb dX12_goesThrough_302 ?_
          obtain ⟨x43, hc44, hf⟩ := bnd_b hf
          refine mcall_v (As := [.int (v6 + (1 : Int32))]) (rest := []) (n := 1) ⟨hx, hb, hml, hown, hts⟩ (cm_takesRow l D h ad cy (v6 + (1 : Int32)) (msi x41.1 38 x41.2) x43 hc44 _) (cwV 1 hts gX12_goesThrough_X12_takesRow rfl rfl rfl ⟨rfl, nd_takesRow⟩ ⟨Nat.le_of_ble_eq_true rfl, Nat.le_of_ble_eq_true rfl⟩) hI hA rfl hl.1 (Nat.le_of_ble_eq_true rfl) dX12_goesThrough_303 ⟨Nat.zero_le _, Nat.zero_le _⟩ (fun H locs hI => ?_)
          refine lv_goto (tgt := 37) hx hb dX12_goesThrough_306 (by decide) ?_
          replace hf := cont_b hK1 hf
          exact ih v6 x43 H locs ls hI (lv_sub hl [0, 1, 2, 3, 4, 5, 6] rfl) hf
      have B_37_203_4 : ∀ (v6 : Int32) (v8 : Int32) (t0 : Int32) (st : MSt) (H : Heap) (locs : List Loc) (ls : Array Slot), MI D (MA h ad cy s0 s.heap.size) h ad cy s s.heap st H locs → lv_has ls 10 [(0, .ref h), (1, .int v1), (2, .int v2), (3, .int v3), (4, .int v4), (5, .int v5), (6, .int v6), (8, .int v8)] → (fm_goesThrough_j203 v1 v2 v3 v4 v5 v6 v8 t0 st).bind K1 = some out → W p l e (headSpec wsX12_goesThrough { frames := 6, cells := 0, slots := 0, locals := 147 }).room s m (([.ref h, .int a1, .int a2, .int a3, .int a4, .int a5] : List Value).toArray) below meth c H locs 0 0 (MQ below (MQv D h ad cy s0 out s.heap.size) ([.ref h, .int a1, .int a2, .int a3, .int a4, .int a5] : List Value).toArray s 0 0 (MA h ad cy s0 s.heap.size)) (F0 m 203 ls [.int t0]) := by
        intro v6 v8 t0 st H locs ls hI hl hf
        unfold fm_goesThrough_j203 at hf
        refine lv_istore (lv' := [(9, .int t0), (0, .ref h), (1, .int v1), (2, .int v2), (3, .int v3), (4, .int v4), (5, .int v5), (6, .int v6), (8, .int v8)]) hx hb dX12_goesThrough_203 hl (by decide) rfl (fun ls hl => ?_)
        refine lv_iload hx hb dX12_goesThrough_205 (lv_at hl 0 rfl) ?_
        refine lv_if_ne (tgt := 245) hx hb dX12_goesThrough_207 (by decide) (fun c33 => ?_) (fun c33 => ?_)
        · replace hf := ifn c33 hf
          refine lv_iload hx hb dX12_goesThrough_245 (lv_at hl 5 rfl) ?_
          refine lv_if_eq (tgt := 267) hx hb dX12_goesThrough_247 (by decide) (fun c34 => ?_) (fun c34 => ?_)
          · replace hf := ifp c34 hf
            refine lv_aload_n hx hb dX12_goesThrough_267 rfl (lv_at hl 1 rfl) ?_
            obtain ⟨x35, hc36, hf⟩ := bnd_b hf
            refine mcall_i (As := []) (rest := []) (n := 0) ⟨hx, hb, hml, hown, hts⟩ (cm_isInTime l D h ad cy  st x35 hc36 _) (cwV 0 hts gX12_goesThrough_X12_isInTime rfl rfl rfl ⟨rfl, nd_isInTime⟩ ⟨Nat.le_of_ble_eq_true rfl, Nat.le_of_ble_eq_true rfl⟩) hI hA rfl hl.1 (Nat.le_of_ble_eq_true rfl) dX12_goesThrough_268 ⟨Nat.zero_le _, Nat.zero_le _⟩ (fun H locs hI => ?_)
            refine lv_if_ne (tgt := 277) hx hb dX12_goesThrough_271 (by decide) (fun c37 => ?_) (fun c37 => ?_)
            · replace hf := ifn c37 hf
              exact B_37_277 v6 v8 x35.1 H locs ls hI (lv_sub hl [1, 2, 3, 4, 5, 6, 7, 8] rfl) hf
            · replace hf := ifp c37 hf
              refine lv_goto (tgt := 37) hx hb dX12_goesThrough_274 (by decide) ?_
              replace hf := cont_b hK1 hf
              exact ih v6 x35.1 H locs ls hI (lv_sub hl [1, 2, 3, 4, 5, 6, 7] rfl) hf
          · replace hf := ifn c34 hf
            refine lv_aload_n hx hb dX12_goesThrough_250 rfl (lv_at hl 1 rfl) ?_
            refine lv_iconst (v := 1) hx hb dX12_goesThrough_251 (by decide) ?_
            refine lv_iload_n hx hb dX12_goesThrough_252 rfl (lv_at hl 2 rfl) ?_
            refine lv_isub hx hb dX12_goesThrough_253 ?_
            obtain ⟨x45, hc46, hf⟩ := bnd_b hf
            refine mcall_i (As := [.int ((1 : Int32) - v1)]) (rest := []) (n := 1) ⟨hx, hb, hml, hown, hts⟩ (cm_crooked l D h ad cy ((1 : Int32) - v1) st x45 hc46 _) (cwV 1 hts gX12_goesThrough_X12_crooked rfl rfl rfl ⟨rfl, nd_crooked⟩ ⟨Nat.le_of_ble_eq_true rfl, Nat.le_of_ble_eq_true rfl⟩) hI hA rfl hl.1 (Nat.le_of_ble_eq_true rfl) dX12_goesThrough_254 ⟨Nat.zero_le _, Nat.zero_le _⟩ (fun H locs hI => ?_)
            refine lv_aload_n hx hb dX12_goesThrough_257 rfl (lv_at hl 1 rfl) ?_
            refine mg_least hx hb hts hin hown k_least hI dX12_goesThrough_258 ?_
            refine lv_icmp_gt (tgt := 277) hx hb dX12_goesThrough_261 (by decide) (fun c47 => ?_) (fun c47 => ?_)
            · replace hf := ifp c47 hf
              exact B_37_277 v6 v8 x45.1 H locs ls hI (lv_sub hl [1, 2, 3, 4, 5, 6, 7, 8] rfl) hf
            · replace hf := ifn c47 hf
              refine lv_goto (tgt := 37) hx hb dX12_goesThrough_264 (by decide) ?_
              replace hf := cont_b hK1 hf
              exact ih v6 x45.1 H locs ls hI (lv_sub hl [1, 2, 3, 4, 5, 6, 7] rfl) hf
        · replace hf := ifp c33 hf
          refine lv_iinc (v := (v6 + 1)) (lv' := [(6, .int (v6 + 1)), (9, .int t0), (0, .ref h), (1, .int v1), (2, .int v2), (3, .int v3), (4, .int v4), (5, .int v5), (8, .int v8)]) hx hb dX12_goesThrough_210 hl (k := 7) rfl (ci_ _ (by decide)) (by decide) rfl (fun ls hl => ?_)
          refine lv_aload_n hx hb dX12_goesThrough_213 rfl (lv_at hl 2 rfl) ?_
          refine mg_spent hx hb hts hin hown k_spent hI dX12_goesThrough_214 ?_
          refine lv_iload hx hb dX12_goesThrough_217 (lv_at hl 0 rfl) ?_
          refine lv_iload hx hb dX12_goesThrough_219 (lv_at hl 8 rfl) ?_
          obtain ⟨k48, hf⟩ := chk_b hf
          refine ms_spent hx hb hI k48 dX12_goesThrough_221 (fun H locs hI => ?_)
          refine lv_aload_n hx hb dX12_goesThrough_222 rfl (lv_at hl 2 rfl) ?_
          refine lv_iload hx hb dX12_goesThrough_223 (lv_at hl 0 rfl) ?_
          obtain ⟨x49, hc50, hf⟩ := bnd_b hf
          refine mcall_v (As := [.int (v6 + 1)]) (rest := []) (n := 1) ⟨hx, hb, hml, hown, hts⟩ (cm_keepsAt l D h ad cy (v6 + 1) (msa st 36 (v6 + 1).toNatClampNeg v8) x49 hc50 _) (cwV 1 hts gX12_goesThrough_X12_keepsAt rfl rfl rfl ⟨rfl, nd_keepsAt⟩ ⟨Nat.le_of_ble_eq_true rfl, Nat.le_of_ble_eq_true rfl⟩) hI hA rfl hl.1 (Nat.le_of_ble_eq_true rfl) dX12_goesThrough_225 ⟨Nat.zero_le _, Nat.zero_le _⟩ (fun H locs hI => ?_)
          refine lv_aload_n hx hb dX12_goesThrough_228 rfl (lv_at hl 2 rfl) ?_
          refine mg_tries hx hb hts hin hown k_tries hI dX12_goesThrough_229 ?_
          refine lv_iload hx hb dX12_goesThrough_232 (lv_at hl 0 rfl) ?_
          refine lv_aload_n hx hb dX12_goesThrough_234 rfl (lv_at hl 2 rfl) ?_
          obtain ⟨x51, hc52, hf⟩ := bnd_b hf
          refine mcall_i (As := []) (rest := [.int (v6 + 1), .ref (ad 35)]) (n := 0) ⟨hx, hb, hml, hown, hts⟩ (cm_mostTurn l D h ad cy  x49 x51 hc52 _) (cwV 0 hts gX12_goesThrough_X12_mostTurn rfl rfl rfl ⟨rfl, nd_mostTurn⟩ ⟨Nat.le_of_ble_eq_true rfl, Nat.le_of_ble_eq_true rfl⟩) hI hA rfl hl.1 (Nat.le_of_ble_eq_true rfl) dX12_goesThrough_235 ⟨Nat.zero_le _, Nat.zero_le _⟩ (fun H locs hI => ?_)
          refine lv_ineg hx hb dX12_goesThrough_238 ?_
          refine lv_iconst (v := 1) hx hb dX12_goesThrough_239 (by decide) ?_
          refine lv_isub hx hb dX12_goesThrough_240 ?_
          obtain ⟨k53, hf⟩ := chk_b hf
          refine ms_tries hx hb hI k53 dX12_goesThrough_241 (fun H locs hI => ?_)
          refine lv_goto (tgt := 37) hx hb dX12_goesThrough_242 (by decide) ?_
          replace hf := cont_b hK1 hf
          exact ih (v6 + 1) (msa x51.1 35 (v6 + 1).toNatClampNeg ((-x51.2) - (1 : Int32))) H locs ls hI (lv_sub hl [2, 3, 4, 5, 6, 7, 0] rfl) hf
      have B_37_198 : ∀ (v6 : Int32) (v8 : Int32)  (st : MSt) (H : Heap) (locs : List Loc) (ls : Array Slot), MI D (MA h ad cy s0 s.heap.size) h ad cy s s.heap st H locs → lv_has ls 10 [(0, .ref h), (1, .int v1), (2, .int v2), (3, .int v3), (4, .int v4), (5, .int v5), (6, .int v6), (8, .int v8)] → (fm_goesThrough_j198 v1 v2 v3 v4 v5 v6 v8 st).bind K1 = some out → W p l e (headSpec wsX12_goesThrough { frames := 6, cells := 0, slots := 0, locals := 147 }).room s m (([.ref h, .int a1, .int a2, .int a3, .int a4, .int a5] : List Value).toArray) below meth c H locs 0 0 (MQ below (MQv D h ad cy s0 out s.heap.size) ([.ref h, .int a1, .int a2, .int a3, .int a4, .int a5] : List Value).toArray s 0 0 (MA h ad cy s0 s.heap.size)) (F0 m 198 ls []) := by
        intro v6 v8 st H locs ls hI hl hf
        unfold fm_goesThrough_j198 at hf
        refine lv_iconst (v := 1) hx hb dX12_goesThrough_198 (by decide) ?_
        refine lv_goto (tgt := 203) hx hb dX12_goesThrough_199 (by decide) ?_
        exact B_37_203_4 v6 v8 (1 : Int32) st H locs ls hI (lv_sub hl [0, 1, 2, 3, 4, 5, 6, 7] rfl) hf
      have B_37_183 : ∀ (v6 : Int32) (v8 : Int32)  (st : MSt) (H : Heap) (locs : List Loc) (ls : Array Slot), MI D (MA h ad cy s0 s.heap.size) h ad cy s s.heap st H locs → lv_has ls 10 [(0, .ref h), (1, .int v1), (2, .int v2), (3, .int v3), (4, .int v4), (5, .int v5), (6, .int v6), (8, .int v8)] → (fm_goesThrough_j183 v1 v2 v3 v4 v5 v6 v8 st).bind K1 = some out → W p l e (headSpec wsX12_goesThrough { frames := 6, cells := 0, slots := 0, locals := 147 }).room s m (([.ref h, .int a1, .int a2, .int a3, .int a4, .int a5] : List Value).toArray) below meth c H locs 0 0 (MQ below (MQv D h ad cy s0 out s.heap.size) ([.ref h, .int a1, .int a2, .int a3, .int a4, .int a5] : List Value).toArray s 0 0 (MA h ad cy s0 s.heap.size)) (F0 m 183 ls []) := by
        intro v6 v8 st H locs ls hI hl hf
        unfold fm_goesThrough_j183 at hf
        refine lv_aload_n hx hb dX12_goesThrough_183 rfl (lv_at hl 0 rfl) ?_
        obtain ⟨x30, hc31, hf⟩ := bnd_b hf
        refine mcall_i (As := []) (rest := []) (n := 0) ⟨hx, hb, hml, hown, hts⟩ (cm_isMet l D h ad cy  st x30 hc31 _) (cwV 0 hts gX12_goesThrough_X12_isMet rfl rfl rfl ⟨rfl, nd_isMet⟩ ⟨Nat.le_of_ble_eq_true rfl, Nat.le_of_ble_eq_true rfl⟩) hI hA rfl hl.1 (Nat.le_of_ble_eq_true rfl) dX12_goesThrough_184 ⟨Nat.zero_le _, Nat.zero_le _⟩ (fun H locs hI => ?_)
        refine lv_if_ne (tgt := 198) hx hb dX12_goesThrough_187 (by decide) (fun c32 => ?_) (fun c32 => ?_)
        · replace hf := ifn c32 hf
          exact B_37_198 v6 v8 x30.1 H locs ls hI (lv_sub hl [0, 1, 2, 3, 4, 5, 6, 7] rfl) hf
        · replace hf := ifp c32 hf
          refine lv_iload hx hb dX12_goesThrough_190 (lv_at hl 6 rfl) ?_
          refine lv_iload_n hx hb dX12_goesThrough_192 rfl (lv_at hl 3 rfl) ?_
          refine lv_iconst (v := 1) hx hb dX12_goesThrough_193 (by decide) ?_
          refine lv_isub hx hb dX12_goesThrough_194 ?_
          refine lv_icmp_ne (tgt := 202) hx hb dX12_goesThrough_195 (by decide) (fun c54 => ?_) (fun c54 => ?_)
          · replace hf := ifn c54 hf
            refine lv_iconst (v := 0) hx hb dX12_goesThrough_202 (by decide) ?_
            exact B_37_203_4 v6 v8 (0 : Int32) x30.1 H locs ls hI (lv_sub hl [0, 1, 2, 3, 4, 5, 6, 7] rfl) hf
          · replace hf := ifp c54 hf
            exact B_37_198 v6 v8 x30.1 H locs ls hI (lv_sub hl [0, 1, 2, 3, 4, 5, 6, 7] rfl) hf
      have B_37_149 : ∀ (v6 : Int32) (v8 : Int32)  (st : MSt) (H : Heap) (locs : List Loc) (ls : Array Slot), MI D (MA h ad cy s0 s.heap.size) h ad cy s s.heap st H locs → lv_has ls 10 [(0, .ref h), (1, .int v1), (2, .int v2), (3, .int v3), (4, .int v4), (5, .int v5), (6, .int v6), (8, .int v8)] → (fm_goesThrough_j149 v1 v2 v3 v4 v5 v6 v8 st).bind K1 = some out → W p l e (headSpec wsX12_goesThrough { frames := 6, cells := 0, slots := 0, locals := 147 }).room s m (([.ref h, .int a1, .int a2, .int a3, .int a4, .int a5] : List Value).toArray) below meth c H locs 0 0 (MQ below (MQv D h ad cy s0 out s.heap.size) ([.ref h, .int a1, .int a2, .int a3, .int a4, .int a5] : List Value).toArray s 0 0 (MA h ad cy s0 s.heap.size)) (F0 m 149 ls []) := by
        intro v6 v8 st H locs ls hI hl hf
        unfold fm_goesThrough_j149 at hf
        refine lv_iload hx hb dX12_goesThrough_149 (lv_at hl 4 rfl) ?_
        refine lv_if_eq (tgt := 164) hx hb dX12_goesThrough_151 (by decide) (fun c28 => ?_) (fun c28 => ?_)
        · replace hf := ifp c28 hf
          refine lv_aload_n hx hb dX12_goesThrough_164 rfl (lv_at hl 0 rfl) ?_
          refine mg_least hx hb hts hin hown k_least hI dX12_goesThrough_165 ?_
          refine lv_if_lt (tgt := 183) hx hb dX12_goesThrough_168 (by decide) (fun c29 => ?_) (fun c29 => ?_)
          · replace hf := ifp c29 hf
            exact B_37_183 v6 v8 st H locs ls hI (lv_sub hl [0, 1, 2, 3, 4, 5, 6, 7] rfl) hf
          · replace hf := ifn c29 hf
            refine lv_iload hx hb dX12_goesThrough_171 (lv_at hl 7 rfl) ?_
            refine lv_aload_n hx hb dX12_goesThrough_173 rfl (lv_at hl 0 rfl) ?_
            refine mg_least hx hb hts hin hown k_least hI dX12_goesThrough_174 ?_
            refine lv_icmp_lt (tgt := 183) hx hb dX12_goesThrough_177 (by decide) (fun c55 => ?_) (fun c55 => ?_)
            · replace hf := ifp c55 hf
              exact B_37_183 v6 v8 st H locs ls hI (lv_sub hl [0, 1, 2, 3, 4, 5, 6, 7] rfl) hf
            · replace hf := ifn c55 hf
              refine lv_goto (tgt := 37) hx hb dX12_goesThrough_180 (by decide) ?_
              replace hf := cont_b hK1 hf
              exact ih v6 st H locs ls hI (lv_sub hl [0, 1, 2, 3, 4, 5, 6] rfl) hf
        · replace hf := ifn c28 hf
          refine lv_iload hx hb dX12_goesThrough_154 (lv_at hl 7 rfl) ?_
          refine lv_iload hx hb dX12_goesThrough_156 (lv_at hl 5 rfl) ?_
          refine lv_icmp_le (tgt := 183) hx hb dX12_goesThrough_158 (by decide) (fun c56 => ?_) (fun c56 => ?_)
          · replace hf := ifp c56 hf
            exact B_37_183 v6 v8 st H locs ls hI (lv_sub hl [0, 1, 2, 3, 4, 5, 6, 7] rfl) hf
          · replace hf := ifn c56 hf
            refine lv_goto (tgt := 37) hx hb dX12_goesThrough_161 (by decide) ?_
            replace hf := cont_b hK1 hf
            exact ih v6 st H locs ls hI (lv_sub hl [0, 1, 2, 3, 4, 5, 6] rfl) hf
      have B_37_132_0 : ∀ (v6 : Int32) (v7 : Int32) (t0 : Int32) (t1 : Int32) (st : MSt) (H : Heap) (locs : List Loc) (ls : Array Slot), MI D (MA h ad cy s0 s.heap.size) h ad cy s s.heap st H locs → lv_has ls 10 [(0, .ref h), (1, .int v1), (2, .int v2), (3, .int v3), (4, .int v4), (5, .int v5), (6, .int v6), (7, .int v7)] → (fm_goesThrough_j132 v1 v2 v3 v4 v5 v6 v7 t0 t1 st).bind K1 = some out → W p l e (headSpec wsX12_goesThrough { frames := 6, cells := 0, slots := 0, locals := 147 }).room s m (([.ref h, .int a1, .int a2, .int a3, .int a4, .int a5] : List Value).toArray) below meth c H locs 0 0 (MQ below (MQv D h ad cy s0 out s.heap.size) ([.ref h, .int a1, .int a2, .int a3, .int a4, .int a5] : List Value).toArray s 0 0 (MA h ad cy s0 s.heap.size)) (F0 m 132 ls [.int t0, .int t1]) := by
        intro v6 v7 t0 t1 st H locs ls hI hl hf
        unfold fm_goesThrough_j132 at hf
        refine lv_iadd hx hb dX12_goesThrough_132 ?_
        refine lv_istore (lv' := [(8, .int (t1 + t0)), (0, .ref h), (1, .int v1), (2, .int v2), (3, .int v3), (4, .int v4), (5, .int v5), (6, .int v6), (7, .int v7)]) hx hb dX12_goesThrough_133 hl (by decide) rfl (fun ls hl => ?_)
        refine lv_iload hx hb dX12_goesThrough_135 (lv_at hl 8 rfl) ?_
        refine lv_if_ne (tgt := 149) hx hb dX12_goesThrough_137 (by decide) (fun c27 => ?_) (fun c27 => ?_)
        · replace hf := ifn c27 hf
          exact B_37_149 v6 (t1 + t0) st H locs ls hI (lv_sub hl [1, 2, 3, 4, 5, 6, 7, 0] rfl) hf
        · replace hf := ifp c27 hf
          refine lv_aload_n hx hb dX12_goesThrough_140 rfl (lv_at hl 1 rfl) ?_
          refine mg_tries hx hb hts hin hown k_tries hI dX12_goesThrough_141 ?_
          refine lv_iload hx hb dX12_goesThrough_144 (lv_at hl 7 rfl) ?_
          refine lv_bipush (v := -100) hx hb dX12_goesThrough_146 (by decide) ?_
          obtain ⟨k57, hf⟩ := chk_b hf
          refine ms_tries hx hb hI k57 dX12_goesThrough_148 (fun H locs hI => ?_)
          exact B_37_149 v6 (t1 + t0) (msa st 35 v6.toNatClampNeg (-100 : Int32)) H locs ls hI (lv_sub hl [1, 2, 3, 4, 5, 6, 7, 0] rfl) hf
      unfold fm_goesThrough_s37 at hf
      refine lv_iload hx hb dX12_goesThrough_37 (lv_at hl 6 rfl) ?_
      refine lv_if_lt (tgt := 309) hx hb dX12_goesThrough_39 (by decide) (fun c11 => ?_) (fun c11 => ?_)
      · replace hf := ifp c11 hf
        replace hf := exit_b hK1 hf
        exact B_309  st H locs ls hI (lv_sub hl [0] rfl) hf
      · replace hf := ifn c11 hf
        refine lv_aload_n hx hb dX12_goesThrough_42 rfl (lv_at hl 0 rfl) ?_
        refine mg_tries hx hb hts hin hown k_tries hI dX12_goesThrough_43 ?_
        refine lv_iload hx hb dX12_goesThrough_46 (lv_at hl 6 rfl) ?_
        obtain ⟨k12, hf⟩ := chk_b hf
        refine ml_tries hx hb hI k12 dX12_goesThrough_48 ?_
        refine lv_aload_n hx hb dX12_goesThrough_49 rfl (lv_at hl 0 rfl) ?_
        obtain ⟨x13, hc14, hf⟩ := bnd_b hf
        refine mcall_i (As := []) (rest := [.int (st.2.1 35 v6.toNatClampNeg)]) (n := 0) ⟨hx, hb, hml, hown, hts⟩ (cm_mostTurn l D h ad cy  st x13 hc14 _) (cwV 0 hts gX12_goesThrough_X12_mostTurn rfl rfl rfl ⟨rfl, nd_mostTurn⟩ ⟨Nat.le_of_ble_eq_true rfl, Nat.le_of_ble_eq_true rfl⟩) hI hA rfl hl.1 (Nat.le_of_ble_eq_true rfl) dX12_goesThrough_50 ⟨Nat.zero_le _, Nat.zero_le _⟩ (fun H locs hI => ?_)
        refine lv_icmp_eq (tgt := 68) hx hb dX12_goesThrough_53 (by decide) (fun c15 => ?_) (fun c15 => ?_)
        · replace hf := ifp c15 hf
          refine lv_iinc (v := (v6 + -1)) (lv' := [(6, .int (v6 + -1)), (0, .ref h), (1, .int v1), (2, .int v2), (3, .int v3), (4, .int v4), (5, .int v5)]) hx hb dX12_goesThrough_68 hl (k := 6) rfl (ci_ _ (by decide)) (by decide) rfl (fun ls hl => ?_)
          refine lv_goto (tgt := 37) hx hb dX12_goesThrough_71 (by decide) ?_
          replace hf := cont_b hK1 hf
          exact ih (v6 + -1) x13.1 H locs ls hI (lv_sub hl [1, 2, 3, 4, 5, 6, 0] rfl) hf
        · replace hf := ifn c15 hf
          refine lv_aload_n hx hb dX12_goesThrough_56 rfl (lv_at hl 0 rfl) ?_
          refine mg_tries hx hb hts hin hown k_tries hI dX12_goesThrough_57 ?_
          refine lv_iload hx hb dX12_goesThrough_60 (lv_at hl 6 rfl) ?_
          obtain ⟨k16, hf⟩ := chk_b hf
          refine ml_tries hx hb hI k16 dX12_goesThrough_62 ?_
          refine lv_bipush (v := -100) hx hb dX12_goesThrough_63 (by decide) ?_
          refine lv_icmp_ne (tgt := 74) hx hb dX12_goesThrough_65 (by decide) (fun c17 => ?_) (fun c17 => ?_)
          · replace hf := ifn c17 hf
            refine lv_aload_n hx hb dX12_goesThrough_74 rfl (lv_at hl 0 rfl) ?_
            refine mg_tries hx hb hts hin hown k_tries hI dX12_goesThrough_75 ?_
            refine lv_iload hx hb dX12_goesThrough_78 (lv_at hl 6 rfl) ?_
            refine lv_dup2_11 hx hb dX12_goesThrough_80 rfl rfl ?_
            obtain ⟨k18, hf⟩ := chk_b hf
            refine ml_tries hx hb hI k18 dX12_goesThrough_81 ?_
            refine lv_iconst (v := 1) hx hb dX12_goesThrough_82 (by decide) ?_
            refine lv_iadd hx hb dX12_goesThrough_83 ?_
            obtain ⟨k19, hf⟩ := chk_b hf
            refine ms_tries hx hb hI k19 dX12_goesThrough_84 (fun H locs hI => ?_)
            refine lv_aload_n hx hb dX12_goesThrough_85 rfl (lv_at hl 0 rfl) ?_
            refine lv_iload hx hb dX12_goesThrough_86 (lv_at hl 6 rfl) ?_
            obtain ⟨x20, hc21, hf⟩ := bnd_b hf
            refine mcall_v (As := [.int v6]) (rest := []) (n := 1) ⟨hx, hb, hml, hown, hts⟩ (cm_putsBackAt l D h ad cy v6 (msa x13.1 35 v6.toNatClampNeg ((x13.1.2.1 35 v6.toNatClampNeg) + (1 : Int32))) x20 hc21 _) (cwV 1 hts gX12_goesThrough_X12_putsBackAt rfl rfl rfl ⟨rfl, nd_putsBackAt⟩ ⟨Nat.le_of_ble_eq_true rfl, Nat.le_of_ble_eq_true rfl⟩) hI hA rfl hl.1 (Nat.le_of_ble_eq_true rfl) dX12_goesThrough_88 ⟨Nat.zero_le _, Nat.zero_le _⟩ (fun H locs hI => ?_)
            refine lv_aload_n hx hb dX12_goesThrough_91 rfl (lv_at hl 0 rfl) ?_
            refine lv_iload_n hx hb dX12_goesThrough_92 rfl (lv_at hl 1 rfl) ?_
            refine lv_iload_n hx hb dX12_goesThrough_93 rfl (lv_at hl 2 rfl) ?_
            refine lv_aload_n hx hb dX12_goesThrough_94 rfl (lv_at hl 0 rfl) ?_
            refine mg_tries hx hb hts hin hown k_tries hI dX12_goesThrough_95 ?_
            refine lv_iload hx hb dX12_goesThrough_98 (lv_at hl 6 rfl) ?_
            obtain ⟨k22, hf⟩ := chk_b hf
            refine ml_tries hx hb hI k22 dX12_goesThrough_100 ?_
            obtain ⟨x23, hc24, hf⟩ := bnd_b hf
            refine mcall_i (As := [.int v1, .int v2, .int (x20.2.1 35 v6.toNatClampNeg)]) (rest := []) (n := 3) ⟨hx, hb, hml, hown, hts⟩ (cm_passesAs l D h ad cy v1 v2 (x20.2.1 35 v6.toNatClampNeg) x20 x23 hc24 _) (cwV 3 hts gX12_goesThrough_X12_passesAs rfl rfl rfl ⟨rfl, nd_passesAs⟩ ⟨Nat.le_of_ble_eq_true rfl, Nat.le_of_ble_eq_true rfl⟩) hI hA rfl hl.1 (Nat.le_of_ble_eq_true rfl) dX12_goesThrough_101 ⟨Nat.zero_le _, Nat.zero_le _⟩ (fun H locs hI => ?_)
            refine lv_istore (lv' := [(7, .int x23.2), (0, .ref h), (1, .int v1), (2, .int v2), (3, .int v3), (4, .int v4), (5, .int v5), (6, .int v6)]) hx hb dX12_goesThrough_104 hl (by decide) rfl (fun ls hl => ?_)
            refine lv_aload_n hx hb dX12_goesThrough_106 rfl (lv_at hl 1 rfl) ?_
            refine mg_spent hx hb hts hin hown k_spent hI dX12_goesThrough_107 ?_
            refine lv_iload hx hb dX12_goesThrough_110 (lv_at hl 7 rfl) ?_
            obtain ⟨k25, hf⟩ := chk_b hf
            refine ml_spent hx hb hI k25 dX12_goesThrough_112 ?_
            refine lv_iload hx hb dX12_goesThrough_113 (lv_at hl 0 rfl) ?_
            refine lv_if_eq (tgt := 131) hx hb dX12_goesThrough_115 (by decide) (fun c26 => ?_) (fun c26 => ?_)
            · replace hf := ifp c26 hf
              refine lv_iconst (v := 0) hx hb dX12_goesThrough_131 (by decide) ?_
              exact B_37_132_0 v6 x23.2 (0 : Int32) (x23.1.2.1 36 v6.toNatClampNeg) x23.1 H locs ls hI (lv_sub hl [1, 2, 3, 4, 5, 6, 7, 0] rfl) hf
            · replace hf := ifn c26 hf
              refine lv_aload_n hx hb dX12_goesThrough_118 rfl (lv_at hl 1 rfl) ?_
              refine mg_tries hx hb hts hin hown k_tries hI dX12_goesThrough_119 ?_
              refine lv_iload hx hb dX12_goesThrough_122 (lv_at hl 7 rfl) ?_
              obtain ⟨k58, hf⟩ := chk_b hf
              refine ml_tries hx hb hI k58 dX12_goesThrough_124 ?_
              obtain ⟨x59, hc60, hf⟩ := bnd_b hf
              refine mst_i (As := [.int (x23.1.2.1 35 v6.toNatClampNeg)]) (rest := [.int (x23.1.2.1 36 v6.toNatClampNeg)]) (n := 1) ⟨hx, hb, hml, hown, hts⟩ (cs_plain l (x23.1.2.1 35 v6.toNatClampNeg) x59 hc60 _) (va_cwS 1 hts gX12_goesThrough_X12_plain rfl rfl rfl nd_plain ⟨Nat.le_of_ble_eq_true rfl, Nat.le_of_ble_eq_true rfl⟩) hI hA rfl hl.1 (Nat.le_of_ble_eq_true rfl) dX12_goesThrough_125 ⟨Nat.zero_le _, Nat.zero_le _⟩ (fun H locs hI => ?_)
              refine lv_goto (tgt := 132) hx hb dX12_goesThrough_128 (by decide) ?_
              exact B_37_132_0 v6 x23.2 x59 (x23.1.2.1 36 v6.toNatClampNeg) x23.1 H locs ls hI (lv_sub hl [1, 2, 3, 4, 5, 6, 7, 0] rfl) hf
          · replace hf := ifp c17 hf
            refine lv_iinc (v := (v6 + -1)) (lv' := [(6, .int (v6 + -1)), (0, .ref h), (1, .int v1), (2, .int v2), (3, .int v3), (4, .int v4), (5, .int v5)]) hx hb dX12_goesThrough_68 hl (k := 6) rfl (ci_ _ (by decide)) (by decide) rfl (fun ls hl => ?_)
            refine lv_goto (tgt := 37) hx hb dX12_goesThrough_71 (by decide) ?_
            replace hf := cont_b hK1 hf
            exact ih (v6 + -1) x13.1 H locs ls hI (lv_sub hl [1, 2, 3, 4, 5, 6, 0] rfl) hf
  unfold fm_goesThrough at hf
  refine lv_aload_n hx hb dX12_goesThrough_0 rfl (lv_at hl 0 rfl) ?_
  refine lv_iconst (v := -1) hx hb dX12_goesThrough_1 (by decide) ?_
  refine mp_least hx hb hts hin hown k_least hI dX12_goesThrough_2 (fun H locs hI => ?_)
  refine lv_aload_n hx hb dX12_goesThrough_5 rfl (lv_at hl 0 rfl) ?_
  obtain ⟨x1, hc2, hf⟩ := bnd_b hf
  refine mcall_v (As := []) (rest := []) (n := 0) ⟨hx, hb, hml, hown, hts⟩ (cm_keeps l D h ad cy  (msi s0 38 (-1 : Int32)) x1 hc2 _) (cwV 0 hts gX12_goesThrough_X12_keeps rfl rfl rfl ⟨rfl, nd_keeps⟩ ⟨Nat.le_of_ble_eq_true rfl, Nat.le_of_ble_eq_true rfl⟩) hI hA rfl hl.1 (Nat.le_of_ble_eq_true rfl) dX12_goesThrough_6 ⟨Nat.zero_le _, Nat.zero_le _⟩ (fun H locs hI => ?_)
  refine lv_iconst (v := 0) hx hb dX12_goesThrough_9 (by decide) ?_
  refine lv_istore (lv' := [(6, .int (0 : Int32)), (0, .ref h), (1, .int a1), (2, .int a2), (3, .int a3), (4, .int a4), (5, .int a5)]) hx hb dX12_goesThrough_10 hl (by decide) rfl (fun ls hl => ?_)
  refine lv_aload_n hx hb dX12_goesThrough_12 rfl (lv_at hl 1 rfl) ?_
  refine mg_spent hx hb hts hin hown k_spent hI dX12_goesThrough_13 ?_
  refine lv_iconst (v := 0) hx hb dX12_goesThrough_16 (by decide) ?_
  refine lv_iconst (v := 0) hx hb dX12_goesThrough_17 (by decide) ?_
  obtain ⟨k3, hf⟩ := chk_b hf
  refine ms_spent hx hb hI k3 dX12_goesThrough_18 (fun H locs hI => ?_)
  refine lv_aload_n hx hb dX12_goesThrough_19 rfl (lv_at hl 1 rfl) ?_
  refine lv_iconst (v := 0) hx hb dX12_goesThrough_20 (by decide) ?_
  obtain ⟨x4, hc5, hf⟩ := bnd_b hf
  refine mcall_v (As := [.int (0 : Int32)]) (rest := []) (n := 1) ⟨hx, hb, hml, hown, hts⟩ (cm_keepsAt l D h ad cy (0 : Int32) (msa x1 36 (0 : Int32).toNatClampNeg (0 : Int32)) x4 hc5 _) (cwV 1 hts gX12_goesThrough_X12_keepsAt rfl rfl rfl ⟨rfl, nd_keepsAt⟩ ⟨Nat.le_of_ble_eq_true rfl, Nat.le_of_ble_eq_true rfl⟩) hI hA rfl hl.1 (Nat.le_of_ble_eq_true rfl) dX12_goesThrough_21 ⟨Nat.zero_le _, Nat.zero_le _⟩ (fun H locs hI => ?_)
  refine lv_aload_n hx hb dX12_goesThrough_24 rfl (lv_at hl 1 rfl) ?_
  refine mg_tries hx hb hts hin hown k_tries hI dX12_goesThrough_25 ?_
  refine lv_iconst (v := 0) hx hb dX12_goesThrough_28 (by decide) ?_
  refine lv_aload_n hx hb dX12_goesThrough_29 rfl (lv_at hl 1 rfl) ?_
  obtain ⟨x6, hc7, hf⟩ := bnd_b hf
  refine mcall_i (As := []) (rest := [.int (0 : Int32), .ref (ad 35)]) (n := 0) ⟨hx, hb, hml, hown, hts⟩ (cm_mostTurn l D h ad cy  x4 x6 hc7 _) (cwV 0 hts gX12_goesThrough_X12_mostTurn rfl rfl rfl ⟨rfl, nd_mostTurn⟩ ⟨Nat.le_of_ble_eq_true rfl, Nat.le_of_ble_eq_true rfl⟩) hI hA rfl hl.1 (Nat.le_of_ble_eq_true rfl) dX12_goesThrough_30 ⟨Nat.zero_le _, Nat.zero_le _⟩ (fun H locs hI => ?_)
  refine lv_ineg hx hb dX12_goesThrough_33 ?_
  refine lv_iconst (v := 1) hx hb dX12_goesThrough_34 (by decide) ?_
  refine lv_isub hx hb dX12_goesThrough_35 ?_
  obtain ⟨k8, hf⟩ := chk_b hf
  refine ms_tries hx hb hI k8 dX12_goesThrough_36 (fun H locs hI => ?_)
  exact L_37 a1 a2 a3 a4 a5 mFuel (0 : Int32) (msa x6.1 35 (0 : Int32).toNatClampNeg ((-x6.2) - (1 : Int32))) H locs ls hI (lv_sub hl [1, 2, 3, 4, 5, 6, 0] rfl) (asc_b hf)

theorem nd_canLike : yX12_canLike.cls ≠ "java/lang/invoke/MethodHandle" ∧ yX12_canLike.cls ≠ "java/lang/invoke/VarHandle" ∧ (parseMethodDescriptor yX12_canLike.desc).map (fun d => d.parameters.length) = some 2 := by decide +kernel
set_option maxHeartbeats 4000000 in
set_option maxRecDepth 100000 in
theorem cm_canLike (l : Launch) (D : va_G) (h : Nat) (ad : Nat → Nat) (cy : Nat → ClassId) (a1 : Int32) (a2 : Int32) (s0 : MSt) (out : MSt × Int32) (hf : fm_canLike a1 a2 s0 = some out) (sz : Nat) : CMi l D h ad cy yX12_canLike wsX12_canLike { frames := 2, cells := 0, slots := 0, locals := 40 } [.int a1, .int a2] s0 out sz := by
  refine Met.ofW (cc := cX12_canLike) (maxL := 3) (ret := (some .boolean)) (by decide) rfl ?_
  intro p e s m args below meth c s₁ B hml hv
  obtain ⟨rfl, hsz, hP, hK, hD0⟩ := hv
  have hx := B.exec
  have hb := B.bytes
  have hr := B.returns
  have hts := atoms_spec (ws := wsX12_canLike) B.pre
  have hown : s.vm.findClass RX12 = some m.cls := findClass_of_methodNamed B.named
  have hlocks := B.notSynchronized
  subst hsz
  have hI : MI D (MA h ad cy s0 s.heap.size) h ad cy s s.heap s0 s.heap [] := ⟨hK, hP, hD0.self, va_S.rf⟩
  have hA : ∀ q : Nat, s.heap.size ≤ q → MA h ad cy s0 s.heap.size q := fun q hq => Or.inr hq
  have hl := lv_entry ([.ref h, .int a1, .int a2]) (n := 3) (Nat.le_of_ble_eq_true rfl)
  rw [lg_entry_eq]
  generalize (lg_sl ([.ref h, .int a1, .int a2]) ++ List.replicate (3 - (lg_sl ([.ref h, .int a1, .int a2])).length) Slot.unset).toArray = ls at hl ⊢
  have hl : lv_has ls 3 [(0, .ref h), (1, .int a1), (2, .int a2)] := hl
  obtain ⟨K0, hK0, hf⟩ := top_e hf
  unfold fm_canLike at hf
  refine lv_aload_n hx hb dX12_canLike_0 rfl (lv_at hl 0 rfl) ?_
  obtain ⟨x1, hc2, hf⟩ := bnd_b hf
  refine mcall_i (As := []) (rest := []) (n := 0) ⟨hx, hb, hml, hown, hts⟩ (cm_isRiver l D h ad cy  s0 x1 hc2 _) (cwV 0 hts gX12_canLike_X12_isRiver rfl rfl rfl ⟨rfl, nd_isRiver⟩ ⟨Nat.le_of_ble_eq_true rfl, Nat.le_of_ble_eq_true rfl⟩) hI hA rfl hl.1 (Nat.le_of_ble_eq_true rfl) dX12_canLike_1 ⟨Nat.zero_le _, Nat.zero_le _⟩ (fun H locs hI => ?_)
  refine lv_if_eq (tgt := 33) hx hb dX12_canLike_4 (by decide) (fun c3 => ?_) (fun c3 => ?_)
  · replace hf := ifp c3 hf
    refine lv_iconst (v := 0) hx hb dX12_canLike_33 (by decide) ?_
    exact mret_z hx hb hr (by decide) hlocks hI (ret_e hK0 hf) dX12_canLike_34
  · replace hf := ifn c3 hf
    refine lv_iload_n hx hb dX12_canLike_7 rfl (lv_at hl 1 rfl) ?_
    obtain ⟨x4, hc5, hf⟩ := bnd_b hf
    refine mst_i (As := [.int a1]) (rest := []) (n := 1) ⟨hx, hb, hml, hown, hts⟩ (cs_isSide l a1 x4 hc5 _) (va_cwS 1 hts gX12_canLike_X12_isSide rfl rfl rfl nd_isSide ⟨Nat.le_of_ble_eq_true rfl, Nat.le_of_ble_eq_true rfl⟩) hI hA rfl hl.1 (Nat.le_of_ble_eq_true rfl) dX12_canLike_8 ⟨Nat.zero_le _, Nat.zero_le _⟩ (fun H locs hI => ?_)
    refine lv_if_eq (tgt := 33) hx hb dX12_canLike_11 (by decide) (fun c6 => ?_) (fun c6 => ?_)
    · replace hf := ifp c6 hf
      refine lv_iconst (v := 0) hx hb dX12_canLike_33 (by decide) ?_
      exact mret_z hx hb hr (by decide) hlocks hI (ret_e hK0 hf) dX12_canLike_34
    · replace hf := ifn c6 hf
      refine lv_aload_n hx hb dX12_canLike_14 rfl (lv_at hl 0 rfl) ?_
      refine lv_iload_n hx hb dX12_canLike_15 rfl (lv_at hl 2 rfl) ?_
      obtain ⟨x7, hc8, hf⟩ := bnd_b hf
      refine mcall_i (As := [.int a2]) (rest := []) (n := 1) ⟨hx, hb, hml, hown, hts⟩ (cm_isRule l D h ad cy a2 x1.1 x7 hc8 _) (cwV 1 hts gX12_canLike_X12_isRule rfl rfl rfl ⟨rfl, nd_isRule⟩ ⟨Nat.le_of_ble_eq_true rfl, Nat.le_of_ble_eq_true rfl⟩) hI hA rfl hl.1 (Nat.le_of_ble_eq_true rfl) dX12_canLike_16 ⟨Nat.zero_le _, Nat.zero_le _⟩ (fun H locs hI => ?_)
      refine lv_if_eq (tgt := 33) hx hb dX12_canLike_19 (by decide) (fun c9 => ?_) (fun c9 => ?_)
      · replace hf := ifp c9 hf
        refine lv_iconst (v := 0) hx hb dX12_canLike_33 (by decide) ?_
        exact mret_z hx hb hr (by decide) hlocks hI (ret_e hK0 hf) dX12_canLike_34
      · replace hf := ifn c9 hf
        refine lv_aload_n hx hb dX12_canLike_22 rfl (lv_at hl 0 rfl) ?_
        obtain ⟨x10, hc11, hf⟩ := bnd_b hf
        refine mcall_i (As := []) (rest := []) (n := 0) ⟨hx, hb, hml, hown, hts⟩ (cm_isMet l D h ad cy  x7.1 x10 hc11 _) (cwV 0 hts gX12_canLike_X12_isMet rfl rfl rfl ⟨rfl, nd_isMet⟩ ⟨Nat.le_of_ble_eq_true rfl, Nat.le_of_ble_eq_true rfl⟩) hI hA rfl hl.1 (Nat.le_of_ble_eq_true rfl) dX12_canLike_23 ⟨Nat.zero_le _, Nat.zero_le _⟩ (fun H locs hI => ?_)
        refine lv_if_ne (tgt := 33) hx hb dX12_canLike_26 (by decide) (fun c12 => ?_) (fun c12 => ?_)
        · replace hf := ifn c12 hf
          refine lv_iconst (v := 0) hx hb dX12_canLike_33 (by decide) ?_
          exact mret_z hx hb hr (by decide) hlocks hI (ret_e hK0 hf) dX12_canLike_34
        · replace hf := ifp c12 hf
          refine lv_iconst (v := 1) hx hb dX12_canLike_29 (by decide) ?_
          refine lv_goto (tgt := 34) hx hb dX12_canLike_30 (by decide) ?_
          exact mret_z hx hb hr (by decide) hlocks hI (ret_e hK0 hf) dX12_canLike_34
