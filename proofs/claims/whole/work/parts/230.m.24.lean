theorem nd_erred : yX12_erred.cls ≠ "java/lang/invoke/MethodHandle" ∧ yX12_erred.cls ≠ "java/lang/invoke/VarHandle" ∧ (parseMethodDescriptor yX12_erred.desc).map (fun d => d.parameters.length) = some 5 := by decide +kernel
set_option maxHeartbeats 4000000 in
set_option maxRecDepth 100000 in
theorem cm_erred (l : Launch) (D : va_G) (h : Nat) (ad : Nat → Nat) (cy : Nat → ClassId) (a1 : Int32) (a2 : Int32) (a3 : Int32) (a4 : Int32) (a5 : Int32) (s0 : MSt) (out : MSt × Int32) (hf : fm_erred a1 a2 a3 a4 a5 s0 = some out) (sz : Nat) : CMi l D h ad cy yX12_erred wsX12_erred { frames := 6, cells := 0, slots := 0, locals := 145 } [.int a1, .int a2, .int a3, .int a4, .int a5] s0 out sz := by
  refine Met.ofW (cc := cX12_erred) (maxL := 11) (ret := (some .int)) (by decide) rfl ?_
  intro p e s m args below meth c s₁ B hml hv
  obtain ⟨rfl, hsz, hP, hK, hD0⟩ := hv
  have hx := B.exec
  have hb := B.bytes
  have hr := B.returns
  have hts := atoms_spec (ws := wsX12_erred) B.pre
  have hown : s.vm.findClass RX12 = some m.cls := findClass_of_methodNamed B.named
  have hlocks := B.notSynchronized
  subst hsz
  have hI : MI D (MA h ad cy s0 s.heap.size) h ad cy s s.heap s0 s.heap [] := ⟨hK, hP, hD0.self, va_S.rf⟩
  have hA : ∀ q : Nat, s.heap.size ≤ q → MA h ad cy s0 s.heap.size q := fun q hq => Or.inr hq
  have hin : ∀ w ∈ u_ws RX12 TX12 42, w ∈ wsX12_erred := fun w hw => List.mem_cons_of_mem _ (List.mem_append_right _ hw)
  have k_errNow : Cond.fieldLink RX12 48 "HalfBridgeModel" "errNow" "[I" ∈ wsX12_erred := by decide +kernel
  have k_erredIn : Cond.fieldLink RX12 82 "HalfBridgeModel" "erredIn" "[I" ∈ wsX12_erred := by decide +kernel
  have hl := lv_entry ([.ref h, .int a1, .int a2, .int a3, .int a4, .int a5]) (n := 11) (Nat.le_of_ble_eq_true rfl)
  rw [lg_entry_eq]
  generalize (lg_sl ([.ref h, .int a1, .int a2, .int a3, .int a4, .int a5]) ++ List.replicate (11 - (lg_sl ([.ref h, .int a1, .int a2, .int a3, .int a4, .int a5])).length) Slot.unset).toArray = ls at hl ⊢
  have hl : lv_has ls 11 [(0, .ref h), (1, .int a1), (2, .int a2), (3, .int a3), (4, .int a4), (5, .int a5)] := hl
  obtain ⟨K0, hK0, hf⟩ := top_e hf
  have B_243 : ∀ (v5 : Int32) (v7 : Int32)  (st : MSt) (H : Heap) (locs : List Loc) (ls : Array Slot), MI D (MA h ad cy s0 s.heap.size) h ad cy s s.heap st H locs → lv_has ls 11 [(0, .ref h), (5, .int v5), (7, .int v7)] → (fm_erred_j243 v5 v7 st).bind K0 = some out → W p l e (headSpec wsX12_erred { frames := 6, cells := 0, slots := 0, locals := 145 }).room s m (([.ref h, .int a1, .int a2, .int a3, .int a4, .int a5] : List Value).toArray) below meth c H locs 0 0 (MQ below (MQi D h ad cy s0 out s.heap.size) ([.ref h, .int a1, .int a2, .int a3, .int a4, .int a5] : List Value).toArray s 0 0 (MA h ad cy s0 s.heap.size)) (F0 m 243 ls []) := by
    intro v5 v7 st H locs ls hI hl hf
    unfold fm_erred_j243 at hf
    refine lv_iload hx hb dX12_erred_243 (lv_at hl 1 rfl) ?_
    refine lv_if_ne (tgt := 251) hx hb dX12_erred_245 (by decide) (fun c15 => ?_) (fun c15 => ?_)
    · replace hf := ifn c15 hf
      refine lv_aload_n hx hb dX12_erred_251 rfl (lv_at hl 0 rfl) ?_
      refine mg_erredIn hx hb hts hin hown k_erredIn hI dX12_erred_252 ?_
      refine lv_iload hx hb dX12_erred_255 (lv_at hl 1 rfl) ?_
      refine lv_iconst (v := 1) hx hb dX12_erred_257 (by decide) ?_
      refine lv_isub hx hb dX12_erred_258 ?_
      obtain ⟨k16, hf⟩ := chk_b hf
      refine ml_erredIn hx hb hI k16 dX12_erred_259 ?_
      refine lv_istore (lv' := [(8, .int (st.2.1 39 (v5 - (1 : Int32)).toNatClampNeg)), (0, .ref h), (5, .int v5), (7, .int v7)]) hx hb dX12_erred_260 hl (by decide) rfl (fun ls hl => ?_)
      refine lv_iload hx hb dX12_erred_262 (lv_at hl 0 rfl) ?_
      refine lv_if_ne (tgt := 271) hx hb dX12_erred_264 (by decide) (fun c17 => ?_) (fun c17 => ?_)
      · replace hf := ifn c17 hf
        refine lv_iload hx hb dX12_erred_271 (lv_at hl 0 rfl) ?_
        refine lv_iload hx hb dX12_erred_273 (lv_at hl 3 rfl) ?_
        refine lv_icmp_ne (tgt := 282) hx hb dX12_erred_275 (by decide) (fun c18 => ?_) (fun c18 => ?_)
        · replace hf := ifn c18 hf
          refine lv_iconst (v := 1) hx hb dX12_erred_282 (by decide) ?_
          exact mret_i hx hb hr hlocks hI (ret_e hK0 hf) dX12_erred_283
        · replace hf := ifp c18 hf
          refine lv_iconst (v := 2) hx hb dX12_erred_278 (by decide) ?_
          refine lv_goto (tgt := 283) hx hb dX12_erred_279 (by decide) ?_
          exact mret_i hx hb hr hlocks hI (ret_e hK0 hf) dX12_erred_283
      · replace hf := ifp c17 hf
        refine lv_iconst (v := 0) hx hb dX12_erred_267 (by decide) ?_
        refine lv_goto (tgt := 283) hx hb dX12_erred_268 (by decide) ?_
        exact mret_i hx hb hr hlocks hI (ret_e hK0 hf) dX12_erred_283
    · replace hf := ifp c15 hf
      refine lv_iload hx hb dX12_erred_248 (lv_at hl 2 rfl) ?_
      exact mret_i hx hb hr hlocks hI (ret_e hK0 hf) dX12_erred_250
  have L_109 : ∀ (v1 : Int32) (v2 : Int32) (v3 : Int32) (v4 : Int32) (v5 : Int32) (v6 : Int32) (n : Nat) (v7 : Int32) (v8 : Int32) (st : MSt) (H : Heap) (locs : List Loc) (ls : Array Slot), MI D (MA h ad cy s0 s.heap.size) h ad cy s s.heap st H locs → lv_has ls 11 [(0, .ref h), (1, .int v1), (2, .int v2), (3, .int v3), (4, .int v4), (5, .int v5), (6, .int v6), (7, .int v7), (8, .int v8)] → (iter (fun x : (Int32 × Int32 × MSt) => fm_erred_s109 v1 v2 v3 v4 v5 v6 x.1 x.2.1 x.2.2) n (v7, v8, st)).bind (fun x => ((Sum.elim (fun o : MSt × Int32 => (some o : Option (MSt × Int32))) (fun x : (Int32 × Int32 × MSt) => fm_erred_j243 v5 x.1 x.2.2)) x).bind K0) = some out → W p l e (headSpec wsX12_erred { frames := 6, cells := 0, slots := 0, locals := 145 }).room s m (([.ref h, .int a1, .int a2, .int a3, .int a4, .int a5] : List Value).toArray) below meth c H locs 0 0 (MQ below (MQi D h ad cy s0 out s.heap.size) ([.ref h, .int a1, .int a2, .int a3, .int a4, .int a5] : List Value).toArray s 0 0 (MA h ad cy s0 s.heap.size)) (F0 m 109 ls []) := by
    intro v1 v2 v3 v4 v5 v6 n
    induction n with
    | zero => intro v7 v8 st H locs ls hI hl hf; exact (iter_0 hf).elim
    | succ n ih =>
      intro v7 v8 st H locs ls hI hl hf
      obtain ⟨K1, hK1, hf⟩ := iter_e hf
      replace hf : (fm_erred_s109 v1 v2 v3 v4 v5 v6 v7 v8 st).bind K1 = some out := hf
      have B_109_233 : ∀ (v7 : Int32) (v8 : Int32)  (st : MSt) (H : Heap) (locs : List Loc) (ls : Array Slot), MI D (MA h ad cy s0 s.heap.size) h ad cy s s.heap st H locs → lv_has ls 11 [(0, .ref h), (1, .int v1), (2, .int v2), (3, .int v3), (4, .int v4), (5, .int v5), (6, .int v6), (7, .int v7), (8, .int v8)] → (fm_erred_j233 v1 v2 v3 v4 v5 v6 v7 v8 st).bind K1 = some out → W p l e (headSpec wsX12_erred { frames := 6, cells := 0, slots := 0, locals := 145 }).room s m (([.ref h, .int a1, .int a2, .int a3, .int a4, .int a5] : List Value).toArray) below meth c H locs 0 0 (MQ below (MQi D h ad cy s0 out s.heap.size) ([.ref h, .int a1, .int a2, .int a3, .int a4, .int a5] : List Value).toArray s 0 0 (MA h ad cy s0 s.heap.size)) (F0 m 233 ls []) := by
        intro v7 v8 st H locs ls hI hl hf
        unfold fm_erred_j233 at hf
        refine lv_aload_n hx hb dX12_erred_233 rfl (lv_at hl 0 rfl) ?_
        obtain ⟨x25, hc26, hf⟩ := bnd_b hf
        refine mcall_v (As := []) (rest := []) (n := 0) ⟨hx, hb, hml, hown, hts⟩ (cm_putsBack l D h ad cy  st x25 hc26 _) (cwV 0 hts gX12_erred_X12_putsBack rfl rfl rfl ⟨rfl, nd_putsBack⟩ ⟨Nat.le_of_ble_eq_true rfl, Nat.le_of_ble_eq_true rfl⟩) hI hA rfl hl.1 (Nat.le_of_ble_eq_true rfl) dX12_erred_234 ⟨Nat.zero_le _, Nat.zero_le _⟩ (fun H locs hI => ?_)
        refine lv_iinc (v := (v8 + 1)) (lv' := [(8, .int (v8 + 1)), (0, .ref h), (1, .int v1), (2, .int v2), (3, .int v3), (4, .int v4), (5, .int v5), (6, .int v6), (7, .int v7)]) hx hb dX12_erred_237 hl (k := 8) rfl (ci_ _ (by decide)) (by decide) rfl (fun ls hl => ?_)
        refine lv_goto (tgt := 109) hx hb dX12_erred_240 (by decide) ?_
        replace hf := cont_b hK1 hf
        exact ih v7 (v8 + 1) x25 H locs ls hI (lv_sub hl [1, 2, 3, 4, 5, 6, 7, 8, 0] rfl) hf
      have L_109_194 : ∀ (v7 : Int32) (v8 : Int32) (n : Nat) (v9 : Int32) (st : MSt) (H : Heap) (locs : List Loc) (ls : Array Slot), MI D (MA h ad cy s0 s.heap.size) h ad cy s s.heap st H locs → lv_has ls 11 [(0, .ref h), (1, .int v1), (2, .int v2), (3, .int v3), (4, .int v4), (5, .int v5), (6, .int v6), (7, .int v7), (8, .int v8), (9, .int v9)] → (iter (fun x : (Int32 × MSt) => fm_erred_s194 v1 v2 v3 v4 v5 v6 v7 v8 x.1 x.2) n (v9, st)).bind (fun x => ((Sum.elim (fun o : MSt × Int32 => (some (.inl o) : Option ((MSt × Int32) ⊕ ((Int32 × Int32 × MSt) ⊕ (Int32 × Int32 × MSt))))) (fun x : (Int32 × MSt) => fm_erred_j233 v1 v2 v3 v4 v5 v6 v7 v8 x.2)) x).bind K1) = some out → W p l e (headSpec wsX12_erred { frames := 6, cells := 0, slots := 0, locals := 145 }).room s m (([.ref h, .int a1, .int a2, .int a3, .int a4, .int a5] : List Value).toArray) below meth c H locs 0 0 (MQ below (MQi D h ad cy s0 out s.heap.size) ([.ref h, .int a1, .int a2, .int a3, .int a4, .int a5] : List Value).toArray s 0 0 (MA h ad cy s0 s.heap.size)) (F0 m 194 ls []) := by
        intro v7 v8 n
        induction n with
        | zero => intro v9 st H locs ls hI hl hf; exact (iter_0 hf).elim
        | succ n ih =>
          intro v9 st H locs ls hI hl hf
          obtain ⟨K2, hK2, hf⟩ := iter_e hf
          replace hf : (fm_erred_s194 v1 v2 v3 v4 v5 v6 v7 v8 v9 st).bind K2 = some out := hf
          unfold fm_erred_s194 at hf
          refine lv_iload hx hb dX12_erred_194 (lv_at hl 9 rfl) ?_
          refine lv_iconst (v := 2) hx hb dX12_erred_196 (by decide) ?_
          refine lv_iload_n hx hb dX12_erred_197 rfl (lv_at hl 3 rfl) ?_
          refine lv_imul hx hb dX12_erred_198 ?_
          refine lv_icmp_ge (tgt := 233) hx hb dX12_erred_199 (by decide) (fun c27 => ?_) (fun c27 => ?_)
          · replace hf := ifp c27 hf
            replace hf := exit_b hK2 hf
            exact B_109_233 v7 v8 st H locs ls hI (lv_sub hl [0, 1, 2, 3, 4, 5, 6, 7, 8] rfl) hf
          · replace hf := ifn c27 hf
            refine lv_aload_n hx hb dX12_erred_202 rfl (lv_at hl 0 rfl) ?_
            refine mg_erredIn hx hb hts hin hown k_erredIn hI dX12_erred_203 ?_
            refine lv_iload hx hb dX12_erred_206 (lv_at hl 9 rfl) ?_
            refine lv_dup2_11 hx hb dX12_erred_208 rfl rfl ?_
            obtain ⟨k28, hf⟩ := chk_b hf
            refine ml_erredIn hx hb hI k28 dX12_erred_209 ?_
            refine lv_iload hx hb dX12_erred_210 (lv_at hl 8 rfl) ?_
            refine lv_iload hx hb dX12_erred_212 (lv_at hl 9 rfl) ?_
            obtain ⟨x29, hc30, hf⟩ := bnd_b hf
            refine mst_i (As := [.int v8, .int v9]) (rest := [.int (st.2.1 39 v9.toNatClampNeg), .int v9, .ref (ad 39)]) (n := 2) ⟨hx, hb, hml, hown, hts⟩ (cs_figure l v8 v9 x29 hc30 _) (va_cwS 2 hts gX12_erred_X12_figure rfl rfl rfl nd_figure ⟨Nat.le_of_ble_eq_true rfl, Nat.le_of_ble_eq_true rfl⟩) hI hA rfl hl.1 (Nat.le_of_ble_eq_true rfl) dX12_erred_214 ⟨Nat.zero_le _, Nat.zero_le _⟩ (fun H locs hI => ?_)
            refine lv_if_ne (tgt := 224) hx hb dX12_erred_217 (by decide) (fun c31 => ?_) (fun c31 => ?_)
            · replace hf := ifn c31 hf
              refine lv_iconst (v := 1) hx hb dX12_erred_224 (by decide) ?_
              refine lv_iadd hx hb dX12_erred_225 ?_
              obtain ⟨k32, hf⟩ := chk_b hf
              refine ms_erredIn hx hb hI k32 dX12_erred_226 (fun H locs hI => ?_)
              refine lv_iinc (v := (v9 + 1)) (lv' := [(9, .int (v9 + 1)), (0, .ref h), (1, .int v1), (2, .int v2), (3, .int v3), (4, .int v4), (5, .int v5), (6, .int v6), (7, .int v7), (8, .int v8)]) hx hb dX12_erred_227 hl (k := 9) rfl (ci_ _ (by decide)) (by decide) rfl (fun ls hl => ?_)
              refine lv_goto (tgt := 194) hx hb dX12_erred_230 (by decide) ?_
              replace hf := cont_b hK2 hf
              exact ih (v9 + 1) (msa st 39 v9.toNatClampNeg ((st.2.1 39 v9.toNatClampNeg) + (1 : Int32))) H locs ls hI (lv_sub hl [1, 2, 3, 4, 5, 6, 7, 8, 9, 0] rfl) hf
            · replace hf := ifp c31 hf
              refine lv_iconst (v := 0) hx hb dX12_erred_220 (by decide) ?_
              refine lv_goto (tgt := 225) hx hb dX12_erred_221 (by decide) ?_
              refine lv_iadd hx hb dX12_erred_225 ?_
              obtain ⟨k33, hf⟩ := chk_b hf
              refine ms_erredIn hx hb hI k33 dX12_erred_226 (fun H locs hI => ?_)
              refine lv_iinc (v := (v9 + 1)) (lv' := [(9, .int (v9 + 1)), (0, .ref h), (1, .int v1), (2, .int v2), (3, .int v3), (4, .int v4), (5, .int v5), (6, .int v6), (7, .int v7), (8, .int v8)]) hx hb dX12_erred_227 hl (k := 9) rfl (ci_ _ (by decide)) (by decide) rfl (fun ls hl => ?_)
              refine lv_goto (tgt := 194) hx hb dX12_erred_230 (by decide) ?_
              replace hf := cont_b hK2 hf
              exact ih (v9 + 1) (msa st 39 v9.toNatClampNeg ((st.2.1 39 v9.toNatClampNeg) + (0 : Int32))) H locs ls hI (lv_sub hl [1, 2, 3, 4, 5, 6, 7, 8, 9, 0] rfl) hf
      have B_109_181 : ∀ (v7 : Int32) (v8 : Int32)  (st : MSt) (H : Heap) (locs : List Loc) (ls : Array Slot), MI D (MA h ad cy s0 s.heap.size) h ad cy s s.heap st H locs → lv_has ls 11 [(0, .ref h), (1, .int v1), (2, .int v2), (3, .int v3), (4, .int v4), (5, .int v5), (6, .int v6), (7, .int v7), (8, .int v8)] → (fm_erred_j181 v1 v2 v3 v4 v5 v6 v7 v8 st).bind K1 = some out → W p l e (headSpec wsX12_erred { frames := 6, cells := 0, slots := 0, locals := 145 }).room s m (([.ref h, .int a1, .int a2, .int a3, .int a4, .int a5] : List Value).toArray) below meth c H locs 0 0 (MQ below (MQi D h ad cy s0 out s.heap.size) ([.ref h, .int a1, .int a2, .int a3, .int a4, .int a5] : List Value).toArray s 0 0 (MA h ad cy s0 s.heap.size)) (F0 m 181 ls []) := by
        intro v7 v8 st H locs ls hI hl hf
        unfold fm_erred_j181 at hf
        refine lv_aload_n hx hb dX12_erred_181 rfl (lv_at hl 0 rfl) ?_
        obtain ⟨x20, hc21, hf⟩ := bnd_b hf
        refine mcall_i (As := []) (rest := []) (n := 0) ⟨hx, hb, hml, hown, hts⟩ (cm_areRuins l D h ad cy  st x20 hc21 _) (cwV 0 hts gX12_erred_X12_areRuins rfl rfl rfl ⟨rfl, nd_areRuins⟩ ⟨Nat.le_of_ble_eq_true rfl, Nat.le_of_ble_eq_true rfl⟩) hI hA rfl hl.1 (Nat.le_of_ble_eq_true rfl) dX12_erred_182 ⟨Nat.zero_le _, Nat.zero_le _⟩ (fun H locs hI => ?_)
        refine lv_if_eq (tgt := 233) hx hb dX12_erred_185 (by decide) (fun c22 => ?_) (fun c22 => ?_)
        · replace hf := ifp c22 hf
          refine lv_aload_n hx hb dX12_erred_233 rfl (lv_at hl 0 rfl) ?_
          obtain ⟨x23, hc24, hf⟩ := bnd_b hf
          refine mcall_v (As := []) (rest := []) (n := 0) ⟨hx, hb, hml, hown, hts⟩ (cm_putsBack l D h ad cy  x20.1 x23 hc24 _) (cwV 0 hts gX12_erred_X12_putsBack rfl rfl rfl ⟨rfl, nd_putsBack⟩ ⟨Nat.le_of_ble_eq_true rfl, Nat.le_of_ble_eq_true rfl⟩) hI hA rfl hl.1 (Nat.le_of_ble_eq_true rfl) dX12_erred_234 ⟨Nat.zero_le _, Nat.zero_le _⟩ (fun H locs hI => ?_)
          refine lv_iinc (v := (v8 + 1)) (lv' := [(8, .int (v8 + 1)), (0, .ref h), (1, .int v1), (2, .int v2), (3, .int v3), (4, .int v4), (5, .int v5), (6, .int v6), (7, .int v7)]) hx hb dX12_erred_237 hl (k := 8) rfl (ci_ _ (by decide)) (by decide) rfl (fun ls hl => ?_)
          refine lv_goto (tgt := 109) hx hb dX12_erred_240 (by decide) ?_
          replace hf := cont_b hK1 hf
          exact ih v7 (v8 + 1) x23 H locs ls hI (lv_sub hl [1, 2, 3, 4, 5, 6, 7, 8, 0] rfl) hf
        · replace hf := ifn c22 hf
          refine lv_iinc (v := (v7 + 1)) (lv' := [(7, .int (v7 + 1)), (0, .ref h), (1, .int v1), (2, .int v2), (3, .int v3), (4, .int v4), (5, .int v5), (6, .int v6), (8, .int v8)]) hx hb dX12_erred_188 hl (k := 7) rfl (ci_ _ (by decide)) (by decide) rfl (fun ls hl => ?_)
          refine lv_iconst (v := 0) hx hb dX12_erred_191 (by decide) ?_
          refine lv_istore (lv' := [(9, .int (0 : Int32)), (7, .int (v7 + 1)), (0, .ref h), (1, .int v1), (2, .int v2), (3, .int v3), (4, .int v4), (5, .int v5), (6, .int v6), (8, .int v8)]) hx hb dX12_erred_192 hl (by decide) rfl (fun ls hl => ?_)
          exact L_109_194 (v7 + 1) v8 mFuel (0 : Int32) x20.1 H locs ls hI (lv_sub hl [2, 3, 4, 5, 6, 7, 8, 1, 9, 0] rfl) (asc_b hf)
      have L_109_119 : ∀ (v7 : Int32) (v8 : Int32) (n : Nat) (v9 : Int32) (st : MSt) (H : Heap) (locs : List Loc) (ls : Array Slot), MI D (MA h ad cy s0 s.heap.size) h ad cy s s.heap st H locs → lv_has ls 11 [(0, .ref h), (1, .int v1), (2, .int v2), (3, .int v3), (4, .int v4), (5, .int v5), (6, .int v6), (7, .int v7), (8, .int v8), (9, .int v9)] → (iter (fun x : (Int32 × MSt) => fm_erred_s119 v1 v2 v3 v4 v5 v6 v7 v8 x.1 x.2) n (v9, st)).bind (fun x => ((Sum.elim (fun o : MSt × Int32 => (some (.inl o) : Option ((MSt × Int32) ⊕ ((Int32 × Int32 × MSt) ⊕ (Int32 × Int32 × MSt))))) (fun x : (Int32 × MSt) => fm_erred_j181 v1 v2 v3 v4 v5 v6 v7 v8 x.2)) x).bind K1) = some out → W p l e (headSpec wsX12_erred { frames := 6, cells := 0, slots := 0, locals := 145 }).room s m (([.ref h, .int a1, .int a2, .int a3, .int a4, .int a5] : List Value).toArray) below meth c H locs 0 0 (MQ below (MQi D h ad cy s0 out s.heap.size) ([.ref h, .int a1, .int a2, .int a3, .int a4, .int a5] : List Value).toArray s 0 0 (MA h ad cy s0 s.heap.size)) (F0 m 119 ls []) := by
        intro v7 v8 n
        induction n with
        | zero => intro v9 st H locs ls hI hl hf; exact (iter_0 hf).elim
        | succ n ih =>
          intro v9 st H locs ls hI hl hf
          obtain ⟨K2, hK2, hf⟩ := iter_e hf
          replace hf : (fm_erred_s119 v1 v2 v3 v4 v5 v6 v7 v8 v9 st).bind K2 = some out := hf
          have B_109_119_169 : ∀ (v9 : Int32)  (st : MSt) (H : Heap) (locs : List Loc) (ls : Array Slot), MI D (MA h ad cy s0 s.heap.size) h ad cy s s.heap st H locs → lv_has ls 11 [(0, .ref h), (1, .int v1), (2, .int v2), (3, .int v3), (4, .int v4), (5, .int v5), (6, .int v6), (7, .int v7), (8, .int v8), (9, .int v9)] → (fm_erred_j169 v1 v2 v3 v4 v5 v6 v7 v8 v9 st).bind K2 = some out → W p l e (headSpec wsX12_erred { frames := 6, cells := 0, slots := 0, locals := 145 }).room s m (([.ref h, .int a1, .int a2, .int a3, .int a4, .int a5] : List Value).toArray) below meth c H locs 0 0 (MQ below (MQi D h ad cy s0 out s.heap.size) ([.ref h, .int a1, .int a2, .int a3, .int a4, .int a5] : List Value).toArray s 0 0 (MA h ad cy s0 s.heap.size)) (F0 m 169 ls []) := by
            intro v9 st H locs ls hI hl hf
            unfold fm_erred_j169 at hf
            refine lv_aload_n hx hb dX12_erred_169 rfl (lv_at hl 0 rfl) ?_
            refine lv_iload_n hx hb dX12_erred_170 rfl (lv_at hl 1 rfl) ?_
            refine lv_iload_n hx hb dX12_erred_171 rfl (lv_at hl 2 rfl) ?_
            obtain ⟨x38, hc39, hf⟩ := bnd_b hf
            refine mcall_v (As := [.int v1, .int v2]) (rest := []) (n := 2) ⟨hx, hb, hml, hown, hts⟩ (cm_passes l D h ad cy v1 v2 st x38 hc39 _) (cwV 2 hts gX12_erred_X12_passes rfl rfl rfl ⟨rfl, nd_passes⟩ ⟨Nat.le_of_ble_eq_true rfl, Nat.le_of_ble_eq_true rfl⟩) hI hA rfl hl.1 (Nat.le_of_ble_eq_true rfl) dX12_erred_172 ⟨Nat.zero_le _, Nat.zero_le _⟩ (fun H locs hI => ?_)
            refine lv_iinc (v := (v9 + 1)) (lv' := [(9, .int (v9 + 1)), (0, .ref h), (1, .int v1), (2, .int v2), (3, .int v3), (4, .int v4), (5, .int v5), (6, .int v6), (7, .int v7), (8, .int v8)]) hx hb dX12_erred_175 hl (k := 9) rfl (ci_ _ (by decide)) (by decide) rfl (fun ls hl => ?_)
            refine lv_goto (tgt := 119) hx hb dX12_erred_178 (by decide) ?_
            replace hf := cont_b hK2 hf
            exact ih (v9 + 1) x38 H locs ls hI (lv_sub hl [1, 2, 3, 4, 5, 6, 7, 8, 9, 0] rfl) hf
          have L_109_119_135 : ∀ (v9 : Int32) (n : Nat) (v10 : Int32) (st : MSt) (H : Heap) (locs : List Loc) (ls : Array Slot), MI D (MA h ad cy s0 s.heap.size) h ad cy s s.heap st H locs → lv_has ls 11 [(0, .ref h), (1, .int v1), (2, .int v2), (3, .int v3), (4, .int v4), (5, .int v5), (6, .int v6), (7, .int v7), (8, .int v8), (9, .int v9), (10, .int v10)] → (iter (fun x : (Int32 × MSt) => fm_erred_s135 v1 v2 v3 v4 v5 v6 v7 v8 v9 x.1 x.2) n (v10, st)).bind (fun x => ((Sum.elim (fun o : MSt × Int32 => (some (.inl o) : Option ((MSt × Int32) ⊕ ((Int32 × MSt) ⊕ (Int32 × MSt))))) (fun x : (Int32 × MSt) => fm_erred_j169 v1 v2 v3 v4 v5 v6 v7 v8 v9 x.2)) x).bind K2) = some out → W p l e (headSpec wsX12_erred { frames := 6, cells := 0, slots := 0, locals := 145 }).room s m (([.ref h, .int a1, .int a2, .int a3, .int a4, .int a5] : List Value).toArray) below meth c H locs 0 0 (MQ below (MQi D h ad cy s0 out s.heap.size) ([.ref h, .int a1, .int a2, .int a3, .int a4, .int a5] : List Value).toArray s 0 0 (MA h ad cy s0 s.heap.size)) (F0 m 135 ls []) := by
            intro v9 n
            induction n with
            | zero => intro v10 st H locs ls hI hl hf; exact (iter_0 hf).elim
            | succ n ih =>
              intro v10 st H locs ls hI hl hf
              obtain ⟨K3, hK3, hf⟩ := iter_e hf
              replace hf : (fm_erred_s135 v1 v2 v3 v4 v5 v6 v7 v8 v9 v10 st).bind K3 = some out := hf
              unfold fm_erred_s135 at hf
              refine lv_iload hx hb dX12_erred_135 (lv_at hl 10 rfl) ?_
              refine lv_iconst (v := 2) hx hb dX12_erred_137 (by decide) ?_
              refine lv_icmp_ge (tgt := 169) hx hb dX12_erred_138 (by decide) (fun c40 => ?_) (fun c40 => ?_)
              · replace hf := ifp c40 hf
                replace hf := exit_b hK3 hf
                exact B_109_119_169 v9 st H locs ls hI (lv_sub hl [0, 1, 2, 3, 4, 5, 6, 7, 8, 9] rfl) hf
              · replace hf := ifn c40 hf
                refine lv_aload_n hx hb dX12_erred_141 rfl (lv_at hl 0 rfl) ?_
                refine mg_errNow hx hb hts hin hown k_errNow hI dX12_erred_142 ?_
                refine lv_iload hx hb dX12_erred_145 (lv_at hl 10 rfl) ?_
                refine lv_iload hx hb dX12_erred_147 (lv_at hl 8 rfl) ?_
                refine lv_iconst (v := 2) hx hb dX12_erred_149 (by decide) ?_
                refine lv_iload hx hb dX12_erred_150 (lv_at hl 9 rfl) ?_
                refine lv_imul hx hb dX12_erred_152 ?_
                refine lv_iload hx hb dX12_erred_153 (lv_at hl 10 rfl) ?_
                refine lv_iadd hx hb dX12_erred_155 ?_
                obtain ⟨x41, hc42, hf⟩ := bnd_b hf
                refine mst_i (As := [.int v8, .int (((2 : Int32) * v9) + v10)]) (rest := [.int v10, .ref (ad 27)]) (n := 2) ⟨hx, hb, hml, hown, hts⟩ (cs_figure l v8 (((2 : Int32) * v9) + v10) x41 hc42 _) (va_cwS 2 hts gX12_erred_X12_figure rfl rfl rfl nd_figure ⟨Nat.le_of_ble_eq_true rfl, Nat.le_of_ble_eq_true rfl⟩) hI hA rfl hl.1 (Nat.le_of_ble_eq_true rfl) dX12_erred_156 ⟨Nat.zero_le _, Nat.zero_le _⟩ (fun H locs hI => ?_)
                refine lv_iload hx hb dX12_erred_159 (lv_at hl 4 rfl) ?_
                refine lv_imul hx hb dX12_erred_161 ?_
                obtain ⟨k43, hf⟩ := chk_b hf
                refine ms_errNow hx hb hI k43 dX12_erred_162 (fun H locs hI => ?_)
                refine lv_iinc (v := (v10 + 1)) (lv' := [(10, .int (v10 + 1)), (0, .ref h), (1, .int v1), (2, .int v2), (3, .int v3), (4, .int v4), (5, .int v5), (6, .int v6), (7, .int v7), (8, .int v8), (9, .int v9)]) hx hb dX12_erred_163 hl (k := 10) rfl (ci_ _ (by decide)) (by decide) rfl (fun ls hl => ?_)
                refine lv_goto (tgt := 135) hx hb dX12_erred_166 (by decide) ?_
                replace hf := cont_b hK3 hf
                exact ih (v10 + 1) (msa st 27 v10.toNatClampNeg (x41 * v4)) H locs ls hI (lv_sub hl [1, 2, 3, 4, 5, 6, 7, 8, 9, 10, 0] rfl) hf
          unfold fm_erred_s119 at hf
          refine lv_iload hx hb dX12_erred_119 (lv_at hl 9 rfl) ?_
          refine lv_iload_n hx hb dX12_erred_121 rfl (lv_at hl 3 rfl) ?_
          refine lv_icmp_ge (tgt := 181) hx hb dX12_erred_122 (by decide) (fun c34 => ?_) (fun c34 => ?_)
          · replace hf := ifp c34 hf
            replace hf := exit_b hK2 hf
            exact B_109_181 v7 v8 st H locs ls hI (lv_sub hl [0, 1, 2, 3, 4, 5, 6, 7, 8] rfl) hf
          · replace hf := ifn c34 hf
            refine lv_aload_n hx hb dX12_erred_125 rfl (lv_at hl 0 rfl) ?_
            obtain ⟨x35, hc36, hf⟩ := bnd_b hf
            refine mcall_i (As := []) (rest := []) (n := 0) ⟨hx, hb, hml, hown, hts⟩ (cm_isMet l D h ad cy  st x35 hc36 _) (cwV 0 hts gX12_erred_X12_isMet rfl rfl rfl ⟨rfl, nd_isMet⟩ ⟨Nat.le_of_ble_eq_true rfl, Nat.le_of_ble_eq_true rfl⟩) hI hA rfl hl.1 (Nat.le_of_ble_eq_true rfl) dX12_erred_126 ⟨Nat.zero_le _, Nat.zero_le _⟩ (fun H locs hI => ?_)
            refine lv_if_ne (tgt := 181) hx hb dX12_erred_129 (by decide) (fun c37 => ?_) (fun c37 => ?_)
            · replace hf := ifn c37 hf
              replace hf := exit_b hK2 hf
              exact B_109_181 v7 v8 x35.1 H locs ls hI (lv_sub hl [0, 1, 2, 3, 4, 5, 6, 7, 8] rfl) hf
            · replace hf := ifp c37 hf
              refine lv_iconst (v := 0) hx hb dX12_erred_132 (by decide) ?_
              refine lv_istore (lv' := [(10, .int (0 : Int32)), (0, .ref h), (1, .int v1), (2, .int v2), (3, .int v3), (4, .int v4), (5, .int v5), (6, .int v6), (7, .int v7), (8, .int v8), (9, .int v9)]) hx hb dX12_erred_133 hl (by decide) rfl (fun ls hl => ?_)
              exact L_109_119_135 v9 mFuel (0 : Int32) x35.1 H locs ls hI (lv_sub hl [1, 2, 3, 4, 5, 6, 7, 8, 9, 10, 0] rfl) (asc_b hf)
      unfold fm_erred_s109 at hf
      refine lv_iload hx hb dX12_erred_109 (lv_at hl 8 rfl) ?_
      refine lv_iload hx hb dX12_erred_111 (lv_at hl 6 rfl) ?_
      refine lv_icmp_ge (tgt := 243) hx hb dX12_erred_113 (by decide) (fun c19 => ?_) (fun c19 => ?_)
      · replace hf := ifp c19 hf
        replace hf := exit_b hK1 hf
        exact B_243 v5 v7 st H locs ls hI (lv_sub hl [0, 5, 7] rfl) hf
      · replace hf := ifn c19 hf
        refine lv_iconst (v := 0) hx hb dX12_erred_116 (by decide) ?_
        refine lv_istore (lv' := [(9, .int (0 : Int32)), (0, .ref h), (1, .int v1), (2, .int v2), (3, .int v3), (4, .int v4), (5, .int v5), (6, .int v6), (7, .int v7), (8, .int v8)]) hx hb dX12_erred_117 hl (by decide) rfl (fun ls hl => ?_)
        exact L_109_119 v7 v8 mFuel (0 : Int32) st H locs ls hI (lv_sub hl [1, 2, 3, 4, 5, 6, 7, 8, 9, 0] rfl) (asc_b hf)
  have B_102 : ∀ (v1 : Int32) (v2 : Int32) (v3 : Int32) (v4 : Int32) (v5 : Int32) (v6 : Int32) (v7 : Int32)  (st : MSt) (H : Heap) (locs : List Loc) (ls : Array Slot), MI D (MA h ad cy s0 s.heap.size) h ad cy s s.heap st H locs → lv_has ls 11 [(0, .ref h), (1, .int v1), (2, .int v2), (3, .int v3), (4, .int v4), (5, .int v5), (6, .int v6), (7, .int v7)] → (fm_erred_j102 v1 v2 v3 v4 v5 v6 v7 st).bind K0 = some out → W p l e (headSpec wsX12_erred { frames := 6, cells := 0, slots := 0, locals := 145 }).room s m (([.ref h, .int a1, .int a2, .int a3, .int a4, .int a5] : List Value).toArray) below meth c H locs 0 0 (MQ below (MQi D h ad cy s0 out s.heap.size) ([.ref h, .int a1, .int a2, .int a3, .int a4, .int a5] : List Value).toArray s 0 0 (MA h ad cy s0 s.heap.size)) (F0 m 102 ls []) := by
    intro v1 v2 v3 v4 v5 v6 v7 st H locs ls hI hl hf
    unfold fm_erred_j102 at hf
    refine lv_aload_n hx hb dX12_erred_102 rfl (lv_at hl 0 rfl) ?_
    obtain ⟨x13, hc14, hf⟩ := bnd_b hf
    refine mcall_v (As := []) (rest := []) (n := 0) ⟨hx, hb, hml, hown, hts⟩ (cm_keeps l D h ad cy  st x13 hc14 _) (cwV 0 hts gX12_erred_X12_keeps rfl rfl rfl ⟨rfl, nd_keeps⟩ ⟨Nat.le_of_ble_eq_true rfl, Nat.le_of_ble_eq_true rfl⟩) hI hA rfl hl.1 (Nat.le_of_ble_eq_true rfl) dX12_erred_103 ⟨Nat.zero_le _, Nat.zero_le _⟩ (fun H locs hI => ?_)
    refine lv_iconst (v := 0) hx hb dX12_erred_106 (by decide) ?_
    refine lv_istore (lv' := [(8, .int (0 : Int32)), (0, .ref h), (1, .int v1), (2, .int v2), (3, .int v3), (4, .int v4), (5, .int v5), (6, .int v6), (7, .int v7)]) hx hb dX12_erred_107 hl (by decide) rfl (fun ls hl => ?_)
    exact L_109 v1 v2 v3 v4 v5 v6 mFuel v7 (0 : Int32) x13 H locs ls hI (lv_sub hl [1, 2, 3, 4, 5, 6, 7, 8, 0] rfl) (asc_b hf)
  have L_81 : ∀ (v1 : Int32) (v2 : Int32) (v3 : Int32) (v4 : Int32) (v5 : Int32) (v6 : Int32) (v7 : Int32) (n : Nat) (v8 : Int32) (st : MSt) (H : Heap) (locs : List Loc) (ls : Array Slot), MI D (MA h ad cy s0 s.heap.size) h ad cy s s.heap st H locs → lv_has ls 11 [(0, .ref h), (1, .int v1), (2, .int v2), (3, .int v3), (4, .int v4), (5, .int v5), (6, .int v6), (7, .int v7), (8, .int v8)] → (iter (fun x : (Int32 × MSt) => fm_erred_s81 v1 v2 v3 v4 v5 v6 v7 x.1 x.2) n (v8, st)).bind (fun x => ((Sum.elim (fun o : MSt × Int32 => (some o : Option (MSt × Int32))) (fun x : (Int32 × MSt) => fm_erred_j102 v1 v2 v3 v4 v5 v6 v7 x.2)) x).bind K0) = some out → W p l e (headSpec wsX12_erred { frames := 6, cells := 0, slots := 0, locals := 145 }).room s m (([.ref h, .int a1, .int a2, .int a3, .int a4, .int a5] : List Value).toArray) below meth c H locs 0 0 (MQ below (MQi D h ad cy s0 out s.heap.size) ([.ref h, .int a1, .int a2, .int a3, .int a4, .int a5] : List Value).toArray s 0 0 (MA h ad cy s0 s.heap.size)) (F0 m 81 ls []) := by
    intro v1 v2 v3 v4 v5 v6 v7 n
    induction n with
    | zero => intro v8 st H locs ls hI hl hf; exact (iter_0 hf).elim
    | succ n ih =>
      intro v8 st H locs ls hI hl hf
      obtain ⟨K1, hK1, hf⟩ := iter_e hf
      replace hf : (fm_erred_s81 v1 v2 v3 v4 v5 v6 v7 v8 st).bind K1 = some out := hf
      unfold fm_erred_s81 at hf
      refine lv_iload hx hb dX12_erred_81 (lv_at hl 8 rfl) ?_
      refine lv_bipush (v := 8) hx hb dX12_erred_83 (by decide) ?_
      refine lv_icmp_ge (tgt := 102) hx hb dX12_erred_85 (by decide) (fun c44 => ?_) (fun c44 => ?_)
      · replace hf := ifp c44 hf
        replace hf := exit_b hK1 hf
        exact B_102 v1 v2 v3 v4 v5 v6 v7 st H locs ls hI (lv_sub hl [0, 1, 2, 3, 4, 5, 6, 7] rfl) hf
      · replace hf := ifn c44 hf
        refine lv_aload_n hx hb dX12_erred_88 rfl (lv_at hl 0 rfl) ?_
        refine mg_erredIn hx hb hts hin hown k_erredIn hI dX12_erred_89 ?_
        refine lv_iload hx hb dX12_erred_92 (lv_at hl 8 rfl) ?_
        refine lv_iconst (v := 0) hx hb dX12_erred_94 (by decide) ?_
        obtain ⟨k45, hf⟩ := chk_b hf
        refine ms_erredIn hx hb hI k45 dX12_erred_95 (fun H locs hI => ?_)
        refine lv_iinc (v := (v8 + 1)) (lv' := [(8, .int (v8 + 1)), (0, .ref h), (1, .int v1), (2, .int v2), (3, .int v3), (4, .int v4), (5, .int v5), (6, .int v6), (7, .int v7)]) hx hb dX12_erred_96 hl (k := 8) rfl (ci_ _ (by decide)) (by decide) rfl (fun ls hl => ?_)
        refine lv_goto (tgt := 81) hx hb dX12_erred_99 (by decide) ?_
        replace hf := cont_b hK1 hf
        exact ih (v8 + 1) (msa st 39 v8.toNatClampNeg (0 : Int32)) H locs ls hI (lv_sub hl [1, 2, 3, 4, 5, 6, 7, 8, 0] rfl) hf
  have B_75 : ∀ (v1 : Int32) (v2 : Int32) (v3 : Int32) (v4 : Int32) (v5 : Int32) (v6 : Int32)  (st : MSt) (H : Heap) (locs : List Loc) (ls : Array Slot), MI D (MA h ad cy s0 s.heap.size) h ad cy s s.heap st H locs → lv_has ls 11 [(0, .ref h), (1, .int v1), (2, .int v2), (3, .int v3), (4, .int v4), (5, .int v5), (6, .int v6)] → (fm_erred_j75 v1 v2 v3 v4 v5 v6 st).bind K0 = some out → W p l e (headSpec wsX12_erred { frames := 6, cells := 0, slots := 0, locals := 145 }).room s m (([.ref h, .int a1, .int a2, .int a3, .int a4, .int a5] : List Value).toArray) below meth c H locs 0 0 (MQ below (MQi D h ad cy s0 out s.heap.size) ([.ref h, .int a1, .int a2, .int a3, .int a4, .int a5] : List Value).toArray s 0 0 (MA h ad cy s0 s.heap.size)) (F0 m 75 ls []) := by
    intro v1 v2 v3 v4 v5 v6 st H locs ls hI hl hf
    unfold fm_erred_j75 at hf
    refine lv_iconst (v := 0) hx hb dX12_erred_75 (by decide) ?_
    refine lv_istore (lv' := [(7, .int (0 : Int32)), (0, .ref h), (1, .int v1), (2, .int v2), (3, .int v3), (4, .int v4), (5, .int v5), (6, .int v6)]) hx hb dX12_erred_76 hl (by decide) rfl (fun ls hl => ?_)
    refine lv_iconst (v := 0) hx hb dX12_erred_78 (by decide) ?_
    refine lv_istore (lv' := [(8, .int (0 : Int32)), (7, .int (0 : Int32)), (0, .ref h), (1, .int v1), (2, .int v2), (3, .int v3), (4, .int v4), (5, .int v5), (6, .int v6)]) hx hb dX12_erred_79 hl (by decide) rfl (fun ls hl => ?_)
    exact L_81 v1 v2 v3 v4 v5 v6 (0 : Int32) mFuel (0 : Int32) st H locs ls hI (lv_sub hl [2, 3, 4, 5, 6, 7, 8, 1, 0] rfl) (asc_b hf)
  have L_56 : ∀ (v1 : Int32) (v2 : Int32) (v3 : Int32) (v4 : Int32) (v5 : Int32) (n : Nat) (v6 : Int32) (v7 : Int32) (st : MSt) (H : Heap) (locs : List Loc) (ls : Array Slot), MI D (MA h ad cy s0 s.heap.size) h ad cy s s.heap st H locs → lv_has ls 11 [(0, .ref h), (1, .int v1), (2, .int v2), (3, .int v3), (4, .int v4), (5, .int v5), (6, .int v6), (7, .int v7)] → (iter (fun x : (Int32 × Int32 × MSt) => fm_erred_s56 v1 v2 v3 v4 v5 x.1 x.2.1 x.2.2) n (v6, v7, st)).bind (fun x => ((Sum.elim (fun o : MSt × Int32 => (some o : Option (MSt × Int32))) (fun x : (Int32 × Int32 × MSt) => fm_erred_j75 v1 v2 v3 v4 v5 x.1 x.2.2)) x).bind K0) = some out → W p l e (headSpec wsX12_erred { frames := 6, cells := 0, slots := 0, locals := 145 }).room s m (([.ref h, .int a1, .int a2, .int a3, .int a4, .int a5] : List Value).toArray) below meth c H locs 0 0 (MQ below (MQi D h ad cy s0 out s.heap.size) ([.ref h, .int a1, .int a2, .int a3, .int a4, .int a5] : List Value).toArray s 0 0 (MA h ad cy s0 s.heap.size)) (F0 m 56 ls []) := by
    intro v1 v2 v3 v4 v5 n
    induction n with
    | zero => intro v6 v7 st H locs ls hI hl hf; exact (iter_0 hf).elim
    | succ n ih =>
      intro v6 v7 st H locs ls hI hl hf
      obtain ⟨K1, hK1, hf⟩ := iter_e hf
      replace hf : (fm_erred_s56 v1 v2 v3 v4 v5 v6 v7 st).bind K1 = some out := hf
      unfold fm_erred_s56 at hf
      refine lv_iload hx hb dX12_erred_56 (lv_at hl 7 rfl) ?_
      refine lv_iload_n hx hb dX12_erred_58 rfl (lv_at hl 3 rfl) ?_
      refine lv_icmp_ge (tgt := 75) hx hb dX12_erred_59 (by decide) (fun c46 => ?_) (fun c46 => ?_)
      · replace hf := ifp c46 hf
        replace hf := exit_b hK1 hf
        exact B_75 v1 v2 v3 v4 v5 v6 st H locs ls hI (lv_sub hl [0, 1, 2, 3, 4, 5, 6] rfl) hf
      · replace hf := ifn c46 hf
        refine lv_iload hx hb dX12_erred_62 (lv_at hl 6 rfl) ?_
        refine lv_bipush (v := 9) hx hb dX12_erred_64 (by decide) ?_
        refine lv_imul hx hb dX12_erred_66 ?_
        refine lv_istore (lv' := [(6, .int (v6 * (9 : Int32))), (0, .ref h), (1, .int v1), (2, .int v2), (3, .int v3), (4, .int v4), (5, .int v5), (7, .int v7)]) hx hb dX12_erred_67 hl (by decide) rfl (fun ls hl => ?_)
        refine lv_iinc (v := (v7 + 1)) (lv' := [(7, .int (v7 + 1)), (6, .int (v6 * (9 : Int32))), (0, .ref h), (1, .int v1), (2, .int v2), (3, .int v3), (4, .int v4), (5, .int v5)]) hx hb dX12_erred_69 hl (k := 7) rfl (ci_ _ (by decide)) (by decide) rfl (fun ls hl => ?_)
        refine lv_goto (tgt := 56) hx hb dX12_erred_72 (by decide) ?_
        replace hf := cont_b hK1 hf
        exact ih (v6 * (9 : Int32)) (v7 + 1) st H locs ls hI (lv_sub hl [2, 3, 4, 5, 6, 7, 1, 0] rfl) hf
  unfold fm_erred at hf
  refine lv_aload_n hx hb dX12_erred_0 rfl (lv_at hl 0 rfl) ?_
  refine lv_iload_n hx hb dX12_erred_1 rfl (lv_at hl 1 rfl) ?_
  refine lv_iload_n hx hb dX12_erred_2 rfl (lv_at hl 2 rfl) ?_
  obtain ⟨x1, hc2, hf⟩ := bnd_b hf
  refine mcall_i (As := [.int a1, .int a2]) (rest := []) (n := 2) ⟨hx, hb, hml, hown, hts⟩ (cm_canAsk l D h ad cy a1 a2 s0 x1 hc2 _) (cwV 2 hts gX12_erred_X12_canAsk rfl rfl rfl ⟨rfl, nd_canAsk⟩ ⟨Nat.le_of_ble_eq_true rfl, Nat.le_of_ble_eq_true rfl⟩) hI hA rfl hl.1 (Nat.le_of_ble_eq_true rfl) dX12_erred_3 ⟨Nat.zero_le _, Nat.zero_le _⟩ (fun H locs hI => ?_)
  refine lv_if_eq (tgt := 48) hx hb dX12_erred_6 (by decide) (fun c3 => ?_) (fun c3 => ?_)
  · replace hf := ifp c3 hf
    refine lv_iconst (v := -1) hx hb dX12_erred_48 (by decide) ?_
    exact mret_i hx hb hr hlocks hI (ret_e hK0 hf) dX12_erred_49
  · replace hf := ifn c3 hf
    refine lv_iload_n hx hb dX12_erred_9 rfl (lv_at hl 3 rfl) ?_
    refine lv_i2l (v := (a3.toInt64)) hx hb dX12_erred_10 rfl ?_
    refine lv_lconst (v := 1) hx hb dX12_erred_11 (by decide) ?_
    refine lv_ldc2 (v := 4) hx hb hown (hts (.constantLong RX12 468 (4)) (by decide +kernel)) dX12_erred_12 ?_
    obtain ⟨x4, hc5, hf⟩ := bnd_b hf
    refine mst_i (As := [.long (a3.toInt64), .long (1 : Int64), .long (4 : Int64)]) (rest := []) (n := 3) ⟨hx, hb, hml, hown, hts⟩ (cs_in l (a3.toInt64) (1 : Int64) (4 : Int64) x4 hc5 _) (va_cwS 3 hts gX12_erred_X12_in rfl rfl rfl nd_in ⟨Nat.le_of_ble_eq_true rfl, Nat.le_of_ble_eq_true rfl⟩) hI hA rfl hl.1 (Nat.le_of_ble_eq_true rfl) dX12_erred_15 ⟨Nat.zero_le _, Nat.zero_le _⟩ (fun H locs hI => ?_)
    refine lv_if_eq (tgt := 48) hx hb dX12_erred_18 (by decide) (fun c6 => ?_) (fun c6 => ?_)
    · replace hf := ifp c6 hf
      refine lv_iconst (v := -1) hx hb dX12_erred_48 (by decide) ?_
      exact mret_i hx hb hr hlocks hI (ret_e hK0 hf) dX12_erred_49
    · replace hf := ifn c6 hf
      refine lv_iload hx hb dX12_erred_21 (lv_at hl 4 rfl) ?_
      refine lv_i2l (v := (a4.toInt64)) hx hb dX12_erred_23 rfl ?_
      refine lv_lconst (v := 1) hx hb dX12_erred_24 (by decide) ?_
      refine lv_ldc2 (v := 9) hx hb hown (hts (.constantLong RX12 355 (9)) (by decide +kernel)) dX12_erred_25 ?_
      obtain ⟨x7, hc8, hf⟩ := bnd_b hf
      refine mst_i (As := [.long (a4.toInt64), .long (1 : Int64), .long (9 : Int64)]) (rest := []) (n := 3) ⟨hx, hb, hml, hown, hts⟩ (cs_in l (a4.toInt64) (1 : Int64) (9 : Int64) x7 hc8 _) (va_cwS 3 hts gX12_erred_X12_in rfl rfl rfl nd_in ⟨Nat.le_of_ble_eq_true rfl, Nat.le_of_ble_eq_true rfl⟩) hI hA rfl hl.1 (Nat.le_of_ble_eq_true rfl) dX12_erred_28 ⟨Nat.zero_le _, Nat.zero_le _⟩ (fun H locs hI => ?_)
      refine lv_if_eq (tgt := 48) hx hb dX12_erred_31 (by decide) (fun c9 => ?_) (fun c9 => ?_)
      · replace hf := ifp c9 hf
        refine lv_iconst (v := -1) hx hb dX12_erred_48 (by decide) ?_
        exact mret_i hx hb hr hlocks hI (ret_e hK0 hf) dX12_erred_49
      · replace hf := ifn c9 hf
        refine lv_iload hx hb dX12_erred_34 (lv_at hl 5 rfl) ?_
        refine lv_i2l (v := (a5.toInt64)) hx hb dX12_erred_36 rfl ?_
        refine lv_lconst (v := 0) hx hb dX12_erred_37 (by decide) ?_
        refine lv_iconst (v := 2) hx hb dX12_erred_38 (by decide) ?_
        refine lv_iload_n hx hb dX12_erred_39 rfl (lv_at hl 3 rfl) ?_
        refine lv_imul hx hb dX12_erred_40 ?_
        refine lv_i2l (v := (((2 : Int32) * a3).toInt64)) hx hb dX12_erred_41 rfl ?_
        obtain ⟨x10, hc11, hf⟩ := bnd_b hf
        refine mst_i (As := [.long (a5.toInt64), .long (0 : Int64), .long (((2 : Int32) * a3).toInt64)]) (rest := []) (n := 3) ⟨hx, hb, hml, hown, hts⟩ (cs_in l (a5.toInt64) (0 : Int64) (((2 : Int32) * a3).toInt64) x10 hc11 _) (va_cwS 3 hts gX12_erred_X12_in rfl rfl rfl nd_in ⟨Nat.le_of_ble_eq_true rfl, Nat.le_of_ble_eq_true rfl⟩) hI hA rfl hl.1 (Nat.le_of_ble_eq_true rfl) dX12_erred_42 ⟨Nat.zero_le _, Nat.zero_le _⟩ (fun H locs hI => ?_)
        refine lv_if_ne (tgt := 50) hx hb dX12_erred_45 (by decide) (fun c12 => ?_) (fun c12 => ?_)
        · replace hf := ifn c12 hf
          refine lv_iconst (v := 1) hx hb dX12_erred_50 (by decide) ?_
          refine lv_istore (lv' := [(6, .int (1 : Int32)), (0, .ref h), (1, .int a1), (2, .int a2), (3, .int a3), (4, .int a4), (5, .int a5)]) hx hb dX12_erred_51 hl (by decide) rfl (fun ls hl => ?_)
          refine lv_iconst (v := 0) hx hb dX12_erred_53 (by decide) ?_
          refine lv_istore (lv' := [(7, .int (0 : Int32)), (6, .int (1 : Int32)), (0, .ref h), (1, .int a1), (2, .int a2), (3, .int a3), (4, .int a4), (5, .int a5)]) hx hb dX12_erred_54 hl (by decide) rfl (fun ls hl => ?_)
          exact L_56 a1 a2 a3 a4 a5 mFuel (1 : Int32) (0 : Int32) x1.1 H locs ls hI (lv_sub hl [2, 3, 4, 5, 6, 7, 1, 0] rfl) (asc_b hf)
        · replace hf := ifp c12 hf
          refine lv_iconst (v := -1) hx hb dX12_erred_48 (by decide) ?_
          exact mret_i hx hb hr hlocks hI (ret_e hK0 hf) dX12_erred_49
