theorem nd_isWord : yX12_isWord.cls ≠ "java/lang/invoke/MethodHandle" ∧ yX12_isWord.cls ≠ "java/lang/invoke/VarHandle" ∧ (parseMethodDescriptor yX12_isWord.desc).map (fun d => d.parameters.length) = some 1 := by decide +kernel
set_option maxHeartbeats 4000000 in
set_option maxRecDepth 100000 in
theorem cm_isWord (l : Launch) (D : va_G) (h : Nat) (ad : Nat → Nat) (cy : Nat → ClassId) (a1 : Int64) (s0 : MSt) (out : MSt × Int32) (hf : fm_isWord a1 s0 = some out) (sz : Nat) : CMi l D h ad cy yX12_isWord wsX12_isWord { frames := 1, cells := 0, slots := 0, locals := 21 } [.long a1] s0 out sz := by
  refine Met.ofW (cc := cX12_isWord) (maxL := 6) (ret := (some .boolean)) (by decide) rfl ?_
  intro p e s m args below meth c s₁ B hml hv
  obtain ⟨rfl, hsz, hP, hK, hD0⟩ := hv
  have hx := B.exec
  have hb := B.bytes
  have hr := B.returns
  have hts := atoms_spec (ws := wsX12_isWord) B.pre
  have hown : s.vm.findClass RX12 = some m.cls := findClass_of_methodNamed B.named
  have hlocks := B.notSynchronized
  subst hsz
  have hI : MI D (MA h ad cy s0 s.heap.size) h ad cy s s.heap s0 s.heap [] := ⟨hK, hP, hD0.self, va_S.rf⟩
  have hA : ∀ q : Nat, s.heap.size ≤ q → MA h ad cy s0 s.heap.size q := fun q hq => Or.inr hq
  have hin : ∀ w ∈ u_ws RX12 TX12 42, w ∈ wsX12_isWord := fun w hw => List.mem_cons_of_mem _ (List.mem_append_right _ hw)
  have k_next : Cond.fieldLink RX12 103 "HalfBridgeModel" "next" "I" ∈ wsX12_isWord := by decide +kernel
  have k_tape : Cond.fieldLink RX12 7 "HalfBridgeModel" "tape" "[B" ∈ wsX12_isWord := by decide +kernel
  have hl := lv_entry ([.ref h, .long a1]) (n := 6) (Nat.le_of_ble_eq_true rfl)
  rw [lg_entry_eq]
  generalize (lg_sl ([.ref h, .long a1]) ++ List.replicate (6 - (lg_sl ([.ref h, .long a1])).length) Slot.unset).toArray = ls at hl ⊢
  have hl : lv_has ls 6 [(0, .ref h), (1, .long a1)] := hl
  obtain ⟨K0, hK0, hf⟩ := top_e hf
  have B_56 : ∀ (v1 : Int64) (v3 : Int64) (v5 : Int32)  (st : MSt) (H : Heap) (locs : List Loc) (ls : Array Slot), MI D (MA h ad cy s0 s.heap.size) h ad cy s s.heap st H locs → lv_has ls 6 [(1, .long v1), (3, .long v3), (5, .int v5)] → (fm_isWord_j56 v1 v3 v5 st).bind K0 = some out → W p l e (headSpec wsX12_isWord { frames := 1, cells := 0, slots := 0, locals := 21 }).room s m (([.ref h, .long a1] : List Value).toArray) below meth c H locs 0 0 (MQ below (MQi D h ad cy s0 out s.heap.size) ([.ref h, .long a1] : List Value).toArray s 0 0 (MA h ad cy s0 s.heap.size)) (F0 m 56 ls []) := by
    intro v1 v3 v5 st H locs ls hI hl hf
    unfold fm_isWord_j56 at hf
    refine lv_iload hx hb dX12_isWord_56 (lv_at hl 2 rfl) ?_
    refine lv_if_le (tgt := 78) hx hb dX12_isWord_58 (by decide) (fun c3 => ?_) (fun c3 => ?_)
    · replace hf := ifp c3 hf
      refine lv_iconst (v := 0) hx hb dX12_isWord_78 (by decide) ?_
      exact mret_z hx hb hr (by decide) hlocks hI (ret_e hK0 hf) dX12_isWord_79
    · replace hf := ifn c3 hf
      refine lv_iload hx hb dX12_isWord_61 (lv_at hl 2 rfl) ?_
      refine lv_bipush (v := 8) hx hb dX12_isWord_63 (by decide) ?_
      refine lv_icmp_ge (tgt := 78) hx hb dX12_isWord_65 (by decide) (fun c4 => ?_) (fun c4 => ?_)
      · replace hf := ifp c4 hf
        refine lv_iconst (v := 0) hx hb dX12_isWord_78 (by decide) ?_
        exact mret_z hx hb hr (by decide) hlocks hI (ret_e hK0 hf) dX12_isWord_79
      · replace hf := ifn c4 hf
        refine lv_lload_n hx hb dX12_isWord_68 rfl (lv_at hl 1 rfl) ?_
        refine lv_lload_n hx hb dX12_isWord_69 rfl (lv_at hl 0 rfl) ?_
        refine W.lcmp hx hb dX12_isWord_70 ?_
        refine lv_if_ne (tgt := 78) hx hb dX12_isWord_71 (by decide) (fun c5 => ?_) (fun c5 => ?_)
        · replace hf := ifn c5 hf
          refine lv_iconst (v := 0) hx hb dX12_isWord_78 (by decide) ?_
          exact mret_z hx hb hr (by decide) hlocks hI (ret_e hK0 hf) dX12_isWord_79
        · replace hf := ifp c5 hf
          refine lv_iconst (v := 1) hx hb dX12_isWord_74 (by decide) ?_
          refine lv_goto (tgt := 79) hx hb dX12_isWord_75 (by decide) ?_
          exact mret_z hx hb hr (by decide) hlocks hI (ret_e hK0 hf) dX12_isWord_79
  have L_10 : ∀ (v1 : Int64) (n : Nat) (v3 : Int64) (v5 : Int32) (st : MSt) (H : Heap) (locs : List Loc) (ls : Array Slot), MI D (MA h ad cy s0 s.heap.size) h ad cy s s.heap st H locs → lv_has ls 6 [(0, .ref h), (1, .long v1), (3, .long v3), (5, .int v5)] → (iter (fun x : (Int64 × Int32 × MSt) => fm_isWord_s10 v1 x.1 x.2.1 x.2.2) n (v3, v5, st)).bind (fun x => ((Sum.elim (fun o : MSt × Int32 => (some o : Option (MSt × Int32))) (fun x : (Int64 × Int32 × MSt) => fm_isWord_j56 v1 x.1 x.2.1 x.2.2)) x).bind K0) = some out → W p l e (headSpec wsX12_isWord { frames := 1, cells := 0, slots := 0, locals := 21 }).room s m (([.ref h, .long a1] : List Value).toArray) below meth c H locs 0 0 (MQ below (MQi D h ad cy s0 out s.heap.size) ([.ref h, .long a1] : List Value).toArray s 0 0 (MA h ad cy s0 s.heap.size)) (F0 m 10 ls []) := by
    intro v1 n
    induction n with
    | zero => intro v3 v5 st H locs ls hI hl hf; exact (iter_0 hf).elim
    | succ n ih =>
      intro v3 v5 st H locs ls hI hl hf
      obtain ⟨K1, hK1, hf⟩ := iter_e hf
      replace hf : (fm_isWord_s10 v1 v3 v5 st).bind K1 = some out := hf
      unfold fm_isWord_s10 at hf
      refine lv_aload_n hx hb dX12_isWord_10 rfl (lv_at hl 0 rfl) ?_
      refine lv_aload_n hx hb dX12_isWord_11 rfl (lv_at hl 0 rfl) ?_
      refine mg_next hx hb hts hin hown k_next hI dX12_isWord_12 ?_
      refine lv_iload hx hb dX12_isWord_15 (lv_at hl 3 rfl) ?_
      refine lv_iadd hx hb dX12_isWord_17 ?_
      obtain ⟨x6, hc7, hf⟩ := bnd_b hf
      refine mcall_i (As := [.int ((st.1 14) + v5)]) (rest := []) (n := 1) ⟨hx, hb, hml, hown, hts⟩ (cm_isLetter l D h ad cy ((st.1 14) + v5) st x6 hc7 _) (cwV 1 hts gX12_isWord_X12_isLetter rfl rfl rfl ⟨rfl, nd_isLetter⟩ ⟨Nat.le_of_ble_eq_true rfl, Nat.le_of_ble_eq_true rfl⟩) hI hA rfl hl.1 (Nat.le_of_ble_eq_true rfl) dX12_isWord_18 ⟨Nat.zero_le _, Nat.zero_le _⟩ (fun H locs hI => ?_)
      refine lv_if_eq (tgt := 56) hx hb dX12_isWord_21 (by decide) (fun c8 => ?_) (fun c8 => ?_)
      · replace hf := ifp c8 hf
        replace hf := exit_b hK1 hf
        exact B_56 v1 v3 v5 x6.1 H locs ls hI (lv_sub hl [1, 2, 3] rfl) hf
      · replace hf := ifn c8 hf
        refine lv_iload hx hb dX12_isWord_24 (lv_at hl 3 rfl) ?_
        refine lv_bipush (v := 8) hx hb dX12_isWord_26 (by decide) ?_
        refine lv_icmp_ge (tgt := 50) hx hb dX12_isWord_28 (by decide) (fun c9 => ?_) (fun c9 => ?_)
        · replace hf := ifp c9 hf
          refine lv_iinc (v := (v5 + 1)) (lv' := [(5, .int (v5 + 1)), (0, .ref h), (1, .long v1), (3, .long v3)]) hx hb dX12_isWord_50 hl (k := 3) rfl (ci_ _ (by decide)) (by decide) rfl (fun ls hl => ?_)
          refine lv_goto (tgt := 10) hx hb dX12_isWord_53 (by decide) ?_
          replace hf := cont_b hK1 hf
          exact ih v3 (v5 + 1) x6.1 H locs ls hI (lv_sub hl [1, 2, 3, 0] rfl) hf
        · replace hf := ifn c9 hf
          refine lv_lload_n hx hb dX12_isWord_31 rfl (lv_at hl 2 rfl) ?_
          refine lv_bipush (v := 8) hx hb dX12_isWord_32 (by decide) ?_
          refine lv_lshl (v := (v3 <<< ((8 : Int32).toInt64 &&& 63))) hx hb dX12_isWord_34 rfl ?_
          refine lv_aload_n hx hb dX12_isWord_35 rfl (lv_at hl 0 rfl) ?_
          refine mg_tape hx hb hts hin hown k_tape hI dX12_isWord_36 ?_
          refine lv_aload_n hx hb dX12_isWord_39 rfl (lv_at hl 0 rfl) ?_
          refine mg_next hx hb hts hin hown k_next hI dX12_isWord_40 ?_
          refine lv_iload hx hb dX12_isWord_43 (lv_at hl 3 rfl) ?_
          refine lv_iadd hx hb dX12_isWord_45 ?_
          obtain ⟨k10, hf⟩ := chk_b hf
          refine ml_tape hx hb hI k10 dX12_isWord_46 ?_
          refine lv_i2l (v := ((x6.1.2.1 0 ((x6.1.1 14) + v5).toNatClampNeg).toInt64)) hx hb dX12_isWord_47 rfl ?_
          refine lv_lor hx hb dX12_isWord_48 ?_
          refine lv_lstore_n (lv' := [(3, .long ((v3 <<< ((8 : Int32).toInt64 &&& 63)) ||| ((x6.1.2.1 0 ((x6.1.1 14) + v5).toNatClampNeg).toInt64))), (0, .ref h), (1, .long v1), (5, .int v5)]) hx hb dX12_isWord_49 rfl hl (by decide) rfl (fun ls hl => ?_)
          refine lv_iinc (v := (v5 + 1)) (lv' := [(5, .int (v5 + 1)), (3, .long ((v3 <<< ((8 : Int32).toInt64 &&& 63)) ||| ((x6.1.2.1 0 ((x6.1.1 14) + v5).toNatClampNeg).toInt64))), (0, .ref h), (1, .long v1)]) hx hb dX12_isWord_50 hl (k := 3) rfl (ci_ _ (by decide)) (by decide) rfl (fun ls hl => ?_)
          refine lv_goto (tgt := 10) hx hb dX12_isWord_53 (by decide) ?_
          replace hf := cont_b hK1 hf
          exact ih ((v3 <<< ((8 : Int32).toInt64 &&& 63)) ||| ((x6.1.2.1 0 ((x6.1.1 14) + v5).toNatClampNeg).toInt64)) (v5 + 1) x6.1 H locs ls hI (lv_sub hl [2, 3, 1, 0] rfl) hf
  unfold fm_isWord at hf
  refine lv_aload_n hx hb dX12_isWord_0 rfl (lv_at hl 0 rfl) ?_
  obtain ⟨x1, hc2, hf⟩ := bnd_b hf
  refine mcall_i (As := []) (rest := []) (n := 0) ⟨hx, hb, hml, hown, hts⟩ (cm_see l D h ad cy  s0 x1 hc2 _) (cwV 0 hts gX12_isWord_X12_see rfl rfl rfl ⟨rfl, nd_see⟩ ⟨Nat.le_of_ble_eq_true rfl, Nat.le_of_ble_eq_true rfl⟩) hI hA rfl hl.1 (Nat.le_of_ble_eq_true rfl) dX12_isWord_1 ⟨Nat.zero_le _, Nat.zero_le _⟩ (fun H locs hI => ?_)
  refine lv_pop hx hb dX12_isWord_4 rfl ?_
  refine lv_lconst (v := 0) hx hb dX12_isWord_5 (by decide) ?_
  refine lv_lstore_n (lv' := [(3, .long (0 : Int64)), (0, .ref h), (1, .long a1)]) hx hb dX12_isWord_6 rfl hl (by decide) rfl (fun ls hl => ?_)
  refine lv_iconst (v := 0) hx hb dX12_isWord_7 (by decide) ?_
  refine lv_istore (lv' := [(5, .int (0 : Int32)), (3, .long (0 : Int64)), (0, .ref h), (1, .long a1)]) hx hb dX12_isWord_8 hl (by decide) rfl (fun ls hl => ?_)
  exact L_10 a1 mFuel (0 : Int64) (0 : Int32) x1.1 H locs ls hI (lv_sub hl [2, 3, 1, 0] rfl) (asc_b hf)

theorem nd_passWord : yX12_passWord.cls ≠ "java/lang/invoke/MethodHandle" ∧ yX12_passWord.cls ≠ "java/lang/invoke/VarHandle" ∧ (parseMethodDescriptor yX12_passWord.desc).map (fun d => d.parameters.length) = some 0 := by decide +kernel
set_option maxHeartbeats 4000000 in
set_option maxRecDepth 100000 in
theorem cm_passWord (l : Launch) (D : va_G) (h : Nat) (ad : Nat → Nat) (cy : Nat → ClassId)  (s0 : MSt) (out : MSt) (hf : fm_passWord s0 = some out) (sz : Nat) : CMv l D h ad cy yX12_passWord wsX12_passWord { frames := 1, cells := 0, slots := 0, locals := 21 } [] s0 out sz := by
  refine Met.ofW (cc := cX12_passWord) (maxL := 1) (ret := none) (by decide) rfl ?_
  intro p e s m args below meth c s₁ B hml hv
  obtain ⟨rfl, hsz, hP, hK, hD0⟩ := hv
  have hx := B.exec
  have hb := B.bytes
  have hr := B.returns
  have hts := atoms_spec (ws := wsX12_passWord) B.pre
  have hown : s.vm.findClass RX12 = some m.cls := findClass_of_methodNamed B.named
  have hlocks := B.notSynchronized
  subst hsz
  have hI : MI D (MA h ad cy s0 s.heap.size) h ad cy s s.heap s0 s.heap [] := ⟨hK, hP, hD0.self, va_S.rf⟩
  have hA : ∀ q : Nat, s.heap.size ≤ q → MA h ad cy s0 s.heap.size q := fun q hq => Or.inr hq
  have hin : ∀ w ∈ u_ws RX12 TX12 42, w ∈ wsX12_passWord := fun w hw => List.mem_cons_of_mem _ (List.mem_append_right _ hw)
  have k_next : Cond.fieldLink RX12 103 "HalfBridgeModel" "next" "I" ∈ wsX12_passWord := by decide +kernel
  have hl := lv_entry ([.ref h]) (n := 1) (Nat.le_of_ble_eq_true rfl)
  rw [lg_entry_eq]
  generalize (lg_sl ([.ref h]) ++ List.replicate (1 - (lg_sl ([.ref h])).length) Slot.unset).toArray = ls at hl ⊢
  have hl : lv_has ls 1 [(0, .ref h)] := hl
  obtain ⟨K0, hK0, hf⟩ := top_e hf
  have B_24 : ∀   (st : MSt) (H : Heap) (locs : List Loc) (ls : Array Slot), MI D (MA h ad cy s0 s.heap.size) h ad cy s s.heap st H locs → lv_has ls 1 [] → (fm_passWord_j24 st).bind K0 = some out → W p l e (headSpec wsX12_passWord { frames := 1, cells := 0, slots := 0, locals := 21 }).room s m (([.ref h] : List Value).toArray) below meth c H locs 0 0 (MQ below (MQv D h ad cy s0 out s.heap.size) ([.ref h] : List Value).toArray s 0 0 (MA h ad cy s0 s.heap.size)) (F0 m 24 ls []) := by
    intro st H locs ls hI hl hf
    unfold fm_passWord_j24 at hf
    exact mret_v hx hb hr hlocks hI (ret_e hK0 hf) dX12_passWord_24
  have L_0 : ∀  (n : Nat)  (st : MSt) (H : Heap) (locs : List Loc) (ls : Array Slot), MI D (MA h ad cy s0 s.heap.size) h ad cy s s.heap st H locs → lv_has ls 1 [(0, .ref h)] → (iter (fun x : (MSt) => fm_passWord_s0 x) n st).bind (fun x => ((Sum.elim (fun o : MSt => (some o : Option (MSt))) (fun x : (MSt) => fm_passWord_j24 x)) x).bind K0) = some out → W p l e (headSpec wsX12_passWord { frames := 1, cells := 0, slots := 0, locals := 21 }).room s m (([.ref h] : List Value).toArray) below meth c H locs 0 0 (MQ below (MQv D h ad cy s0 out s.heap.size) ([.ref h] : List Value).toArray s 0 0 (MA h ad cy s0 s.heap.size)) (F0 m 0 ls []) := by
    intro n
    induction n with
    | zero => intro st H locs ls hI hl hf; exact (iter_0 hf).elim
    | succ n ih =>
      intro st H locs ls hI hl hf
      obtain ⟨K1, hK1, hf⟩ := iter_e hf
      replace hf : (fm_passWord_s0 st).bind K1 = some out := hf
      unfold fm_passWord_s0 at hf
      refine lv_aload_n hx hb dX12_passWord_0 rfl (lv_at hl 0 rfl) ?_
      refine lv_aload_n hx hb dX12_passWord_1 rfl (lv_at hl 0 rfl) ?_
      refine mg_next hx hb hts hin hown k_next hI dX12_passWord_2 ?_
      obtain ⟨x1, hc2, hf⟩ := bnd_b hf
      refine mcall_i (As := [.int (st.1 14)]) (rest := []) (n := 1) ⟨hx, hb, hml, hown, hts⟩ (cm_isLetter l D h ad cy (st.1 14) st x1 hc2 _) (cwV 1 hts gX12_passWord_X12_isLetter rfl rfl rfl ⟨rfl, nd_isLetter⟩ ⟨Nat.le_of_ble_eq_true rfl, Nat.le_of_ble_eq_true rfl⟩) hI hA rfl hl.1 (Nat.le_of_ble_eq_true rfl) dX12_passWord_5 ⟨Nat.zero_le _, Nat.zero_le _⟩ (fun H locs hI => ?_)
      refine lv_if_eq (tgt := 24) hx hb dX12_passWord_8 (by decide) (fun c3 => ?_) (fun c3 => ?_)
      · replace hf := ifp c3 hf
        replace hf := exit_b hK1 hf
        exact B_24  x1.1 H locs ls hI (lv_sub hl [] rfl) hf
      · replace hf := ifn c3 hf
        refine lv_aload_n hx hb dX12_passWord_11 rfl (lv_at hl 0 rfl) ?_
        refine lv_dup hx hb dX12_passWord_12 rfl ?_
        refine mg_next hx hb hts hin hown k_next hI dX12_passWord_13 ?_
        refine lv_iconst (v := 1) hx hb dX12_passWord_16 (by decide) ?_
        refine lv_iadd hx hb dX12_passWord_17 ?_
        refine mp_next hx hb hts hin hown k_next hI dX12_passWord_18 (fun H locs hI => ?_)
        refine lv_goto (tgt := 0) hx hb dX12_passWord_21 (by decide) ?_
        replace hf := cont_b hK1 hf
        exact ih (msi x1.1 14 ((x1.1.1 14) + (1 : Int32))) H locs ls hI (lv_sub hl [0] rfl) hf
  unfold fm_passWord at hf
  exact L_0  mFuel s0 s.heap [] ls hI (lv_sub hl [0] rfl) (asc_b hf)

theorem nd_takesWord : yX12_takesWord.cls ≠ "java/lang/invoke/MethodHandle" ∧ yX12_takesWord.cls ≠ "java/lang/invoke/VarHandle" ∧ (parseMethodDescriptor yX12_takesWord.desc).map (fun d => d.parameters.length) = some 1 := by decide +kernel
set_option maxHeartbeats 4000000 in
set_option maxRecDepth 100000 in
theorem cm_takesWord (l : Launch) (D : va_G) (h : Nat) (ad : Nat → Nat) (cy : Nat → ClassId) (a1 : Int64) (s0 : MSt) (out : MSt × Int32) (hf : fm_takesWord a1 s0 = some out) (sz : Nat) : CMi l D h ad cy yX12_takesWord wsX12_takesWord { frames := 2, cells := 0, slots := 0, locals := 46 } [.long a1] s0 out sz := by
  refine Met.ofW (cc := cX12_takesWord) (maxL := 3) (ret := (some .boolean)) (by decide) rfl ?_
  intro p e s m args below meth c s₁ B hml hv
  obtain ⟨rfl, hsz, hP, hK, hD0⟩ := hv
  have hx := B.exec
  have hb := B.bytes
  have hr := B.returns
  have hts := atoms_spec (ws := wsX12_takesWord) B.pre
  have hown : s.vm.findClass RX12 = some m.cls := findClass_of_methodNamed B.named
  have hlocks := B.notSynchronized
  subst hsz
  have hI : MI D (MA h ad cy s0 s.heap.size) h ad cy s s.heap s0 s.heap [] := ⟨hK, hP, hD0.self, va_S.rf⟩
  have hA : ∀ q : Nat, s.heap.size ≤ q → MA h ad cy s0 s.heap.size q := fun q hq => Or.inr hq
  have hl := lv_entry ([.ref h, .long a1]) (n := 3) (Nat.le_of_ble_eq_true rfl)
  rw [lg_entry_eq]
  generalize (lg_sl ([.ref h, .long a1]) ++ List.replicate (3 - (lg_sl ([.ref h, .long a1])).length) Slot.unset).toArray = ls at hl ⊢
  have hl : lv_has ls 3 [(0, .ref h), (1, .long a1)] := hl
  obtain ⟨K0, hK0, hf⟩ := top_e hf
  unfold fm_takesWord at hf
  refine lv_aload_n hx hb dX12_takesWord_0 rfl (lv_at hl 0 rfl) ?_
  refine lv_lload_n hx hb dX12_takesWord_1 rfl (lv_at hl 1 rfl) ?_
  obtain ⟨x1, hc2, hf⟩ := bnd_b hf
  refine mcall_i (As := [.long a1]) (rest := []) (n := 1) ⟨hx, hb, hml, hown, hts⟩ (cm_isWord l D h ad cy a1 s0 x1 hc2 _) (cwV 1 hts gX12_takesWord_X12_isWord rfl rfl rfl ⟨rfl, nd_isWord⟩ ⟨Nat.le_of_ble_eq_true rfl, Nat.le_of_ble_eq_true rfl⟩) hI hA rfl hl.1 (Nat.le_of_ble_eq_true rfl) dX12_takesWord_2 ⟨Nat.zero_le _, Nat.zero_le _⟩ (fun H locs hI => ?_)
  refine lv_if_ne (tgt := 10) hx hb dX12_takesWord_5 (by decide) (fun c3 => ?_) (fun c3 => ?_)
  · replace hf := ifn c3 hf
    refine lv_aload_n hx hb dX12_takesWord_10 rfl (lv_at hl 0 rfl) ?_
    obtain ⟨x4, hc5, hf⟩ := bnd_b hf
    refine mcall_v (As := []) (rest := []) (n := 0) ⟨hx, hb, hml, hown, hts⟩ (cm_passWord l D h ad cy  x1.1 x4 hc5 _) (cwV 0 hts gX12_takesWord_X12_passWord rfl rfl rfl ⟨rfl, nd_passWord⟩ ⟨Nat.le_of_ble_eq_true rfl, Nat.le_of_ble_eq_true rfl⟩) hI hA rfl hl.1 (Nat.le_of_ble_eq_true rfl) dX12_takesWord_11 ⟨Nat.zero_le _, Nat.zero_le _⟩ (fun H locs hI => ?_)
    refine lv_iconst (v := 1) hx hb dX12_takesWord_14 (by decide) ?_
    exact mret_z hx hb hr (by decide) hlocks hI (ret_e hK0 hf) dX12_takesWord_15
  · replace hf := ifp c3 hf
    refine lv_iconst (v := 0) hx hb dX12_takesWord_8 (by decide) ?_
    exact mret_z hx hb hr (by decide) hlocks hI (ret_e hK0 hf) dX12_takesWord_9

theorem nd_numberHere : yX12_numberHere.cls ≠ "java/lang/invoke/MethodHandle" ∧ yX12_numberHere.cls ≠ "java/lang/invoke/VarHandle" ∧ (parseMethodDescriptor yX12_numberHere.desc).map (fun d => d.parameters.length) = some 2 := by decide +kernel
set_option maxHeartbeats 4000000 in
set_option maxRecDepth 100000 in
theorem cm_numberHere (l : Launch) (D : va_G) (h : Nat) (ad : Nat → Nat) (cy : Nat → ClassId) (a1 : Int32) (a2 : Int32) (s0 : MSt) (out : MSt × Int32) (hf : fm_numberHere a1 a2 s0 = some out) (sz : Nat) : CMi l D h ad cy yX12_numberHere wsX12_numberHere { frames := 1, cells := 0, slots := 0, locals := 25 } [.int a1, .int a2] s0 out sz := by
  refine Met.ofW (cc := cX12_numberHere) (maxL := 5) (ret := (some .boolean)) (by decide) rfl ?_
  intro p e s m args below meth c s₁ B hml hv
  obtain ⟨rfl, hsz, hP, hK, hD0⟩ := hv
  have hx := B.exec
  have hb := B.bytes
  have hr := B.returns
  have hts := atoms_spec (ws := wsX12_numberHere) B.pre
  have hown : s.vm.findClass RX12 = some m.cls := findClass_of_methodNamed B.named
  have hlocks := B.notSynchronized
  subst hsz
  have hI : MI D (MA h ad cy s0 s.heap.size) h ad cy s s.heap s0 s.heap [] := ⟨hK, hP, hD0.self, va_S.rf⟩
  have hA : ∀ q : Nat, s.heap.size ≤ q → MA h ad cy s0 s.heap.size q := fun q hq => Or.inr hq
  have hin : ∀ w ∈ u_ws RX12 TX12 42, w ∈ wsX12_numberHere := fun w hw => List.mem_cons_of_mem _ (List.mem_append_right _ hw)
  have k_next : Cond.fieldLink RX12 103 "HalfBridgeModel" "next" "I" ∈ wsX12_numberHere := by decide +kernel
  have k_number : Cond.fieldLink RX12 128 "HalfBridgeModel" "number" "I" ∈ wsX12_numberHere := by decide +kernel
  have k_tape : Cond.fieldLink RX12 7 "HalfBridgeModel" "tape" "[B" ∈ wsX12_numberHere := by decide +kernel
  have hl := lv_entry ([.ref h, .int a1, .int a2]) (n := 5) (Nat.le_of_ble_eq_true rfl)
  rw [lg_entry_eq]
  generalize (lg_sl ([.ref h, .int a1, .int a2]) ++ List.replicate (5 - (lg_sl ([.ref h, .int a1, .int a2])).length) Slot.unset).toArray = ls at hl ⊢
  have hl : lv_has ls 5 [(0, .ref h), (1, .int a1), (2, .int a2)] := hl
  obtain ⟨K0, hK0, hf⟩ := top_e hf
  have B_117 : ∀ (v3 : Int32)  (st : MSt) (H : Heap) (locs : List Loc) (ls : Array Slot), MI D (MA h ad cy s0 s.heap.size) h ad cy s s.heap st H locs → lv_has ls 5 [(0, .ref h), (3, .int v3)] → (fm_numberHere_j117 v3 st).bind K0 = some out → W p l e (headSpec wsX12_numberHere { frames := 1, cells := 0, slots := 0, locals := 25 }).room s m (([.ref h, .int a1, .int a2] : List Value).toArray) below meth c H locs 0 0 (MQ below (MQi D h ad cy s0 out s.heap.size) ([.ref h, .int a1, .int a2] : List Value).toArray s 0 0 (MA h ad cy s0 s.heap.size)) (F0 m 117 ls []) := by
    intro v3 st H locs ls hI hl hf
    unfold fm_numberHere_j117 at hf
    refine lv_aload_n hx hb dX12_numberHere_117 rfl (lv_at hl 0 rfl) ?_
    refine lv_iconst (v := 1) hx hb dX12_numberHere_118 (by decide) ?_
    refine lv_iload_n hx hb dX12_numberHere_119 rfl (lv_at hl 1 rfl) ?_
    obtain ⟨x7, hc8, hf⟩ := bnd_b hf
    refine mcall_i (As := [.int (1 : Int32), .int v3]) (rest := []) (n := 2) ⟨hx, hb, hml, hown, hts⟩ (cm_fails l D h ad cy (1 : Int32) v3 st x7 hc8 _) (cwV 2 hts gX12_numberHere_X12_fails rfl rfl rfl ⟨rfl, nd_fails⟩ ⟨Nat.le_of_ble_eq_true rfl, Nat.le_of_ble_eq_true rfl⟩) hI hA rfl hl.1 (Nat.le_of_ble_eq_true rfl) dX12_numberHere_120 ⟨Nat.zero_le _, Nat.zero_le _⟩ (fun H locs hI => ?_)
    refine lv_if_eq (tgt := 130) hx hb dX12_numberHere_123 (by decide) (fun c9 => ?_) (fun c9 => ?_)
    · replace hf := ifp c9 hf
      refine lv_iconst (v := 0) hx hb dX12_numberHere_130 (by decide) ?_
      exact mret_z hx hb hr (by decide) hlocks hI (ret_e hK0 hf) dX12_numberHere_131
    · replace hf := ifn c9 hf
      refine lv_iconst (v := 1) hx hb dX12_numberHere_126 (by decide) ?_
      refine lv_goto (tgt := 131) hx hb dX12_numberHere_127 (by decide) ?_
      exact mret_z hx hb hr (by decide) hlocks hI (ret_e hK0 hf) dX12_numberHere_131
  have B_88 : ∀ (v1 : Int32) (v2 : Int32) (v3 : Int32) (v4 : Int32)  (st : MSt) (H : Heap) (locs : List Loc) (ls : Array Slot), MI D (MA h ad cy s0 s.heap.size) h ad cy s s.heap st H locs → lv_has ls 5 [(0, .ref h), (1, .int v1), (2, .int v2), (3, .int v3), (4, .int v4)] → (fm_numberHere_j88 v1 v2 v3 v4 st).bind K0 = some out → W p l e (headSpec wsX12_numberHere { frames := 1, cells := 0, slots := 0, locals := 25 }).room s m (([.ref h, .int a1, .int a2] : List Value).toArray) below meth c H locs 0 0 (MQ below (MQi D h ad cy s0 out s.heap.size) ([.ref h, .int a1, .int a2] : List Value).toArray s 0 0 (MA h ad cy s0 s.heap.size)) (F0 m 88 ls []) := by
    intro v1 v2 v3 v4 st H locs ls hI hl hf
    unfold fm_numberHere_j88 at hf
    refine lv_aload_n hx hb dX12_numberHere_88 rfl (lv_at hl 0 rfl) ?_
    refine lv_iload hx hb dX12_numberHere_89 (lv_at hl 4 rfl) ?_
    refine mp_number hx hb hts hin hown k_number hI dX12_numberHere_91 (fun H locs hI => ?_)
    refine lv_aload_n hx hb dX12_numberHere_94 rfl (lv_at hl 0 rfl) ?_
    refine mg_next hx hb hts hin hown k_next hI dX12_numberHere_95 ?_
    refine lv_iload_n hx hb dX12_numberHere_98 rfl (lv_at hl 3 rfl) ?_
    refine lv_isub hx hb dX12_numberHere_99 ?_
    refine lv_iconst (v := 5) hx hb dX12_numberHere_100 (by decide) ?_
    refine lv_icmp_gt (tgt := 117) hx hb dX12_numberHere_101 (by decide) (fun c6 => ?_) (fun c6 => ?_)
    · replace hf := ifp c6 hf
      exact B_117 v3 (msi st 16 v4) H locs ls hI (lv_sub hl [0, 3] rfl) hf
    · replace hf := ifn c6 hf
      refine lv_iload hx hb dX12_numberHere_104 (lv_at hl 4 rfl) ?_
      refine lv_i2l (v := (v4.toInt64)) hx hb dX12_numberHere_106 rfl ?_
      refine lv_iload_n hx hb dX12_numberHere_107 rfl (lv_at hl 1 rfl) ?_
      refine lv_i2l (v := (v1.toInt64)) hx hb dX12_numberHere_108 rfl ?_
      refine lv_iload_n hx hb dX12_numberHere_109 rfl (lv_at hl 2 rfl) ?_
      refine lv_i2l (v := (v2.toInt64)) hx hb dX12_numberHere_110 rfl ?_
      obtain ⟨x10, hc11, hf⟩ := bnd_b hf
      refine mst_i (As := [.long (v4.toInt64), .long (v1.toInt64), .long (v2.toInt64)]) (rest := []) (n := 3) ⟨hx, hb, hml, hown, hts⟩ (cs_in l (v4.toInt64) (v1.toInt64) (v2.toInt64) x10 hc11 _) (va_cwS 3 hts gX12_numberHere_X12_in rfl rfl rfl nd_in ⟨Nat.le_of_ble_eq_true rfl, Nat.le_of_ble_eq_true rfl⟩) hI hA rfl hl.1 (Nat.le_of_ble_eq_true rfl) dX12_numberHere_111 ⟨Nat.zero_le _, Nat.zero_le _⟩ (fun H locs hI => ?_)
      refine lv_if_ne (tgt := 126) hx hb dX12_numberHere_114 (by decide) (fun c12 => ?_) (fun c12 => ?_)
      · replace hf := ifn c12 hf
        refine lv_iconst (v := 1) hx hb dX12_numberHere_126 (by decide) ?_
        refine lv_goto (tgt := 131) hx hb dX12_numberHere_127 (by decide) ?_
        exact mret_z hx hb hr (by decide) hlocks hI (ret_e hK0 hf) dX12_numberHere_131
      · replace hf := ifp c12 hf
        exact B_117 v3 (msi st 16 v4) H locs ls hI (lv_sub hl [0, 3] rfl) hf
  have L_34 : ∀ (v1 : Int32) (v2 : Int32) (v3 : Int32) (n : Nat) (v4 : Int32) (st : MSt) (H : Heap) (locs : List Loc) (ls : Array Slot), MI D (MA h ad cy s0 s.heap.size) h ad cy s s.heap st H locs → lv_has ls 5 [(0, .ref h), (1, .int v1), (2, .int v2), (3, .int v3), (4, .int v4)] → (iter (fun x : (Int32 × MSt) => fm_numberHere_s34 v1 v2 v3 x.1 x.2) n (v4, st)).bind (fun x => ((Sum.elim (fun o : MSt × Int32 => (some o : Option (MSt × Int32))) (fun x : (Int32 × MSt) => fm_numberHere_j88 v1 v2 v3 x.1 x.2)) x).bind K0) = some out → W p l e (headSpec wsX12_numberHere { frames := 1, cells := 0, slots := 0, locals := 25 }).room s m (([.ref h, .int a1, .int a2] : List Value).toArray) below meth c H locs 0 0 (MQ below (MQi D h ad cy s0 out s.heap.size) ([.ref h, .int a1, .int a2] : List Value).toArray s 0 0 (MA h ad cy s0 s.heap.size)) (F0 m 34 ls []) := by
    intro v1 v2 v3 n
    induction n with
    | zero => intro v4 st H locs ls hI hl hf; exact (iter_0 hf).elim
    | succ n ih =>
      intro v4 st H locs ls hI hl hf
      obtain ⟨K1, hK1, hf⟩ := iter_e hf
      replace hf : (fm_numberHere_s34 v1 v2 v3 v4 st).bind K1 = some out := hf
      unfold fm_numberHere_s34 at hf
      refine lv_aload_n hx hb dX12_numberHere_34 rfl (lv_at hl 0 rfl) ?_
      refine lv_aload_n hx hb dX12_numberHere_35 rfl (lv_at hl 0 rfl) ?_
      refine mg_next hx hb hts hin hown k_next hI dX12_numberHere_36 ?_
      obtain ⟨x13, hc14, hf⟩ := bnd_b hf
      refine mcall_i (As := [.int (st.1 14)]) (rest := []) (n := 1) ⟨hx, hb, hml, hown, hts⟩ (cm_isDigit l D h ad cy (st.1 14) st x13 hc14 _) (cwV 1 hts gX12_numberHere_X12_isDigit rfl rfl rfl ⟨rfl, nd_isDigit⟩ ⟨Nat.le_of_ble_eq_true rfl, Nat.le_of_ble_eq_true rfl⟩) hI hA rfl hl.1 (Nat.le_of_ble_eq_true rfl) dX12_numberHere_39 ⟨Nat.zero_le _, Nat.zero_le _⟩ (fun H locs hI => ?_)
      refine lv_if_eq (tgt := 88) hx hb dX12_numberHere_42 (by decide) (fun c15 => ?_) (fun c15 => ?_)
      · replace hf := ifp c15 hf
        replace hf := exit_b hK1 hf
        exact B_88 v1 v2 v3 v4 x13.1 H locs ls hI (lv_sub hl [0, 1, 2, 3, 4] rfl) hf
      · replace hf := ifn c15 hf
        refine lv_aload_n hx hb dX12_numberHere_45 rfl (lv_at hl 0 rfl) ?_
        refine mg_next hx hb hts hin hown k_next hI dX12_numberHere_46 ?_
        refine lv_iload_n hx hb dX12_numberHere_49 rfl (lv_at hl 3 rfl) ?_
        refine lv_isub hx hb dX12_numberHere_50 ?_
        refine lv_iconst (v := 5) hx hb dX12_numberHere_51 (by decide) ?_
        refine lv_icmp_ge (tgt := 75) hx hb dX12_numberHere_52 (by decide) (fun c16 => ?_) (fun c16 => ?_)
        · replace hf := ifp c16 hf
          refine lv_aload_n hx hb dX12_numberHere_75 rfl (lv_at hl 0 rfl) ?_
          refine lv_dup hx hb dX12_numberHere_76 rfl ?_
          refine mg_next hx hb hts hin hown k_next hI dX12_numberHere_77 ?_
          refine lv_iconst (v := 1) hx hb dX12_numberHere_80 (by decide) ?_
          refine lv_iadd hx hb dX12_numberHere_81 ?_
          refine mp_next hx hb hts hin hown k_next hI dX12_numberHere_82 (fun H locs hI => ?_)
          refine lv_goto (tgt := 34) hx hb dX12_numberHere_85 (by decide) ?_
          replace hf := cont_b hK1 hf
          exact ih v4 (msi x13.1 14 ((x13.1.1 14) + (1 : Int32))) H locs ls hI (lv_sub hl [0, 1, 2, 3, 4] rfl) hf
        · replace hf := ifn c16 hf
          refine lv_bipush (v := 10) hx hb dX12_numberHere_55 (by decide) ?_
          refine lv_iload hx hb dX12_numberHere_57 (lv_at hl 4 rfl) ?_
          refine lv_imul hx hb dX12_numberHere_59 ?_
          refine lv_aload_n hx hb dX12_numberHere_60 rfl (lv_at hl 0 rfl) ?_
          refine mg_tape hx hb hts hin hown k_tape hI dX12_numberHere_61 ?_
          refine lv_aload_n hx hb dX12_numberHere_64 rfl (lv_at hl 0 rfl) ?_
          refine mg_next hx hb hts hin hown k_next hI dX12_numberHere_65 ?_
          obtain ⟨k17, hf⟩ := chk_b hf
          refine ml_tape hx hb hI k17 dX12_numberHere_68 ?_
          refine lv_iadd hx hb dX12_numberHere_69 ?_
          refine lv_bipush (v := 48) hx hb dX12_numberHere_70 (by decide) ?_
          refine lv_isub hx hb dX12_numberHere_72 ?_
          refine lv_istore (lv' := [(4, .int ((((10 : Int32) * v4) + (x13.1.2.1 0 (x13.1.1 14).toNatClampNeg)) - (48 : Int32))), (0, .ref h), (1, .int v1), (2, .int v2), (3, .int v3)]) hx hb dX12_numberHere_73 hl (by decide) rfl (fun ls hl => ?_)
          refine lv_aload_n hx hb dX12_numberHere_75 rfl (lv_at hl 1 rfl) ?_
          refine lv_dup hx hb dX12_numberHere_76 rfl ?_
          refine mg_next hx hb hts hin hown k_next hI dX12_numberHere_77 ?_
          refine lv_iconst (v := 1) hx hb dX12_numberHere_80 (by decide) ?_
          refine lv_iadd hx hb dX12_numberHere_81 ?_
          refine mp_next hx hb hts hin hown k_next hI dX12_numberHere_82 (fun H locs hI => ?_)
          refine lv_goto (tgt := 34) hx hb dX12_numberHere_85 (by decide) ?_
          replace hf := cont_b hK1 hf
          exact ih ((((10 : Int32) * v4) + (x13.1.2.1 0 (x13.1.1 14).toNatClampNeg)) - (48 : Int32)) (msi x13.1 14 ((x13.1.1 14) + (1 : Int32))) H locs ls hI (lv_sub hl [1, 2, 3, 4, 0] rfl) hf
  unfold fm_numberHere at hf
  refine lv_aload_n hx hb dX12_numberHere_0 rfl (lv_at hl 0 rfl) ?_
  obtain ⟨x1, hc2, hf⟩ := bnd_b hf
  refine mcall_i (As := []) (rest := []) (n := 0) ⟨hx, hb, hml, hown, hts⟩ (cm_see l D h ad cy  s0 x1 hc2 _) (cwV 0 hts gX12_numberHere_X12_see rfl rfl rfl ⟨rfl, nd_see⟩ ⟨Nat.le_of_ble_eq_true rfl, Nat.le_of_ble_eq_true rfl⟩) hI hA rfl hl.1 (Nat.le_of_ble_eq_true rfl) dX12_numberHere_1 ⟨Nat.zero_le _, Nat.zero_le _⟩ (fun H locs hI => ?_)
  refine lv_pop hx hb dX12_numberHere_4 rfl ?_
  refine lv_aload_n hx hb dX12_numberHere_5 rfl (lv_at hl 0 rfl) ?_
  refine lv_aload_n hx hb dX12_numberHere_6 rfl (lv_at hl 0 rfl) ?_
  refine mg_next hx hb hts hin hown k_next hI dX12_numberHere_7 ?_
  obtain ⟨x3, hc4, hf⟩ := bnd_b hf
  refine mcall_i (As := [.int (x1.1.1 14)]) (rest := []) (n := 1) ⟨hx, hb, hml, hown, hts⟩ (cm_isDigit l D h ad cy (x1.1.1 14) x1.1 x3 hc4 _) (cwV 1 hts gX12_numberHere_X12_isDigit rfl rfl rfl ⟨rfl, nd_isDigit⟩ ⟨Nat.le_of_ble_eq_true rfl, Nat.le_of_ble_eq_true rfl⟩) hI hA rfl hl.1 (Nat.le_of_ble_eq_true rfl) dX12_numberHere_10 ⟨Nat.zero_le _, Nat.zero_le _⟩ (fun H locs hI => ?_)
  refine lv_if_ne (tgt := 26) hx hb dX12_numberHere_13 (by decide) (fun c5 => ?_) (fun c5 => ?_)
  · replace hf := ifn c5 hf
    refine lv_aload_n hx hb dX12_numberHere_26 rfl (lv_at hl 0 rfl) ?_
    refine mg_next hx hb hts hin hown k_next hI dX12_numberHere_27 ?_
    refine lv_istore_n (lv' := [(3, .int (x3.1.1 14)), (0, .ref h), (1, .int a1), (2, .int a2)]) hx hb dX12_numberHere_30 rfl hl (by decide) rfl (fun ls hl => ?_)
    refine lv_iconst (v := 0) hx hb dX12_numberHere_31 (by decide) ?_
    refine lv_istore (lv' := [(4, .int (0 : Int32)), (3, .int (x3.1.1 14)), (0, .ref h), (1, .int a1), (2, .int a2)]) hx hb dX12_numberHere_32 hl (by decide) rfl (fun ls hl => ?_)
    exact L_34 a1 a2 (x3.1.1 14) mFuel (0 : Int32) x3.1 H locs ls hI (lv_sub hl [2, 3, 4, 1, 0] rfl) (asc_b hf)
  · replace hf := ifp c5 hf
    refine lv_aload_n hx hb dX12_numberHere_16 rfl (lv_at hl 0 rfl) ?_
    refine lv_iconst (v := 0) hx hb dX12_numberHere_17 (by decide) ?_
    refine lv_aload_n hx hb dX12_numberHere_18 rfl (lv_at hl 0 rfl) ?_
    refine mg_next hx hb hts hin hown k_next hI dX12_numberHere_19 ?_
    obtain ⟨x18, hc19, hf⟩ := bnd_b hf
    refine mcall_i (As := [.int (0 : Int32), .int (x3.1.1 14)]) (rest := []) (n := 2) ⟨hx, hb, hml, hown, hts⟩ (cm_fails l D h ad cy (0 : Int32) (x3.1.1 14) x3.1 x18 hc19 _) (cwV 2 hts gX12_numberHere_X12_fails rfl rfl rfl ⟨rfl, nd_fails⟩ ⟨Nat.le_of_ble_eq_true rfl, Nat.le_of_ble_eq_true rfl⟩) hI hA rfl hl.1 (Nat.le_of_ble_eq_true rfl) dX12_numberHere_22 ⟨Nat.zero_le _, Nat.zero_le _⟩ (fun H locs hI => ?_)
    obtain ⟨k20, hf⟩ := chk_b hf
    exact mret_z hx hb hr (isb_nar k20) hlocks hI (ret_e hK0 hf) dX12_numberHere_25
