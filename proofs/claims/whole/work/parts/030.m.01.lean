noncomputable def fm_isLetter (a1 : Int32) (s0 : MSt) : Option (MSt × Int32) :=
  (if (s0.1 1) ≤ a1 then some (s0, (0 : Int32)) else chk (inb a1 400) ((if (s0.2.1 0 a1.toNatClampNeg) < (97 : Int32) then some (s0, (0 : Int32)) else chk (inb a1 400) ((if (122 : Int32) < (s0.2.1 0 a1.toNatClampNeg) then some (s0, (0 : Int32)) else some (s0, (1 : Int32)))))))
theorem nd_isLetter : yX12_isLetter.cls ≠ "java/lang/invoke/MethodHandle" ∧ yX12_isLetter.cls ≠ "java/lang/invoke/VarHandle" ∧ (parseMethodDescriptor yX12_isLetter.desc).map (fun d => d.parameters.length) = some 1 := by decide +kernel
set_option maxHeartbeats 4000000 in
set_option maxRecDepth 100000 in
theorem cm_isLetter (l : Launch) (D : va_G) (h : Nat) (ad : Nat → Nat) (cy : Nat → ClassId) (a1 : Int32) (s0 : MSt) (out : MSt × Int32) (hf : fm_isLetter a1 s0 = some out) (sz : Nat) : CMi l D h ad cy yX12_isLetter wsX12_isLetter { frames := 0, cells := 0, slots := 0, locals := 0 } [.int a1] s0 out sz := by
  refine Met.ofW (cc := cX12_isLetter) (maxL := 2) (ret := (some .boolean)) (by decide) rfl ?_
  intro p e s m args below meth c s₁ B hml hv
  obtain ⟨rfl, hsz, hP, hK, hD0⟩ := hv
  have hx := B.exec
  have hb := B.bytes
  have hr := B.returns
  have hts := atoms_spec (ws := wsX12_isLetter) B.pre
  have hown : s.vm.findClass RX12 = some m.cls := findClass_of_methodNamed B.named
  have hlocks := B.notSynchronized
  subst hsz
  have hI : MI D (MA h ad cy s0 s.heap.size) h ad cy s s.heap s0 s.heap [] := ⟨hK, hP, hD0.self, va_S.rf⟩
  have hA : ∀ q : Nat, s.heap.size ≤ q → MA h ad cy s0 s.heap.size q := fun q hq => Or.inr hq
  have hin : ∀ w ∈ u_ws RX12 TX12 42, w ∈ wsX12_isLetter := fun w hw => List.mem_cons_of_mem _ (List.mem_append_right _ hw)
  have k_tape : Cond.fieldLink RX12 7 "HalfBridgeModel" "tape" "[B" ∈ wsX12_isLetter := by decide +kernel
  have k_taped : Cond.fieldLink RX12 92 "HalfBridgeModel" "taped" "I" ∈ wsX12_isLetter := by decide +kernel
  have hl := lv_entry ([.ref h, .int a1]) (n := 2) (Nat.le_of_ble_eq_true rfl)
  rw [lg_entry_eq]
  generalize (lg_sl ([.ref h, .int a1]) ++ List.replicate (2 - (lg_sl ([.ref h, .int a1])).length) Slot.unset).toArray = ls at hl ⊢
  have hl : lv_has ls 2 [(0, .ref h), (1, .int a1)] := hl
  obtain ⟨K0, hK0, hf⟩ := top_e hf
  unfold fm_isLetter at hf
  refine lv_iload_n hx hb dX12_isLetter_0 rfl (lv_at hl 1 rfl) ?_
  refine lv_aload_n hx hb dX12_isLetter_1 rfl (lv_at hl 0 rfl) ?_
  refine mg_taped hx hb hts hin hown k_taped hI dX12_isLetter_2 ?_
  refine lv_icmp_ge (tgt := 34) hx hb dX12_isLetter_5 (by decide) (fun c1 => ?_) (fun c1 => ?_)
  · replace hf := ifp c1 hf
    refine lv_iconst (v := 0) hx hb dX12_isLetter_34 (by decide) ?_
    exact mret_z hx hb hr (by decide) hlocks hI (ret_e hK0 hf) dX12_isLetter_35
  · replace hf := ifn c1 hf
    refine lv_aload_n hx hb dX12_isLetter_8 rfl (lv_at hl 0 rfl) ?_
    refine mg_tape hx hb hts hin hown k_tape hI dX12_isLetter_9 ?_
    refine lv_iload_n hx hb dX12_isLetter_12 rfl (lv_at hl 1 rfl) ?_
    obtain ⟨k2, hf⟩ := chk_b hf
    refine ml_tape hx hb hI k2 dX12_isLetter_13 ?_
    refine lv_bipush (v := 97) hx hb dX12_isLetter_14 (by decide) ?_
    refine lv_icmp_lt (tgt := 34) hx hb dX12_isLetter_16 (by decide) (fun c3 => ?_) (fun c3 => ?_)
    · replace hf := ifp c3 hf
      refine lv_iconst (v := 0) hx hb dX12_isLetter_34 (by decide) ?_
      exact mret_z hx hb hr (by decide) hlocks hI (ret_e hK0 hf) dX12_isLetter_35
    · replace hf := ifn c3 hf
      refine lv_aload_n hx hb dX12_isLetter_19 rfl (lv_at hl 0 rfl) ?_
      refine mg_tape hx hb hts hin hown k_tape hI dX12_isLetter_20 ?_
      refine lv_iload_n hx hb dX12_isLetter_23 rfl (lv_at hl 1 rfl) ?_
      obtain ⟨k4, hf⟩ := chk_b hf
      refine ml_tape hx hb hI k4 dX12_isLetter_24 ?_
      refine lv_bipush (v := 122) hx hb dX12_isLetter_25 (by decide) ?_
      refine lv_icmp_gt (tgt := 34) hx hb dX12_isLetter_27 (by decide) (fun c5 => ?_) (fun c5 => ?_)
      · replace hf := ifp c5 hf
        refine lv_iconst (v := 0) hx hb dX12_isLetter_34 (by decide) ?_
        exact mret_z hx hb hr (by decide) hlocks hI (ret_e hK0 hf) dX12_isLetter_35
      · replace hf := ifn c5 hf
        refine lv_iconst (v := 1) hx hb dX12_isLetter_30 (by decide) ?_
        refine lv_goto (tgt := 35) hx hb dX12_isLetter_31 (by decide) ?_
        exact mret_z hx hb hr (by decide) hlocks hI (ret_e hK0 hf) dX12_isLetter_35

noncomputable def fm_isWord_j56 (v1 : Int64) (v3 : Int64) (v5 : Int32) (st : MSt) : Option (MSt × Int32) :=
  (if v5 ≤ 0 then some (st, (0 : Int32)) else (if (8 : Int32) ≤ v5 then some (st, (0 : Int32)) else (if (lg_cmp v3 v1) = 0 then some (st, (1 : Int32)) else some (st, (0 : Int32)))))
noncomputable def fm_isWord_s10 (v1 : Int64) (v3 : Int64) (v5 : Int32) (st : MSt) : Option ((MSt × Int32) ⊕ ((Int64 × Int32 × MSt) ⊕ (Int64 × Int32 × MSt))) :=
  (fm_isLetter ((st.1 14) + v5) st).bind fun x6 => (if x6.2 = 0 then some (.inr (.inr (v3, v5, x6.1))) else (if (8 : Int32) ≤ v5 then some (.inr (.inl (v3, (v5 + 1), x6.1))) else chk (inb ((x6.1.1 14) + v5) 400) (some (.inr (.inl (((v3 <<< ((8 : Int32).toInt64 &&& 63)) ||| ((x6.1.2.1 0 ((x6.1.1 14) + v5).toNatClampNeg).toInt64)), (v5 + 1), x6.1))))))
noncomputable def fm_isWord (a1 : Int64) (s0 : MSt) : Option (MSt × Int32) :=
  (fm_see s0).bind fun x1 => (iter (fun x : (Int64 × Int32 × MSt) => fm_isWord_s10 a1 x.1 x.2.1 x.2.2) mFuel ((0 : Int64), (0 : Int32), x1.1)).bind (Sum.elim (fun o : MSt × Int32 => (some o : Option (MSt × Int32))) (fun x : (Int64 × Int32 × MSt) => fm_isWord_j56 a1 x.1 x.2.1 x.2.2))
theorem nd_isWord : yX12_isWord.cls ≠ "java/lang/invoke/MethodHandle" ∧ yX12_isWord.cls ≠ "java/lang/invoke/VarHandle" ∧ (parseMethodDescriptor yX12_isWord.desc).map (fun d => d.parameters.length) = some 1 := by decide +kernel
set_option maxHeartbeats 4000000 in
set_option maxRecDepth 100000 in
theorem cm_isWord (l : Launch) (D : va_G) (h : Nat) (ad : Nat → Nat) (cy : Nat → ClassId) (a1 : Int64) (s0 : MSt) (out : MSt × Int32) (hf : fm_isWord a1 s0 = some out) (sz : Nat) : CMi l D h ad cy yX12_isWord wsX12_isWord { frames := 1, cells := 0, slots := 0, locals := 21 } [.long a1] s0 out sz := by
  refine Met.ofW (cc := cX12_isWord) (maxL := 6) (ret := (some .boolean)) (by decide) rfl ?_
  intro p e s m args below meth c s₁ B hml hv
  obtain ⟨rfl, hsz, hP, hK, hD0⟩ := hv
  have hx := B.exec
  have hb := B.bytes
  have hr := B.returns
  have hts := atoms_spec (ws := wsX12_isWord) B.pre
  have hown : s.vm.findClass RX12 = some m.cls := findClass_of_methodNamed B.named
  have hlocks := B.notSynchronized
  subst hsz
  have hI : MI D (MA h ad cy s0 s.heap.size) h ad cy s s.heap s0 s.heap [] := ⟨hK, hP, hD0.self, va_S.rf⟩
  have hA : ∀ q : Nat, s.heap.size ≤ q → MA h ad cy s0 s.heap.size q := fun q hq => Or.inr hq
  have hin : ∀ w ∈ u_ws RX12 TX12 42, w ∈ wsX12_isWord := fun w hw => List.mem_cons_of_mem _ (List.mem_append_right _ hw)
  have k_next : Cond.fieldLink RX12 103 "HalfBridgeModel" "next" "I" ∈ wsX12_isWord := by decide +kernel
  have k_tape : Cond.fieldLink RX12 7 "HalfBridgeModel" "tape" "[B" ∈ wsX12_isWord := by decide +kernel
  have hl := lv_entry ([.ref h, .long a1]) (n := 6) (Nat.le_of_ble_eq_true rfl)
  rw [lg_entry_eq]
  generalize (lg_sl ([.ref h, .long a1]) ++ List.replicate (6 - (lg_sl ([.ref h, .long a1])).length) Slot.unset).toArray = ls at hl ⊢
  have hl : lv_has ls 6 [(0, .ref h), (1, .long a1)] := hl
  obtain ⟨K0, hK0, hf⟩ := top_e hf
  have B_56 : ∀ (v1 : Int64) (v3 : Int64) (v5 : Int32)  (st : MSt) (H : Heap) (locs : List Loc) (ls : Array Slot), MI D (MA h ad cy s0 s.heap.size) h ad cy s s.heap st H locs → lv_has ls 6 [(1, .long v1), (3, .long v3), (5, .int v5)] → (fm_isWord_j56 v1 v3 v5 st).bind K0 = some out → W p l e (headSpec wsX12_isWord { frames := 1, cells := 0, slots := 0, locals := 21 }).room s m (([.ref h, .long a1] : List Value).toArray) below meth c H locs 0 0 (MQ below (MQi D h ad cy s0 out s.heap.size) ([.ref h, .long a1] : List Value).toArray s 0 0 (MA h ad cy s0 s.heap.size)) (F0 m 56 ls []) := by
    intro v1 v3 v5 st H locs ls hI hl hf
    unfold fm_isWord_j56 at hf
    refine lv_iload hx hb dX12_isWord_56 (lv_at hl 2 rfl) ?_
    refine lv_if_le (tgt := 78) hx hb dX12_isWord_58 (by decide) (fun c3 => ?_) (fun c3 => ?_)
    · replace hf := ifp c3 hf
      refine lv_iconst (v := 0) hx hb dX12_isWord_78 (by decide) ?_
      exact mret_z hx hb hr (by decide) hlocks hI (ret_e hK0 hf) dX12_isWord_79
    · replace hf := ifn c3 hf
      refine lv_iload hx hb dX12_isWord_61 (lv_at hl 2 rfl) ?_
      refine lv_bipush (v := 8) hx hb dX12_isWord_63 (by decide) ?_
      refine lv_icmp_ge (tgt := 78) hx hb dX12_isWord_65 (by decide) (fun c4 => ?_) (fun c4 => ?_)
      · replace hf := ifp c4 hf
        refine lv_iconst (v := 0) hx hb dX12_isWord_78 (by decide) ?_
        exact mret_z hx hb hr (by decide) hlocks hI (ret_e hK0 hf) dX12_isWord_79
      · replace hf := ifn c4 hf
        refine lv_lload_n hx hb dX12_isWord_68 rfl (lv_at hl 1 rfl) ?_
        refine lv_lload_n hx hb dX12_isWord_69 rfl (lv_at hl 0 rfl) ?_
        refine W.lcmp hx hb dX12_isWord_70 ?_
        refine lv_if_ne (tgt := 78) hx hb dX12_isWord_71 (by decide) (fun c5 => ?_) (fun c5 => ?_)
        · replace hf := ifn c5 hf
          refine lv_iconst (v := 0) hx hb dX12_isWord_78 (by decide) ?_
          exact mret_z hx hb hr (by decide) hlocks hI (ret_e hK0 hf) dX12_isWord_79
        · replace hf := ifp c5 hf
          refine lv_iconst (v := 1) hx hb dX12_isWord_74 (by decide) ?_
          refine lv_goto (tgt := 79) hx hb dX12_isWord_75 (by decide) ?_
          exact mret_z hx hb hr (by decide) hlocks hI (ret_e hK0 hf) dX12_isWord_79
  have L_10 : ∀ (v1 : Int64) (n : Nat) (v3 : Int64) (v5 : Int32) (st : MSt) (H : Heap) (locs : List Loc) (ls : Array Slot), MI D (MA h ad cy s0 s.heap.size) h ad cy s s.heap st H locs → lv_has ls 6 [(0, .ref h), (1, .long v1), (3, .long v3), (5, .int v5)] → (iter (fun x : (Int64 × Int32 × MSt) => fm_isWord_s10 v1 x.1 x.2.1 x.2.2) n (v3, v5, st)).bind (fun x => ((Sum.elim (fun o : MSt × Int32 => (some o : Option (MSt × Int32))) (fun x : (Int64 × Int32 × MSt) => fm_isWord_j56 v1 x.1 x.2.1 x.2.2)) x).bind K0) = some out → W p l e (headSpec wsX12_isWord { frames := 1, cells := 0, slots := 0, locals := 21 }).room s m (([.ref h, .long a1] : List Value).toArray) below meth c H locs 0 0 (MQ below (MQi D h ad cy s0 out s.heap.size) ([.ref h, .long a1] : List Value).toArray s 0 0 (MA h ad cy s0 s.heap.size)) (F0 m 10 ls []) := by
    intro v1 n
    induction n with
    | zero => intro v3 v5 st H locs ls hI hl hf; exact (iter_0 hf).elim
    | succ n ih =>
      intro v3 v5 st H locs ls hI hl hf
      obtain ⟨K1, hK1, hf⟩ := iter_e hf
      replace hf : (fm_isWord_s10 v1 v3 v5 st).bind K1 = some out := hf
      unfold fm_isWord_s10 at hf
      refine lv_aload_n hx hb dX12_isWord_10 rfl (lv_at hl 0 rfl) ?_
      refine lv_aload_n hx hb dX12_isWord_11 rfl (lv_at hl 0 rfl) ?_
      refine mg_next hx hb hts hin hown k_next hI dX12_isWord_12 ?_
      refine lv_iload hx hb dX12_isWord_15 (lv_at hl 3 rfl) ?_
      refine lv_iadd hx hb dX12_isWord_17 ?_
      obtain ⟨x6, hc7, hf⟩ := bnd_b hf
      refine mcall_i (As := [.int ((st.1 14) + v5)]) (rest := []) (n := 1) ⟨hx, hb, hml, hown, hts⟩ (cm_isLetter l D h ad cy ((st.1 14) + v5) st x6 hc7 _) (cwV 1 hts gX12_isWord_X12_isLetter rfl rfl rfl ⟨rfl, nd_isLetter⟩ ⟨Nat.le_of_ble_eq_true rfl, Nat.le_of_ble_eq_true rfl⟩) hI hA rfl hl.1 (Nat.le_of_ble_eq_true rfl) dX12_isWord_18 ⟨Nat.zero_le _, Nat.zero_le _⟩ (fun H locs hI => ?_)
      refine lv_if_eq (tgt := 56) hx hb dX12_isWord_21 (by decide) (fun c8 => ?_) (fun c8 => ?_)
      · replace hf := ifp c8 hf
        replace hf := exit_b hK1 hf
        exact B_56 v1 v3 v5 x6.1 H locs ls hI (lv_sub hl [1, 2, 3] rfl) hf
      · replace hf := ifn c8 hf
        refine lv_iload hx hb dX12_isWord_24 (lv_at hl 3 rfl) ?_
        refine lv_bipush (v := 8) hx hb dX12_isWord_26 (by decide) ?_
        refine lv_icmp_ge (tgt := 50) hx hb dX12_isWord_28 (by decide) (fun c9 => ?_) (fun c9 => ?_)
        · replace hf := ifp c9 hf
          refine lv_iinc (v := (v5 + 1)) (lv' := [(5, .int (v5 + 1)), (0, .ref h), (1, .long v1), (3, .long v3)]) hx hb dX12_isWord_50 hl (k := 3) rfl (ci_ _ (by decide)) (by decide) rfl (fun ls hl => ?_)
          refine lv_goto (tgt := 10) hx hb dX12_isWord_53 (by decide) ?_
          replace hf := cont_b hK1 hf
          exact ih v3 (v5 + 1) x6.1 H locs ls hI (lv_sub hl [1, 2, 3, 0] rfl) hf
        · replace hf := ifn c9 hf
          refine lv_lload_n hx hb dX12_isWord_31 rfl (lv_at hl 2 rfl) ?_
          refine lv_bipush (v := 8) hx hb dX12_isWord_32 (by decide) ?_
          refine lv_lshl (v := (v3 <<< ((8 : Int32).toInt64 &&& 63))) hx hb dX12_isWord_34 rfl ?_
          refine lv_aload_n hx hb dX12_isWord_35 rfl (lv_at hl 0 rfl) ?_
          refine mg_tape hx hb hts hin hown k_tape hI dX12_isWord_36 ?_
          refine lv_aload_n hx hb dX12_isWord_39 rfl (lv_at hl 0 rfl) ?_
          refine mg_next hx hb hts hin hown k_next hI dX12_isWord_40 ?_
          refine lv_iload hx hb dX12_isWord_43 (lv_at hl 3 rfl) ?_
          refine lv_iadd hx hb dX12_isWord_45 ?_
          obtain ⟨k10, hf⟩ := chk_b hf
          refine ml_tape hx hb hI k10 dX12_isWord_46 ?_
          refine lv_i2l (v := ((x6.1.2.1 0 ((x6.1.1 14) + v5).toNatClampNeg).toInt64)) hx hb dX12_isWord_47 rfl ?_
          refine lv_lor hx hb dX12_isWord_48 ?_
          refine lv_lstore_n (lv' := [(3, .long ((v3 <<< ((8 : Int32).toInt64 &&& 63)) ||| ((x6.1.2.1 0 ((x6.1.1 14) + v5).toNatClampNeg).toInt64))), (0, .ref h), (1, .long v1), (5, .int v5)]) hx hb dX12_isWord_49 rfl hl (by decide) rfl (fun ls hl => ?_)
          refine lv_iinc (v := (v5 + 1)) (lv' := [(5, .int (v5 + 1)), (3, .long ((v3 <<< ((8 : Int32).toInt64 &&& 63)) ||| ((x6.1.2.1 0 ((x6.1.1 14) + v5).toNatClampNeg).toInt64))), (0, .ref h), (1, .long v1)]) hx hb dX12_isWord_50 hl (k := 3) rfl (ci_ _ (by decide)) (by decide) rfl (fun ls hl => ?_)
          refine lv_goto (tgt := 10) hx hb dX12_isWord_53 (by decide) ?_
          replace hf := cont_b hK1 hf
          exact ih ((v3 <<< ((8 : Int32).toInt64 &&& 63)) ||| ((x6.1.2.1 0 ((x6.1.1 14) + v5).toNatClampNeg).toInt64)) (v5 + 1) x6.1 H locs ls hI (lv_sub hl [2, 3, 1, 0] rfl) hf
  unfold fm_isWord at hf
  refine lv_aload_n hx hb dX12_isWord_0 rfl (lv_at hl 0 rfl) ?_
  obtain ⟨x1, hc2, hf⟩ := bnd_b hf
  refine mcall_i (As := []) (rest := []) (n := 0) ⟨hx, hb, hml, hown, hts⟩ (cm_see l D h ad cy  s0 x1 hc2 _) (cwV 0 hts gX12_isWord_X12_see rfl rfl rfl ⟨rfl, nd_see⟩ ⟨Nat.le_of_ble_eq_true rfl, Nat.le_of_ble_eq_true rfl⟩) hI hA rfl hl.1 (Nat.le_of_ble_eq_true rfl) dX12_isWord_1 ⟨Nat.zero_le _, Nat.zero_le _⟩ (fun H locs hI => ?_)
  refine lv_pop hx hb dX12_isWord_4 rfl ?_
  refine lv_lconst (v := 0) hx hb dX12_isWord_5 (by decide) ?_
  refine lv_lstore_n (lv' := [(3, .long (0 : Int64)), (0, .ref h), (1, .long a1)]) hx hb dX12_isWord_6 rfl hl (by decide) rfl (fun ls hl => ?_)
  refine lv_iconst (v := 0) hx hb dX12_isWord_7 (by decide) ?_
  refine lv_istore (lv' := [(5, .int (0 : Int32)), (3, .long (0 : Int64)), (0, .ref h), (1, .long a1)]) hx hb dX12_isWord_8 hl (by decide) rfl (fun ls hl => ?_)
  exact L_10 a1 mFuel (0 : Int64) (0 : Int32) x1.1 H locs ls hI (lv_sub hl [2, 3, 1, 0] rfl) (asc_b hf)

noncomputable def fm_passWord_j24 (st : MSt) : Option (MSt) :=
  some st
noncomputable def fm_passWord_s0 (st : MSt) : Option ((MSt) ⊕ ((MSt) ⊕ (MSt))) :=
  (fm_isLetter (st.1 14) st).bind fun x1 => (if x1.2 = 0 then some (.inr (.inr x1.1)) else some (.inr (.inl (msi x1.1 14 ((x1.1.1 14) + (1 : Int32))))))
noncomputable def fm_passWord (s0 : MSt) : Option (MSt) :=
  (iter (fun x : (MSt) => fm_passWord_s0 x) mFuel s0).bind (Sum.elim (fun o : MSt => (some o : Option (MSt))) (fun x : (MSt) => fm_passWord_j24 x))
theorem nd_passWord : yX12_passWord.cls ≠ "java/lang/invoke/MethodHandle" ∧ yX12_passWord.cls ≠ "java/lang/invoke/VarHandle" ∧ (parseMethodDescriptor yX12_passWord.desc).map (fun d => d.parameters.length) = some 0 := by decide +kernel
set_option maxHeartbeats 4000000 in
set_option maxRecDepth 100000 in
theorem cm_passWord (l : Launch) (D : va_G) (h : Nat) (ad : Nat → Nat) (cy : Nat → ClassId)  (s0 : MSt) (out : MSt) (hf : fm_passWord s0 = some out) (sz : Nat) : CMv l D h ad cy yX12_passWord wsX12_passWord { frames := 1, cells := 0, slots := 0, locals := 21 } [] s0 out sz := by
  refine Met.ofW (cc := cX12_passWord) (maxL := 1) (ret := none) (by decide) rfl ?_
  intro p e s m args below meth c s₁ B hml hv
  obtain ⟨rfl, hsz, hP, hK, hD0⟩ := hv
  have hx := B.exec
  have hb := B.bytes
  have hr := B.returns
  have hts := atoms_spec (ws := wsX12_passWord) B.pre
  have hown : s.vm.findClass RX12 = some m.cls := findClass_of_methodNamed B.named
  have hlocks := B.notSynchronized
  subst hsz
  have hI : MI D (MA h ad cy s0 s.heap.size) h ad cy s s.heap s0 s.heap [] := ⟨hK, hP, hD0.self, va_S.rf⟩
  have hA : ∀ q : Nat, s.heap.size ≤ q → MA h ad cy s0 s.heap.size q := fun q hq => Or.inr hq
  have hin : ∀ w ∈ u_ws RX12 TX12 42, w ∈ wsX12_passWord := fun w hw => List.mem_cons_of_mem _ (List.mem_append_right _ hw)
  have k_next : Cond.fieldLink RX12 103 "HalfBridgeModel" "next" "I" ∈ wsX12_passWord := by decide +kernel
  have hl := lv_entry ([.ref h]) (n := 1) (Nat.le_of_ble_eq_true rfl)
  rw [lg_entry_eq]
  generalize (lg_sl ([.ref h]) ++ List.replicate (1 - (lg_sl ([.ref h])).length) Slot.unset).toArray = ls at hl ⊢
  have hl : lv_has ls 1 [(0, .ref h)] := hl
  obtain ⟨K0, hK0, hf⟩ := top_e hf
  have B_24 : ∀   (st : MSt) (H : Heap) (locs : List Loc) (ls : Array Slot), MI D (MA h ad cy s0 s.heap.size) h ad cy s s.heap st H locs → lv_has ls 1 [] → (fm_passWord_j24 st).bind K0 = some out → W p l e (headSpec wsX12_passWord { frames := 1, cells := 0, slots := 0, locals := 21 }).room s m (([.ref h] : List Value).toArray) below meth c H locs 0 0 (MQ below (MQv D h ad cy s0 out s.heap.size) ([.ref h] : List Value).toArray s 0 0 (MA h ad cy s0 s.heap.size)) (F0 m 24 ls []) := by
    intro st H locs ls hI hl hf
    unfold fm_passWord_j24 at hf
    exact mret_v hx hb hr hlocks hI (ret_e hK0 hf) dX12_passWord_24
  have L_0 : ∀  (n : Nat)  (st : MSt) (H : Heap) (locs : List Loc) (ls : Array Slot), MI D (MA h ad cy s0 s.heap.size) h ad cy s s.heap st H locs → lv_has ls 1 [(0, .ref h)] → (iter (fun x : (MSt) => fm_passWord_s0 x) n st).bind (fun x => ((Sum.elim (fun o : MSt => (some o : Option (MSt))) (fun x : (MSt) => fm_passWord_j24 x)) x).bind K0) = some out → W p l e (headSpec wsX12_passWord { frames := 1, cells := 0, slots := 0, locals := 21 }).room s m (([.ref h] : List Value).toArray) below meth c H locs 0 0 (MQ below (MQv D h ad cy s0 out s.heap.size) ([.ref h] : List Value).toArray s 0 0 (MA h ad cy s0 s.heap.size)) (F0 m 0 ls []) := by
    intro n
    induction n with
    | zero => intro st H locs ls hI hl hf; exact (iter_0 hf).elim
    | succ n ih =>
      intro st H locs ls hI hl hf
      obtain ⟨K1, hK1, hf⟩ := iter_e hf
      replace hf : (fm_passWord_s0 st).bind K1 = some out := hf
      unfold fm_passWord_s0 at hf
      refine lv_aload_n hx hb dX12_passWord_0 rfl (lv_at hl 0 rfl) ?_
      refine lv_aload_n hx hb dX12_passWord_1 rfl (lv_at hl 0 rfl) ?_
      refine mg_next hx hb hts hin hown k_next hI dX12_passWord_2 ?_
      obtain ⟨x1, hc2, hf⟩ := bnd_b hf
      refine mcall_i (As := [.int (st.1 14)]) (rest := []) (n := 1) ⟨hx, hb, hml, hown, hts⟩ (cm_isLetter l D h ad cy (st.1 14) st x1 hc2 _) (cwV 1 hts gX12_passWord_X12_isLetter rfl rfl rfl ⟨rfl, nd_isLetter⟩ ⟨Nat.le_of_ble_eq_true rfl, Nat.le_of_ble_eq_true rfl⟩) hI hA rfl hl.1 (Nat.le_of_ble_eq_true rfl) dX12_passWord_5 ⟨Nat.zero_le _, Nat.zero_le _⟩ (fun H locs hI => ?_)
      refine lv_if_eq (tgt := 24) hx hb dX12_passWord_8 (by decide) (fun c3 => ?_) (fun c3 => ?_)
      · replace hf := ifp c3 hf
        replace hf := exit_b hK1 hf
        exact B_24  x1.1 H locs ls hI (lv_sub hl [] rfl) hf
      · replace hf := ifn c3 hf
        refine lv_aload_n hx hb dX12_passWord_11 rfl (lv_at hl 0 rfl) ?_
        refine lv_dup hx hb dX12_passWord_12 rfl ?_
        refine mg_next hx hb hts hin hown k_next hI dX12_passWord_13 ?_
        refine lv_iconst (v := 1) hx hb dX12_passWord_16 (by decide) ?_
        refine lv_iadd hx hb dX12_passWord_17 ?_
        refine mp_next hx hb hts hin hown k_next hI dX12_passWord_18 (fun H locs hI => ?_)
        refine lv_goto (tgt := 0) hx hb dX12_passWord_21 (by decide) ?_
        replace hf := cont_b hK1 hf
        exact ih (msi x1.1 14 ((x1.1.1 14) + (1 : Int32))) H locs ls hI (lv_sub hl [0] rfl) hf
  unfold fm_passWord at hf
  exact L_0  mFuel s0 s.heap [] ls hI (lv_sub hl [0] rfl) (asc_b hf)

noncomputable def fm_takesWord (a1 : Int64) (s0 : MSt) : Option (MSt × Int32) :=
  (fm_isWord a1 s0).bind fun x1 => (if x1.2 = 0 then some (x1.1, (0 : Int32)) else (fm_passWord x1.1).bind fun x4 => some (x4, (1 : Int32)))
theorem nd_takesWord : yX12_takesWord.cls ≠ "java/lang/invoke/MethodHandle" ∧ yX12_takesWord.cls ≠ "java/lang/invoke/VarHandle" ∧ (parseMethodDescriptor yX12_takesWord.desc).map (fun d => d.parameters.length) = some 1 := by decide +kernel
set_option maxHeartbeats 4000000 in
set_option maxRecDepth 100000 in
theorem cm_takesWord (l : Launch) (D : va_G) (h : Nat) (ad : Nat → Nat) (cy : Nat → ClassId) (a1 : Int64) (s0 : MSt) (out : MSt × Int32) (hf : fm_takesWord a1 s0 = some out) (sz : Nat) : CMi l D h ad cy yX12_takesWord wsX12_takesWord { frames := 2, cells := 0, slots := 0, locals := 46 } [.long a1] s0 out sz := by
  refine Met.ofW (cc := cX12_takesWord) (maxL := 3) (ret := (some .boolean)) (by decide) rfl ?_
  intro p e s m args below meth c s₁ B hml hv
  obtain ⟨rfl, hsz, hP, hK, hD0⟩ := hv
  have hx := B.exec
  have hb := B.bytes
  have hr := B.returns
  have hts := atoms_spec (ws := wsX12_takesWord) B.pre
  have hown : s.vm.findClass RX12 = some m.cls := findClass_of_methodNamed B.named
  have hlocks := B.notSynchronized
  subst hsz
  have hI : MI D (MA h ad cy s0 s.heap.size) h ad cy s s.heap s0 s.heap [] := ⟨hK, hP, hD0.self, va_S.rf⟩
  have hA : ∀ q : Nat, s.heap.size ≤ q → MA h ad cy s0 s.heap.size q := fun q hq => Or.inr hq
  have hl := lv_entry ([.ref h, .long a1]) (n := 3) (Nat.le_of_ble_eq_true rfl)
  rw [lg_entry_eq]
  generalize (lg_sl ([.ref h, .long a1]) ++ List.replicate (3 - (lg_sl ([.ref h, .long a1])).length) Slot.unset).toArray = ls at hl ⊢
  have hl : lv_has ls 3 [(0, .ref h), (1, .long a1)] := hl
  obtain ⟨K0, hK0, hf⟩ := top_e hf
  unfold fm_takesWord at hf
  refine lv_aload_n hx hb dX12_takesWord_0 rfl (lv_at hl 0 rfl) ?_
  refine lv_lload_n hx hb dX12_takesWord_1 rfl (lv_at hl 1 rfl) ?_
  obtain ⟨x1, hc2, hf⟩ := bnd_b hf
  refine mcall_i (As := [.long a1]) (rest := []) (n := 1) ⟨hx, hb, hml, hown, hts⟩ (cm_isWord l D h ad cy a1 s0 x1 hc2 _) (cwV 1 hts gX12_takesWord_X12_isWord rfl rfl rfl ⟨rfl, nd_isWord⟩ ⟨Nat.le_of_ble_eq_true rfl, Nat.le_of_ble_eq_true rfl⟩) hI hA rfl hl.1 (Nat.le_of_ble_eq_true rfl) dX12_takesWord_2 ⟨Nat.zero_le _, Nat.zero_le _⟩ (fun H locs hI => ?_)
  refine lv_if_ne (tgt := 10) hx hb dX12_takesWord_5 (by decide) (fun c3 => ?_) (fun c3 => ?_)
  · replace hf := ifn c3 hf
    refine lv_aload_n hx hb dX12_takesWord_10 rfl (lv_at hl 0 rfl) ?_
    obtain ⟨x4, hc5, hf⟩ := bnd_b hf
    refine mcall_v (As := []) (rest := []) (n := 0) ⟨hx, hb, hml, hown, hts⟩ (cm_passWord l D h ad cy  x1.1 x4 hc5 _) (cwV 0 hts gX12_takesWord_X12_passWord rfl rfl rfl ⟨rfl, nd_passWord⟩ ⟨Nat.le_of_ble_eq_true rfl, Nat.le_of_ble_eq_true rfl⟩) hI hA rfl hl.1 (Nat.le_of_ble_eq_true rfl) dX12_takesWord_11 ⟨Nat.zero_le _, Nat.zero_le _⟩ (fun H locs hI => ?_)
    refine lv_iconst (v := 1) hx hb dX12_takesWord_14 (by decide) ?_
    exact mret_z hx hb hr (by decide) hlocks hI (ret_e hK0 hf) dX12_takesWord_15
  · replace hf := ifp c3 hf
    refine lv_iconst (v := 0) hx hb dX12_takesWord_8 (by decide) ?_
    exact mret_z hx hb hr (by decide) hlocks hI (ret_e hK0 hf) dX12_takesWord_9
