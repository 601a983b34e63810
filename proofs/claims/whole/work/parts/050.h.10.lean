noncomputable def fh_X10_fail (h : Nat) (a1 : Int32) (s0 : HSt) : Option (HSt) :=
  chk (isk s0 h 11) ((if (gI s0 1005 h) = 0 then (if (gI s0 1003 h) ≤ (gI s0 1004 h) then some s0 else (dr s0 (gR s0 1001 h) 22).bind fun b4 => chk (inb (gI s0 1004 h) (gL s0 b4)) ((some (sI s0 1005 h (((1 : Int32) + ((8 : Int32) * (gA s0 b4 (gI s0 1004 h).toNatClampNeg))) + a1))).bind fun x9 => some x9)) else some s0))
theorem nd_X10_fail : yX10_fail.cls ≠ "java/lang/invoke/MethodHandle" ∧ yX10_fail.cls ≠ "java/lang/invoke/VarHandle" ∧ (parseMethodDescriptor yX10_fail.desc).map (fun d => d.parameters.length) = some 1 := by decide +kernel
set_option maxHeartbeats 4000000 in
set_option maxRecDepth 100000 in
theorem ch_X10_fail (l : Launch) (D : va_G) (cy : Nat → ClassId) (h : Nat) (a1 : Int32) (s0 : HSt) (out : HSt) (hf : fh_X10_fail h a1 s0 = some out) : CHv l D cy yX10_fail wsX10_fail { frames := 0, cells := 0, slots := 0, locals := 0 } 0 0 False True [.ref h, .int a1] s0 out := by
  refine Met.ofW (cc := cX10_fail) (maxL := 2) (ret := none) (by decide) rfl ?_
  intro p e s m args below meth c s₁ B hml hv
  obtain ⟨rfl, hP, hK, hD0, hkx, hsz, hal⟩ := hv
  have hx := B.exec
  have hb := B.bytes
  have hr := B.returns
  have hts := atoms_spec (ws := wsX10_fail) B.pre
  have hown : s.vm.findClass RX10 = some m.cls := findClass_of_methodNamed B.named
  have hlocks := B.notSynchronized
  have hI : HI D cy s s0 s0 s.heap [] 0 False True := ⟨hK, hP, hD0.weaken (fun k q hk _ => Or.inl (pl_mem hk)), va_S.rf, hsz.1, hkx, ⟨hsz, hal⟩, fun _ => rfl, Nat.le_refl _⟩
  have hin_X10 : ∀ w ∈ u_ws RX10 TX10 6, w ∈ wsX10_fail := fun w hw => List.mem_cons_of_mem _ (List.mem_append_right _ hw)
  have kl_15 : Cond.fieldLink RX10 15 "HalfBridge$Tokens" "places" "[I" ∈ wsX10_fail := by decide +kernel
  have kl_21 : Cond.fieldLink RX10 21 "HalfBridge$Tokens" "size" "I" ∈ wsX10_fail := by decide +kernel
  have kl_25 : Cond.fieldLink RX10 25 "HalfBridge$Tokens" "at" "I" ∈ wsX10_fail := by decide +kernel
  have kl_28 : Cond.fieldLink RX10 28 "HalfBridge$Tokens" "fault" "I" ∈ wsX10_fail := by decide +kernel
  have hl := lv_entry ([.ref h, .int a1]) (n := 2) (Nat.le_of_ble_eq_true rfl)
  rw [lg_entry_eq]
  generalize (lg_sl ([.ref h, .int a1]) ++ List.replicate (2 - (lg_sl ([.ref h, .int a1])).length) Slot.unset).toArray = ls at hl ⊢
  have hl : lv_has ls 2 [(0, .ref h), (1, .int a1)] := hl
  obtain ⟨K0, hK0, hf⟩ := top_e hf
  unfold fh_X10_fail at hf
  refine lv_aload_n hx hb dX10_fail_0 rfl (lv_at hl 0 rfl) ?_
  obtain ⟨k1, hf⟩ := chk_b hf
  refine hg_10_5 hx hb hts hin_X10 hown kl_28 hI (isk_k k1) dX10_fail_1 ?_
  refine lv_if_ne (tgt := 38) hx hb dX10_fail_4 (by decide) (fun c2 => ?_) (fun c2 => ?_)
  · replace hf := ifn c2 hf
    exact hret_v hx hb hr hlocks hI (by decide) (by decide) (fun _ => ⟨trivial, rfl⟩) (ret_e hK0 hf) dX10_fail_38
  · replace hf := ifp c2 hf
    refine lv_aload_n hx hb dX10_fail_7 rfl (lv_at hl 0 rfl) ?_
    refine hg_10_4 hx hb hts hin_X10 hown kl_25 hI (isk_k k1) dX10_fail_8 ?_
    refine lv_aload_n hx hb dX10_fail_11 rfl (lv_at hl 0 rfl) ?_
    refine hg_10_3 hx hb hts hin_X10 hown kl_21 hI (isk_k k1) dX10_fail_12 ?_
    refine lv_icmp_ge (tgt := 38) hx hb dX10_fail_15 (by decide) (fun c3 => ?_) (fun c3 => ?_)
    · replace hf := ifp c3 hf
      exact hret_v hx hb hr hlocks hI (by decide) (by decide) (fun _ => ⟨trivial, rfl⟩) (ret_e hK0 hf) dX10_fail_38
    · replace hf := ifn c3 hf
      refine lv_aload_n hx hb dX10_fail_18 rfl (lv_at hl 0 rfl) ?_
      refine lv_iconst (v := 1) hx hb dX10_fail_19 (by decide) ?_
      refine lv_bipush (v := 8) hx hb dX10_fail_20 (by decide) ?_
      refine lv_aload_n hx hb dX10_fail_22 rfl (lv_at hl 0 rfl) ?_
      refine hg_10_1 hx hb hts hin_X10 hown kl_15 hI (isk_k k1) dX10_fail_23 ?_
      refine lv_aload_n hx hb dX10_fail_26 rfl (lv_at hl 0 rfl) ?_
      refine hg_10_4 hx hb hts hin_X10 hown kl_25 hI (isk_k k1) dX10_fail_27 ?_
      obtain ⟨b4, hd5, hf⟩ := bnd_b hf
      obtain ⟨hq6, hk7⟩ := dr_e hd5
      refine W.eq (g2 := F0 m 30 ls [.int (gI s0 1004 h), .ref b4, .int (8 : Int32), .int (1 : Int32), .ref h]) (by rw [hq6]; rfl) ?_
      obtain ⟨k8, hf⟩ := chk_b hf
      refine hl_I hx hb hI hk7 k8 dX10_fail_30 ?_
      refine lv_imul hx hb dX10_fail_31 ?_
      refine lv_iadd hx hb dX10_fail_32 ?_
      refine lv_iload_n hx hb dX10_fail_33 rfl (lv_at hl 1 rfl) ?_
      refine lv_iadd hx hb dX10_fail_34 ?_
      refine hp_10_5 hx hb hts hin_X10 hown kl_28 hI (isk_k k1) dX10_fail_35 (fun H locs hI => ?_)
      obtain ⟨x9, hx9, hf⟩ := bnd_b hf
      replace hx9 := Option.some.inj hx9
      rw [hx9] at hI
      have hk10 : gK x9 h = 11 := by rw [← hx9]; exact (gK_sI.trans (isk_k k1))
      have hk11 : gK x9 b4 = 22 := by rw [← hx9]; exact (gK_sI.trans hk7)
      exact hret_v hx hb hr hlocks hI (by decide) (by decide) (fun _ => ⟨trivial, rfl⟩) (ret_e hK0 hf) dX10_fail_38

noncomputable def fh_X10_init (h : Nat) (s0 : HSt) : Option (HSt) :=
  (some (nO s0 22 401)).bind fun x1 => chk (isk x1 h 11) ((some (nO (sR x1 1000 h (some (gN s0))) 22 401)).bind fun x4 => chk (isk x4 h 11) ((some (nO (sR x4 1001 h (some (gN (sR x1 1000 h (some (gN s0)))))) 22 401)).bind fun x7 => chk (isk x7 h 11) ((some (sR x7 1002 h (some (gN (sR x4 1001 h (some (gN (sR x1 1000 h (some (gN s0)))))))))).bind fun x10 => some x10)))
theorem nd_X10_init : yX10_init.cls ≠ "java/lang/invoke/MethodHandle" ∧ yX10_init.cls ≠ "java/lang/invoke/VarHandle" ∧ (parseMethodDescriptor yX10_init.desc).map (fun d => d.parameters.length) = some 0 := by decide +kernel
set_option maxHeartbeats 4000000 in
set_option maxRecDepth 100000 in
theorem ch_X10_init (l : Launch) (D : va_G) (cy : Nat → ClassId) (h : Nat)  (s0 : HSt) (out : HSt) (hf : fh_X10_init h s0 = some out) : CHv l D cy yX10_init wsX10_init { frames := 1, cells := 3, slots := 1203, locals := 30 } 3 1203 True True [.ref h] s0 out := by
  refine Met.ofW (cc := cX10_init) (maxL := 1) (ret := none) (by decide) rfl ?_
  intro p e s m args below meth c s₁ B hml hv
  obtain ⟨rfl, hP, hK, hD0, hkx, hsz, hal⟩ := hv
  have hx := B.exec
  have hb := B.bytes
  have hr := B.returns
  have hts := atoms_spec (ws := wsX10_init) B.pre
  have hown : s.vm.findClass RX10 = some m.cls := findClass_of_methodNamed B.named
  have hlocks := B.notSynchronized
  have hin0 : meth.name = "<init>" := (name_of_methodNamed B.named B.method).1
  have hI : HI D cy s s0 s0 s.heap [] 0 True True := ⟨hK, hP, hD0.weaken (fun k q hk _ => Or.inl (pl_mem hk)), va_S.rf, hsz.1, hkx, ⟨hsz, hal⟩, fun _ => rfl, Nat.le_refl _⟩
  have hin_X10 : ∀ w ∈ u_ws RX10 TX10 6, w ∈ wsX10_init := fun w hw => List.mem_cons_of_mem _ (List.mem_append_right _ hw)
  have kl_9 : Cond.fieldLink RX10 9 "HalfBridge$Tokens" "kinds" "[I" ∈ wsX10_init := by decide +kernel
  have kl_15 : Cond.fieldLink RX10 15 "HalfBridge$Tokens" "places" "[I" ∈ wsX10_init := by decide +kernel
  have kl_18 : Cond.fieldLink RX10 18 "HalfBridge$Tokens" "values" "[I" ∈ wsX10_init := by decide +kernel
  have hl := lv_entry ([.ref h]) (n := 1) (Nat.le_of_ble_eq_true rfl)
  rw [lg_entry_eq]
  generalize (lg_sl ([.ref h]) ++ List.replicate (1 - (lg_sl ([.ref h])).length) Slot.unset).toArray = ls at hl ⊢
  have hl : lv_has ls 1 [(0, .ref h)] := hl
  obtain ⟨K0, hK0, hf⟩ := top_e hf
  unfold fh_X10_init at hf
  refine lv_aload_n hx hb dX10_init_0 rfl (lv_at hl 0 rfl) ?_
  refine W.objInit hx hb hown (hts (.methodLink RX10 3 objectInit) (by decide +kernel)) (hts (.instanceMethod objectInit) (by decide +kernel)) (hts (.code objectInit ⟨#[0xb1]⟩ 1 none) (by decide +kernel)) rfl (by rw [hml]; exact hl.1) rfl dX10_init_1 (Nat.le_of_ble_eq_true rfl) (Nat.le_of_ble_eq_true rfl) ?_
  refine W.eq (g2 := F0 m 4 ls []) rfl ?_
  refine lv_aload_n hx hb dX10_init_4 rfl (lv_at hl 0 rfl) ?_
  refine lv_sipush (v := 401) hx hb dX10_init_5 (by decide) ?_
  refine hn_I (N := 401) hx hb hts (by decide +kernel) hI trivial trivial (by decide) rfl (by decide) (Nat.le_of_ble_eq_true rfl) (Nat.le_of_ble_eq_true rfl) dX10_init_8 (fun H hI => ?_)
  refine W.widen (k := 1) (n := 401) (by decide) (by decide) ?_
  obtain ⟨x1, hx1, hf⟩ := bnd_b hf
  replace hx1 := Option.some.inj hx1
  rw [hx1] at hI
  have hk2 : gK x1 (gN s0) = 22 := by rw [← hx1]; exact nO_K
  obtain ⟨k3, hf⟩ := chk_b hf
  refine hp_10_0 (x := (some (gN s0))) hx hb hts hin_X10 hown kl_9 hI (isk_k k3) hin0 rfl dX10_init_10 (fun H locs hI => ?_)
  refine lv_aload_n hx hb dX10_init_13 rfl (lv_at hl 0 rfl) ?_
  refine lv_sipush (v := 401) hx hb dX10_init_14 (by decide) ?_
  refine hn_I (N := 401) hx hb hts (by decide +kernel) hI trivial trivial (by decide) rfl (by decide) (Nat.le_of_ble_eq_true rfl) (Nat.le_of_ble_eq_true rfl) dX10_init_17 (fun H hI => ?_)
  refine W.widen (k := 2) (n := 802) (by decide) (by decide) ?_
  obtain ⟨x4, hx4, hf⟩ := bnd_b hf
  replace hx4 := Option.some.inj hx4
  rw [hx4] at hI
  have hk5 : gK x4 (gN (sR x1 1000 h (some (gN s0)))) = 22 := by rw [← hx4]; exact nO_K
  obtain ⟨k6, hf⟩ := chk_b hf
  refine hp_10_1 (x := (some (gN (sR x1 1000 h (some (gN s0)))))) hx hb hts hin_X10 hown kl_15 hI (isk_k k6) hin0 rfl dX10_init_19 (fun H locs hI => ?_)
  refine lv_aload_n hx hb dX10_init_22 rfl (lv_at hl 0 rfl) ?_
  refine lv_sipush (v := 401) hx hb dX10_init_23 (by decide) ?_
  refine hn_I (N := 401) hx hb hts (by decide +kernel) hI trivial trivial (by decide) rfl (by decide) (Nat.le_of_ble_eq_true rfl) (Nat.le_of_ble_eq_true rfl) dX10_init_26 (fun H hI => ?_)
  refine W.widen (k := 3) (n := 1203) (by decide) (by decide) ?_
  obtain ⟨x7, hx7, hf⟩ := bnd_b hf
  replace hx7 := Option.some.inj hx7
  rw [hx7] at hI
  have hk8 : gK x7 (gN (sR x4 1001 h (some (gN (sR x1 1000 h (some (gN s0))))))) = 22 := by rw [← hx7]; exact nO_K
  obtain ⟨k9, hf⟩ := chk_b hf
  refine hp_10_2 (x := (some (gN (sR x4 1001 h (some (gN (sR x1 1000 h (some (gN s0))))))))) hx hb hts hin_X10 hown kl_18 hI (isk_k k9) hin0 rfl dX10_init_28 (fun H locs hI => ?_)
  obtain ⟨x10, hx10, hf⟩ := bnd_b hf
  replace hx10 := Option.some.inj hx10
  rw [hx10] at hI
  have hk11 : gK x10 (gN (sR x4 1001 h (some (gN (sR x1 1000 h (some (gN s0))))))) = 22 := by rw [← hx10]; exact (gK_sR.trans hk8)
  have hk12 : gK x10 h = 11 := by rw [← hx10]; exact (gK_sR.trans (isk_k k9))
  exact hret_v hx hb hr hlocks hI (by decide) (by decide) (fun _ => ⟨trivial, rfl⟩) (ret_e hK0 hf) dX10_init_31

noncomputable def fh_X10_isDigit (a0 : Int32) (s0 : HSt) : Option (HSt × Int32) :=
  (if a0 < (48 : Int32) then some (s0, (0 : Int32)) else (if (57 : Int32) < a0 then some (s0, (0 : Int32)) else some (s0, (1 : Int32))))
theorem nd_X10_isDigit : yX10_isDigit.cls ≠ "java/lang/invoke/MethodHandle" ∧ yX10_isDigit.cls ≠ "java/lang/invoke/VarHandle" ∧ (parseMethodDescriptor yX10_isDigit.desc).map (fun d => d.parameters.length) = some 1 := by decide +kernel
set_option maxHeartbeats 4000000 in
set_option maxRecDepth 100000 in
theorem ch_X10_isDigit (l : Launch) (D : va_G) (cy : Nat → ClassId) (a0 : Int32) (s0 : HSt) (out : HSt × Int32) (hf : fh_X10_isDigit a0 s0 = some out) : CHi l D cy yX10_isDigit wsX10_isDigit { frames := 0, cells := 0, slots := 0, locals := 0 } 0 0 False True [.int a0] s0 out := by
  refine Met.ofW (cc := cX10_isDigit) (maxL := 1) (ret := (some .boolean)) (by decide) rfl ?_
  intro p e s m args below meth c s₁ B hml hv
  obtain ⟨rfl, hP, hK, hD0, hkx, hsz, hal⟩ := hv
  have hx := B.exec
  have hb := B.bytes
  have hr := B.returns
  have hts := atoms_spec (ws := wsX10_isDigit) B.pre
  have hown : s.vm.findClass RX10 = some m.cls := findClass_of_methodNamed B.named
  have hlocks := B.notSynchronized
  have hI : HI D cy s s0 s0 s.heap [] 0 False True := ⟨hK, hP, hD0.weaken (fun k q hk _ => Or.inl (pl_mem hk)), va_S.rf, hsz.1, hkx, ⟨hsz, hal⟩, fun _ => rfl, Nat.le_refl _⟩
  have hl := lv_entry ([.int a0]) (n := 1) (Nat.le_of_ble_eq_true rfl)
  rw [lg_entry_eq]
  generalize (lg_sl ([.int a0]) ++ List.replicate (1 - (lg_sl ([.int a0])).length) Slot.unset).toArray = ls at hl ⊢
  have hl : lv_has ls 1 [(0, .int a0)] := hl
  obtain ⟨K0, hK0, hf⟩ := top_e hf
  unfold fh_X10_isDigit at hf
  refine lv_iload_n hx hb dX10_isDigit_0 rfl (lv_at hl 0 rfl) ?_
  refine lv_bipush (v := 48) hx hb dX10_isDigit_1 (by decide) ?_
  refine lv_icmp_lt (tgt := 16) hx hb dX10_isDigit_3 (by decide) (fun c1 => ?_) (fun c1 => ?_)
  · replace hf := ifp c1 hf
    refine lv_iconst (v := 0) hx hb dX10_isDigit_16 (by decide) ?_
    exact hret_z hx hb hr (by decide) hlocks hI (by decide) (by decide) (fun _ => ⟨trivial, rfl⟩) (ret_e hK0 hf) dX10_isDigit_17
  · replace hf := ifn c1 hf
    refine lv_iload_n hx hb dX10_isDigit_6 rfl (lv_at hl 0 rfl) ?_
    refine lv_bipush (v := 57) hx hb dX10_isDigit_7 (by decide) ?_
    refine lv_icmp_gt (tgt := 16) hx hb dX10_isDigit_9 (by decide) (fun c2 => ?_) (fun c2 => ?_)
    · replace hf := ifp c2 hf
      refine lv_iconst (v := 0) hx hb dX10_isDigit_16 (by decide) ?_
      exact hret_z hx hb hr (by decide) hlocks hI (by decide) (by decide) (fun _ => ⟨trivial, rfl⟩) (ret_e hK0 hf) dX10_isDigit_17
    · replace hf := ifn c2 hf
      refine lv_iconst (v := 1) hx hb dX10_isDigit_12 (by decide) ?_
      refine lv_goto (tgt := 17) hx hb dX10_isDigit_13 (by decide) ?_
      exact hret_z hx hb hr (by decide) hlocks hI (by decide) (by decide) (fun _ => ⟨trivial, rfl⟩) (ret_e hK0 hf) dX10_isDigit_17

noncomputable def fh_X10_isLetter (a0 : Int32) (s0 : HSt) : Option (HSt × Int32) :=
  (if a0 < (97 : Int32) then some (s0, (0 : Int32)) else (if (122 : Int32) < a0 then some (s0, (0 : Int32)) else some (s0, (1 : Int32))))
theorem nd_X10_isLetter : yX10_isLetter.cls ≠ "java/lang/invoke/MethodHandle" ∧ yX10_isLetter.cls ≠ "java/lang/invoke/VarHandle" ∧ (parseMethodDescriptor yX10_isLetter.desc).map (fun d => d.parameters.length) = some 1 := by decide +kernel
set_option maxHeartbeats 4000000 in
set_option maxRecDepth 100000 in
theorem ch_X10_isLetter (l : Launch) (D : va_G) (cy : Nat → ClassId) (a0 : Int32) (s0 : HSt) (out : HSt × Int32) (hf : fh_X10_isLetter a0 s0 = some out) : CHi l D cy yX10_isLetter wsX10_isLetter { frames := 0, cells := 0, slots := 0, locals := 0 } 0 0 False True [.int a0] s0 out := by
  refine Met.ofW (cc := cX10_isLetter) (maxL := 1) (ret := (some .boolean)) (by decide) rfl ?_
  intro p e s m args below meth c s₁ B hml hv
  obtain ⟨rfl, hP, hK, hD0, hkx, hsz, hal⟩ := hv
  have hx := B.exec
  have hb := B.bytes
  have hr := B.returns
  have hts := atoms_spec (ws := wsX10_isLetter) B.pre
  have hown : s.vm.findClass RX10 = some m.cls := findClass_of_methodNamed B.named
  have hlocks := B.notSynchronized
  have hI : HI D cy s s0 s0 s.heap [] 0 False True := ⟨hK, hP, hD0.weaken (fun k q hk _ => Or.inl (pl_mem hk)), va_S.rf, hsz.1, hkx, ⟨hsz, hal⟩, fun _ => rfl, Nat.le_refl _⟩
  have hl := lv_entry ([.int a0]) (n := 1) (Nat.le_of_ble_eq_true rfl)
  rw [lg_entry_eq]
  generalize (lg_sl ([.int a0]) ++ List.replicate (1 - (lg_sl ([.int a0])).length) Slot.unset).toArray = ls at hl ⊢
  have hl : lv_has ls 1 [(0, .int a0)] := hl
  obtain ⟨K0, hK0, hf⟩ := top_e hf
  unfold fh_X10_isLetter at hf
  refine lv_iload_n hx hb dX10_isLetter_0 rfl (lv_at hl 0 rfl) ?_
  refine lv_bipush (v := 97) hx hb dX10_isLetter_1 (by decide) ?_
  refine lv_icmp_lt (tgt := 16) hx hb dX10_isLetter_3 (by decide) (fun c1 => ?_) (fun c1 => ?_)
  · replace hf := ifp c1 hf
    refine lv_iconst (v := 0) hx hb dX10_isLetter_16 (by decide) ?_
    exact hret_z hx hb hr (by decide) hlocks hI (by decide) (by decide) (fun _ => ⟨trivial, rfl⟩) (ret_e hK0 hf) dX10_isLetter_17
  · replace hf := ifn c1 hf
    refine lv_iload_n hx hb dX10_isLetter_6 rfl (lv_at hl 0 rfl) ?_
    refine lv_bipush (v := 122) hx hb dX10_isLetter_7 (by decide) ?_
    refine lv_icmp_gt (tgt := 16) hx hb dX10_isLetter_9 (by decide) (fun c2 => ?_) (fun c2 => ?_)
    · replace hf := ifp c2 hf
      refine lv_iconst (v := 0) hx hb dX10_isLetter_16 (by decide) ?_
      exact hret_z hx hb hr (by decide) hlocks hI (by decide) (by decide) (fun _ => ⟨trivial, rfl⟩) (ret_e hK0 hf) dX10_isLetter_17
    · replace hf := ifn c2 hf
      refine lv_iconst (v := 1) hx hb dX10_isLetter_12 (by decide) ?_
      refine lv_goto (tgt := 17) hx hb dX10_isLetter_13 (by decide) ?_
      exact hret_z hx hb hr (by decide) hlocks hI (by decide) (by decide) (fun _ => ⟨trivial, rfl⟩) (ret_e hK0 hf) dX10_isLetter_17

noncomputable def fh_X10_isSign (a0 : Int32) (s0 : HSt) : Option (HSt × Int32) :=
  (if a0 = 42 then some (s0, (1 : Int32)) else if a0 = 43 then some (s0, (1 : Int32)) else if a0 = 45 then some (s0, (1 : Int32)) else if a0 = 47 then some (s0, (1 : Int32)) else if a0 = 59 then some (s0, (1 : Int32)) else if a0 = 60 then some (s0, (1 : Int32)) else if a0 = 61 then some (s0, (1 : Int32)) else if a0 = 62 then some (s0, (1 : Int32)) else if a0 = 91 then some (s0, (1 : Int32)) else if a0 = 93 then some (s0, (1 : Int32)) else some (s0, (0 : Int32)))
theorem nd_X10_isSign : yX10_isSign.cls ≠ "java/lang/invoke/MethodHandle" ∧ yX10_isSign.cls ≠ "java/lang/invoke/VarHandle" ∧ (parseMethodDescriptor yX10_isSign.desc).map (fun d => d.parameters.length) = some 1 := by decide +kernel
set_option maxHeartbeats 4000000 in
set_option maxRecDepth 100000 in
theorem ch_X10_isSign (l : Launch) (D : va_G) (cy : Nat → ClassId) (a0 : Int32) (s0 : HSt) (out : HSt × Int32) (hf : fh_X10_isSign a0 s0 = some out) : CHi l D cy yX10_isSign wsX10_isSign { frames := 0, cells := 0, slots := 0, locals := 0 } 0 0 False True [.int a0] s0 out := by
  refine Met.ofW (cc := cX10_isSign) (maxL := 1) (ret := (some .boolean)) (by decide) rfl ?_
  intro p e s m args below meth c s₁ B hml hv
  obtain ⟨rfl, hP, hK, hD0, hkx, hsz, hal⟩ := hv
  have hx := B.exec
  have hb := B.bytes
  have hr := B.returns
  have hts := atoms_spec (ws := wsX10_isSign) B.pre
  have hown : s.vm.findClass RX10 = some m.cls := findClass_of_methodNamed B.named
  have hlocks := B.notSynchronized
  have hI : HI D cy s s0 s0 s.heap [] 0 False True := ⟨hK, hP, hD0.weaken (fun k q hk _ => Or.inl (pl_mem hk)), va_S.rf, hsz.1, hkx, ⟨hsz, hal⟩, fun _ => rfl, Nat.le_refl _⟩
  have hl := lv_entry ([.int a0]) (n := 1) (Nat.le_of_ble_eq_true rfl)
  rw [lg_entry_eq]
  generalize (lg_sl ([.int a0]) ++ List.replicate (1 - (lg_sl ([.int a0])).length) Slot.unset).toArray = ls at hl ⊢
  have hl : lv_has ls 1 [(0, .int a0)] := hl
  obtain ⟨K0, hK0, hf⟩ := top_e hf
  unfold fh_X10_isSign at hf
  refine lv_iload_n hx hb dX10_isSign_0 rfl (lv_at hl 0 rfl) ?_
  by_cases c1 : a0 = 42
  · replace hf := ifp c1 hf
    refine lv_lookup (off := 91) (tgt := 92) hx hb dX10_isSign_1 (by decide) (by rw [c1]; decide) (by decide) ?_
    refine lv_iconst (v := 1) hx hb dX10_isSign_92 (by decide) ?_
    exact hret_z hx hb hr (by decide) hlocks hI (by decide) (by decide) (fun _ => ⟨trivial, rfl⟩) (ret_e hK0 hf) dX10_isSign_93
  replace hf := ifn c1 hf
  by_cases c2 : a0 = 43
  · replace hf := ifp c2 hf
    refine lv_lookup (off := 91) (tgt := 92) hx hb dX10_isSign_1 (by decide) (by rw [c2]; decide) (by decide) ?_
    refine lv_iconst (v := 1) hx hb dX10_isSign_92 (by decide) ?_
    exact hret_z hx hb hr (by decide) hlocks hI (by decide) (by decide) (fun _ => ⟨trivial, rfl⟩) (ret_e hK0 hf) dX10_isSign_93
  replace hf := ifn c2 hf
  by_cases c3 : a0 = 45
  · replace hf := ifp c3 hf
    refine lv_lookup (off := 91) (tgt := 92) hx hb dX10_isSign_1 (by decide) (by rw [c3]; decide) (by decide) ?_
    refine lv_iconst (v := 1) hx hb dX10_isSign_92 (by decide) ?_
    exact hret_z hx hb hr (by decide) hlocks hI (by decide) (by decide) (fun _ => ⟨trivial, rfl⟩) (ret_e hK0 hf) dX10_isSign_93
  replace hf := ifn c3 hf
  by_cases c4 : a0 = 47
  · replace hf := ifp c4 hf
    refine lv_lookup (off := 91) (tgt := 92) hx hb dX10_isSign_1 (by decide) (by rw [c4]; decide) (by decide) ?_
    refine lv_iconst (v := 1) hx hb dX10_isSign_92 (by decide) ?_
    exact hret_z hx hb hr (by decide) hlocks hI (by decide) (by decide) (fun _ => ⟨trivial, rfl⟩) (ret_e hK0 hf) dX10_isSign_93
  replace hf := ifn c4 hf
  by_cases c5 : a0 = 59
  · replace hf := ifp c5 hf
    refine lv_lookup (off := 91) (tgt := 92) hx hb dX10_isSign_1 (by decide) (by rw [c5]; decide) (by decide) ?_
    refine lv_iconst (v := 1) hx hb dX10_isSign_92 (by decide) ?_
    exact hret_z hx hb hr (by decide) hlocks hI (by decide) (by decide) (fun _ => ⟨trivial, rfl⟩) (ret_e hK0 hf) dX10_isSign_93
  replace hf := ifn c5 hf
  by_cases c6 : a0 = 60
  · replace hf := ifp c6 hf
    refine lv_lookup (off := 91) (tgt := 92) hx hb dX10_isSign_1 (by decide) (by rw [c6]; decide) (by decide) ?_
    refine lv_iconst (v := 1) hx hb dX10_isSign_92 (by decide) ?_
    exact hret_z hx hb hr (by decide) hlocks hI (by decide) (by decide) (fun _ => ⟨trivial, rfl⟩) (ret_e hK0 hf) dX10_isSign_93
  replace hf := ifn c6 hf
  by_cases c7 : a0 = 61
  · replace hf := ifp c7 hf
    refine lv_lookup (off := 91) (tgt := 92) hx hb dX10_isSign_1 (by decide) (by rw [c7]; decide) (by decide) ?_
    refine lv_iconst (v := 1) hx hb dX10_isSign_92 (by decide) ?_
    exact hret_z hx hb hr (by decide) hlocks hI (by decide) (by decide) (fun _ => ⟨trivial, rfl⟩) (ret_e hK0 hf) dX10_isSign_93
  replace hf := ifn c7 hf
  by_cases c8 : a0 = 62
  · replace hf := ifp c8 hf
    refine lv_lookup (off := 91) (tgt := 92) hx hb dX10_isSign_1 (by decide) (by rw [c8]; decide) (by decide) ?_
    refine lv_iconst (v := 1) hx hb dX10_isSign_92 (by decide) ?_
    exact hret_z hx hb hr (by decide) hlocks hI (by decide) (by decide) (fun _ => ⟨trivial, rfl⟩) (ret_e hK0 hf) dX10_isSign_93
  replace hf := ifn c8 hf
  by_cases c9 : a0 = 91
  · replace hf := ifp c9 hf
    refine lv_lookup (off := 91) (tgt := 92) hx hb dX10_isSign_1 (by decide) (by rw [c9]; decide) (by decide) ?_
    refine lv_iconst (v := 1) hx hb dX10_isSign_92 (by decide) ?_
    exact hret_z hx hb hr (by decide) hlocks hI (by decide) (by decide) (fun _ => ⟨trivial, rfl⟩) (ret_e hK0 hf) dX10_isSign_93
  replace hf := ifn c9 hf
  by_cases c10 : a0 = 93
  · replace hf := ifp c10 hf
    refine lv_lookup (off := 91) (tgt := 92) hx hb dX10_isSign_1 (by decide) (by rw [c10]; decide) (by decide) ?_
    refine lv_iconst (v := 1) hx hb dX10_isSign_92 (by decide) ?_
    exact hret_z hx hb hr (by decide) hlocks hI (by decide) (by decide) (fun _ => ⟨trivial, rfl⟩) (ret_e hK0 hf) dX10_isSign_93
  replace hf := ifn c10 hf
  refine lv_lookup (off := 93) (tgt := 94) hx hb dX10_isSign_1 (by decide) (by simp only [Array.toList]; rw [lv_osw (k := 42) c1 (by decide)]; rw [lv_osw (k := 43) c2 (by decide)]; rw [lv_osw (k := 45) c3 (by decide)]; rw [lv_osw (k := 47) c4 (by decide)]; rw [lv_osw (k := 59) c5 (by decide)]; rw [lv_osw (k := 60) c6 (by decide)]; rw [lv_osw (k := 61) c7 (by decide)]; rw [lv_osw (k := 62) c8 (by decide)]; rw [lv_osw (k := 91) c9 (by decide)]; rw [lv_osw (k := 93) c10 (by decide)]; rfl) (by decide) ?_
  refine lv_iconst (v := 0) hx hb dX10_isSign_94 (by decide) ?_
  exact hret_z hx hb hr (by decide) hlocks hI (by decide) (by decide) (fun _ => ⟨trivial, rfl⟩) (ret_e hK0 hf) dX10_isSign_95

noncomputable def fh_X10_kind (h : Nat) (s0 : HSt) : Option (HSt × Int32) :=
  chk (isk s0 h 11) ((if (gI s0 1005 h) = 0 then (if (gI s0 1003 h) ≤ (gI s0 1004 h) then some (s0, (1 : Int32)) else (dr s0 (gR s0 1000 h) 22).bind fun b4 => chk (inb (gI s0 1004 h) (gL s0 b4)) (some (s0, (gA s0 b4 (gI s0 1004 h).toNatClampNeg)))) else some (s0, (1 : Int32))))
theorem nd_X10_kind : yX10_kind.cls ≠ "java/lang/invoke/MethodHandle" ∧ yX10_kind.cls ≠ "java/lang/invoke/VarHandle" ∧ (parseMethodDescriptor yX10_kind.desc).map (fun d => d.parameters.length) = some 0 := by decide +kernel
set_option maxHeartbeats 4000000 in
set_option maxRecDepth 100000 in
theorem ch_X10_kind (l : Launch) (D : va_G) (cy : Nat → ClassId) (h : Nat)  (s0 : HSt) (out : HSt × Int32) (hf : fh_X10_kind h s0 = some out) : CHi l D cy yX10_kind wsX10_kind { frames := 0, cells := 0, slots := 0, locals := 0 } 0 0 False True [.ref h] s0 out := by
  refine Met.ofW (cc := cX10_kind) (maxL := 1) (ret := (some .int)) (by decide) rfl ?_
  intro p e s m args below meth c s₁ B hml hv
  obtain ⟨rfl, hP, hK, hD0, hkx, hsz, hal⟩ := hv
  have hx := B.exec
  have hb := B.bytes
  have hr := B.returns
  have hts := atoms_spec (ws := wsX10_kind) B.pre
  have hown : s.vm.findClass RX10 = some m.cls := findClass_of_methodNamed B.named
  have hlocks := B.notSynchronized
  have hI : HI D cy s s0 s0 s.heap [] 0 False True := ⟨hK, hP, hD0.weaken (fun k q hk _ => Or.inl (pl_mem hk)), va_S.rf, hsz.1, hkx, ⟨hsz, hal⟩, fun _ => rfl, Nat.le_refl _⟩
  have hin_X10 : ∀ w ∈ u_ws RX10 TX10 6, w ∈ wsX10_kind := fun w hw => List.mem_cons_of_mem _ (List.mem_append_right _ hw)
  have kl_9 : Cond.fieldLink RX10 9 "HalfBridge$Tokens" "kinds" "[I" ∈ wsX10_kind := by decide +kernel
  have kl_21 : Cond.fieldLink RX10 21 "HalfBridge$Tokens" "size" "I" ∈ wsX10_kind := by decide +kernel
  have kl_25 : Cond.fieldLink RX10 25 "HalfBridge$Tokens" "at" "I" ∈ wsX10_kind := by decide +kernel
  have kl_28 : Cond.fieldLink RX10 28 "HalfBridge$Tokens" "fault" "I" ∈ wsX10_kind := by decide +kernel
  have hl := lv_entry ([.ref h]) (n := 1) (Nat.le_of_ble_eq_true rfl)
  rw [lg_entry_eq]
  generalize (lg_sl ([.ref h]) ++ List.replicate (1 - (lg_sl ([.ref h])).length) Slot.unset).toArray = ls at hl ⊢
  have hl : lv_has ls 1 [(0, .ref h)] := hl
  obtain ⟨K0, hK0, hf⟩ := top_e hf
  unfold fh_X10_kind at hf
  refine lv_aload_n hx hb dX10_kind_0 rfl (lv_at hl 0 rfl) ?_
  obtain ⟨k1, hf⟩ := chk_b hf
  refine hg_10_5 hx hb hts hin_X10 hown kl_28 hI (isk_k k1) dX10_kind_1 ?_
  refine lv_if_ne (tgt := 30) hx hb dX10_kind_4 (by decide) (fun c2 => ?_) (fun c2 => ?_)
  · replace hf := ifn c2 hf
    refine lv_iconst (v := 1) hx hb dX10_kind_30 (by decide) ?_
    exact hret_i hx hb hr hlocks hI (by decide) (by decide) (fun _ => ⟨trivial, rfl⟩) (ret_e hK0 hf) dX10_kind_31
  · replace hf := ifp c2 hf
    refine lv_aload_n hx hb dX10_kind_7 rfl (lv_at hl 0 rfl) ?_
    refine hg_10_4 hx hb hts hin_X10 hown kl_25 hI (isk_k k1) dX10_kind_8 ?_
    refine lv_aload_n hx hb dX10_kind_11 rfl (lv_at hl 0 rfl) ?_
    refine hg_10_3 hx hb hts hin_X10 hown kl_21 hI (isk_k k1) dX10_kind_12 ?_
    refine lv_icmp_ge (tgt := 30) hx hb dX10_kind_15 (by decide) (fun c3 => ?_) (fun c3 => ?_)
    · replace hf := ifp c3 hf
      refine lv_iconst (v := 1) hx hb dX10_kind_30 (by decide) ?_
      exact hret_i hx hb hr hlocks hI (by decide) (by decide) (fun _ => ⟨trivial, rfl⟩) (ret_e hK0 hf) dX10_kind_31
    · replace hf := ifn c3 hf
      refine lv_aload_n hx hb dX10_kind_18 rfl (lv_at hl 0 rfl) ?_
      refine hg_10_0 hx hb hts hin_X10 hown kl_9 hI (isk_k k1) dX10_kind_19 ?_
      refine lv_aload_n hx hb dX10_kind_22 rfl (lv_at hl 0 rfl) ?_
      refine hg_10_4 hx hb hts hin_X10 hown kl_25 hI (isk_k k1) dX10_kind_23 ?_
      obtain ⟨b4, hd5, hf⟩ := bnd_b hf
      obtain ⟨hq6, hk7⟩ := dr_e hd5
      refine W.eq (g2 := F0 m 26 ls [.int (gI s0 1004 h), .ref b4]) (by rw [hq6]; rfl) ?_
      obtain ⟨k8, hf⟩ := chk_b hf
      refine hl_I hx hb hI hk7 k8 dX10_kind_26 ?_
      refine lv_goto (tgt := 31) hx hb dX10_kind_27 (by decide) ?_
      exact hret_i hx hb hr hlocks hI (by decide) (by decide) (fun _ => ⟨trivial, rfl⟩) (ret_e hK0 hf) dX10_kind_31

noncomputable def fh_X10_spells_j54   (st : HSt) : Option (HSt × Int32) :=
  some (st, (1 : Int32))
noncomputable def fh_X10_spells_s25 (v0 : Option Nat) (v1 : Int32) (v2 : Int32) (v3 : Nat) (v4 : Int32) (st : HSt) : Option ((HSt × Int32) ⊕ ((Int32 × HSt) ⊕ (Int32 × HSt))) :=
  (if v2 ≤ v4 then some (.inr (.inr (v4, st))) else (dr st v0 21).bind fun b12 => chk (inb v4 (gL st b12)) (chk (decide (v3 < 23)) ((fh_J0_charAt_5068e v3 (v4 - v1) st).bind fun x18 => (if (gA st b12 v4.toNatClampNeg) = x18.2 then some (.inr (.inl ((v4 + 1), x18.1))) else some (.inl (x18.1, (0 : Int32)))))))
noncomputable def fh_X10_spells (a0 : Option Nat) (a1 : Int32) (a2 : Int32) (a3 : Nat) (s0 : HSt) : Option (HSt × Int32) :=
  chk (decide (a3 < 23)) ((fh_J0_length_8abf5 a3 s0).bind fun x2 => (if (a2 - a1) = x2.2 then (if a1 < 0 then some (x2.1, (0 : Int32)) else (dr x2.1 a0 21).bind fun b6 => (if a2 ≤ (nI (gL x2.1 b6)) then (iter (fun x : (Int32 × HSt) => fh_X10_spells_s25 a0 a1 a2 a3 x.1 x.2) mFuel (a1, x2.1)).bind (Sum.elim (fun o : HSt × Int32 => (some o : Option (HSt × Int32))) (fun x : (Int32 × HSt) => fh_X10_spells_j54 x.2)) else some (x2.1, (0 : Int32)))) else some (x2.1, (0 : Int32))))
theorem nd_X10_spells : yX10_spells.cls ≠ "java/lang/invoke/MethodHandle" ∧ yX10_spells.cls ≠ "java/lang/invoke/VarHandle" ∧ (parseMethodDescriptor yX10_spells.desc).map (fun d => d.parameters.length) = some 4 := by decide +kernel
set_option maxHeartbeats 4000000 in
set_option maxRecDepth 100000 in
theorem ch_X10_spells (l : Launch) (D : va_G) (cy : Nat → ClassId) (a0 : Option Nat) (a1 : Int32) (a2 : Int32) (a3 : Nat) (s0 : HSt) (out : HSt × Int32) (hf : fh_X10_spells a0 a1 a2 a3 s0 = some out) : CHi l D cy yX10_spells wsX10_spells { frames := 4, cells := 0, slots := 0, locals := 85 } 0 0 False True [va_rf a0, .int a1, .int a2, .ref (cy (100 + a3))] s0 out := by
  refine Met.ofW (cc := cX10_spells) (maxL := 5) (ret := (some .boolean)) (by decide) rfl ?_
  intro p e s m args below meth c s₁ B hml hv
  obtain ⟨rfl, hP, hK, hD0, hkx, hsz, hal⟩ := hv
  have hx := B.exec
  have hb := B.bytes
  have hr := B.returns
  have hts := atoms_spec (ws := wsX10_spells) B.pre
  have hown : s.vm.findClass RX10 = some m.cls := findClass_of_methodNamed B.named
  have hlocks := B.notSynchronized
  have hI : HI D cy s s0 s0 s.heap [] 0 False True := ⟨hK, hP, hD0.weaken (fun k q hk _ => Or.inl (pl_mem hk)), va_S.rf, hsz.1, hkx, ⟨hsz, hal⟩, fun _ => rfl, Nat.le_refl _⟩
  have hl := lv_entry ([va_rf a0, .int a1, .int a2, .ref (cy (100 + a3))]) (n := 5) (by simp [lg_sl, cat_rf, cat_i, cat_l, cat_r])
  rw [lg_entry_eq]
  generalize (lg_sl ([va_rf a0, .int a1, .int a2, .ref (cy (100 + a3))]) ++ List.replicate (5 - (lg_sl ([va_rf a0, .int a1, .int a2, .ref (cy (100 + a3))])).length) Slot.unset).toArray = ls at hl ⊢
  have hl : lv_has ls 5 [(0, va_rf a0), (1, .int a1), (2, .int a2), (3, .ref (cy (100 + a3)))] := (by simpa [lv_args, cat_rf, cat_i, cat_l, cat_r] using hl)
  obtain ⟨K0, hK0, hf⟩ := top_e hf
  have B_54 : ∀   (st : HSt) (H : Heap) (locs : List Loc) (ls : Array Slot), HI D cy s s0 st H locs 0 False True → lv_has ls 5 [] → (fh_X10_spells_j54 st).bind K0 = some out → W p l e (headSpec wsX10_spells { frames := 4, cells := 0, slots := 0, locals := 85 }).room s m (([va_rf a0, .int a1, .int a2, .ref (cy (100 + a3))] : List Value).toArray) below meth c H locs 0 0 (MQ below (HQi D cy s0 0 True out) ([va_rf a0, .int a1, .int a2, .ref (cy (100 + a3))] : List Value).toArray s 0 0 (hF s0)) (F0 m 54 ls []) := by
    intro st H locs ls hI hl hf
    unfold fh_X10_spells_j54 at hf
    refine lv_iconst (v := 1) hx hb dX10_spells_54 (by decide) ?_
    exact hret_z hx hb hr (by decide) hlocks hI (by decide) (by decide) (fun _ => ⟨trivial, rfl⟩) (ret_e hK0 hf) dX10_spells_55
  have L_25 : ∀ (v0 : Option Nat) (v1 : Int32) (v2 : Int32) (v3 : Nat) (n : Nat) (v4 : Int32) (st : HSt) (H : Heap) (locs : List Loc) (ls : Array Slot), HI D cy s s0 st H locs 0 False True → lv_has ls 5 [(0, va_rf v0), (1, .int v1), (2, .int v2), (3, .ref (cy (100 + v3))), (4, .int v4)] → (iter (fun x : (Int32 × HSt) => fh_X10_spells_s25 v0 v1 v2 v3 x.1 x.2) n (v4, st)).bind (fun x => ((Sum.elim (fun o : HSt × Int32 => (some o : Option (HSt × Int32))) (fun x : (Int32 × HSt) => fh_X10_spells_j54 x.2)) x).bind K0) = some out → W p l e (headSpec wsX10_spells { frames := 4, cells := 0, slots := 0, locals := 85 }).room s m (([va_rf a0, .int a1, .int a2, .ref (cy (100 + a3))] : List Value).toArray) below meth c H locs 0 0 (MQ below (HQi D cy s0 0 True out) ([va_rf a0, .int a1, .int a2, .ref (cy (100 + a3))] : List Value).toArray s 0 0 (hF s0)) (F0 m 25 ls []) := by
    intro v0 v1 v2 v3 n
    induction n with
    | zero => intro v4 st H locs ls hI hl hf; exact (iter_0 hf).elim
    | succ n ih =>
      intro v4 st H locs ls hI hl hf
      obtain ⟨K1, hK1, hf⟩ := iter_e hf
      replace hf : (fh_X10_spells_s25 v0 v1 v2 v3 v4 st).bind K1 = some out := hf
      unfold fh_X10_spells_s25 at hf
      refine lv_iload hx hb dX10_spells_25 (lv_at hl 4 rfl) ?_
      refine lv_iload_n hx hb dX10_spells_27 rfl (lv_at hl 2 rfl) ?_
      refine lv_icmp_ge (tgt := 54) hx hb dX10_spells_28 (by decide) (fun c11 => ?_) (fun c11 => ?_)
      · replace hf := ifp c11 hf
        replace hf := exit_b hK1 hf
        exact B_54  st H locs ls hI (lv_sub hl [] rfl) hf
      · replace hf := ifn c11 hf
        refine hq_aload_n hx hb dX10_spells_31 rfl (lv_at hl 0 rfl) ?_
        refine lv_iload hx hb dX10_spells_32 (lv_at hl 4 rfl) ?_
        obtain ⟨b12, hd13, hf⟩ := bnd_b hf
        obtain ⟨hq14, hk15⟩ := dr_e hd13
        refine W.eq (g2 := F0 m 34 ls [.int v4, .ref b12]) (by rw [hq14]; rfl) ?_
        obtain ⟨k16, hf⟩ := chk_b hf
        refine hl_B hx hb hI hk15 k16 dX10_spells_34 ?_
        refine lv_aload_n hx hb dX10_spells_35 rfl (lv_at hl 3 rfl) ?_
        refine lv_iload hx hb dX10_spells_36 (lv_at hl 4 rfl) ?_
        refine lv_iload_n hx hb dX10_spells_38 rfl (lv_at hl 1 rfl) ?_
        refine lv_isub hx hb dX10_spells_39 ?_
        obtain ⟨k17, hf⟩ := chk_b hf
        obtain ⟨x18, hc19, hf⟩ := bnd_b hf
        refine hcall_Ti (ex2 := True) (As := [.int (v4 - v1)]) (rest := [.int (gA st b12 v4.toNatClampNeg)]) (n := 1) (of_decide_eq_true k17) ⟨hx, hb, hml, hown, hts⟩ (ch_J0_charAt_5068e l D cy v3 (v4 - v1) st x18 hc19) (cwV 1 hts gX10_spells_J0_charAt_5068e rfl rfl rfl ⟨rfl, nd_J0_charAt_5068e⟩ ⟨Nat.le_of_ble_eq_true rfl, Nat.le_of_ble_eq_true rfl⟩) hI (fun h => h.elim) (fun _ => ⟨trivial, trivial⟩) rfl hl.1 (Nat.le_of_ble_eq_true rfl) dX10_spells_40 ⟨Nat.le_of_ble_eq_true rfl, Nat.le_of_ble_eq_true rfl⟩ (fun H locs hI => ?_)
        refine lv_icmp_eq (tgt := 48) hx hb dX10_spells_43 (by decide) (fun c20 => ?_) (fun c20 => ?_)
        · replace hf := ifp c20 hf
          refine lv_iinc (v := (v4 + 1)) (lv' := [(4, .int (v4 + 1)), (0, va_rf v0), (1, .int v1), (2, .int v2), (3, .ref (cy (100 + v3)))]) hx hb dX10_spells_48 hl (k := 4) rfl (ci_ _ (by decide)) (by decide) (by first | rfl | (simp [cat_rf, cat_i, cat_l, cat_r]; done) | (simp [cat_rf, cat_i, cat_l, cat_r]; decide)) (fun ls hl => ?_)
          refine lv_goto (tgt := 25) hx hb dX10_spells_51 (by decide) ?_
          replace hf := cont_b hK1 hf
          exact ih (v4 + 1) x18.1 H locs ls hI (lv_sub hl [1, 2, 3, 4, 0] rfl) hf
        · replace hf := ifn c20 hf
          refine lv_iconst (v := 0) hx hb dX10_spells_46 (by decide) ?_
          replace hf := inl_b hK1 hf
          replace hf : Option.bind (some (x18.1, (0 : Int32))) K0 = some out := hf
          exact hret_z hx hb hr (by decide) hlocks hI (by decide) (by decide) (fun _ => ⟨trivial, rfl⟩) (ret_e hK0 hf) dX10_spells_47
  unfold fh_X10_spells at hf
  refine lv_iload_n hx hb dX10_spells_0 rfl (lv_at hl 2 rfl) ?_
  refine lv_iload_n hx hb dX10_spells_1 rfl (lv_at hl 1 rfl) ?_
  refine lv_isub hx hb dX10_spells_2 ?_
  refine lv_aload_n hx hb dX10_spells_3 rfl (lv_at hl 3 rfl) ?_
  obtain ⟨k1, hf⟩ := chk_b hf
  obtain ⟨x2, hc3, hf⟩ := bnd_b hf
  refine hcall_Ti (ex2 := True) (As := []) (rest := [.int (a2 - a1)]) (n := 0) (of_decide_eq_true k1) ⟨hx, hb, hml, hown, hts⟩ (ch_J0_length_8abf5 l D cy a3 s0 x2 hc3) (cwV 0 hts gX10_spells_J0_length_8abf5 rfl rfl rfl ⟨rfl, nd_J0_length_8abf5⟩ ⟨Nat.le_of_ble_eq_true rfl, Nat.le_of_ble_eq_true rfl⟩) hI (fun h => h.elim) (fun _ => ⟨trivial, trivial⟩) rfl hl.1 (Nat.le_of_ble_eq_true rfl) dX10_spells_4 ⟨Nat.le_of_ble_eq_true rfl, Nat.le_of_ble_eq_true rfl⟩ (fun H locs hI => ?_)
  refine lv_icmp_ne (tgt := 20) hx hb dX10_spells_7 (by decide) (fun c4 => ?_) (fun c4 => ?_)
  · replace hf := ifn c4 hf
    refine lv_iconst (v := 0) hx hb dX10_spells_20 (by decide) ?_
    exact hret_z hx hb hr (by decide) hlocks hI (by decide) (by decide) (fun _ => ⟨trivial, rfl⟩) (ret_e hK0 hf) dX10_spells_21
  · replace hf := ifp c4 hf
    refine lv_iload_n hx hb dX10_spells_10 rfl (lv_at hl 1 rfl) ?_
    refine lv_if_lt (tgt := 20) hx hb dX10_spells_11 (by decide) (fun c5 => ?_) (fun c5 => ?_)
    · replace hf := ifp c5 hf
      refine lv_iconst (v := 0) hx hb dX10_spells_20 (by decide) ?_
      exact hret_z hx hb hr (by decide) hlocks hI (by decide) (by decide) (fun _ => ⟨trivial, rfl⟩) (ret_e hK0 hf) dX10_spells_21
    · replace hf := ifn c5 hf
      refine lv_iload_n hx hb dX10_spells_14 rfl (lv_at hl 2 rfl) ?_
      refine hq_aload_n hx hb dX10_spells_15 rfl (lv_at hl 0 rfl) ?_
      obtain ⟨b6, hd7, hf⟩ := bnd_b hf
      obtain ⟨hq8, hk9⟩ := dr_e hd7
      refine W.eq (g2 := F0 m 16 ls [.ref b6, .int a2]) (by rw [hq8]; rfl) ?_
      refine ha_21 hx hb hI hk9 dX10_spells_16 ?_
      refine lv_icmp_le (tgt := 22) hx hb dX10_spells_17 (by decide) (fun c10 => ?_) (fun c10 => ?_)
      · replace hf := ifp c10 hf
        refine lv_iload_n hx hb dX10_spells_22 rfl (lv_at hl 1 rfl) ?_
        refine lv_istore (lv' := [(4, .int a1), (0, va_rf a0), (1, .int a1), (2, .int a2), (3, .ref (cy (100 + a3)))]) hx hb dX10_spells_23 hl (by decide) (by first | rfl | (simp [cat_rf, cat_i, cat_l, cat_r]; done) | (simp [cat_rf, cat_i, cat_l, cat_r]; decide)) (fun ls hl => ?_)
        exact L_25 a0 a1 a2 a3 mFuel a1 x2.1 H locs ls hI (lv_sub hl [1, 2, 3, 4, 0] rfl) (asc_b hf)
      · replace hf := ifn c10 hf
        refine lv_iconst (v := 0) hx hb dX10_spells_20 (by decide) ?_
        exact hret_z hx hb hr (by decide) hlocks hI (by decide) (by decide) (fun _ => ⟨trivial, rfl⟩) (ret_e hK0 hf) dX10_spells_21

noncomputable def fh_X10_riverWord (a0 : Option Nat) (a1 : Int32) (a2 : Int32) (s0 : HSt) : Option (HSt × Int32) :=
  (fh_X10_spells a0 a1 a2 0 s0).bind fun x1 => (if x1.2 = 0 then (fh_X10_spells a0 a1 a2 1 x1.1).bind fun x4 => (if x4.2 = 0 then (fh_X10_spells a0 a1 a2 2 x4.1).bind fun x7 => (if x7.2 = 0 then (fh_X10_spells a0 a1 a2 3 x7.1).bind fun x10 => (if x10.2 = 0 then (fh_X10_spells a0 a1 a2 4 x10.1).bind fun x13 => (if x13.2 = 0 then (fh_X10_spells a0 a1 a2 5 x13.1).bind fun x16 => (if x16.2 = 0 then some (x16.1, (1 : Int32)) else some (x16.1, (261 : Int32))) else some (x13.1, (260 : Int32))) else some (x10.1, (259 : Int32))) else some (x7.1, (258 : Int32))) else some (x4.1, (257 : Int32))) else some (x1.1, (256 : Int32)))
theorem nd_X10_riverWord : yX10_riverWord.cls ≠ "java/lang/invoke/MethodHandle" ∧ yX10_riverWord.cls ≠ "java/lang/invoke/VarHandle" ∧ (parseMethodDescriptor yX10_riverWord.desc).map (fun d => d.parameters.length) = some 3 := by decide +kernel
set_option maxHeartbeats 4000000 in
set_option maxRecDepth 100000 in
theorem ch_X10_riverWord (l : Launch) (D : va_G) (cy : Nat → ClassId) (a0 : Option Nat) (a1 : Int32) (a2 : Int32) (s0 : HSt) (out : HSt × Int32) (hf : fh_X10_riverWord a0 a1 a2 s0 = some out) : CHi l D cy yX10_riverWord wsX10_riverWord { frames := 5, cells := 0, slots := 0, locals := 109 } 0 0 False True [va_rf a0, .int a1, .int a2] s0 out := by
  refine Met.ofW (cc := cX10_riverWord) (maxL := 3) (ret := (some .int)) (by decide) rfl ?_
  intro p e s m args below meth c s₁ B hml hv
  obtain ⟨rfl, hP, hK, hD0, hkx, hsz, hal⟩ := hv
  have hx := B.exec
  have hb := B.bytes
  have hr := B.returns
  have hts := atoms_spec (ws := wsX10_riverWord) B.pre
  have hown : s.vm.findClass RX10 = some m.cls := findClass_of_methodNamed B.named
  have hlocks := B.notSynchronized
  have hI : HI D cy s s0 s0 s.heap [] 0 False True := ⟨hK, hP, hD0.weaken (fun k q hk _ => Or.inl (pl_mem hk)), va_S.rf, hsz.1, hkx, ⟨hsz, hal⟩, fun _ => rfl, Nat.le_refl _⟩
  have hl := lv_entry ([va_rf a0, .int a1, .int a2]) (n := 3) (by simp [lg_sl, cat_rf, cat_i, cat_l, cat_r])
  rw [lg_entry_eq]
  generalize (lg_sl ([va_rf a0, .int a1, .int a2]) ++ List.replicate (3 - (lg_sl ([va_rf a0, .int a1, .int a2])).length) Slot.unset).toArray = ls at hl ⊢
  have hl : lv_has ls 3 [(0, va_rf a0), (1, .int a1), (2, .int a2)] := (by simpa [lv_args, cat_rf, cat_i, cat_l, cat_r] using hl)
  obtain ⟨K0, hK0, hf⟩ := top_e hf
  unfold fh_X10_riverWord at hf
  refine hq_aload_n hx hb dX10_riverWord_0 rfl (lv_at hl 0 rfl) ?_
  refine lv_iload_n hx hb dX10_riverWord_1 rfl (lv_at hl 1 rfl) ?_
  refine lv_iload_n hx hb dX10_riverWord_2 rfl (lv_at hl 2 rfl) ?_
  refine hs_ldc (i := 0) hx hb hown hI (by decide) dX10_riverWord_3 ?_
  obtain ⟨x1, hc2, hf⟩ := bnd_b hf
  refine hcall_Si (ex2 := True) (As := [va_rf a0, .int a1, .int a2, .ref (cy (100 + 0))]) (rest := []) (n := 4) ⟨hx, hb, hml, hown, hts⟩ (ch_X10_spells l D cy a0 a1 a2 0 s0 x1 hc2) (va_cwS 4 hts gX10_riverWord_X10_spells rfl rfl rfl nd_X10_spells ⟨Nat.le_of_ble_eq_true rfl, Nat.le_of_ble_eq_true rfl⟩) hI (fun h => h.elim) (fun _ => ⟨trivial, trivial⟩) rfl hl.1 (Nat.le_of_ble_eq_true rfl) dX10_riverWord_5 ⟨Nat.le_of_ble_eq_true rfl, Nat.le_of_ble_eq_true rfl⟩ (fun H locs hI => ?_)
  refine lv_if_eq (tgt := 15) hx hb dX10_riverWord_8 (by decide) (fun c3 => ?_) (fun c3 => ?_)
  · replace hf := ifp c3 hf
    refine hq_aload_n hx hb dX10_riverWord_15 rfl (lv_at hl 0 rfl) ?_
    refine lv_iload_n hx hb dX10_riverWord_16 rfl (lv_at hl 1 rfl) ?_
    refine lv_iload_n hx hb dX10_riverWord_17 rfl (lv_at hl 2 rfl) ?_
    refine hs_ldc (i := 1) hx hb hown hI (by decide) dX10_riverWord_18 ?_
    obtain ⟨x4, hc5, hf⟩ := bnd_b hf
    refine hcall_Si (ex2 := True) (As := [va_rf a0, .int a1, .int a2, .ref (cy (100 + 1))]) (rest := []) (n := 4) ⟨hx, hb, hml, hown, hts⟩ (ch_X10_spells l D cy a0 a1 a2 1 x1.1 x4 hc5) (va_cwS 4 hts gX10_riverWord_X10_spells rfl rfl rfl nd_X10_spells ⟨Nat.le_of_ble_eq_true rfl, Nat.le_of_ble_eq_true rfl⟩) hI (fun h => h.elim) (fun _ => ⟨trivial, trivial⟩) rfl hl.1 (Nat.le_of_ble_eq_true rfl) dX10_riverWord_20 ⟨Nat.le_of_ble_eq_true rfl, Nat.le_of_ble_eq_true rfl⟩ (fun H locs hI => ?_)
    refine lv_if_eq (tgt := 30) hx hb dX10_riverWord_23 (by decide) (fun c6 => ?_) (fun c6 => ?_)
    · replace hf := ifp c6 hf
      refine hq_aload_n hx hb dX10_riverWord_30 rfl (lv_at hl 0 rfl) ?_
      refine lv_iload_n hx hb dX10_riverWord_31 rfl (lv_at hl 1 rfl) ?_
      refine lv_iload_n hx hb dX10_riverWord_32 rfl (lv_at hl 2 rfl) ?_
      refine hs_ldc (i := 2) hx hb hown hI (by decide) dX10_riverWord_33 ?_
      obtain ⟨x7, hc8, hf⟩ := bnd_b hf
      refine hcall_Si (ex2 := True) (As := [va_rf a0, .int a1, .int a2, .ref (cy (100 + 2))]) (rest := []) (n := 4) ⟨hx, hb, hml, hown, hts⟩ (ch_X10_spells l D cy a0 a1 a2 2 x4.1 x7 hc8) (va_cwS 4 hts gX10_riverWord_X10_spells rfl rfl rfl nd_X10_spells ⟨Nat.le_of_ble_eq_true rfl, Nat.le_of_ble_eq_true rfl⟩) hI (fun h => h.elim) (fun _ => ⟨trivial, trivial⟩) rfl hl.1 (Nat.le_of_ble_eq_true rfl) dX10_riverWord_35 ⟨Nat.le_of_ble_eq_true rfl, Nat.le_of_ble_eq_true rfl⟩ (fun H locs hI => ?_)
      refine lv_if_eq (tgt := 45) hx hb dX10_riverWord_38 (by decide) (fun c9 => ?_) (fun c9 => ?_)
      · replace hf := ifp c9 hf
        refine hq_aload_n hx hb dX10_riverWord_45 rfl (lv_at hl 0 rfl) ?_
        refine lv_iload_n hx hb dX10_riverWord_46 rfl (lv_at hl 1 rfl) ?_
        refine lv_iload_n hx hb dX10_riverWord_47 rfl (lv_at hl 2 rfl) ?_
        refine hs_ldc (i := 3) hx hb hown hI (by decide) dX10_riverWord_48 ?_
        obtain ⟨x10, hc11, hf⟩ := bnd_b hf
        refine hcall_Si (ex2 := True) (As := [va_rf a0, .int a1, .int a2, .ref (cy (100 + 3))]) (rest := []) (n := 4) ⟨hx, hb, hml, hown, hts⟩ (ch_X10_spells l D cy a0 a1 a2 3 x7.1 x10 hc11) (va_cwS 4 hts gX10_riverWord_X10_spells rfl rfl rfl nd_X10_spells ⟨Nat.le_of_ble_eq_true rfl, Nat.le_of_ble_eq_true rfl⟩) hI (fun h => h.elim) (fun _ => ⟨trivial, trivial⟩) rfl hl.1 (Nat.le_of_ble_eq_true rfl) dX10_riverWord_50 ⟨Nat.le_of_ble_eq_true rfl, Nat.le_of_ble_eq_true rfl⟩ (fun H locs hI => ?_)
        refine lv_if_eq (tgt := 60) hx hb dX10_riverWord_53 (by decide) (fun c12 => ?_) (fun c12 => ?_)
        · replace hf := ifp c12 hf
          refine hq_aload_n hx hb dX10_riverWord_60 rfl (lv_at hl 0 rfl) ?_
          refine lv_iload_n hx hb dX10_riverWord_61 rfl (lv_at hl 1 rfl) ?_
          refine lv_iload_n hx hb dX10_riverWord_62 rfl (lv_at hl 2 rfl) ?_
          refine hs_ldc (i := 4) hx hb hown hI (by decide) dX10_riverWord_63 ?_
          obtain ⟨x13, hc14, hf⟩ := bnd_b hf
          refine hcall_Si (ex2 := True) (As := [va_rf a0, .int a1, .int a2, .ref (cy (100 + 4))]) (rest := []) (n := 4) ⟨hx, hb, hml, hown, hts⟩ (ch_X10_spells l D cy a0 a1 a2 4 x10.1 x13 hc14) (va_cwS 4 hts gX10_riverWord_X10_spells rfl rfl rfl nd_X10_spells ⟨Nat.le_of_ble_eq_true rfl, Nat.le_of_ble_eq_true rfl⟩) hI (fun h => h.elim) (fun _ => ⟨trivial, trivial⟩) rfl hl.1 (Nat.le_of_ble_eq_true rfl) dX10_riverWord_65 ⟨Nat.le_of_ble_eq_true rfl, Nat.le_of_ble_eq_true rfl⟩ (fun H locs hI => ?_)
          refine lv_if_eq (tgt := 75) hx hb dX10_riverWord_68 (by decide) (fun c15 => ?_) (fun c15 => ?_)
          · replace hf := ifp c15 hf
            refine hq_aload_n hx hb dX10_riverWord_75 rfl (lv_at hl 0 rfl) ?_
            refine lv_iload_n hx hb dX10_riverWord_76 rfl (lv_at hl 1 rfl) ?_
            refine lv_iload_n hx hb dX10_riverWord_77 rfl (lv_at hl 2 rfl) ?_
            refine hs_ldc (i := 5) hx hb hown hI (by decide) dX10_riverWord_78 ?_
            obtain ⟨x16, hc17, hf⟩ := bnd_b hf
            refine hcall_Si (ex2 := True) (As := [va_rf a0, .int a1, .int a2, .ref (cy (100 + 5))]) (rest := []) (n := 4) ⟨hx, hb, hml, hown, hts⟩ (ch_X10_spells l D cy a0 a1 a2 5 x13.1 x16 hc17) (va_cwS 4 hts gX10_riverWord_X10_spells rfl rfl rfl nd_X10_spells ⟨Nat.le_of_ble_eq_true rfl, Nat.le_of_ble_eq_true rfl⟩) hI (fun h => h.elim) (fun _ => ⟨trivial, trivial⟩) rfl hl.1 (Nat.le_of_ble_eq_true rfl) dX10_riverWord_80 ⟨Nat.le_of_ble_eq_true rfl, Nat.le_of_ble_eq_true rfl⟩ (fun H locs hI => ?_)
            refine lv_if_eq (tgt := 92) hx hb dX10_riverWord_83 (by decide) (fun c18 => ?_) (fun c18 => ?_)
            · replace hf := ifp c18 hf
              refine lv_iconst (v := 1) hx hb dX10_riverWord_92 (by decide) ?_
              exact hret_i hx hb hr hlocks hI (by decide) (by decide) (fun _ => ⟨trivial, rfl⟩) (ret_e hK0 hf) dX10_riverWord_93
            · replace hf := ifn c18 hf
              refine lv_sipush (v := 261) hx hb dX10_riverWord_86 (by decide) ?_
              refine lv_goto (tgt := 93) hx hb dX10_riverWord_89 (by decide) ?_
              exact hret_i hx hb hr hlocks hI (by decide) (by decide) (fun _ => ⟨trivial, rfl⟩) (ret_e hK0 hf) dX10_riverWord_93
          · replace hf := ifn c15 hf
            refine lv_sipush (v := 260) hx hb dX10_riverWord_71 (by decide) ?_
            exact hret_i hx hb hr hlocks hI (by decide) (by decide) (fun _ => ⟨trivial, rfl⟩) (ret_e hK0 hf) dX10_riverWord_74
        · replace hf := ifn c12 hf
          refine lv_sipush (v := 259) hx hb dX10_riverWord_56 (by decide) ?_
          exact hret_i hx hb hr hlocks hI (by decide) (by decide) (fun _ => ⟨trivial, rfl⟩) (ret_e hK0 hf) dX10_riverWord_59
      · replace hf := ifn c9 hf
        refine lv_sipush (v := 258) hx hb dX10_riverWord_41 (by decide) ?_
        exact hret_i hx hb hr hlocks hI (by decide) (by decide) (fun _ => ⟨trivial, rfl⟩) (ret_e hK0 hf) dX10_riverWord_44
    · replace hf := ifn c6 hf
      refine lv_sipush (v := 257) hx hb dX10_riverWord_26 (by decide) ?_
      exact hret_i hx hb hr hlocks hI (by decide) (by decide) (fun _ => ⟨trivial, rfl⟩) (ret_e hK0 hf) dX10_riverWord_29
  · replace hf := ifn c3 hf
    refine lv_sipush (v := 256) hx hb dX10_riverWord_11 (by decide) ?_
    exact hret_i hx hb hr hlocks hI (by decide) (by decide) (fun _ => ⟨trivial, rfl⟩) (ret_e hK0 hf) dX10_riverWord_14
