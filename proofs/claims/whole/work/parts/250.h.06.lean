theorem nd_X1_init : yX1_init.cls ≠ "java/lang/invoke/MethodHandle" ∧ yX1_init.cls ≠ "java/lang/invoke/VarHandle" ∧ (parseMethodDescriptor yX1_init.desc).map (fun d => d.parameters.length) = some 2 := by decide +kernel
set_option maxHeartbeats 4000000 in
set_option maxRecDepth 100000 in
theorem ch_X1_init (l : Launch) (D : va_G) (cy : Nat → ClassId) (h : Nat) (a1 : Option Nat) (a2 : Option Nat) (s0 : HSt) (out : HSt) (hf : fh_X1_init h a1 a2 s0 = some out) : CHv l D cy yX1_init wsX1_init { frames := 1, cells := 2, slots := 12, locals := 30 } 2 12 True True [.ref h, va_rf a1, va_rf a2] s0 out := by
  refine Met.ofW (cc := cX1_init) (maxL := 3) (ret := none) (by decide) rfl ?_
  intro p e s m args below meth c s₁ B hml hv
  obtain ⟨rfl, hP, hK, hD0, hkx, hsz, hal⟩ := hv
  have hx := B.exec
  have hb := B.bytes
  have hr := B.returns
  have hts := atoms_spec (ws := wsX1_init) B.pre
  have hown : s.vm.findClass RX1 = some m.cls := findClass_of_methodNamed B.named
  have hlocks := B.notSynchronized
  have hin0 : meth.name = "<init>" := (name_of_methodNamed B.named B.method).1
  have hI : HI D cy s s0 s0 s.heap [] 0 True True := ⟨hK, hP, hD0.weaken (fun k q hk _ => Or.inl (pl_mem hk)), va_S.rf, hsz.1, hkx, ⟨hsz, hal⟩, fun _ => rfl, Nat.le_refl _⟩
  have hin_X1 : ∀ w ∈ u_ws RX1 TX1 12, w ∈ wsX1_init := fun w hw => List.mem_cons_of_mem _ (List.mem_append_right _ hw)
  have kl_11 : Cond.fieldLink RX1 11 "HalfBridge$FreeHand" "turns" "[I" ∈ wsX1_init := by decide +kernel
  have kl_15 : Cond.fieldLink RX1 15 "HalfBridge$FreeHand" "bestTurns" "[I" ∈ wsX1_init := by decide +kernel
  have kl_18 : Cond.fieldLink RX1 18 "HalfBridge$FreeHand" "looker" "LHalfBridge$Looker;" ∈ wsX1_init := by decide +kernel
  have kl_22 : Cond.fieldLink RX1 22 "HalfBridge$FreeHand" "spares" "[LHalfBridge$Span;" ∈ wsX1_init := by decide +kernel
  have hl := lv_entry ([.ref h, va_rf a1, va_rf a2]) (n := 3) (by simp [lg_sl, cat_rf, cat_i, cat_l, cat_r])
  rw [lg_entry_eq]
  generalize (lg_sl ([.ref h, va_rf a1, va_rf a2]) ++ List.replicate (3 - (lg_sl ([.ref h, va_rf a1, va_rf a2])).length) Slot.unset).toArray = ls at hl ⊢
  have hl : lv_has ls 3 [(0, .ref h), (1, va_rf a1), (2, va_rf a2)] := (by simpa [lv_args, cat_rf, cat_i, cat_l, cat_r] using hl)
  obtain ⟨K0, hK0, hf⟩ := top_e hf
  unfold fh_X1_init at hf
  refine lv_aload_n hx hb dX1_init_0 rfl (lv_at hl 0 rfl) ?_
  refine W.objInit hx hb hown (hts (.methodLink RX1 3 objectInit) (by decide +kernel)) (hts (.instanceMethod objectInit) (by decide +kernel)) (hts (.code objectInit ⟨#[0xb1]⟩ 1 none) (by decide +kernel)) rfl (by rw [hml]; exact hl.1) rfl dX1_init_1 (Nat.le_of_ble_eq_true rfl) (Nat.le_of_ble_eq_true rfl) ?_
  refine W.eq (g2 := F0 m 4 ls []) rfl ?_
  refine lv_aload_n hx hb dX1_init_4 rfl (lv_at hl 0 rfl) ?_
  refine lv_bipush (v := 6) hx hb dX1_init_5 (by decide) ?_
  refine hn_I (N := 6) hx hb hts (by decide +kernel) hI trivial trivial (by decide) rfl (by decide) (Nat.le_of_ble_eq_true rfl) (Nat.le_of_ble_eq_true rfl) dX1_init_7 (fun H hI => ?_)
  refine W.widen (k := 1) (n := 6) (by decide) (by decide) ?_
  obtain ⟨x1, hx1, hf⟩ := bnd_b hf
  replace hx1 := Option.some.inj hx1
  rw [hx1] at hI
  have hk2 : gK x1 (gN s0) = 22 := by rw [← hx1]; exact nO_K
  obtain ⟨k3, hf⟩ := chk_b hf
  refine hp_1_4 (x := (some (gN s0))) hx hb hts hin_X1 hown kl_11 hI (isk_k k3) hin0 rfl dX1_init_9 (fun H locs hI => ?_)
  refine lv_aload_n hx hb dX1_init_12 rfl (lv_at hl 0 rfl) ?_
  refine lv_bipush (v := 6) hx hb dX1_init_13 (by decide) ?_
  refine hn_I (N := 6) hx hb hts (by decide +kernel) hI trivial trivial (by decide) rfl (by decide) (Nat.le_of_ble_eq_true rfl) (Nat.le_of_ble_eq_true rfl) dX1_init_15 (fun H hI => ?_)
  refine W.widen (k := 2) (n := 12) (by decide) (by decide) ?_
  obtain ⟨x4, hx4, hf⟩ := bnd_b hf
  replace hx4 := Option.some.inj hx4
  rw [hx4] at hI
  have hk5 : gK x4 (gN (sR x1 104 h (some (gN s0)))) = 22 := by rw [← hx4]; exact nO_K
  obtain ⟨k6, hf⟩ := chk_b hf
  refine hp_1_5 (x := (some (gN (sR x1 104 h (some (gN s0)))))) hx hb hts hin_X1 hown kl_15 hI (isk_k k6) hin0 rfl dX1_init_17 (fun H locs hI => ?_)
  refine lv_aload_n hx hb dX1_init_20 rfl (lv_at hl 0 rfl) ?_
  refine hq_aload_n hx hb dX1_init_21 rfl (lv_at hl 1 rfl) ?_
  refine hp_1_2 (x := a1) hx hb hts hin_X1 hown kl_18 hI (gK_sR.trans (isk_k k6)) hin0 rfl dX1_init_22 (fun H locs hI => ?_)
  refine lv_aload_n hx hb dX1_init_25 rfl (lv_at hl 0 rfl) ?_
  refine hq_aload_n hx hb dX1_init_26 rfl (lv_at hl 2 rfl) ?_
  refine hp_1_3 (x := a2) hx hb hts hin_X1 hown kl_22 hI (gK_sR.trans (gK_sR.trans (isk_k k6))) hin0 rfl dX1_init_27 (fun H locs hI => ?_)
  obtain ⟨x7, hx7, hf⟩ := bnd_b hf
  replace hx7 := Option.some.inj hx7
  rw [hx7] at hI
  have hk8 : gK x7 (gN (sR x1 104 h (some (gN s0)))) = 22 := by rw [← hx7]; exact (gK_sR.trans (gK_sR.trans (gK_sR.trans hk5)))
  have hk9 : gK x7 h = 2 := by rw [← hx7]; exact (gK_sR.trans (gK_sR.trans (gK_sR.trans (isk_k k6))))
  exact hret_v hx hb hr hlocks hI (by decide) (by decide) (fun _ => ⟨trivial, rfl⟩) (ret_e hK0 hf) dX1_init_30

theorem nd_X2_init : yX2_init.cls ≠ "java/lang/invoke/MethodHandle" ∧ yX2_init.cls ≠ "java/lang/invoke/VarHandle" ∧ (parseMethodDescriptor yX2_init.desc).map (fun d => d.parameters.length) = some 2 := by decide +kernel
set_option maxHeartbeats 4000000 in
set_option maxRecDepth 100000 in
theorem ch_X2_init (l : Launch) (D : va_G) (cy : Nat → ClassId) (h : Nat) (a1 : Option Nat) (a2 : Option Nat) (s0 : HSt) (out : HSt) (hf : fh_X2_init h a1 a2 s0 = some out) : CHv l D cy yX2_init wsX2_init { frames := 1, cells := 3, slots := 28, locals := 30 } 3 28 True True [.ref h, va_rf a1, va_rf a2] s0 out := by
  refine Met.ofW (cc := cX2_init) (maxL := 3) (ret := none) (by decide) rfl ?_
  intro p e s m args below meth c s₁ B hml hv
  obtain ⟨rfl, hP, hK, hD0, hkx, hsz, hal⟩ := hv
  have hx := B.exec
  have hb := B.bytes
  have hr := B.returns
  have hts := atoms_spec (ws := wsX2_init) B.pre
  have hown : s.vm.findClass RX2 = some m.cls := findClass_of_methodNamed B.named
  have hlocks := B.notSynchronized
  have hin0 : meth.name = "<init>" := (name_of_methodNamed B.named B.method).1
  have hI : HI D cy s s0 s0 s.heap [] 0 True True := ⟨hK, hP, hD0.weaken (fun k q hk _ => Or.inl (pl_mem hk)), va_S.rf, hsz.1, hkx, ⟨hsz, hal⟩, fun _ => rfl, Nat.le_refl _⟩
  have hin_X2 : ∀ w ∈ u_ws RX2 TX2 11, w ∈ wsX2_init := fun w hw => List.mem_cons_of_mem _ (List.mem_append_right _ hw)
  have kl_9 : Cond.fieldLink RX2 9 "HalfBridge$Inquest" "errorSigns" "[I" ∈ wsX2_init := by decide +kernel
  have kl_13 : Cond.fieldLink RX2 13 "HalfBridge$Inquest" "rightPlans" "[I" ∈ wsX2_init := by decide +kernel
  have kl_16 : Cond.fieldLink RX2 16 "HalfBridge$Inquest" "erredRows" "[I" ∈ wsX2_init := by decide +kernel
  have kl_19 : Cond.fieldLink RX2 19 "HalfBridge$Inquest" "looker" "LHalfBridge$Looker;" ∈ wsX2_init := by decide +kernel
  have kl_23 : Cond.fieldLink RX2 23 "HalfBridge$Inquest" "spares" "[LHalfBridge$Span;" ∈ wsX2_init := by decide +kernel
  have hl := lv_entry ([.ref h, va_rf a1, va_rf a2]) (n := 3) (by simp [lg_sl, cat_rf, cat_i, cat_l, cat_r])
  rw [lg_entry_eq]
  generalize (lg_sl ([.ref h, va_rf a1, va_rf a2]) ++ List.replicate (3 - (lg_sl ([.ref h, va_rf a1, va_rf a2])).length) Slot.unset).toArray = ls at hl ⊢
  have hl : lv_has ls 3 [(0, .ref h), (1, va_rf a1), (2, va_rf a2)] := (by simpa [lv_args, cat_rf, cat_i, cat_l, cat_r] using hl)
  obtain ⟨K0, hK0, hf⟩ := top_e hf
  unfold fh_X2_init at hf
  refine lv_aload_n hx hb dX2_init_0 rfl (lv_at hl 0 rfl) ?_
  refine W.objInit hx hb hown (hts (.methodLink RX2 1 objectInit) (by decide +kernel)) (hts (.instanceMethod objectInit) (by decide +kernel)) (hts (.code objectInit ⟨#[0xb1]⟩ 1 none) (by decide +kernel)) rfl (by rw [hml]; exact hl.1) rfl dX2_init_1 (Nat.le_of_ble_eq_true rfl) (Nat.le_of_ble_eq_true rfl) ?_
  refine W.eq (g2 := F0 m 4 ls []) rfl ?_
  refine lv_aload_n hx hb dX2_init_4 rfl (lv_at hl 0 rfl) ?_
  refine lv_bipush (v := 8) hx hb dX2_init_5 (by decide) ?_
  refine hn_I (N := 8) hx hb hts (by decide +kernel) hI trivial trivial (by decide) rfl (by decide) (Nat.le_of_ble_eq_true rfl) (Nat.le_of_ble_eq_true rfl) dX2_init_7 (fun H hI => ?_)
  refine W.widen (k := 1) (n := 8) (by decide) (by decide) ?_
  obtain ⟨x1, hx1, hf⟩ := bnd_b hf
  replace hx1 := Option.some.inj hx1
  rw [hx1] at hI
  have hk2 : gK x1 (gN s0) = 22 := by rw [← hx1]; exact nO_K
  obtain ⟨k3, hf⟩ := chk_b hf
  refine hp_2_3 (x := (some (gN s0))) hx hb hts hin_X2 hown kl_9 hI (isk_k k3) hin0 rfl dX2_init_9 (fun H locs hI => ?_)
  refine lv_aload_n hx hb dX2_init_12 rfl (lv_at hl 0 rfl) ?_
  refine lv_bipush (v := 12) hx hb dX2_init_13 (by decide) ?_
  refine hn_I (N := 12) hx hb hts (by decide +kernel) hI trivial trivial (by decide) rfl (by decide) (Nat.le_of_ble_eq_true rfl) (Nat.le_of_ble_eq_true rfl) dX2_init_15 (fun H hI => ?_)
  refine W.widen (k := 2) (n := 20) (by decide) (by decide) ?_
  obtain ⟨x4, hx4, hf⟩ := bnd_b hf
  replace hx4 := Option.some.inj hx4
  rw [hx4] at hI
  have hk5 : gK x4 (gN (sR x1 203 h (some (gN s0)))) = 22 := by rw [← hx4]; exact nO_K
  obtain ⟨k6, hf⟩ := chk_b hf
  refine hp_2_4 (x := (some (gN (sR x1 203 h (some (gN s0)))))) hx hb hts hin_X2 hown kl_13 hI (isk_k k6) hin0 rfl dX2_init_17 (fun H locs hI => ?_)
  refine lv_aload_n hx hb dX2_init_20 rfl (lv_at hl 0 rfl) ?_
  refine lv_bipush (v := 8) hx hb dX2_init_21 (by decide) ?_
  refine hn_I (N := 8) hx hb hts (by decide +kernel) hI trivial trivial (by decide) rfl (by decide) (Nat.le_of_ble_eq_true rfl) (Nat.le_of_ble_eq_true rfl) dX2_init_23 (fun H hI => ?_)
  refine W.widen (k := 3) (n := 28) (by decide) (by decide) ?_
  obtain ⟨x7, hx7, hf⟩ := bnd_b hf
  replace hx7 := Option.some.inj hx7
  rw [hx7] at hI
  have hk8 : gK x7 (gN (sR x4 204 h (some (gN (sR x1 203 h (some (gN s0))))))) = 22 := by rw [← hx7]; exact nO_K
  obtain ⟨k9, hf⟩ := chk_b hf
  refine hp_2_5 (x := (some (gN (sR x4 204 h (some (gN (sR x1 203 h (some (gN s0))))))))) hx hb hts hin_X2 hown kl_16 hI (isk_k k9) hin0 rfl dX2_init_25 (fun H locs hI => ?_)
  obtain ⟨x10, hx10, hf⟩ := bnd_b hf
  replace hx10 := Option.some.inj hx10
  rw [hx10] at hI
  have hk11 : gK x10 (gN (sR x4 204 h (some (gN (sR x1 203 h (some (gN s0))))))) = 22 := by rw [← hx10]; exact (gK_sR.trans hk8)
  have hk12 : gK x10 h = 3 := by rw [← hx10]; exact (gK_sR.trans (isk_k k9))
  refine lv_aload_n hx hb dX2_init_28 rfl (lv_at hl 0 rfl) ?_
  refine hq_aload_n hx hb dX2_init_29 rfl (lv_at hl 1 rfl) ?_
  refine hp_2_1 (x := a1) hx hb hts hin_X2 hown kl_19 hI hk12 hin0 rfl dX2_init_30 (fun H locs hI => ?_)
  refine lv_aload_n hx hb dX2_init_33 rfl (lv_at hl 0 rfl) ?_
  refine hq_aload_n hx hb dX2_init_34 rfl (lv_at hl 2 rfl) ?_
  refine hp_2_2 (x := a2) hx hb hts hin_X2 hown kl_23 hI (gK_sR.trans hk12) hin0 rfl dX2_init_35 (fun H locs hI => ?_)
  exact hret_v hx hb hr hlocks hI (by decide) (by decide) (fun _ => ⟨trivial, rfl⟩) (ret_e hK0 hf) dX2_init_38

theorem nd_X0_init : yX0_init.cls ≠ "java/lang/invoke/MethodHandle" ∧ yX0_init.cls ≠ "java/lang/invoke/VarHandle" ∧ (parseMethodDescriptor yX0_init.desc).map (fun d => d.parameters.length) = some 0 := by decide +kernel
set_option maxHeartbeats 4000000 in
set_option maxRecDepth 100000 in
theorem ch_X0_init (l : Launch) (D : va_G) (cy : Nat → ClassId) (h : Nat)  (s0 : HSt) (out : HSt) (hf : fh_X0_init h s0 = some out) : CHv l D cy yX0_init wsX0_init { frames := 3, cells := 82, slots := 1534, locals := 70 } 82 1534 True True [.ref h] s0 out := by
  refine Met.ofW (cc := cX0_init) (maxL := 2) (ret := none) (by decide) rfl ?_
  intro p e s m args below meth c s₁ B hml hv
  obtain ⟨rfl, hP, hK, hD0, hkx, hsz, hal⟩ := hv
  have hx := B.exec
  have hb := B.bytes
  have hr := B.returns
  have hts := atoms_spec (ws := wsX0_init) B.pre
  have hown : s.vm.findClass RX0 = some m.cls := findClass_of_methodNamed B.named
  have hlocks := B.notSynchronized
  have hin0 : meth.name = "<init>" := (name_of_methodNamed B.named B.method).1
  have hI : HI D cy s s0 s0 s.heap [] 0 True True := ⟨hK, hP, hD0.weaken (fun k q hk _ => Or.inl (pl_mem hk)), va_S.rf, hsz.1, hkx, ⟨hsz, hal⟩, fun _ => rfl, Nat.le_refl _⟩
  have hin_X0 : ∀ w ∈ u_ws RX0 TX0 11, w ∈ wsX0_init := fun w hw => List.mem_cons_of_mem _ (List.mem_append_left _ (List.mem_append_left _ (List.mem_append_left _ (List.mem_append_left _ (List.mem_append_right _ hw)))))
  have hin_X1 : ∀ w ∈ u_ws RX1 TX1 12, w ∈ wsX0_init := fun w hw => List.mem_cons_of_mem _ (List.mem_append_left _ (List.mem_append_left _ (List.mem_append_right _ hw)))
  have hin_X2 : ∀ w ∈ u_ws RX2 TX2 11, w ∈ wsX0_init := fun w hw => List.mem_cons_of_mem _ (List.mem_append_left _ (List.mem_append_right _ hw))
  have hin_X3 : ∀ w ∈ u_ws RX3 TX3 2, w ∈ wsX0_init := fun w hw => List.mem_cons_of_mem _ (List.mem_append_left _ (List.mem_append_left _ (List.mem_append_left _ (List.mem_append_left _ (List.mem_append_left _ (List.mem_append_right _ hw))))))
  have hin_X9 : ∀ w ∈ u_ws RX9 TX9 5, w ∈ wsX0_init := fun w hw => List.mem_cons_of_mem _ (List.mem_append_left _ (List.mem_append_left _ (List.mem_append_left _ (List.mem_append_right _ hw))))
  have kl_10 : Cond.fieldLink RX0 10 "HalfBridge$Foresight" "looker" "LHalfBridge$Looker;" ∈ wsX0_init := by decide +kernel
  have kl_20 : Cond.fieldLink RX0 20 "HalfBridge$Foresight" "spares" "[LHalfBridge$Span;" ∈ wsX0_init := by decide +kernel
  have kl_24 : Cond.fieldLink RX0 24 "HalfBridge$Foresight" "row" "[I" ∈ wsX0_init := by decide +kernel
  have kl_32 : Cond.fieldLink RX0 32 "HalfBridge$Foresight" "hand" "LHalfBridge$FreeHand;" ∈ wsX0_init := by decide +kernel
  have kl_39 : Cond.fieldLink RX0 39 "HalfBridge$Foresight" "inquest" "LHalfBridge$Inquest;" ∈ wsX0_init := by decide +kernel
  have hl := lv_entry ([.ref h]) (n := 2) (Nat.le_of_ble_eq_true rfl)
  rw [lg_entry_eq]
  generalize (lg_sl ([.ref h]) ++ List.replicate (2 - (lg_sl ([.ref h])).length) Slot.unset).toArray = ls at hl ⊢
  have hl : lv_has ls 2 [(0, .ref h)] := hl
  obtain ⟨K0, hK0, hf⟩ := top_e hf
  unfold fh_X0_init at hf
  refine lv_aload_n hx hb dX0_init_0 rfl (lv_at hl 0 rfl) ?_
  refine W.objInit hx hb hown (hts (.methodLink RX0 1 objectInit) (by decide +kernel)) (hts (.instanceMethod objectInit) (by decide +kernel)) (hts (.code objectInit ⟨#[0xb1]⟩ 1 none) (by decide +kernel)) rfl (by rw [hml]; exact hl.1) rfl dX0_init_1 (Nat.le_of_ble_eq_true rfl) (Nat.le_of_ble_eq_true rfl) ?_
  refine W.eq (g2 := F0 m 4 ls []) rfl ?_
  refine lv_aload_n hx hb dX0_init_4 rfl (lv_at hl 0 rfl) ?_
  refine hn_3 hx hb hts hin_X3 hown (by decide +kernel) (by decide +kernel) (by decide +kernel) hI trivial trivial (Nat.le_of_ble_eq_true rfl) (Nat.le_of_ble_eq_true rfl) dX0_init_5 (fun H hI => ?_)
  refine W.widen (k := 1) (n := 2) (by decide) (by decide) ?_
  obtain ⟨x1, hx1, hf⟩ := bnd_b hf
  replace hx1 := Option.some.inj hx1
  rw [hx1] at hI
  have hk2 : gK x1 (gN s0) = 4 := by rw [← hx1]; exact nO_K
  refine lv_dup hx hb dX0_init_8 rfl ?_
  obtain ⟨x3, hc4, hf⟩ := bnd_b hf
  refine hcall_Iv (ex2 := True) (As := []) (rest := [.ref (gN s0), .ref h]) (n := 0) ⟨hx, hb, hml, hown, hts⟩ (ch_X3_init l D cy (gN s0) x1 x3 hc4) (cwI 0 hts gX0_init_X3_init rfl rfl rfl (hts (.initialized RX3) (by decide +kernel)) (hts (.methodLink RX0 9 yX3_init) (by decide +kernel)) (hts (.instanceMethod yX3_init) (by decide +kernel)) rfl nd_X3_init ⟨Nat.le_of_ble_eq_true rfl, Nat.le_of_ble_eq_true rfl⟩) hI (fun h => ⟨trivial, trivial⟩) (fun _ => ⟨trivial, trivial⟩) rfl hl.1 (Nat.le_of_ble_eq_true rfl) dX0_init_9 ⟨Nat.le_of_ble_eq_true rfl, Nat.le_of_ble_eq_true rfl⟩ (fun H locs hI => ?_)
  obtain ⟨k5, hf⟩ := chk_b hf
  refine hp_0_0 (x := (some (gN s0))) hx hb hts hin_X0 hown kl_10 hI (isk_k k5) hin0 rfl dX0_init_12 (fun H locs hI => ?_)
  refine lv_aload_n hx hb dX0_init_15 rfl (lv_at hl 0 rfl) ?_
  refine lv_bipush (v := 7) hx hb dX0_init_16 (by decide) ?_
  refine hn_Span (N := 7) hx hb hts hown (by decide +kernel) hI trivial trivial (by decide) rfl (by decide) (Nat.le_of_ble_eq_true rfl) (Nat.le_of_ble_eq_true rfl) dX0_init_18 (fun H hI => ?_)
  refine W.widen (k := 4) (n := 82) (by decide) (by decide) ?_
  obtain ⟨x6, hx6, hf⟩ := bnd_b hf
  replace hx6 := Option.some.inj hx6
  rw [hx6] at hI
  have hk7 : gK x6 (gN (sR x3 0 h (some (gN s0)))) = 27 := by rw [← hx6]; exact nO_K
  obtain ⟨k8, hf⟩ := chk_b hf
  refine hp_0_6 (x := (some (gN (sR x3 0 h (some (gN s0)))))) hx hb hts hin_X0 hown kl_20 hI (isk_k k8) hin0 rfl dX0_init_21 (fun H locs hI => ?_)
  refine lv_aload_n hx hb dX0_init_24 rfl (lv_at hl 0 rfl) ?_
  refine lv_iconst (v := 3) hx hb dX0_init_25 (by decide) ?_
  refine hn_I (N := 3) hx hb hts (by decide +kernel) hI trivial trivial (by decide) rfl (by decide) (Nat.le_of_ble_eq_true rfl) (Nat.le_of_ble_eq_true rfl) dX0_init_26 (fun H hI => ?_)
  refine W.widen (k := 5) (n := 85) (by decide) (by decide) ?_
  obtain ⟨x9, hx9, hf⟩ := bnd_b hf
  replace hx9 := Option.some.inj hx9
  rw [hx9] at hI
  have hk10 : gK x9 (gN (sR x6 6 h (some (gN (sR x3 0 h (some (gN s0))))))) = 22 := by rw [← hx9]; exact nO_K
  obtain ⟨k11, hf⟩ := chk_b hf
  refine hp_0_7 (x := (some (gN (sR x6 6 h (some (gN (sR x3 0 h (some (gN s0))))))))) hx hb hts hin_X0 hown kl_24 hI (isk_k k11) hin0 rfl dX0_init_28 (fun H locs hI => ?_)
  obtain ⟨x12, hx12, hf⟩ := bnd_b hf
  replace hx12 := Option.some.inj hx12
  rw [hx12] at hI
  have hk13 : gK x12 (gN (sR x6 6 h (some (gN (sR x3 0 h (some (gN s0))))))) = 22 := by rw [← hx12]; exact (gK_sR.trans hk10)
  have hk14 : gK x12 h = 1 := by rw [← hx12]; exact (gK_sR.trans (isk_k k11))
  refine lv_iconst (v := 0) hx hb dX0_init_31 (by decide) ?_
  refine lv_istore_n (lv' := [(1, .int (0 : Int32)), (0, .ref h)]) hx hb dX0_init_32 rfl hl (by decide) rfl (fun ls hl => ?_)
  refine lv_iload_n hx hb dX0_init_33 rfl (lv_at hl 0 rfl) ?_
  refine lv_aload_n hx hb dX0_init_34 rfl (lv_at hl 1 rfl) ?_
  refine hg_0_6 hx hb hts hin_X0 hown kl_20 hI hk14 dX0_init_35 ?_
  obtain ⟨b15, hd16, hf⟩ := bnd_b hf
  obtain ⟨hq17, hk18⟩ := dr_e hd16
  refine W.eq (g2 := F0 m 38 ls [.ref b15, .int (0 : Int32)]) (by rw [hq17]; rfl) ?_
  refine ha_27 hx hb hI hk18 dX0_init_38 ?_
  refine lv_icmp_ge (tgt := 61) hx hb dX0_init_39 (by decide) (fun c19 => ?_) (fun c19 => ?_)
  · replace hf := ifp c19 hf
    exact absurd hf (by simp)
  · replace hf := ifn c19 hf
    refine lv_aload_n hx hb dX0_init_42 rfl (lv_at hl 1 rfl) ?_
    refine hg_0_6 hx hb hts hin_X0 hown kl_20 hI hk14 dX0_init_43 ?_
    refine lv_iload_n hx hb dX0_init_46 rfl (lv_at hl 0 rfl) ?_
    refine hn_9 hx hb hts hin_X9 hown (by decide +kernel) (by decide +kernel) (by decide +kernel) hI trivial trivial (Nat.le_of_ble_eq_true rfl) (Nat.le_of_ble_eq_true rfl) dX0_init_47 (fun H hI => ?_)
    refine W.widen (k := 6) (n := 90) (by decide) (by decide) ?_
    obtain ⟨x20, hx20, hf⟩ := bnd_b hf
    replace hx20 := Option.some.inj hx20
    rw [hx20] at hI
    have hk21 : gK x20 (gN x12) = 10 := by rw [← hx20]; exact nO_K
    refine lv_dup hx hb dX0_init_50 rfl ?_
    obtain ⟨x22, hc23, hf⟩ := bnd_b hf
    refine hcall_Iv (ex2 := True) (As := []) (rest := [.ref (gN x12), .int (0 : Int32), va_rf (gR x12 6 h)]) (n := 0) ⟨hx, hb, hml, hown, hts⟩ (ch_X9_init l D cy (gN x12) x20 x22 hc23) (cwI 0 hts gX0_init_X9_init rfl rfl rfl (hts (.initialized RX9) (by decide +kernel)) (hts (.methodLink RX0 28 yX9_init) (by decide +kernel)) (hts (.instanceMethod yX9_init) (by decide +kernel)) rfl nd_X9_init ⟨Nat.le_of_ble_eq_true rfl, Nat.le_of_ble_eq_true rfl⟩) hI (fun h => ⟨trivial, trivial⟩) (fun _ => ⟨trivial, trivial⟩) rfl hl.1 (by simp [cat_rf, cat_i, cat_l, cat_r]) dX0_init_51 ⟨Nat.le_of_ble_eq_true rfl, Nat.le_of_ble_eq_true rfl⟩ (fun H locs hI => ?_)
    obtain ⟨k24, hf⟩ := chk_b hf
    refine W.eq (g2 := F0 m 54 ls [.ref (gN x12), .int (0 : Int32), .ref b15]) (by rw [hq17]; rfl) ?_
    obtain ⟨k25, hf⟩ := chk_b hf
    obtain ⟨k26, hf⟩ := chk_b hf
    refine hs_Span hx hb hI (isk_k k25) k26 (isk_k k24) dX0_init_54 (fun H locs hI => ?_)
    refine lv_iinc (v := ((0 : Int32) + 1)) (lv' := [(1, .int ((0 : Int32) + 1)), (0, .ref h)]) hx hb dX0_init_55 hl (k := 0) rfl (ci_ _ (by decide)) (by decide) rfl (fun ls hl => ?_)
    refine lv_goto (tgt := 33) hx hb dX0_init_58 (by decide) ?_
    refine lv_iload_n hx hb dX0_init_33 rfl (lv_at hl 0 rfl) ?_
    refine lv_aload_n hx hb dX0_init_34 rfl (lv_at hl 1 rfl) ?_
    obtain ⟨k27, hf⟩ := chk_b hf
    refine hg_0_6 hx hb hts hin_X0 hown kl_20 hI (gK_sQ.trans (isk_k k27)) dX0_init_35 ?_
    obtain ⟨b28, hd29, hf⟩ := bnd_b hf
    obtain ⟨hq30, hk31⟩ := dr_e hd29
    refine W.eq (g2 := F0 m 38 ls [.ref b28, .int ((0 : Int32) + 1)]) (by rw [hq30]; rfl) ?_
    refine ha_27 hx hb hI (gK_sQ.trans hk31) dX0_init_38 ?_
    refine lv_icmp_ge (tgt := 61) hx hb dX0_init_39 (by decide) (fun c32 => ?_) (fun c32 => ?_)
    · replace hf := ifp c32 hf
      exact absurd hf (by simp)
    · replace hf := ifn c32 hf
      refine lv_aload_n hx hb dX0_init_42 rfl (lv_at hl 1 rfl) ?_
      refine hg_0_6 hx hb hts hin_X0 hown kl_20 hI (gK_sQ.trans (isk_k k27)) dX0_init_43 ?_
      refine lv_iload_n hx hb dX0_init_46 rfl (lv_at hl 0 rfl) ?_
      refine hn_9 hx hb hts hin_X9 hown (by decide +kernel) (by decide +kernel) (by decide +kernel) hI trivial trivial (Nat.le_of_ble_eq_true rfl) (Nat.le_of_ble_eq_true rfl) dX0_init_47 (fun H hI => ?_)
      refine W.widen (k := 16) (n := 288) (by decide) (by decide) ?_
      obtain ⟨x33, hx33, hf⟩ := bnd_b hf
      replace hx33 := Option.some.inj hx33
      rw [hx33] at hI
      have hk34 : gK x33 (gN (sQ x22 b15 (0 : Int32).toNatClampNeg (some (gN x12)))) = 10 := by rw [← hx33]; exact nO_K
      refine lv_dup hx hb dX0_init_50 rfl ?_
      obtain ⟨x35, hc36, hf⟩ := bnd_b hf
      refine hcall_Iv (ex2 := True) (As := []) (rest := [.ref (gN (sQ x22 b15 (0 : Int32).toNatClampNeg (some (gN x12)))), .int ((0 : Int32) + 1), va_rf (gR (sQ x22 b15 (0 : Int32).toNatClampNeg (some (gN x12))) 6 h)]) (n := 0) ⟨hx, hb, hml, hown, hts⟩ (ch_X9_init l D cy (gN (sQ x22 b15 (0 : Int32).toNatClampNeg (some (gN x12)))) x33 x35 hc36) (cwI 0 hts gX0_init_X9_init rfl rfl rfl (hts (.initialized RX9) (by decide +kernel)) (hts (.methodLink RX0 28 yX9_init) (by decide +kernel)) (hts (.instanceMethod yX9_init) (by decide +kernel)) rfl nd_X9_init ⟨Nat.le_of_ble_eq_true rfl, Nat.le_of_ble_eq_true rfl⟩) hI (fun h => ⟨trivial, trivial⟩) (fun _ => ⟨trivial, trivial⟩) rfl hl.1 (by simp [cat_rf, cat_i, cat_l, cat_r]) dX0_init_51 ⟨Nat.le_of_ble_eq_true rfl, Nat.le_of_ble_eq_true rfl⟩ (fun H locs hI => ?_)
      obtain ⟨k37, hf⟩ := chk_b hf
      refine W.eq (g2 := F0 m 54 ls [.ref (gN (sQ x22 b15 (0 : Int32).toNatClampNeg (some (gN x12)))), .int ((0 : Int32) + 1), .ref b28]) (by rw [hq30]; rfl) ?_
      obtain ⟨k38, hf⟩ := chk_b hf
      obtain ⟨k39, hf⟩ := chk_b hf
      refine hs_Span hx hb hI (isk_k k38) k39 (isk_k k37) dX0_init_54 (fun H locs hI => ?_)
      obtain ⟨x40, hx40, hf⟩ := bnd_b hf
      replace hx40 := Option.some.inj hx40
      rw [hx40] at hI
      have hk41 : gK x40 (gN (sQ x22 b15 (0 : Int32).toNatClampNeg (some (gN x12)))) = 10 := by rw [← hx40]; exact (gK_sQ.trans (isk_k k37))
      have hk42 : gK x40 b28 = 27 := by rw [← hx40]; exact (gK_sQ.trans (isk_k k38))
      refine lv_iinc (v := (((0 : Int32) + 1) + 1)) (lv' := [(1, .int (((0 : Int32) + 1) + 1)), (0, .ref h)]) hx hb dX0_init_55 hl (k := 0) rfl (ci_ _ (by decide)) (by decide) rfl (fun ls hl => ?_)
      refine lv_goto (tgt := 33) hx hb dX0_init_58 (by decide) ?_
      refine lv_iload_n hx hb dX0_init_33 rfl (lv_at hl 0 rfl) ?_
      refine lv_aload_n hx hb dX0_init_34 rfl (lv_at hl 1 rfl) ?_
      obtain ⟨k43, hf⟩ := chk_b hf
      refine hg_0_6 hx hb hts hin_X0 hown kl_20 hI (isk_k k43) dX0_init_35 ?_
      obtain ⟨b44, hd45, hf⟩ := bnd_b hf
      obtain ⟨hq46, hk47⟩ := dr_e hd45
      refine W.eq (g2 := F0 m 38 ls [.ref b44, .int (((0 : Int32) + 1) + 1)]) (by rw [hq46]; rfl) ?_
      refine ha_27 hx hb hI hk47 dX0_init_38 ?_
      refine lv_icmp_ge (tgt := 61) hx hb dX0_init_39 (by decide) (fun c48 => ?_) (fun c48 => ?_)
      · replace hf := ifp c48 hf
        exact absurd hf (by simp)
      · replace hf := ifn c48 hf
        refine lv_aload_n hx hb dX0_init_42 rfl (lv_at hl 1 rfl) ?_
        refine hg_0_6 hx hb hts hin_X0 hown kl_20 hI (isk_k k43) dX0_init_43 ?_
        refine lv_iload_n hx hb dX0_init_46 rfl (lv_at hl 0 rfl) ?_
        refine hn_9 hx hb hts hin_X9 hown (by decide +kernel) (by decide +kernel) (by decide +kernel) hI trivial trivial (Nat.le_of_ble_eq_true rfl) (Nat.le_of_ble_eq_true rfl) dX0_init_47 (fun H hI => ?_)
        refine W.widen (k := 26) (n := 486) (by decide) (by decide) ?_
        obtain ⟨x49, hx49, hf⟩ := bnd_b hf
        replace hx49 := Option.some.inj hx49
        rw [hx49] at hI
        have hk50 : gK x49 (gN x40) = 10 := by rw [← hx49]; exact nO_K
        refine lv_dup hx hb dX0_init_50 rfl ?_
        obtain ⟨x51, hc52, hf⟩ := bnd_b hf
        refine hcall_Iv (ex2 := True) (As := []) (rest := [.ref (gN x40), .int (((0 : Int32) + 1) + 1), va_rf (gR x40 6 h)]) (n := 0) ⟨hx, hb, hml, hown, hts⟩ (ch_X9_init l D cy (gN x40) x49 x51 hc52) (cwI 0 hts gX0_init_X9_init rfl rfl rfl (hts (.initialized RX9) (by decide +kernel)) (hts (.methodLink RX0 28 yX9_init) (by decide +kernel)) (hts (.instanceMethod yX9_init) (by decide +kernel)) rfl nd_X9_init ⟨Nat.le_of_ble_eq_true rfl, Nat.le_of_ble_eq_true rfl⟩) hI (fun h => ⟨trivial, trivial⟩) (fun _ => ⟨trivial, trivial⟩) rfl hl.1 (by simp [cat_rf, cat_i, cat_l, cat_r]) dX0_init_51 ⟨Nat.le_of_ble_eq_true rfl, Nat.le_of_ble_eq_true rfl⟩ (fun H locs hI => ?_)
        obtain ⟨k53, hf⟩ := chk_b hf
        refine W.eq (g2 := F0 m 54 ls [.ref (gN x40), .int (((0 : Int32) + 1) + 1), .ref b44]) (by rw [hq46]; rfl) ?_
        obtain ⟨k54, hf⟩ := chk_b hf
        obtain ⟨k55, hf⟩ := chk_b hf
        refine hs_Span hx hb hI (isk_k k54) k55 (isk_k k53) dX0_init_54 (fun H locs hI => ?_)
        refine lv_iinc (v := ((((0 : Int32) + 1) + 1) + 1)) (lv' := [(1, .int ((((0 : Int32) + 1) + 1) + 1)), (0, .ref h)]) hx hb dX0_init_55 hl (k := 0) rfl (ci_ _ (by decide)) (by decide) rfl (fun ls hl => ?_)
        refine lv_goto (tgt := 33) hx hb dX0_init_58 (by decide) ?_
        refine lv_iload_n hx hb dX0_init_33 rfl (lv_at hl 0 rfl) ?_
        refine lv_aload_n hx hb dX0_init_34 rfl (lv_at hl 1 rfl) ?_
        obtain ⟨k56, hf⟩ := chk_b hf
        refine hg_0_6 hx hb hts hin_X0 hown kl_20 hI (gK_sQ.trans (isk_k k56)) dX0_init_35 ?_
        obtain ⟨b57, hd58, hf⟩ := bnd_b hf
        obtain ⟨hq59, hk60⟩ := dr_e hd58
        refine W.eq (g2 := F0 m 38 ls [.ref b57, .int ((((0 : Int32) + 1) + 1) + 1)]) (by rw [hq59]; rfl) ?_
        refine ha_27 hx hb hI (gK_sQ.trans hk60) dX0_init_38 ?_
        refine lv_icmp_ge (tgt := 61) hx hb dX0_init_39 (by decide) (fun c61 => ?_) (fun c61 => ?_)
        · replace hf := ifp c61 hf
          exact absurd hf (by simp)
        · replace hf := ifn c61 hf
          refine lv_aload_n hx hb dX0_init_42 rfl (lv_at hl 1 rfl) ?_
          refine hg_0_6 hx hb hts hin_X0 hown kl_20 hI (gK_sQ.trans (isk_k k56)) dX0_init_43 ?_
          refine lv_iload_n hx hb dX0_init_46 rfl (lv_at hl 0 rfl) ?_
          refine hn_9 hx hb hts hin_X9 hown (by decide +kernel) (by decide +kernel) (by decide +kernel) hI trivial trivial (Nat.le_of_ble_eq_true rfl) (Nat.le_of_ble_eq_true rfl) dX0_init_47 (fun H hI => ?_)
          refine W.widen (k := 36) (n := 684) (by decide) (by decide) ?_
          obtain ⟨x62, hx62, hf⟩ := bnd_b hf
          replace hx62 := Option.some.inj hx62
          rw [hx62] at hI
          have hk63 : gK x62 (gN (sQ x51 b44 (((0 : Int32) + 1) + 1).toNatClampNeg (some (gN x40)))) = 10 := by rw [← hx62]; exact nO_K
          refine lv_dup hx hb dX0_init_50 rfl ?_
          obtain ⟨x64, hc65, hf⟩ := bnd_b hf
          refine hcall_Iv (ex2 := True) (As := []) (rest := [.ref (gN (sQ x51 b44 (((0 : Int32) + 1) + 1).toNatClampNeg (some (gN x40)))), .int ((((0 : Int32) + 1) + 1) + 1), va_rf (gR (sQ x51 b44 (((0 : Int32) + 1) + 1).toNatClampNeg (some (gN x40))) 6 h)]) (n := 0) ⟨hx, hb, hml, hown, hts⟩ (ch_X9_init l D cy (gN (sQ x51 b44 (((0 : Int32) + 1) + 1).toNatClampNeg (some (gN x40)))) x62 x64 hc65) (cwI 0 hts gX0_init_X9_init rfl rfl rfl (hts (.initialized RX9) (by decide +kernel)) (hts (.methodLink RX0 28 yX9_init) (by decide +kernel)) (hts (.instanceMethod yX9_init) (by decide +kernel)) rfl nd_X9_init ⟨Nat.le_of_ble_eq_true rfl, Nat.le_of_ble_eq_true rfl⟩) hI (fun h => ⟨trivial, trivial⟩) (fun _ => ⟨trivial, trivial⟩) rfl hl.1 (by simp [cat_rf, cat_i, cat_l, cat_r]) dX0_init_51 ⟨Nat.le_of_ble_eq_true rfl, Nat.le_of_ble_eq_true rfl⟩ (fun H locs hI => ?_)
          obtain ⟨k66, hf⟩ := chk_b hf
          refine W.eq (g2 := F0 m 54 ls [.ref (gN (sQ x51 b44 (((0 : Int32) + 1) + 1).toNatClampNeg (some (gN x40)))), .int ((((0 : Int32) + 1) + 1) + 1), .ref b57]) (by rw [hq59]; rfl) ?_
          obtain ⟨k67, hf⟩ := chk_b hf
          obtain ⟨k68, hf⟩ := chk_b hf
          refine hs_Span hx hb hI (isk_k k67) k68 (isk_k k66) dX0_init_54 (fun H locs hI => ?_)
          obtain ⟨x69, hx69, hf⟩ := bnd_b hf
          replace hx69 := Option.some.inj hx69
          rw [hx69] at hI
          have hk70 : gK x69 (gN (sQ x51 b44 (((0 : Int32) + 1) + 1).toNatClampNeg (some (gN x40)))) = 10 := by rw [← hx69]; exact (gK_sQ.trans (isk_k k66))
          have hk71 : gK x69 b57 = 27 := by rw [← hx69]; exact (gK_sQ.trans (isk_k k67))
          refine lv_iinc (v := (((((0 : Int32) + 1) + 1) + 1) + 1)) (lv' := [(1, .int (((((0 : Int32) + 1) + 1) + 1) + 1)), (0, .ref h)]) hx hb dX0_init_55 hl (k := 0) rfl (ci_ _ (by decide)) (by decide) rfl (fun ls hl => ?_)
          refine lv_goto (tgt := 33) hx hb dX0_init_58 (by decide) ?_
          refine lv_iload_n hx hb dX0_init_33 rfl (lv_at hl 0 rfl) ?_
          refine lv_aload_n hx hb dX0_init_34 rfl (lv_at hl 1 rfl) ?_
          obtain ⟨k72, hf⟩ := chk_b hf
          refine hg_0_6 hx hb hts hin_X0 hown kl_20 hI (isk_k k72) dX0_init_35 ?_
          obtain ⟨b73, hd74, hf⟩ := bnd_b hf
          obtain ⟨hq75, hk76⟩ := dr_e hd74
          refine W.eq (g2 := F0 m 38 ls [.ref b73, .int (((((0 : Int32) + 1) + 1) + 1) + 1)]) (by rw [hq75]; rfl) ?_
          refine ha_27 hx hb hI hk76 dX0_init_38 ?_
          refine lv_icmp_ge (tgt := 61) hx hb dX0_init_39 (by decide) (fun c77 => ?_) (fun c77 => ?_)
          · replace hf := ifp c77 hf
            exact absurd hf (by simp)
          · replace hf := ifn c77 hf
            refine lv_aload_n hx hb dX0_init_42 rfl (lv_at hl 1 rfl) ?_
            refine hg_0_6 hx hb hts hin_X0 hown kl_20 hI (isk_k k72) dX0_init_43 ?_
            refine lv_iload_n hx hb dX0_init_46 rfl (lv_at hl 0 rfl) ?_
            refine hn_9 hx hb hts hin_X9 hown (by decide +kernel) (by decide +kernel) (by decide +kernel) hI trivial trivial (Nat.le_of_ble_eq_true rfl) (Nat.le_of_ble_eq_true rfl) dX0_init_47 (fun H hI => ?_)
            refine W.widen (k := 46) (n := 882) (by decide) (by decide) ?_
            obtain ⟨x78, hx78, hf⟩ := bnd_b hf
            replace hx78 := Option.some.inj hx78
            rw [hx78] at hI
            have hk79 : gK x78 (gN x69) = 10 := by rw [← hx78]; exact nO_K
            refine lv_dup hx hb dX0_init_50 rfl ?_
            obtain ⟨x80, hc81, hf⟩ := bnd_b hf
            refine hcall_Iv (ex2 := True) (As := []) (rest := [.ref (gN x69), .int (((((0 : Int32) + 1) + 1) + 1) + 1), va_rf (gR x69 6 h)]) (n := 0) ⟨hx, hb, hml, hown, hts⟩ (ch_X9_init l D cy (gN x69) x78 x80 hc81) (cwI 0 hts gX0_init_X9_init rfl rfl rfl (hts (.initialized RX9) (by decide +kernel)) (hts (.methodLink RX0 28 yX9_init) (by decide +kernel)) (hts (.instanceMethod yX9_init) (by decide +kernel)) rfl nd_X9_init ⟨Nat.le_of_ble_eq_true rfl, Nat.le_of_ble_eq_true rfl⟩) hI (fun h => ⟨trivial, trivial⟩) (fun _ => ⟨trivial, trivial⟩) rfl hl.1 (by simp [cat_rf, cat_i, cat_l, cat_r]) dX0_init_51 ⟨Nat.le_of_ble_eq_true rfl, Nat.le_of_ble_eq_true rfl⟩ (fun H locs hI => ?_)
            obtain ⟨k82, hf⟩ := chk_b hf
            refine W.eq (g2 := F0 m 54 ls [.ref (gN x69), .int (((((0 : Int32) + 1) + 1) + 1) + 1), .ref b73]) (by rw [hq75]; rfl) ?_
            obtain ⟨k83, hf⟩ := chk_b hf
            obtain ⟨k84, hf⟩ := chk_b hf
            refine hs_Span hx hb hI (isk_k k83) k84 (isk_k k82) dX0_init_54 (fun H locs hI => ?_)
            obtain ⟨x85, hx85, hf⟩ := bnd_b hf
            replace hx85 := Option.some.inj hx85
            rw [hx85] at hI
            have hk86 : gK x85 (gN x69) = 10 := by rw [← hx85]; exact (gK_sQ.trans (isk_k k82))
            have hk87 : gK x85 b73 = 27 := by rw [← hx85]; exact (gK_sQ.trans (isk_k k83))
            refine lv_iinc (v := ((((((0 : Int32) + 1) + 1) + 1) + 1) + 1)) (lv' := [(1, .int ((((((0 : Int32) + 1) + 1) + 1) + 1) + 1)), (0, .ref h)]) hx hb dX0_init_55 hl (k := 0) rfl (ci_ _ (by decide)) (by decide) rfl (fun ls hl => ?_)
            refine lv_goto (tgt := 33) hx hb dX0_init_58 (by decide) ?_
            refine lv_iload_n hx hb dX0_init_33 rfl (lv_at hl 0 rfl) ?_
            refine lv_aload_n hx hb dX0_init_34 rfl (lv_at hl 1 rfl) ?_
            obtain ⟨k88, hf⟩ := chk_b hf
            refine hg_0_6 hx hb hts hin_X0 hown kl_20 hI (isk_k k88) dX0_init_35 ?_
            obtain ⟨b89, hd90, hf⟩ := bnd_b hf
            obtain ⟨hq91, hk92⟩ := dr_e hd90
            refine W.eq (g2 := F0 m 38 ls [.ref b89, .int ((((((0 : Int32) + 1) + 1) + 1) + 1) + 1)]) (by rw [hq91]; rfl) ?_
            refine ha_27 hx hb hI hk92 dX0_init_38 ?_
            refine lv_icmp_ge (tgt := 61) hx hb dX0_init_39 (by decide) (fun c93 => ?_) (fun c93 => ?_)
            · replace hf := ifp c93 hf
              exact absurd hf (by simp)
            · replace hf := ifn c93 hf
              refine lv_aload_n hx hb dX0_init_42 rfl (lv_at hl 1 rfl) ?_
              refine hg_0_6 hx hb hts hin_X0 hown kl_20 hI (isk_k k88) dX0_init_43 ?_
              refine lv_iload_n hx hb dX0_init_46 rfl (lv_at hl 0 rfl) ?_
              refine hn_9 hx hb hts hin_X9 hown (by decide +kernel) (by decide +kernel) (by decide +kernel) hI trivial trivial (Nat.le_of_ble_eq_true rfl) (Nat.le_of_ble_eq_true rfl) dX0_init_47 (fun H hI => ?_)
              refine W.widen (k := 56) (n := 1080) (by decide) (by decide) ?_
              obtain ⟨x94, hx94, hf⟩ := bnd_b hf
              replace hx94 := Option.some.inj hx94
              rw [hx94] at hI
              have hk95 : gK x94 (gN x85) = 10 := by rw [← hx94]; exact nO_K
              refine lv_dup hx hb dX0_init_50 rfl ?_
              obtain ⟨x96, hc97, hf⟩ := bnd_b hf
              refine hcall_Iv (ex2 := True) (As := []) (rest := [.ref (gN x85), .int ((((((0 : Int32) + 1) + 1) + 1) + 1) + 1), va_rf (gR x85 6 h)]) (n := 0) ⟨hx, hb, hml, hown, hts⟩ (ch_X9_init l D cy (gN x85) x94 x96 hc97) (cwI 0 hts gX0_init_X9_init rfl rfl rfl (hts (.initialized RX9) (by decide +kernel)) (hts (.methodLink RX0 28 yX9_init) (by decide +kernel)) (hts (.instanceMethod yX9_init) (by decide +kernel)) rfl nd_X9_init ⟨Nat.le_of_ble_eq_true rfl, Nat.le_of_ble_eq_true rfl⟩) hI (fun h => ⟨trivial, trivial⟩) (fun _ => ⟨trivial, trivial⟩) rfl hl.1 (by simp [cat_rf, cat_i, cat_l, cat_r]) dX0_init_51 ⟨Nat.le_of_ble_eq_true rfl, Nat.le_of_ble_eq_true rfl⟩ (fun H locs hI => ?_)
              obtain ⟨k98, hf⟩ := chk_b hf
              refine W.eq (g2 := F0 m 54 ls [.ref (gN x85), .int ((((((0 : Int32) + 1) + 1) + 1) + 1) + 1), .ref b89]) (by rw [hq91]; rfl) ?_
              obtain ⟨k99, hf⟩ := chk_b hf
              obtain ⟨k100, hf⟩ := chk_b hf
              refine hs_Span hx hb hI (isk_k k99) k100 (isk_k k98) dX0_init_54 (fun H locs hI => ?_)
              obtain ⟨x101, hx101, hf⟩ := bnd_b hf
              replace hx101 := Option.some.inj hx101
              rw [hx101] at hI
              have hk102 : gK x101 (gN x85) = 10 := by rw [← hx101]; exact (gK_sQ.trans (isk_k k98))
              have hk103 : gK x101 b89 = 27 := by rw [← hx101]; exact (gK_sQ.trans (isk_k k99))
              refine lv_iinc (v := (((((((0 : Int32) + 1) + 1) + 1) + 1) + 1) + 1)) (lv' := [(1, .int (((((((0 : Int32) + 1) + 1) + 1) + 1) + 1) + 1)), (0, .ref h)]) hx hb dX0_init_55 hl (k := 0) rfl (ci_ _ (by decide)) (by decide) rfl (fun ls hl => ?_)
              refine lv_goto (tgt := 33) hx hb dX0_init_58 (by decide) ?_
              refine lv_iload_n hx hb dX0_init_33 rfl (lv_at hl 0 rfl) ?_
              refine lv_aload_n hx hb dX0_init_34 rfl (lv_at hl 1 rfl) ?_
              obtain ⟨k104, hf⟩ := chk_b hf
              refine hg_0_6 hx hb hts hin_X0 hown kl_20 hI (isk_k k104) dX0_init_35 ?_
              obtain ⟨b105, hd106, hf⟩ := bnd_b hf
              obtain ⟨hq107, hk108⟩ := dr_e hd106
              refine W.eq (g2 := F0 m 38 ls [.ref b105, .int (((((((0 : Int32) + 1) + 1) + 1) + 1) + 1) + 1)]) (by rw [hq107]; rfl) ?_
              refine ha_27 hx hb hI hk108 dX0_init_38 ?_
              refine lv_icmp_ge (tgt := 61) hx hb dX0_init_39 (by decide) (fun c109 => ?_) (fun c109 => ?_)
              · replace hf := ifp c109 hf
                exact absurd hf (by simp)
              · replace hf := ifn c109 hf
                refine lv_aload_n hx hb dX0_init_42 rfl (lv_at hl 1 rfl) ?_
                refine hg_0_6 hx hb hts hin_X0 hown kl_20 hI (isk_k k104) dX0_init_43 ?_
                refine lv_iload_n hx hb dX0_init_46 rfl (lv_at hl 0 rfl) ?_
                refine hn_9 hx hb hts hin_X9 hown (by decide +kernel) (by decide +kernel) (by decide +kernel) hI trivial trivial (Nat.le_of_ble_eq_true rfl) (Nat.le_of_ble_eq_true rfl) dX0_init_47 (fun H hI => ?_)
                refine W.widen (k := 66) (n := 1278) (by decide) (by decide) ?_
                obtain ⟨x110, hx110, hf⟩ := bnd_b hf
                replace hx110 := Option.some.inj hx110
                rw [hx110] at hI
                have hk111 : gK x110 (gN x101) = 10 := by rw [← hx110]; exact nO_K
                refine lv_dup hx hb dX0_init_50 rfl ?_
                obtain ⟨x112, hc113, hf⟩ := bnd_b hf
                refine hcall_Iv (ex2 := True) (As := []) (rest := [.ref (gN x101), .int (((((((0 : Int32) + 1) + 1) + 1) + 1) + 1) + 1), va_rf (gR x101 6 h)]) (n := 0) ⟨hx, hb, hml, hown, hts⟩ (ch_X9_init l D cy (gN x101) x110 x112 hc113) (cwI 0 hts gX0_init_X9_init rfl rfl rfl (hts (.initialized RX9) (by decide +kernel)) (hts (.methodLink RX0 28 yX9_init) (by decide +kernel)) (hts (.instanceMethod yX9_init) (by decide +kernel)) rfl nd_X9_init ⟨Nat.le_of_ble_eq_true rfl, Nat.le_of_ble_eq_true rfl⟩) hI (fun h => ⟨trivial, trivial⟩) (fun _ => ⟨trivial, trivial⟩) rfl hl.1 (by simp [cat_rf, cat_i, cat_l, cat_r]) dX0_init_51 ⟨Nat.le_of_ble_eq_true rfl, Nat.le_of_ble_eq_true rfl⟩ (fun H locs hI => ?_)
                obtain ⟨k114, hf⟩ := chk_b hf
                refine W.eq (g2 := F0 m 54 ls [.ref (gN x101), .int (((((((0 : Int32) + 1) + 1) + 1) + 1) + 1) + 1), .ref b105]) (by rw [hq107]; rfl) ?_
                obtain ⟨k115, hf⟩ := chk_b hf
                obtain ⟨k116, hf⟩ := chk_b hf
                refine hs_Span hx hb hI (isk_k k115) k116 (isk_k k114) dX0_init_54 (fun H locs hI => ?_)
                obtain ⟨x117, hx117, hf⟩ := bnd_b hf
                replace hx117 := Option.some.inj hx117
                rw [hx117] at hI
                have hk118 : gK x117 (gN x101) = 10 := by rw [← hx117]; exact (gK_sQ.trans (isk_k k114))
                have hk119 : gK x117 b105 = 27 := by rw [← hx117]; exact (gK_sQ.trans (isk_k k115))
                refine lv_iinc (v := ((((((((0 : Int32) + 1) + 1) + 1) + 1) + 1) + 1) + 1)) (lv' := [(1, .int ((((((((0 : Int32) + 1) + 1) + 1) + 1) + 1) + 1) + 1)), (0, .ref h)]) hx hb dX0_init_55 hl (k := 0) rfl (ci_ _ (by decide)) (by decide) rfl (fun ls hl => ?_)
                refine lv_goto (tgt := 33) hx hb dX0_init_58 (by decide) ?_
                refine lv_iload_n hx hb dX0_init_33 rfl (lv_at hl 0 rfl) ?_
                refine lv_aload_n hx hb dX0_init_34 rfl (lv_at hl 1 rfl) ?_
                obtain ⟨k120, hf⟩ := chk_b hf
                refine hg_0_6 hx hb hts hin_X0 hown kl_20 hI (isk_k k120) dX0_init_35 ?_
                obtain ⟨b121, hd122, hf⟩ := bnd_b hf
                obtain ⟨hq123, hk124⟩ := dr_e hd122
                refine W.eq (g2 := F0 m 38 ls [.ref b121, .int ((((((((0 : Int32) + 1) + 1) + 1) + 1) + 1) + 1) + 1)]) (by rw [hq123]; rfl) ?_
                refine ha_27 hx hb hI hk124 dX0_init_38 ?_
                refine lv_icmp_ge (tgt := 61) hx hb dX0_init_39 (by decide) (fun c125 => ?_) (fun c125 => ?_)
                · replace hf := ifp c125 hf
                  refine lv_aload_n hx hb dX0_init_61 rfl (lv_at hl 1 rfl) ?_
                  refine hn_1 hx hb hts hin_X1 hown (by decide +kernel) (by decide +kernel) (by decide +kernel) hI trivial trivial (Nat.le_of_ble_eq_true rfl) (Nat.le_of_ble_eq_true rfl) dX0_init_62 (fun H hI => ?_)
                  refine W.widen (k := 76) (n := 1483) (by decide) (by decide) ?_
                  obtain ⟨x126, hx126, hf⟩ := bnd_b hf
                  replace hx126 := Option.some.inj hx126
                  rw [hx126] at hI
                  have hk127 : gK x126 (gN x117) = 2 := by rw [← hx126]; exact nO_K
                  refine lv_dup hx hb dX0_init_65 rfl ?_
                  refine lv_aload_n hx hb dX0_init_66 rfl (lv_at hl 1 rfl) ?_
                  obtain ⟨k128, hf⟩ := chk_b hf
                  refine hg_0_0 hx hb hts hin_X0 hown kl_10 hI (isk_k k128) dX0_init_67 ?_
                  refine lv_aload_n hx hb dX0_init_70 rfl (lv_at hl 1 rfl) ?_
                  refine hg_0_6 hx hb hts hin_X0 hown kl_20 hI (isk_k k128) dX0_init_71 ?_
                  obtain ⟨x129, hc130, hf⟩ := bnd_b hf
                  refine hcall_Iv (ex2 := True) (As := [va_rf (gR x126 0 h), va_rf (gR x126 6 h)]) (rest := [.ref (gN x117), .ref h]) (n := 2) ⟨hx, hb, hml, hown, hts⟩ (ch_X1_init l D cy (gN x117) (gR x126 0 h) (gR x126 6 h) x126 x129 hc130) (cwI 2 hts gX0_init_X1_init rfl rfl rfl (hts (.initialized RX1) (by decide +kernel)) (hts (.methodLink RX0 29 yX1_init) (by decide +kernel)) (hts (.instanceMethod yX1_init) (by decide +kernel)) rfl nd_X1_init ⟨Nat.le_of_ble_eq_true rfl, Nat.le_of_ble_eq_true rfl⟩) hI (fun h => ⟨trivial, trivial⟩) (fun _ => ⟨trivial, trivial⟩) rfl hl.1 (Nat.le_of_ble_eq_true rfl) dX0_init_74 ⟨Nat.le_of_ble_eq_true rfl, Nat.le_of_ble_eq_true rfl⟩ (fun H locs hI => ?_)
                  obtain ⟨k131, hf⟩ := chk_b hf
                  refine hp_0_1 (x := (some (gN x117))) hx hb hts hin_X0 hown kl_32 hI (isk_k k131) hin0 rfl dX0_init_77 (fun H locs hI => ?_)
                  refine lv_aload_n hx hb dX0_init_80 rfl (lv_at hl 1 rfl) ?_
                  refine hn_2 hx hb hts hin_X2 hown (by decide +kernel) (by decide +kernel) (by decide +kernel) hI trivial trivial (Nat.le_of_ble_eq_true rfl) (Nat.le_of_ble_eq_true rfl) dX0_init_81 (fun H hI => ?_)
                  refine W.widen (k := 79) (n := 1506) (by decide) (by decide) ?_
                  obtain ⟨x132, hx132, hf⟩ := bnd_b hf
                  replace hx132 := Option.some.inj hx132
                  rw [hx132] at hI
                  have hk133 : gK x132 (gN (sR x129 1 h (some (gN x117)))) = 3 := by rw [← hx132]; exact nO_K
                  refine lv_dup hx hb dX0_init_84 rfl ?_
                  refine lv_aload_n hx hb dX0_init_85 rfl (lv_at hl 1 rfl) ?_
                  obtain ⟨k134, hf⟩ := chk_b hf
                  refine hg_0_0 hx hb hts hin_X0 hown kl_10 hI (isk_k k134) dX0_init_86 ?_
                  refine lv_aload_n hx hb dX0_init_89 rfl (lv_at hl 1 rfl) ?_
                  refine hg_0_6 hx hb hts hin_X0 hown kl_20 hI (isk_k k134) dX0_init_90 ?_
                  obtain ⟨x135, hc136, hf⟩ := bnd_b hf
                  refine hcall_Iv (ex2 := True) (As := [va_rf (gR x132 0 h), va_rf (gR x132 6 h)]) (rest := [.ref (gN (sR x129 1 h (some (gN x117)))), .ref h]) (n := 2) ⟨hx, hb, hml, hown, hts⟩ (ch_X2_init l D cy (gN (sR x129 1 h (some (gN x117)))) (gR x132 0 h) (gR x132 6 h) x132 x135 hc136) (cwI 2 hts gX0_init_X2_init rfl rfl rfl (hts (.initialized RX2) (by decide +kernel)) (hts (.methodLink RX0 38 yX2_init) (by decide +kernel)) (hts (.instanceMethod yX2_init) (by decide +kernel)) rfl nd_X2_init ⟨Nat.le_of_ble_eq_true rfl, Nat.le_of_ble_eq_true rfl⟩) hI (fun h => ⟨trivial, trivial⟩) (fun _ => ⟨trivial, trivial⟩) rfl hl.1 (Nat.le_of_ble_eq_true rfl) dX0_init_93 ⟨Nat.le_of_ble_eq_true rfl, Nat.le_of_ble_eq_true rfl⟩ (fun H locs hI => ?_)
                  obtain ⟨k137, hf⟩ := chk_b hf
                  refine hp_0_2 (x := (some (gN (sR x129 1 h (some (gN x117)))))) hx hb hts hin_X0 hown kl_39 hI (isk_k k137) hin0 rfl dX0_init_96 (fun H locs hI => ?_)
                  exact hret_v hx hb hr hlocks hI (by decide) (by decide) (fun _ => ⟨trivial, rfl⟩) (ret_e hK0 hf) dX0_init_99
                · replace hf := ifn c125 hf
                  exact absurd hf (by simp)

theorem nd_X0_rowError : yX0_rowError.cls ≠ "java/lang/invoke/MethodHandle" ∧ yX0_rowError.cls ≠ "java/lang/invoke/VarHandle" ∧ (parseMethodDescriptor yX0_rowError.desc).map (fun d => d.parameters.length) = some 4 := by decide +kernel
set_option maxHeartbeats 4000000 in
set_option maxRecDepth 100000 in
theorem ch_X0_rowError (l : Launch) (D : va_G) (cy : Nat → ClassId) (h : Nat) (a1 : Option Nat) (a2 : Int32) (a3 : Int32) (a4 : Int32) (s0 : HSt) (out : HSt × Int32) (hf : fh_X0_rowError h a1 a2 a3 a4 s0 = some out) : CHi l D cy yX0_rowError wsX0_rowError { frames := 2, cells := 0, slots := 0, locals := 44 } 0 0 False True [.ref h, va_rf a1, .int a2, .int a3, .int a4] s0 out := by
  refine Met.ofW (cc := cX0_rowError) (maxL := 5) (ret := (some .int)) (by decide) rfl ?_
  intro p e s m args below meth c s₁ B hml hv
  obtain ⟨rfl, hP, hK, hD0, hkx, hsz, hal⟩ := hv
  have hx := B.exec
  have hb := B.bytes
  have hr := B.returns
  have hts := atoms_spec (ws := wsX0_rowError) B.pre
  have hown : s.vm.findClass RX0 = some m.cls := findClass_of_methodNamed B.named
  have hlocks := B.notSynchronized
  have hI : HI D cy s s0 s0 s.heap [] 0 False True := ⟨hK, hP, hD0.weaken (fun k q hk _ => Or.inl (pl_mem hk)), va_S.rf, hsz.1, hkx, ⟨hsz, hal⟩, fun _ => rfl, Nat.le_refl _⟩
  have hin_X0 : ∀ w ∈ u_ws RX0 TX0 11, w ∈ wsX0_rowError := fun w hw => List.mem_cons_of_mem _ (List.mem_append_left _ (List.mem_append_right _ hw))
  have kl_24 : Cond.fieldLink RX0 24 "HalfBridge$Foresight" "row" "[I" ∈ wsX0_rowError := by decide +kernel
  have kl_84 : Cond.fieldLink RX0 84 "HalfBridge$Foresight" "rowSide" "I" ∈ wsX0_rowError := by decide +kernel
  have kl_92 : Cond.fieldLink RX0 92 "HalfBridge$Foresight" "rowDays" "I" ∈ wsX0_rowError := by decide +kernel
  have hl := lv_entry ([.ref h, va_rf a1, .int a2, .int a3, .int a4]) (n := 5) (by simp [lg_sl, cat_rf, cat_i, cat_l, cat_r])
  rw [lg_entry_eq]
  generalize (lg_sl ([.ref h, va_rf a1, .int a2, .int a3, .int a4]) ++ List.replicate (5 - (lg_sl ([.ref h, va_rf a1, .int a2, .int a3, .int a4])).length) Slot.unset).toArray = ls at hl ⊢
  have hl : lv_has ls 5 [(0, .ref h), (1, va_rf a1), (2, .int a2), (3, .int a3), (4, .int a4)] := (by simpa [lv_args, cat_rf, cat_i, cat_l, cat_r] using hl)
  obtain ⟨K0, hK0, hf⟩ := top_e hf
  unfold fh_X0_rowError at hf
  refine lv_iload_n hx hb dX0_rowError_0 rfl (lv_at hl 3 rfl) ?_
  refine lv_aload_n hx hb dX0_rowError_1 rfl (lv_at hl 0 rfl) ?_
  obtain ⟨k1, hf⟩ := chk_b hf
  refine hg_0_8 hx hb hts hin_X0 hown kl_84 hI (isk_k k1) dX0_rowError_2 ?_
  refine lv_icmp_ne (tgt := 27) hx hb dX0_rowError_5 (by decide) (fun c2 => ?_) (fun c2 => ?_)
  · replace hf := ifn c2 hf
    refine hq_aload_n hx hb dX0_rowError_27 rfl (lv_at hl 1 rfl) ?_
    refine lv_iload_n hx hb dX0_rowError_28 rfl (lv_at hl 3 rfl) ?_
    refine lv_iload_n hx hb dX0_rowError_29 rfl (lv_at hl 2 rfl) ?_
    obtain ⟨b3, hd4, hf⟩ := bnd_b hf
    obtain ⟨hq5, hk6⟩ := dr_e hd4
    refine W.eq (g2 := F0 m 30 ls [.int a2, .int a3, .ref b3]) (by rw [hq5]; rfl) ?_
    obtain ⟨x7, hc8, hf⟩ := bnd_b hf
    refine hcall_Vi (ex2 := True) (As := [.int a3, .int a2]) (rest := []) (n := 2) (by rw [hk6]; decide) (hC_9 hk6) rfl ⟨hx, hb, hml, hown, hts⟩ (ch_X8_errorOn l D cy b3 a3 a2 s0 x7 hc8) (cwV 2 hts gX0_rowError_X8_errorOn rfl rfl rfl ⟨rfl, nd_X8_errorOn⟩ ⟨Nat.le_of_ble_eq_true rfl, Nat.le_of_ble_eq_true rfl⟩) hI (fun h => h.elim) (fun _ => ⟨trivial, trivial⟩) rfl hl.1 (Nat.le_of_ble_eq_true rfl) dX0_rowError_30 ⟨Nat.le_of_ble_eq_true rfl, Nat.le_of_ble_eq_true rfl⟩ (fun H locs hI => ?_)
    exact hret_i hx hb hr hlocks hI (by decide) (by decide) (fun _ => ⟨trivial, rfl⟩) (ret_e hK0 hf) dX0_rowError_33
  · replace hf := ifp c2 hf
    refine lv_iload hx hb dX0_rowError_8 (lv_at hl 4 rfl) ?_
    refine lv_aload_n hx hb dX0_rowError_10 rfl (lv_at hl 0 rfl) ?_
    refine hg_0_9 hx hb hts hin_X0 hown kl_92 hI (isk_k k1) dX0_rowError_11 ?_
    refine lv_icmp_ge (tgt := 27) hx hb dX0_rowError_14 (by decide) (fun c9 => ?_) (fun c9 => ?_)
    · replace hf := ifp c9 hf
      refine hq_aload_n hx hb dX0_rowError_27 rfl (lv_at hl 1 rfl) ?_
      refine lv_iload_n hx hb dX0_rowError_28 rfl (lv_at hl 3 rfl) ?_
      refine lv_iload_n hx hb dX0_rowError_29 rfl (lv_at hl 2 rfl) ?_
      obtain ⟨b10, hd11, hf⟩ := bnd_b hf
      obtain ⟨hq12, hk13⟩ := dr_e hd11
      refine W.eq (g2 := F0 m 30 ls [.int a2, .int a3, .ref b10]) (by rw [hq12]; rfl) ?_
      obtain ⟨x14, hc15, hf⟩ := bnd_b hf
      refine hcall_Vi (ex2 := True) (As := [.int a3, .int a2]) (rest := []) (n := 2) (by rw [hk13]; decide) (hC_9 hk13) rfl ⟨hx, hb, hml, hown, hts⟩ (ch_X8_errorOn l D cy b10 a3 a2 s0 x14 hc15) (cwV 2 hts gX0_rowError_X8_errorOn rfl rfl rfl ⟨rfl, nd_X8_errorOn⟩ ⟨Nat.le_of_ble_eq_true rfl, Nat.le_of_ble_eq_true rfl⟩) hI (fun h => h.elim) (fun _ => ⟨trivial, trivial⟩) rfl hl.1 (Nat.le_of_ble_eq_true rfl) dX0_rowError_30 ⟨Nat.le_of_ble_eq_true rfl, Nat.le_of_ble_eq_true rfl⟩ (fun H locs hI => ?_)
      exact hret_i hx hb hr hlocks hI (by decide) (by decide) (fun _ => ⟨trivial, rfl⟩) (ret_e hK0 hf) dX0_rowError_33
    · replace hf := ifn c9 hf
      refine lv_aload_n hx hb dX0_rowError_17 rfl (lv_at hl 0 rfl) ?_
      refine hg_0_7 hx hb hts hin_X0 hown kl_24 hI (isk_k k1) dX0_rowError_18 ?_
      refine lv_iload hx hb dX0_rowError_21 (lv_at hl 4 rfl) ?_
      obtain ⟨b16, hd17, hf⟩ := bnd_b hf
      obtain ⟨hq18, hk19⟩ := dr_e hd17
      refine W.eq (g2 := F0 m 23 ls [.int a4, .ref b16]) (by rw [hq18]; rfl) ?_
      obtain ⟨k20, hf⟩ := chk_b hf
      refine hl_I hx hb hI hk19 k20 dX0_rowError_23 ?_
      refine lv_goto (tgt := 33) hx hb dX0_rowError_24 (by decide) ?_
      exact hret_i hx hb hr hlocks hI (by decide) (by decide) (fun _ => ⟨trivial, rfl⟩) (ret_e hK0 hf) dX0_rowError_33

theorem nd_X0_spanAfter : yX0_spanAfter.cls ≠ "java/lang/invoke/MethodHandle" ∧ yX0_spanAfter.cls ≠ "java/lang/invoke/VarHandle" ∧ (parseMethodDescriptor yX0_spanAfter.desc).map (fun d => d.parameters.length) = some 4 := by decide +kernel
set_option maxHeartbeats 4000000 in
set_option maxRecDepth 100000 in
theorem ch_X0_spanAfter (l : Launch) (D : va_G) (cy : Nat → ClassId) (h : Nat) (a1 : Option Nat) (a2 : Option Nat) (a3 : Option Nat) (a4 : Int32) (s0 : HSt) (out : HSt × Option Nat) (hf : fh_X0_spanAfter h a1 a2 a3 a4 s0 = some out) : CHq l D cy yX0_spanAfter wsX0_spanAfter { frames := 6, cells := 0, slots := 0, locals := 170 } 0 0 False True [.ref h, va_rf a1, va_rf a2, va_rf a3, .int a4] s0 out := by
  refine Met.ofW (cc := cX0_spanAfter) (maxL := 6) (ret := (some (.object "HalfBridge$Span"))) (by decide) rfl ?_
  intro p e s m args below meth c s₁ B hml hv
  obtain ⟨rfl, hP, hK, hD0, hkx, hsz, hal⟩ := hv
  have hx := B.exec
  have hb := B.bytes
  have hr := B.returns
  have hts := atoms_spec (ws := wsX0_spanAfter) B.pre
  have hown : s.vm.findClass RX0 = some m.cls := findClass_of_methodNamed B.named
  have hlocks := B.notSynchronized
  have hI : HI D cy s s0 s0 s.heap [] 0 False True := ⟨hK, hP, hD0.weaken (fun k q hk _ => Or.inl (pl_mem hk)), va_S.rf, hsz.1, hkx, ⟨hsz, hal⟩, fun _ => rfl, Nat.le_refl _⟩
  have hin_X0 : ∀ w ∈ u_ws RX0 TX0 11, w ∈ wsX0_spanAfter := fun w hw => List.mem_cons_of_mem _ (List.mem_append_left _ (List.mem_append_left _ (List.mem_append_left _ (List.mem_append_left _ (List.mem_append_left _ (List.mem_append_right _ hw))))))
  have hin_X8 : ∀ w ∈ u_ws RX8 TX8 5, w ∈ wsX0_spanAfter := fun w hw => List.mem_cons_of_mem _ (List.mem_append_left _ (List.mem_append_left _ (List.mem_append_left _ (List.mem_append_left _ (List.mem_append_right _ hw)))))
  have kl_20 : Cond.fieldLink RX0 20 "HalfBridge$Foresight" "spares" "[LHalfBridge$Span;" ∈ wsX0_spanAfter := by decide +kernel
  have kl_72 : Cond.fieldLink RX0 72 "HalfBridge$Site" "span" "LHalfBridge$Span;" ∈ wsX0_spanAfter := by decide +kernel
  have hl := lv_entry ([.ref h, va_rf a1, va_rf a2, va_rf a3, .int a4]) (n := 6) (by simp [lg_sl, cat_rf, cat_i, cat_l, cat_r])
  rw [lg_entry_eq]
  generalize (lg_sl ([.ref h, va_rf a1, va_rf a2, va_rf a3, .int a4]) ++ List.replicate (6 - (lg_sl ([.ref h, va_rf a1, va_rf a2, va_rf a3, .int a4])).length) Slot.unset).toArray = ls at hl ⊢
  have hl : lv_has ls 6 [(0, .ref h), (1, va_rf a1), (2, va_rf a2), (3, va_rf a3), (4, .int a4)] := (by simpa [lv_args, cat_rf, cat_i, cat_l, cat_r] using hl)
  obtain ⟨K0, hK0, hf⟩ := top_e hf
  unfold fh_X0_spanAfter at hf
  refine lv_aload_n hx hb dX0_spanAfter_0 rfl (lv_at hl 0 rfl) ?_
  obtain ⟨k1, hf⟩ := chk_b hf
  refine hg_0_6 hx hb hts hin_X0 hown kl_20 hI (isk_k k1) dX0_spanAfter_1 ?_
  refine lv_iconst (v := 0) hx hb dX0_spanAfter_4 (by decide) ?_
  obtain ⟨b2, hd3, hf⟩ := bnd_b hf
  obtain ⟨hq4, hk5⟩ := dr_e hd3
  refine W.eq (g2 := F0 m 5 ls [.int (0 : Int32), .ref b2]) (by rw [hq4]; rfl) ?_
  obtain ⟨k6, hf⟩ := chk_b hf
  refine hl_Span hx hb hI hk5 k6 dX0_spanAfter_5 ?_
  refine hq_astore (lv' := [(5, va_rf (gQ s0 b2 (0 : Int32).toNatClampNeg)), (0, .ref h), (1, va_rf a1), (2, va_rf a2), (3, va_rf a3), (4, .int a4)]) hx hb dX0_spanAfter_6 hl (by decide) (by first | rfl | (simp [cat_rf, cat_i, cat_l, cat_r]; done) | (simp [cat_rf, cat_i, cat_l, cat_r]; decide)) (fun ls hl => ?_)
  refine hq_aload hx hb dX0_spanAfter_8 (lv_at hl 0 rfl) ?_
  refine hq_aload_n hx hb dX0_spanAfter_10 rfl (lv_at hl 2 rfl) ?_
  obtain ⟨b7, hd8, hf⟩ := bnd_b hf
  obtain ⟨hq9, hk10⟩ := dr_e hd8
  refine W.eq (g2 := F0 m 11 ls [.ref b7, va_rf (gQ s0 b2 (0 : Int32).toNatClampNeg)]) (by rw [hq9]; rfl) ?_
  refine hg_8_0 hx hb hts hin_X8 hown kl_72 hI hk10 dX0_spanAfter_11 ?_
  obtain ⟨b11, hd12, hf⟩ := bnd_b hf
  obtain ⟨hq13, hk14⟩ := dr_e hd12
  refine W.eq (g2 := F0 m 14 ls [va_rf (gR s0 800 b7), .ref b11]) (by rw [hq13]; rfl) ?_
  obtain ⟨x15, hc16, hf⟩ := bnd_b hf
  refine hcall_Vv (ex2 := True) (As := [va_rf (gR s0 800 b7)]) (rest := []) (n := 1) (by rw [hk14]; decide) (hC_10 hk14) rfl ⟨hx, hb, hml, hown, hts⟩ (ch_X9_become l D cy b11 (gR s0 800 b7) s0 x15 hc16) (cwV 1 hts gX0_spanAfter_X9_become rfl rfl rfl ⟨rfl, nd_X9_become⟩ ⟨Nat.le_of_ble_eq_true rfl, Nat.le_of_ble_eq_true rfl⟩) hI (fun h => h.elim) (fun _ => ⟨trivial, trivial⟩) rfl hl.1 (Nat.le_of_ble_eq_true rfl) dX0_spanAfter_14 ⟨Nat.le_of_ble_eq_true rfl, Nat.le_of_ble_eq_true rfl⟩ (fun H locs hI => ?_)
  refine lv_aload_n hx hb dX0_spanAfter_17 rfl (lv_at hl 1 rfl) ?_
  refine hq_aload hx hb dX0_spanAfter_18 (lv_at hl 0 rfl) ?_
  refine hq_aload_n hx hb dX0_spanAfter_20 rfl (lv_at hl 2 rfl) ?_
  refine hq_aload_n hx hb dX0_spanAfter_21 rfl (lv_at hl 3 rfl) ?_
  refine hq_aload_n hx hb dX0_spanAfter_22 rfl (lv_at hl 4 rfl) ?_
  refine lv_iload hx hb dX0_spanAfter_23 (lv_at hl 5 rfl) ?_
  obtain ⟨k17, hf⟩ := chk_b hf
  obtain ⟨x18, hc19, hf⟩ := bnd_b hf
  refine hcall_Vv (ex2 := True) (As := [va_rf (gQ s0 b2 (0 : Int32).toNatClampNeg), va_rf a1, va_rf a2, va_rf a3, .int a4]) (rest := []) (n := 5) (by rw [(isk_k k17)]; decide) (hC_1 (isk_k k17)) rfl ⟨hx, hb, hml, hown, hts⟩ (ch_X0_go l D cy h (gQ s0 b2 (0 : Int32).toNatClampNeg) a1 a2 a3 a4 x15 x18 hc19) (cwV 5 hts gX0_spanAfter_X0_go rfl rfl rfl ⟨rfl, nd_X0_go⟩ ⟨Nat.le_of_ble_eq_true rfl, Nat.le_of_ble_eq_true rfl⟩) hI (fun h => h.elim) (fun _ => ⟨trivial, trivial⟩) rfl hl.1 (Nat.le_of_ble_eq_true rfl) dX0_spanAfter_25 ⟨Nat.le_of_ble_eq_true rfl, Nat.le_of_ble_eq_true rfl⟩ (fun H locs hI => ?_)
  refine hq_aload hx hb dX0_spanAfter_28 (lv_at hl 0 rfl) ?_
  exact hret_q hx hb hr (by first | exact Or.inl ⟨_, rfl⟩ | exact Or.inr ⟨_, rfl⟩) hlocks hI (by decide) (by decide) (fun _ => ⟨trivial, rfl⟩) (ret_e hK0 hf) dX0_spanAfter_30
