theorem nd_X11_init : yX11_init.cls ≠ "java/lang/invoke/MethodHandle" ∧ yX11_init.cls ≠ "java/lang/invoke/VarHandle" ∧ (parseMethodDescriptor yX11_init.desc).map (fun d => d.parameters.length) = some 0 := by decide +kernel
set_option maxHeartbeats 4000000 in
set_option maxRecDepth 100000 in
theorem ch_X11_init (l : Launch) (D : va_G) (cy : Nat → ClassId) (h : Nat)  (s0 : HSt) (out : HSt) (hf : fh_X11_init h s0 = some out) : CHv l D cy yX11_init wsX11_init { frames := 4, cells := 109, slots := 3910, locals := 91 } 109 3910 True True [.ref h] s0 out := by
  refine Met.ofW (cc := cX11_init) (maxL := 1) (ret := none) (by decide) rfl ?_
  intro p e s m args below meth c s₁ B hml hv
  obtain ⟨rfl, hP, hK, hD0, hkx, hsz, hal⟩ := hv
  have hx := B.exec
  have hb := B.bytes
  have hr := B.returns
  have hts := atoms_spec (ws := wsX11_init) B.pre
  have hown : s.vm.findClass RX11 = some m.cls := findClass_of_methodNamed B.named
  have hlocks := B.notSynchronized
  have hin0 : meth.name = "<init>" := (name_of_methodNamed B.named B.method).1
  have hI : HI D cy s s0 s0 s.heap [] 0 True True := ⟨hK, hP, hD0.weaken (fun k q hk _ => Or.inl (pl_mem hk)), va_S.rf, hsz.1, hkx, ⟨hsz, hal⟩, fun _ => rfl, Nat.le_refl _⟩
  have hin_X0 : ∀ w ∈ u_ws RX0 TX0 11, w ∈ wsX11_init := fun w hw => List.mem_cons_of_mem _ (List.mem_append_left _ (List.mem_append_left _ (List.mem_append_left _ (List.mem_append_left _ (List.mem_append_left _ (List.mem_append_right _ hw))))))
  have hin_X10 : ∀ w ∈ u_ws RX10 TX10 6, w ∈ wsX11_init := fun w hw => List.mem_cons_of_mem _ (List.mem_append_left _ (List.mem_append_left _ (List.mem_append_left _ (List.mem_append_left _ (List.mem_append_left _ (List.mem_append_left _ (List.mem_append_left _ (List.mem_append_left _ (List.mem_append_right _ hw)))))))))
  have hin_X11 : ∀ w ∈ u_ws RX11 TX11 10, w ∈ wsX11_init := fun w hw => List.mem_cons_of_mem _ (List.mem_append_left _ (List.mem_append_left _ (List.mem_append_left _ (List.mem_append_left _ (List.mem_append_left _ (List.mem_append_left _ (List.mem_append_left _ (List.mem_append_left _ (List.mem_append_left _ (List.mem_append_left _ (List.mem_append_right _ hw)))))))))))
  have hin_X5 : ∀ w ∈ u_ws RX5 TX5 3, w ∈ wsX11_init := fun w hw => List.mem_cons_of_mem _ (List.mem_append_left _ (List.mem_append_left _ (List.mem_append_left _ (List.mem_append_left _ (List.mem_append_left _ (List.mem_append_left _ (List.mem_append_left _ (List.mem_append_right _ hw))))))))
  have hin_X7 : ∀ w ∈ u_ws RX7 TX7 7, w ∈ wsX11_init := fun w hw => List.mem_cons_of_mem _ (List.mem_append_left _ (List.mem_append_left _ (List.mem_append_left _ (List.mem_append_left _ (List.mem_append_left _ (List.mem_append_left _ (List.mem_append_right _ hw)))))))
  have hin_X8 : ∀ w ∈ u_ws RX8 TX8 5, w ∈ wsX11_init := fun w hw => List.mem_cons_of_mem _ (List.mem_append_left _ (List.mem_append_left _ (List.mem_append_left _ (List.mem_append_left _ (List.mem_append_left _ (List.mem_append_left _ (List.mem_append_left _ (List.mem_append_left _ (List.mem_append_left _ (List.mem_append_right _ hw))))))))))
  have kl_9 : Cond.fieldLink RX11 9 "HalfBridge" "tape" "[B" ∈ wsX11_init := by decide +kernel
  have kl_15 : Cond.fieldLink RX11 15 "HalfBridge" "rules" "[LHalfBridge$Rule;" ∈ wsX11_init := by decide +kernel
  have kl_22 : Cond.fieldLink RX11 22 "HalfBridge" "site" "LHalfBridge$Site;" ∈ wsX11_init := by decide +kernel
  have kl_26 : Cond.fieldLink RX11 26 "HalfBridge" "images" "[LHalfBridge$Site;" ∈ wsX11_init := by decide +kernel
  have kl_33 : Cond.fieldLink RX11 33 "HalfBridge" "tokens" "LHalfBridge$Tokens;" ∈ wsX11_init := by decide +kernel
  have kl_42 : Cond.fieldLink RX11 42 "HalfBridge" "riverReader" "LHalfBridge$RiverReader;" ∈ wsX11_init := by decide +kernel
  have kl_49 : Cond.fieldLink RX11 49 "HalfBridge" "ruleReader" "LHalfBridge$RuleReader;" ∈ wsX11_init := by decide +kernel
  have kl_56 : Cond.fieldLink RX11 56 "HalfBridge" "foresight" "LHalfBridge$Foresight;" ∈ wsX11_init := by decide +kernel
  have hl := lv_entry ([.ref h]) (n := 1) (Nat.le_of_ble_eq_true rfl)
  rw [lg_entry_eq]
  generalize (lg_sl ([.ref h]) ++ List.replicate (1 - (lg_sl ([.ref h])).length) Slot.unset).toArray = ls at hl ⊢
  have hl : lv_has ls 1 [(0, .ref h)] := hl
  obtain ⟨K0, hK0, hf⟩ := top_e hf
  unfold fh_X11_init at hf
  refine lv_aload_n hx hb dX11_init_0 rfl (lv_at hl 0 rfl) ?_
  refine W.objInit hx hb hown (hts (.methodLink RX11 1 objectInit) (by decide +kernel)) (hts (.instanceMethod objectInit) (by decide +kernel)) (hts (.code objectInit ⟨#[0xb1]⟩ 1 none) (by decide +kernel)) rfl (by rw [hml]; exact hl.1) rfl dX11_init_1 (Nat.le_of_ble_eq_true rfl) (Nat.le_of_ble_eq_true rfl) ?_
  refine W.eq (g2 := F0 m 4 ls []) rfl ?_
  refine lv_aload_n hx hb dX11_init_4 rfl (lv_at hl 0 rfl) ?_
  refine lv_sipush (v := 400) hx hb dX11_init_5 (by decide) ?_
  refine hn_B (N := 400) hx hb hts (by decide +kernel) hI trivial trivial (by decide) rfl (by decide) (Nat.le_of_ble_eq_true rfl) (Nat.le_of_ble_eq_true rfl) dX11_init_8 (fun H hI => ?_)
  refine W.widen (k := 1) (n := 400) (by decide) (by decide) ?_
  obtain ⟨x1, hx1, hf⟩ := bnd_b hf
  replace hx1 := Option.some.inj hx1
  rw [hx1] at hI
  have hk2 : gK x1 (gN s0) = 21 := by rw [← hx1]; exact nO_K
  obtain ⟨k3, hf⟩ := chk_b hf
  refine hp_11_0 (x := (some (gN s0))) hx hb hts hin_X11 hown kl_9 hI (isk_k k3) hin0 rfl dX11_init_10 (fun H locs hI => ?_)
  refine lv_aload_n hx hb dX11_init_13 rfl (lv_at hl 0 rfl) ?_
  refine lv_bipush (v := 6) hx hb dX11_init_14 (by decide) ?_
  refine hn_Rule (N := 6) hx hb hts hown (by decide +kernel) hI trivial trivial (by decide) rfl (by decide) (Nat.le_of_ble_eq_true rfl) (Nat.le_of_ble_eq_true rfl) dX11_init_16 (fun H hI => ?_)
  refine W.widen (k := 2) (n := 406) (by decide) (by decide) ?_
  obtain ⟨x4, hx4, hf⟩ := bnd_b hf
  replace hx4 := Option.some.inj hx4
  rw [hx4] at hI
  have hk5 : gK x4 (gN (sR x1 1100 h (some (gN s0)))) = 25 := by rw [← hx4]; exact nO_K
  obtain ⟨k6, hf⟩ := chk_b hf
  refine hp_11_2 (x := (some (gN (sR x1 1100 h (some (gN s0)))))) hx hb hts hin_X11 hown kl_15 hI (isk_k k6) hin0 rfl dX11_init_19 (fun H locs hI => ?_)
  refine lv_aload_n hx hb dX11_init_22 rfl (lv_at hl 0 rfl) ?_
  refine hn_8 hx hb hts hin_X8 hown (by decide +kernel) (by decide +kernel) (by decide +kernel) hI trivial trivial (Nat.le_of_ble_eq_true rfl) (Nat.le_of_ble_eq_true rfl) dX11_init_23 (fun H hI => ?_)
  refine W.widen (k := 3) (n := 411) (by decide) (by decide) ?_
  obtain ⟨x7, hx7, hf⟩ := bnd_b hf
  replace hx7 := Option.some.inj hx7
  rw [hx7] at hI
  have hk8 : gK x7 (gN (sR x4 1102 h (some (gN (sR x1 1100 h (some (gN s0))))))) = 9 := by rw [← hx7]; exact nO_K
  refine lv_dup hx hb dX11_init_26 rfl ?_
  obtain ⟨x9, hc10, hf⟩ := bnd_b hf
  refine hcall_Iv (ex2 := True) (As := []) (rest := [.ref (gN (sR x4 1102 h (some (gN (sR x1 1100 h (some (gN s0))))))), .ref h]) (n := 0) ⟨hx, hb, hml, hown, hts⟩ (ch_X8_init l D cy (gN (sR x4 1102 h (some (gN (sR x1 1100 h (some (gN s0))))))) x7 x9 hc10) (cwI 0 hts gX11_init_X8_init rfl rfl rfl (hts (.initialized RX8) (by decide +kernel)) (hts (.methodLink RX11 21 yX8_init) (by decide +kernel)) (hts (.instanceMethod yX8_init) (by decide +kernel)) rfl nd_X8_init ⟨Nat.le_of_ble_eq_true rfl, Nat.le_of_ble_eq_true rfl⟩) hI (fun h => ⟨trivial, trivial⟩) (fun _ => ⟨trivial, trivial⟩) rfl hl.1 (Nat.le_of_ble_eq_true rfl) dX11_init_27 ⟨Nat.le_of_ble_eq_true rfl, Nat.le_of_ble_eq_true rfl⟩ (fun H locs hI => ?_)
  obtain ⟨k11, hf⟩ := chk_b hf
  refine hp_11_4 (x := (some (gN (sR x4 1102 h (some (gN (sR x1 1100 h (some (gN s0))))))))) hx hb hts hin_X11 hown kl_22 hI (isk_k k11) hin0 rfl dX11_init_30 (fun H locs hI => ?_)
  obtain ⟨x12, hx12, hf⟩ := bnd_b hf
  replace hx12 := Option.some.inj hx12
  rw [hx12] at hI
  have hk13 : gK x12 h = 12 := by rw [← hx12]; exact (gK_sR.trans (isk_k k11))
  refine lv_aload_n hx hb dX11_init_33 rfl (lv_at hl 0 rfl) ?_
  refine lv_iconst (v := 4) hx hb dX11_init_34 (by decide) ?_
  refine hn_Site (N := 4) hx hb hts hown (by decide +kernel) hI trivial trivial (by decide) rfl (by decide) (Nat.le_of_ble_eq_true rfl) (Nat.le_of_ble_eq_true rfl) dX11_init_35 (fun H hI => ?_)
  refine W.widen (k := 16) (n := 709) (by decide) (by decide) ?_
  obtain ⟨x14, hx14, hf⟩ := bnd_b hf
  replace hx14 := Option.some.inj hx14
  rw [hx14] at hI
  have hk15 : gK x14 (gN x12) = 26 := by rw [← hx14]; exact nO_K
  obtain ⟨k16, hf⟩ := chk_b hf
  refine hp_11_5 (x := (some (gN x12))) hx hb hts hin_X11 hown kl_26 hI (isk_k k16) hin0 rfl dX11_init_38 (fun H locs hI => ?_)
  refine lv_aload_n hx hb dX11_init_41 rfl (lv_at hl 0 rfl) ?_
  refine hn_10 hx hb hts hin_X10 hown (by decide +kernel) (by decide +kernel) (by decide +kernel) hI trivial trivial (Nat.le_of_ble_eq_true rfl) (Nat.le_of_ble_eq_true rfl) dX11_init_42 (fun H hI => ?_)
  refine W.widen (k := 17) (n := 715) (by decide) (by decide) ?_
  obtain ⟨x17, hx17, hf⟩ := bnd_b hf
  replace hx17 := Option.some.inj hx17
  rw [hx17] at hI
  have hk18 : gK x17 (gN (sR x14 1105 h (some (gN x12)))) = 11 := by rw [← hx17]; exact nO_K
  refine lv_dup hx hb dX11_init_45 rfl ?_
  obtain ⟨x19, hc20, hf⟩ := bnd_b hf
  refine hcall_Iv (ex2 := True) (As := []) (rest := [.ref (gN (sR x14 1105 h (some (gN x12)))), .ref h]) (n := 0) ⟨hx, hb, hml, hown, hts⟩ (ch_X10_init l D cy (gN (sR x14 1105 h (some (gN x12)))) x17 x19 hc20) (cwI 0 hts gX11_init_X10_init rfl rfl rfl (hts (.initialized RX10) (by decide +kernel)) (hts (.methodLink RX11 32 yX10_init) (by decide +kernel)) (hts (.instanceMethod yX10_init) (by decide +kernel)) rfl nd_X10_init ⟨Nat.le_of_ble_eq_true rfl, Nat.le_of_ble_eq_true rfl⟩) hI (fun h => ⟨trivial, trivial⟩) (fun _ => ⟨trivial, trivial⟩) rfl hl.1 (Nat.le_of_ble_eq_true rfl) dX11_init_46 ⟨Nat.le_of_ble_eq_true rfl, Nat.le_of_ble_eq_true rfl⟩ (fun H locs hI => ?_)
  obtain ⟨k21, hf⟩ := chk_b hf
  refine hp_11_6 (x := (some (gN (sR x14 1105 h (some (gN x12)))))) hx hb hts hin_X11 hown kl_33 hI (isk_k k21) hin0 rfl dX11_init_49 (fun H locs hI => ?_)
  refine lv_aload_n hx hb dX11_init_52 rfl (lv_at hl 0 rfl) ?_
  refine hn_5 hx hb hts hin_X5 hown (by decide +kernel) (by decide +kernel) (by decide +kernel) hI trivial trivial (Nat.le_of_ble_eq_true rfl) (Nat.le_of_ble_eq_true rfl) dX11_init_53 (fun H hI => ?_)
  refine W.widen (k := 21) (n := 1921) (by decide) (by decide) ?_
  obtain ⟨x22, hx22, hf⟩ := bnd_b hf
  replace hx22 := Option.some.inj hx22
  rw [hx22] at hI
  have hk23 : gK x22 (gN (sR x19 1106 h (some (gN (sR x14 1105 h (some (gN x12))))))) = 6 := by rw [← hx22]; exact nO_K
  refine lv_dup hx hb dX11_init_56 rfl ?_
  refine lv_aload_n hx hb dX11_init_57 rfl (lv_at hl 0 rfl) ?_
  obtain ⟨k24, hf⟩ := chk_b hf
  refine hg_11_6 hx hb hts hin_X11 hown kl_33 hI (isk_k k24) dX11_init_58 ?_
  obtain ⟨x25, hc26, hf⟩ := bnd_b hf
  refine hcall_Iv (ex2 := True) (As := [va_rf (gR x22 1106 h)]) (rest := [.ref (gN (sR x19 1106 h (some (gN (sR x14 1105 h (some (gN x12))))))), .ref h]) (n := 1) ⟨hx, hb, hml, hown, hts⟩ (ch_X5_init l D cy (gN (sR x19 1106 h (some (gN (sR x14 1105 h (some (gN x12))))))) (gR x22 1106 h) x22 x25 hc26) (cwI 1 hts gX11_init_X5_init rfl rfl rfl (hts (.initialized RX5) (by decide +kernel)) (hts (.methodLink RX11 39 yX5_init) (by decide +kernel)) (hts (.instanceMethod yX5_init) (by decide +kernel)) rfl nd_X5_init ⟨Nat.le_of_ble_eq_true rfl, Nat.le_of_ble_eq_true rfl⟩) hI (fun h => h.elim) (fun _ => ⟨trivial, trivial⟩) rfl hl.1 (Nat.le_of_ble_eq_true rfl) dX11_init_61 ⟨Nat.le_of_ble_eq_true rfl, Nat.le_of_ble_eq_true rfl⟩ (fun H locs hI => ?_)
  obtain ⟨k27, hf⟩ := chk_b hf
  refine hp_11_7 (x := (some (gN (sR x19 1106 h (some (gN (sR x14 1105 h (some (gN x12))))))))) hx hb hts hin_X11 hown kl_42 hI (isk_k k27) hin0 rfl dX11_init_64 (fun H locs hI => ?_)
  obtain ⟨x28, hx28, hf⟩ := bnd_b hf
  replace hx28 := Option.some.inj hx28
  rw [hx28] at hI
  have hk29 : gK x28 h = 12 := by rw [← hx28]; exact (gK_sR.trans (isk_k k27))
  refine lv_aload_n hx hb dX11_init_67 rfl (lv_at hl 0 rfl) ?_
  refine hn_7 hx hb hts hin_X7 hown (by decide +kernel) (by decide +kernel) (by decide +kernel) hI trivial trivial (Nat.le_of_ble_eq_true rfl) (Nat.le_of_ble_eq_true rfl) dX11_init_68 (fun H hI => ?_)
  refine W.widen (k := 22) (n := 1928) (by decide) (by decide) ?_
  obtain ⟨x30, hx30, hf⟩ := bnd_b hf
  replace hx30 := Option.some.inj hx30
  rw [hx30] at hI
  have hk31 : gK x30 (gN x28) = 8 := by rw [← hx30]; exact nO_K
  refine lv_dup hx hb dX11_init_71 rfl ?_
  refine lv_aload_n hx hb dX11_init_72 rfl (lv_at hl 0 rfl) ?_
  obtain ⟨k32, hf⟩ := chk_b hf
  refine hg_11_6 hx hb hts hin_X11 hown kl_33 hI (isk_k k32) dX11_init_73 ?_
  obtain ⟨x33, hc34, hf⟩ := bnd_b hf
  refine hcall_Iv (ex2 := True) (As := [va_rf (gR x30 1106 h)]) (rest := [.ref (gN x28), .ref h]) (n := 1) ⟨hx, hb, hml, hown, hts⟩ (ch_X7_init l D cy (gN x28) (gR x30 1106 h) x30 x33 hc34) (cwI 1 hts gX11_init_X7_init rfl rfl rfl (hts (.initialized RX7) (by decide +kernel)) (hts (.methodLink RX11 48 yX7_init) (by decide +kernel)) (hts (.instanceMethod yX7_init) (by decide +kernel)) rfl nd_X7_init ⟨Nat.le_of_ble_eq_true rfl, Nat.le_of_ble_eq_true rfl⟩) hI (fun h => ⟨trivial, trivial⟩) (fun _ => ⟨trivial, trivial⟩) rfl hl.1 (Nat.le_of_ble_eq_true rfl) dX11_init_76 ⟨Nat.le_of_ble_eq_true rfl, Nat.le_of_ble_eq_true rfl⟩ (fun H locs hI => ?_)
  obtain ⟨k35, hf⟩ := chk_b hf
  refine hp_11_8 (x := (some (gN x28))) hx hb hts hin_X11 hown kl_49 hI (isk_k k35) hin0 rfl dX11_init_79 (fun H locs hI => ?_)
  refine lv_aload_n hx hb dX11_init_82 rfl (lv_at hl 0 rfl) ?_
  refine hn_0 hx hb hts hin_X0 hown (by decide +kernel) (by decide +kernel) (by decide +kernel) hI trivial trivial (Nat.le_of_ble_eq_true rfl) (Nat.le_of_ble_eq_true rfl) dX11_init_83 (fun H hI => ?_)
  refine W.widen (k := 27) (n := 2376) (by decide) (by decide) ?_
  obtain ⟨x36, hx36, hf⟩ := bnd_b hf
  replace hx36 := Option.some.inj hx36
  rw [hx36] at hI
  have hk37 : gK x36 (gN (sR x33 1108 h (some (gN x28)))) = 1 := by rw [← hx36]; exact nO_K
  refine lv_dup hx hb dX11_init_86 rfl ?_
  obtain ⟨x38, hc39, hf⟩ := bnd_b hf
  refine hcall_Iv (ex2 := True) (As := []) (rest := [.ref (gN (sR x33 1108 h (some (gN x28)))), .ref h]) (n := 0) ⟨hx, hb, hml, hown, hts⟩ (ch_X0_init l D cy (gN (sR x33 1108 h (some (gN x28)))) x36 x38 hc39) (cwI 0 hts gX11_init_X0_init rfl rfl rfl (hts (.initialized RX0) (by decide +kernel)) (hts (.methodLink RX11 55 yX0_init) (by decide +kernel)) (hts (.instanceMethod yX0_init) (by decide +kernel)) rfl nd_X0_init ⟨Nat.le_of_ble_eq_true rfl, Nat.le_of_ble_eq_true rfl⟩) hI (fun h => ⟨trivial, trivial⟩) (fun _ => ⟨trivial, trivial⟩) rfl hl.1 (Nat.le_of_ble_eq_true rfl) dX11_init_87 ⟨Nat.le_of_ble_eq_true rfl, Nat.le_of_ble_eq_true rfl⟩ (fun H locs hI => ?_)
  obtain ⟨k40, hf⟩ := chk_b hf
  refine hp_11_9 (x := (some (gN (sR x33 1108 h (some (gN x28)))))) hx hb hts hin_X11 hown kl_56 hI (isk_k k40) hin0 rfl dX11_init_90 (fun H locs hI => ?_)
  exact hret_v hx hb hr hlocks hI (by decide) (by decide) (fun _ => ⟨trivial, rfl⟩) (ret_e hK0 hf) dX11_init_93

theorem nd_X11_isFreeHand : yX11_isFreeHand.cls ≠ "java/lang/invoke/MethodHandle" ∧ yX11_isFreeHand.cls ≠ "java/lang/invoke/VarHandle" ∧ (parseMethodDescriptor yX11_isFreeHand.desc).map (fun d => d.parameters.length) = some 2 := by decide +kernel
set_option maxHeartbeats 4000000 in
set_option maxRecDepth 100000 in
theorem ch_X11_isFreeHand (l : Launch) (D : va_G) (cy : Nat → ClassId) (h : Nat) (a1 : Int32) (a2 : Int32) (s0 : HSt) (out : HSt × Int32) (hf : fh_X11_isFreeHand h a1 a2 s0 = some out) : CHi l D cy yX11_isFreeHand wsX11_isFreeHand { frames := 2, cells := 0, slots := 0, locals := 40 } 0 0 False True [.ref h, .int a1, .int a2] s0 out := by
  refine Met.ofW (cc := cX11_isFreeHand) (maxL := 3) (ret := (some .boolean)) (by decide) rfl ?_
  intro p e s m args below meth c s₁ B hml hv
  obtain ⟨rfl, hP, hK, hD0, hkx, hsz, hal⟩ := hv
  have hx := B.exec
  have hb := B.bytes
  have hr := B.returns
  have hts := atoms_spec (ws := wsX11_isFreeHand) B.pre
  have hown : s.vm.findClass RX11 = some m.cls := findClass_of_methodNamed B.named
  have hlocks := B.notSynchronized
  have hI : HI D cy s s0 s0 s.heap [] 0 False True := ⟨hK, hP, hD0.weaken (fun k q hk _ => Or.inl (pl_mem hk)), va_S.rf, hsz.1, hkx, ⟨hsz, hal⟩, fun _ => rfl, Nat.le_refl _⟩
  have hin_X11 : ∀ w ∈ u_ws RX11 TX11 10, w ∈ wsX11_isFreeHand := fun w hw => List.mem_cons_of_mem _ (List.mem_append_left _ (List.mem_append_left _ (List.mem_append_left _ (List.mem_append_right _ hw))))
  have hin_X8 : ∀ w ∈ u_ws RX8 TX8 5, w ∈ wsX11_isFreeHand := fun w hw => List.mem_cons_of_mem _ (List.mem_append_left _ (List.mem_append_left _ (List.mem_append_right _ hw)))
  have kl_22 : Cond.fieldLink RX11 22 "HalfBridge" "site" "LHalfBridge$Site;" ∈ wsX11_isFreeHand := by decide +kernel
  have kl_93 : Cond.fieldLink RX11 93 "HalfBridge$Site" "span" "LHalfBridge$Span;" ∈ wsX11_isFreeHand := by decide +kernel
  have hl := lv_entry ([.ref h, .int a1, .int a2]) (n := 3) (Nat.le_of_ble_eq_true rfl)
  rw [lg_entry_eq]
  generalize (lg_sl ([.ref h, .int a1, .int a2]) ++ List.replicate (3 - (lg_sl ([.ref h, .int a1, .int a2])).length) Slot.unset).toArray = ls at hl ⊢
  have hl : lv_has ls 3 [(0, .ref h), (1, .int a1), (2, .int a2)] := hl
  obtain ⟨K0, hK0, hf⟩ := top_e hf
  unfold fh_X11_isFreeHand at hf
  refine lv_aload_n hx hb dX11_isFreeHand_0 rfl (lv_at hl 0 rfl) ?_
  obtain ⟨k1, hf⟩ := chk_b hf
  obtain ⟨x2, hc3, hf⟩ := bnd_b hf
  refine hcall_Vi (ex2 := True) (As := []) (rest := []) (n := 0) (by rw [(isk_k k1)]; decide) (hC_12 (isk_k k1)) rfl ⟨hx, hb, hml, hown, hts⟩ (ch_X11_hasRiver l D cy h s0 x2 hc3) (cwV 0 hts gX11_isFreeHand_X11_hasRiver rfl rfl rfl ⟨rfl, nd_X11_hasRiver⟩ ⟨Nat.le_of_ble_eq_true rfl, Nat.le_of_ble_eq_true rfl⟩) hI (fun h => h.elim) (fun _ => ⟨trivial, trivial⟩) rfl hl.1 (Nat.le_of_ble_eq_true rfl) dX11_isFreeHand_1 ⟨Nat.le_of_ble_eq_true rfl, Nat.le_of_ble_eq_true rfl⟩ (fun H locs hI => ?_)
  refine lv_if_eq (tgt := 39) hx hb dX11_isFreeHand_4 (by decide) (fun c4 => ?_) (fun c4 => ?_)
  · replace hf := ifp c4 hf
    refine lv_iconst (v := 0) hx hb dX11_isFreeHand_39 (by decide) ?_
    exact hret_z hx hb hr (by decide) hlocks hI (by decide) (by decide) (fun _ => ⟨trivial, rfl⟩) (ret_e hK0 hf) dX11_isFreeHand_40
  · replace hf := ifn c4 hf
    refine lv_iload_n hx hb dX11_isFreeHand_7 rfl (lv_at hl 1 rfl) ?_
    obtain ⟨x5, hc6, hf⟩ := bnd_b hf
    refine hcall_Si (ex2 := True) (As := [.int a1]) (rest := []) (n := 1) ⟨hx, hb, hml, hown, hts⟩ (ch_X11_isSide l D cy a1 x2.1 x5 hc6) (va_cwS 1 hts gX11_isFreeHand_X11_isSide rfl rfl rfl nd_X11_isSide ⟨Nat.le_of_ble_eq_true rfl, Nat.le_of_ble_eq_true rfl⟩) hI (fun h => h.elim) (fun _ => ⟨trivial, trivial⟩) rfl hl.1 (Nat.le_of_ble_eq_true rfl) dX11_isFreeHand_8 ⟨Nat.le_of_ble_eq_true rfl, Nat.le_of_ble_eq_true rfl⟩ (fun H locs hI => ?_)
    refine lv_if_eq (tgt := 39) hx hb dX11_isFreeHand_11 (by decide) (fun c7 => ?_) (fun c7 => ?_)
    · replace hf := ifp c7 hf
      refine lv_iconst (v := 0) hx hb dX11_isFreeHand_39 (by decide) ?_
      exact hret_z hx hb hr (by decide) hlocks hI (by decide) (by decide) (fun _ => ⟨trivial, rfl⟩) (ret_e hK0 hf) dX11_isFreeHand_40
    · replace hf := ifn c7 hf
      refine lv_aload_n hx hb dX11_isFreeHand_14 rfl (lv_at hl 0 rfl) ?_
      refine lv_iload_n hx hb dX11_isFreeHand_15 rfl (lv_at hl 2 rfl) ?_
      obtain ⟨k8, hf⟩ := chk_b hf
      obtain ⟨x9, hc10, hf⟩ := bnd_b hf
      refine hcall_Vi (ex2 := True) (As := [.int a2]) (rest := []) (n := 1) (by rw [(isk_k k8)]; decide) (hC_12 (isk_k k8)) rfl ⟨hx, hb, hml, hown, hts⟩ (ch_X11_isRule l D cy h a2 x5.1 x9 hc10) (cwV 1 hts gX11_isFreeHand_X11_isRule rfl rfl rfl ⟨rfl, nd_X11_isRule⟩ ⟨Nat.le_of_ble_eq_true rfl, Nat.le_of_ble_eq_true rfl⟩) hI (fun h => h.elim) (fun _ => ⟨trivial, trivial⟩) rfl hl.1 (Nat.le_of_ble_eq_true rfl) dX11_isFreeHand_16 ⟨Nat.le_of_ble_eq_true rfl, Nat.le_of_ble_eq_true rfl⟩ (fun H locs hI => ?_)
      refine lv_if_eq (tgt := 39) hx hb dX11_isFreeHand_19 (by decide) (fun c11 => ?_) (fun c11 => ?_)
      · replace hf := ifp c11 hf
        refine lv_iconst (v := 0) hx hb dX11_isFreeHand_39 (by decide) ?_
        exact hret_z hx hb hr (by decide) hlocks hI (by decide) (by decide) (fun _ => ⟨trivial, rfl⟩) (ret_e hK0 hf) dX11_isFreeHand_40
      · replace hf := ifn c11 hf
        refine lv_aload_n hx hb dX11_isFreeHand_22 rfl (lv_at hl 0 rfl) ?_
        obtain ⟨k12, hf⟩ := chk_b hf
        refine hg_11_4 hx hb hts hin_X11 hown kl_22 hI (isk_k k12) dX11_isFreeHand_23 ?_
        obtain ⟨b13, hd14, hf⟩ := bnd_b hf
        obtain ⟨hq15, hk16⟩ := dr_e hd14
        refine W.eq (g2 := F0 m 26 ls [.ref b13]) (by rw [hq15]; rfl) ?_
        refine hg_8_0 hx hb hts hin_X8 hown kl_93 hI hk16 dX11_isFreeHand_26 ?_
        obtain ⟨b17, hd18, hf⟩ := bnd_b hf
        obtain ⟨hq19, hk20⟩ := dr_e hd18
        refine W.eq (g2 := F0 m 29 ls [.ref b17]) (by rw [hq19]; rfl) ?_
        obtain ⟨x21, hc22, hf⟩ := bnd_b hf
        refine hcall_Vi (ex2 := True) (As := []) (rest := []) (n := 0) (by rw [hk20]; decide) (hC_10 hk20) rfl ⟨hx, hb, hml, hown, hts⟩ (ch_X9_isMet l D cy b17 x9.1 x21 hc22) (cwV 0 hts gX11_isFreeHand_X9_isMet rfl rfl rfl ⟨rfl, nd_X9_isMet⟩ ⟨Nat.le_of_ble_eq_true rfl, Nat.le_of_ble_eq_true rfl⟩) hI (fun h => h.elim) (fun _ => ⟨trivial, trivial⟩) rfl hl.1 (Nat.le_of_ble_eq_true rfl) dX11_isFreeHand_29 ⟨Nat.le_of_ble_eq_true rfl, Nat.le_of_ble_eq_true rfl⟩ (fun H locs hI => ?_)
        refine lv_if_ne (tgt := 39) hx hb dX11_isFreeHand_32 (by decide) (fun c23 => ?_) (fun c23 => ?_)
        · replace hf := ifn c23 hf
          refine lv_iconst (v := 0) hx hb dX11_isFreeHand_39 (by decide) ?_
          exact hret_z hx hb hr (by decide) hlocks hI (by decide) (by decide) (fun _ => ⟨trivial, rfl⟩) (ret_e hK0 hf) dX11_isFreeHand_40
        · replace hf := ifp c23 hf
          refine lv_iconst (v := 1) hx hb dX11_isFreeHand_35 (by decide) ?_
          refine lv_goto (tgt := 40) hx hb dX11_isFreeHand_36 (by decide) ?_
          exact hret_z hx hb hr (by decide) hlocks hI (by decide) (by decide) (fun _ => ⟨trivial, rfl⟩) (ret_e hK0 hf) dX11_isFreeHand_40

theorem nd_X11_leap : yX11_leap.cls ≠ "java/lang/invoke/MethodHandle" ∧ yX11_leap.cls ≠ "java/lang/invoke/VarHandle" ∧ (parseMethodDescriptor yX11_leap.desc).map (fun d => d.parameters.length) = some 1 := by decide +kernel
set_option maxHeartbeats 4000000 in
set_option maxRecDepth 100000 in
theorem ch_X11_leap (l : Launch) (D : va_G) (cy : Nat → ClassId) (h : Nat) (a1 : Int32) (s0 : HSt) (out : HSt × Int32) (hf : fh_X11_leap h a1 s0 = some out) : CHi l D cy yX11_leap wsX11_leap { frames := 1, cells := 0, slots := 0, locals := 22 } 0 0 False True [.ref h, .int a1] s0 out := by
  refine Met.ofW (cc := cX11_leap) (maxL := 2) (ret := (some .int)) (by decide) rfl ?_
  intro p e s m args below meth c s₁ B hml hv
  obtain ⟨rfl, hP, hK, hD0, hkx, hsz, hal⟩ := hv
  have hx := B.exec
  have hb := B.bytes
  have hr := B.returns
  have hts := atoms_spec (ws := wsX11_leap) B.pre
  have hown : s.vm.findClass RX11 = some m.cls := findClass_of_methodNamed B.named
  have hlocks := B.notSynchronized
  have hI : HI D cy s s0 s0 s.heap [] 0 False True := ⟨hK, hP, hD0.weaken (fun k q hk _ => Or.inl (pl_mem hk)), va_S.rf, hsz.1, hkx, ⟨hsz, hal⟩, fun _ => rfl, Nat.le_refl _⟩
  have hl := lv_entry ([.ref h, .int a1]) (n := 2) (Nat.le_of_ble_eq_true rfl)
  rw [lg_entry_eq]
  generalize (lg_sl ([.ref h, .int a1]) ++ List.replicate (2 - (lg_sl ([.ref h, .int a1])).length) Slot.unset).toArray = ls at hl ⊢
  have hl : lv_has ls 2 [(0, .ref h), (1, .int a1)] := hl
  obtain ⟨K0, hK0, hf⟩ := top_e hf
  have B_26 : ∀ (v1 : Int32)  (st : HSt) (H : Heap) (locs : List Loc) (ls : Array Slot), HI D cy s s0 st H locs 0 False True → lv_has ls 2 [(1, .int v1)] → (fh_X11_leap_j26 h v1 st).bind K0 = some out → W p l e (headSpec wsX11_leap { frames := 1, cells := 0, slots := 0, locals := 22 }).room s m (([.ref h, .int a1] : List Value).toArray) below meth c H locs 0 0 (MQ below (HQi D cy s0 0 True out) ([.ref h, .int a1] : List Value).toArray s 0 0 (hF s0)) (F0 m 26 ls []) := by
    intro v1 st H locs ls hI hl hf
    unfold fh_X11_leap_j26 at hf
    refine lv_iload_n hx hb dX11_leap_26 rfl (lv_at hl 0 rfl) ?_
    refine lv_sipush (v := 400) hx hb dX11_leap_27 (by decide) ?_
    refine lv_irem hx hb dX11_leap_30 (by decide) ?_
    refine lv_if_ne (tgt := 38) hx hb dX11_leap_31 (by decide) (fun c5 => ?_) (fun c5 => ?_)
    · replace hf := ifn c5 hf
      refine lv_iconst (v := 0) hx hb dX11_leap_38 (by decide) ?_
      exact hret_i hx hb hr hlocks hI (by decide) (by decide) (fun _ => ⟨trivial, rfl⟩) (ret_e hK0 hf) dX11_leap_39
    · replace hf := ifp c5 hf
      refine lv_iconst (v := 1) hx hb dX11_leap_34 (by decide) ?_
      refine lv_goto (tgt := 39) hx hb dX11_leap_35 (by decide) ?_
      exact hret_i hx hb hr hlocks hI (by decide) (by decide) (fun _ => ⟨trivial, rfl⟩) (ret_e hK0 hf) dX11_leap_39
  unfold fh_X11_leap at hf
  refine lv_iload_n hx hb dX11_leap_0 rfl (lv_at hl 1 rfl) ?_
  refine lv_iconst (v := 1) hx hb dX11_leap_1 (by decide) ?_
  refine lv_sipush (v := 9999) hx hb dX11_leap_2 (by decide) ?_
  obtain ⟨x1, hc2, hf⟩ := bnd_b hf
  refine hcall_Si (ex2 := True) (As := [.int a1, .int (1 : Int32), .int (9999 : Int32)]) (rest := []) (n := 3) ⟨hx, hb, hml, hown, hts⟩ (ch_X11_isWithin l D cy a1 (1 : Int32) (9999 : Int32) s0 x1 hc2) (va_cwS 3 hts gX11_leap_X11_isWithin rfl rfl rfl nd_X11_isWithin ⟨Nat.le_of_ble_eq_true rfl, Nat.le_of_ble_eq_true rfl⟩) hI (fun h => h.elim) (fun _ => ⟨trivial, trivial⟩) rfl hl.1 (Nat.le_of_ble_eq_true rfl) dX11_leap_5 ⟨Nat.le_of_ble_eq_true rfl, Nat.le_of_ble_eq_true rfl⟩ (fun H locs hI => ?_)
  refine lv_if_ne (tgt := 13) hx hb dX11_leap_8 (by decide) (fun c3 => ?_) (fun c3 => ?_)
  · replace hf := ifn c3 hf
    refine lv_iload_n hx hb dX11_leap_13 rfl (lv_at hl 1 rfl) ?_
    refine lv_iconst (v := 4) hx hb dX11_leap_14 (by decide) ?_
    refine lv_irem hx hb dX11_leap_15 (by decide) ?_
    refine lv_if_ne (tgt := 26) hx hb dX11_leap_16 (by decide) (fun c4 => ?_) (fun c4 => ?_)
    · replace hf := ifn c4 hf
      exact B_26 a1 x1.1 H locs ls hI (lv_sub hl [1] rfl) hf
    · replace hf := ifp c4 hf
      refine lv_iload_n hx hb dX11_leap_19 rfl (lv_at hl 1 rfl) ?_
      refine lv_bipush (v := 100) hx hb dX11_leap_20 (by decide) ?_
      refine lv_irem hx hb dX11_leap_22 (by decide) ?_
      refine lv_if_ne (tgt := 34) hx hb dX11_leap_23 (by decide) (fun c6 => ?_) (fun c6 => ?_)
      · replace hf := ifn c6 hf
        refine lv_iconst (v := 1) hx hb dX11_leap_34 (by decide) ?_
        refine lv_goto (tgt := 39) hx hb dX11_leap_35 (by decide) ?_
        exact hret_i hx hb hr hlocks hI (by decide) (by decide) (fun _ => ⟨trivial, rfl⟩) (ret_e hK0 hf) dX11_leap_39
      · replace hf := ifp c6 hf
        exact B_26 a1 x1.1 H locs ls hI (lv_sub hl [1] rfl) hf
  · replace hf := ifp c3 hf
    refine lv_iconst (v := -1) hx hb dX11_leap_11 (by decide) ?_
    exact hret_i hx hb hr hlocks hI (by decide) (by decide) (fun _ => ⟨trivial, rfl⟩) (ret_e hK0 hf) dX11_leap_12

theorem nd_X9_canMeetWithout : yX9_canMeetWithout.cls ≠ "java/lang/invoke/MethodHandle" ∧ yX9_canMeetWithout.cls ≠ "java/lang/invoke/VarHandle" ∧ (parseMethodDescriptor yX9_canMeetWithout.desc).map (fun d => d.parameters.length) = some 2 := by decide +kernel
set_option maxHeartbeats 4000000 in
set_option maxRecDepth 100000 in
theorem ch_X9_canMeetWithout (l : Launch) (D : va_G) (cy : Nat → ClassId) (h : Nat) (a1 : Int32) (a2 : Int32) (s0 : HSt) (out : HSt × Int32) (hf : fh_X9_canMeetWithout h a1 a2 s0 = some out) : CHi l D cy yX9_canMeetWithout wsX9_canMeetWithout { frames := 1, cells := 0, slots := 0, locals := 40 } 0 0 False True [.ref h, .int a1, .int a2] s0 out := by
  refine Met.ofW (cc := cX9_canMeetWithout) (maxL := 6) (ret := (some .boolean)) (by decide) rfl ?_
  intro p e s m args below meth c s₁ B hml hv
  obtain ⟨rfl, hP, hK, hD0, hkx, hsz, hal⟩ := hv
  have hx := B.exec
  have hb := B.bytes
  have hr := B.returns
  have hts := atoms_spec (ws := wsX9_canMeetWithout) B.pre
  have hown : s.vm.findClass RX9 = some m.cls := findClass_of_methodNamed B.named
  have hlocks := B.notSynchronized
  have hI : HI D cy s s0 s0 s.heap [] 0 False True := ⟨hK, hP, hD0.weaken (fun k q hk _ => Or.inl (pl_mem hk)), va_S.rf, hsz.1, hkx, ⟨hsz, hal⟩, fun _ => rfl, Nat.le_refl _⟩
  have hin_X4 : ∀ w ∈ u_ws RX4 TX4 9, w ∈ wsX9_canMeetWithout := fun w hw => List.mem_cons_of_mem _ (List.mem_append_right _ hw)
  have hin_X9 : ∀ w ∈ u_ws RX9 TX9 5, w ∈ wsX9_canMeetWithout := fun w hw => List.mem_cons_of_mem _ (List.mem_append_left _ (List.mem_append_right _ hw))
  have kl_12 : Cond.fieldLink RX9 12 "HalfBridge$Span" "river" "LHalfBridge$River;" ∈ wsX9_canMeetWithout := by decide +kernel
  have kl_16 : Cond.fieldLink RX9 16 "HalfBridge$Span" "yards" "[I" ∈ wsX9_canMeetWithout := by decide +kernel
  have kl_84 : Cond.fieldLink RX9 84 "HalfBridge$River" "step" "I" ∈ wsX9_canMeetWithout := by decide +kernel
  have hl := lv_entry ([.ref h, .int a1, .int a2]) (n := 6) (Nat.le_of_ble_eq_true rfl)
  rw [lg_entry_eq]
  generalize (lg_sl ([.ref h, .int a1, .int a2]) ++ List.replicate (6 - (lg_sl ([.ref h, .int a1, .int a2])).length) Slot.unset).toArray = ls at hl ⊢
  have hl : lv_has ls 6 [(0, .ref h), (1, .int a1), (2, .int a2)] := hl
  obtain ⟨K0, hK0, hf⟩ := top_e hf
  unfold fh_X9_canMeetWithout at hf
  refine lv_iload_n hx hb dX9_canMeetWithout_0 rfl (lv_at hl 1 rfl) ?_
  refine lv_aload_n hx hb dX9_canMeetWithout_1 rfl (lv_at hl 0 rfl) ?_
  obtain ⟨k1, hf⟩ := chk_b hf
  refine hg_9_2 hx hb hts hin_X9 hown kl_16 hI (isk_k k1) dX9_canMeetWithout_2 ?_
  refine lv_iconst (v := 0) hx hb dX9_canMeetWithout_5 (by decide) ?_
  obtain ⟨b2, hd3, hf⟩ := bnd_b hf
  obtain ⟨hq4, hk5⟩ := dr_e hd3
  refine W.eq (g2 := F0 m 6 ls [.int (0 : Int32), .ref b2, .int a1]) (by rw [hq4]; rfl) ?_
  obtain ⟨k6, hf⟩ := chk_b hf
  refine hl_I hx hb hI hk5 k6 dX9_canMeetWithout_6 ?_
  refine lv_icmp_gt (tgt := 20) hx hb dX9_canMeetWithout_7 (by decide) (fun c7 => ?_) (fun c7 => ?_)
  · replace hf := ifp c7 hf
    refine lv_iconst (v := 0) hx hb dX9_canMeetWithout_20 (by decide) ?_
    exact hret_z hx hb hr (by decide) hlocks hI (by decide) (by decide) (fun _ => ⟨trivial, rfl⟩) (ret_e hK0 hf) dX9_canMeetWithout_21
  · replace hf := ifn c7 hf
    refine lv_iload_n hx hb dX9_canMeetWithout_10 rfl (lv_at hl 2 rfl) ?_
    refine lv_aload_n hx hb dX9_canMeetWithout_11 rfl (lv_at hl 0 rfl) ?_
    refine hg_9_2 hx hb hts hin_X9 hown kl_16 hI (isk_k k1) dX9_canMeetWithout_12 ?_
    refine lv_iconst (v := 1) hx hb dX9_canMeetWithout_15 (by decide) ?_
    refine W.eq (g2 := F0 m 16 ls [.int (1 : Int32), .ref b2, .int a2]) (by rw [hq4]; rfl) ?_
    obtain ⟨k8, hf⟩ := chk_b hf
    refine hl_I hx hb hI hk5 k8 dX9_canMeetWithout_16 ?_
    refine lv_icmp_le (tgt := 22) hx hb dX9_canMeetWithout_17 (by decide) (fun c9 => ?_) (fun c9 => ?_)
    · replace hf := ifp c9 hf
      refine lv_aload_n hx hb dX9_canMeetWithout_22 rfl (lv_at hl 0 rfl) ?_
      refine hg_9_0 hx hb hts hin_X9 hown kl_12 hI (isk_k k1) dX9_canMeetWithout_23 ?_
      obtain ⟨b10, hd11, hf⟩ := bnd_b hf
      obtain ⟨hq12, hk13⟩ := dr_e hd11
      refine W.eq (g2 := F0 m 26 ls [.ref b10]) (by rw [hq12]; rfl) ?_
      refine hg_4_1 hx hb hts hin_X4 hown kl_84 hI hk13 dX9_canMeetWithout_26 ?_
      refine lv_aload_n hx hb dX9_canMeetWithout_29 rfl (lv_at hl 0 rfl) ?_
      obtain ⟨x14, hc15, hf⟩ := bnd_b hf
      refine hcall_Vi (ex2 := True) (As := []) (rest := [.int (gI s0 401 b10)]) (n := 0) (by rw [(isk_k k1)]; decide) (hC_10 (isk_k k1)) rfl ⟨hx, hb, hml, hown, hts⟩ (ch_X9_gap l D cy h s0 x14 hc15) (cwV 0 hts gX9_canMeetWithout_X9_gap rfl rfl rfl ⟨rfl, nd_X9_gap⟩ ⟨Nat.le_of_ble_eq_true rfl, Nat.le_of_ble_eq_true rfl⟩) hI (fun h => h.elim) (fun _ => ⟨trivial, trivial⟩) rfl hl.1 (Nat.le_of_ble_eq_true rfl) dX9_canMeetWithout_30 ⟨Nat.le_of_ble_eq_true rfl, Nat.le_of_ble_eq_true rfl⟩ (fun H locs hI => ?_)
      refine lv_iload_n hx hb dX9_canMeetWithout_33 rfl (lv_at hl 1 rfl) ?_
      refine lv_iadd hx hb dX9_canMeetWithout_34 ?_
      refine lv_iload_n hx hb dX9_canMeetWithout_35 rfl (lv_at hl 2 rfl) ?_
      refine lv_iadd hx hb dX9_canMeetWithout_36 ?_
      refine lv_iconst (v := 1) hx hb dX9_canMeetWithout_37 (by decide) ?_
      refine lv_iadd hx hb dX9_canMeetWithout_38 ?_
      refine lv_imul hx hb dX9_canMeetWithout_39 ?_
      refine lv_istore_n (lv' := [(3, .int ((gI s0 401 b10) * (((x14.2 + a1) + a2) + (1 : Int32)))), (0, .ref h), (1, .int a1), (2, .int a2)]) hx hb dX9_canMeetWithout_40 rfl hl (by decide) rfl (fun ls hl => ?_)
      refine lv_aload_n hx hb dX9_canMeetWithout_41 rfl (lv_at hl 1 rfl) ?_
      obtain ⟨k16, hf⟩ := chk_b hf
      refine hg_9_2 hx hb hts hin_X9 hown kl_16 hI (isk_k k16) dX9_canMeetWithout_42 ?_
      refine lv_iconst (v := 0) hx hb dX9_canMeetWithout_45 (by decide) ?_
      obtain ⟨b17, hd18, hf⟩ := bnd_b hf
      obtain ⟨hq19, hk20⟩ := dr_e hd18
      refine W.eq (g2 := F0 m 46 ls [.int (0 : Int32), .ref b17]) (by rw [hq19]; rfl) ?_
      obtain ⟨k21, hf⟩ := chk_b hf
      refine hl_I hx hb hI hk20 k21 dX9_canMeetWithout_46 ?_
      refine lv_iload_n hx hb dX9_canMeetWithout_47 rfl (lv_at hl 2 rfl) ?_
      refine lv_isub hx hb dX9_canMeetWithout_48 ?_
      refine lv_iconst (v := 1) hx hb dX9_canMeetWithout_49 (by decide) ?_
      refine lv_isub hx hb dX9_canMeetWithout_50 ?_
      refine lv_istore (lv' := [(4, .int (((gA x14.1 b17 (0 : Int32).toNatClampNeg) - a1) - (1 : Int32))), (3, .int ((gI s0 401 b10) * (((x14.2 + a1) + a2) + (1 : Int32)))), (0, .ref h), (1, .int a1), (2, .int a2)]) hx hb dX9_canMeetWithout_51 hl (by decide) rfl (fun ls hl => ?_)
      refine lv_aload_n hx hb dX9_canMeetWithout_53 rfl (lv_at hl 2 rfl) ?_
      refine hg_9_2 hx hb hts hin_X9 hown kl_16 hI (isk_k k16) dX9_canMeetWithout_54 ?_
      refine lv_iconst (v := 1) hx hb dX9_canMeetWithout_57 (by decide) ?_
      refine W.eq (g2 := F0 m 58 ls [.int (1 : Int32), .ref b17]) (by rw [hq19]; rfl) ?_
      obtain ⟨k22, hf⟩ := chk_b hf
      refine hl_I hx hb hI hk20 k22 dX9_canMeetWithout_58 ?_
      refine lv_iload_n hx hb dX9_canMeetWithout_59 rfl (lv_at hl 4 rfl) ?_
      refine lv_isub hx hb dX9_canMeetWithout_60 ?_
      refine lv_iconst (v := 1) hx hb dX9_canMeetWithout_61 (by decide) ?_
      refine lv_isub hx hb dX9_canMeetWithout_62 ?_
      refine lv_istore (lv' := [(5, .int (((gA x14.1 b17 (1 : Int32).toNatClampNeg) - a2) - (1 : Int32))), (4, .int (((gA x14.1 b17 (0 : Int32).toNatClampNeg) - a1) - (1 : Int32))), (3, .int ((gI s0 401 b10) * (((x14.2 + a1) + a2) + (1 : Int32)))), (0, .ref h), (1, .int a1), (2, .int a2)]) hx hb dX9_canMeetWithout_63 hl (by decide) rfl (fun ls hl => ?_)
      refine lv_aload_n hx hb dX9_canMeetWithout_65 rfl (lv_at hl 3 rfl) ?_
      refine lv_iconst (v := 0) hx hb dX9_canMeetWithout_66 (by decide) ?_
      refine lv_iload hx hb dX9_canMeetWithout_67 (lv_at hl 1 rfl) ?_
      obtain ⟨x23, hc24, hf⟩ := bnd_b hf
      refine hcall_Vi (ex2 := True) (As := [.int (0 : Int32), .int (((gA x14.1 b17 (0 : Int32).toNatClampNeg) - a1) - (1 : Int32))]) (rest := []) (n := 2) (by rw [(isk_k k16)]; decide) (hC_10 (isk_k k16)) rfl ⟨hx, hb, hml, hown, hts⟩ (ch_X9_lineAt l D cy h (0 : Int32) (((gA x14.1 b17 (0 : Int32).toNatClampNeg) - a1) - (1 : Int32)) x14.1 x23 hc24) (cwV 2 hts gX9_canMeetWithout_X9_lineAt rfl rfl rfl ⟨rfl, nd_X9_lineAt⟩ ⟨Nat.le_of_ble_eq_true rfl, Nat.le_of_ble_eq_true rfl⟩) hI (fun h => h.elim) (fun _ => ⟨trivial, trivial⟩) rfl hl.1 (Nat.le_of_ble_eq_true rfl) dX9_canMeetWithout_69 ⟨Nat.le_of_ble_eq_true rfl, Nat.le_of_ble_eq_true rfl⟩ (fun H locs hI => ?_)
      refine lv_aload_n hx hb dX9_canMeetWithout_72 rfl (lv_at hl 3 rfl) ?_
      refine lv_iconst (v := 1) hx hb dX9_canMeetWithout_73 (by decide) ?_
      refine lv_iload hx hb dX9_canMeetWithout_74 (lv_at hl 0 rfl) ?_
      obtain ⟨k25, hf⟩ := chk_b hf
      obtain ⟨x26, hc27, hf⟩ := bnd_b hf
      refine hcall_Vi (ex2 := True) (As := [.int (1 : Int32), .int (((gA x14.1 b17 (1 : Int32).toNatClampNeg) - a2) - (1 : Int32))]) (rest := [.int x23.2]) (n := 2) (by rw [(isk_k k25)]; decide) (hC_10 (isk_k k25)) rfl ⟨hx, hb, hml, hown, hts⟩ (ch_X9_lineAt l D cy h (1 : Int32) (((gA x14.1 b17 (1 : Int32).toNatClampNeg) - a2) - (1 : Int32)) x23.1 x26 hc27) (cwV 2 hts gX9_canMeetWithout_X9_lineAt rfl rfl rfl ⟨rfl, nd_X9_lineAt⟩ ⟨Nat.le_of_ble_eq_true rfl, Nat.le_of_ble_eq_true rfl⟩) hI (fun h => h.elim) (fun _ => ⟨trivial, trivial⟩) rfl hl.1 (Nat.le_of_ble_eq_true rfl) dX9_canMeetWithout_76 ⟨Nat.le_of_ble_eq_true rfl, Nat.le_of_ble_eq_true rfl⟩ (fun H locs hI => ?_)
      refine lv_isub hx hb dX9_canMeetWithout_79 ?_
      refine va_mabs hx hb (hml.trans hl.1.symm) hown (hts (.methodLink RX9 57 Lib.Math.abs.name) (by decide +kernel)) (hts (.static Lib.Math.abs.name) (by decide +kernel)) (hts (.initialized "java/lang/Math") (by decide +kernel)) (hts (.code Lib.Math.abs.name Lib.Math.abs.code 1 (some .int)) (by decide +kernel)) (Nat.le_of_ble_eq_true rfl) (Nat.le_of_ble_eq_true rfl) (Nat.le_of_ble_eq_true rfl) (Nat.le_of_ble_eq_true rfl) dX9_canMeetWithout_80 ?_
      refine lv_iload_n hx hb dX9_canMeetWithout_83 rfl (lv_at hl 2 rfl) ?_
      refine lv_icmp_gt (tgt := 113) hx hb dX9_canMeetWithout_84 (by decide) (fun c28 => ?_) (fun c28 => ?_)
      · replace hf := ifp c28 hf
        refine lv_iconst (v := 0) hx hb dX9_canMeetWithout_113 (by decide) ?_
        exact hret_z hx hb hr (by decide) hlocks hI (by decide) (by decide) (fun _ => ⟨trivial, rfl⟩) (ret_e hK0 hf) dX9_canMeetWithout_114
      · replace hf := ifn c28 hf
        refine lv_aload_n hx hb dX9_canMeetWithout_87 rfl (lv_at hl 3 rfl) ?_
        refine lv_iconst (v := 0) hx hb dX9_canMeetWithout_88 (by decide) ?_
        refine lv_iload hx hb dX9_canMeetWithout_89 (lv_at hl 1 rfl) ?_
        obtain ⟨k29, hf⟩ := chk_b hf
        obtain ⟨x30, hc31, hf⟩ := bnd_b hf
        refine hcall_Vi (ex2 := True) (As := [.int (0 : Int32), .int (((gA x14.1 b17 (0 : Int32).toNatClampNeg) - a1) - (1 : Int32))]) (rest := []) (n := 2) (by rw [(isk_k k29)]; decide) (hC_10 (isk_k k29)) rfl ⟨hx, hb, hml, hown, hts⟩ (ch_X9_heightAt l D cy h (0 : Int32) (((gA x14.1 b17 (0 : Int32).toNatClampNeg) - a1) - (1 : Int32)) x26.1 x30 hc31) (cwV 2 hts gX9_canMeetWithout_X9_heightAt rfl rfl rfl ⟨rfl, nd_X9_heightAt⟩ ⟨Nat.le_of_ble_eq_true rfl, Nat.le_of_ble_eq_true rfl⟩) hI (fun h => h.elim) (fun _ => ⟨trivial, trivial⟩) rfl hl.1 (Nat.le_of_ble_eq_true rfl) dX9_canMeetWithout_91 ⟨Nat.le_of_ble_eq_true rfl, Nat.le_of_ble_eq_true rfl⟩ (fun H locs hI => ?_)
        refine lv_aload_n hx hb dX9_canMeetWithout_94 rfl (lv_at hl 3 rfl) ?_
        refine lv_iconst (v := 1) hx hb dX9_canMeetWithout_95 (by decide) ?_
        refine lv_iload hx hb dX9_canMeetWithout_96 (lv_at hl 0 rfl) ?_
        obtain ⟨k32, hf⟩ := chk_b hf
        obtain ⟨x33, hc34, hf⟩ := bnd_b hf
        refine hcall_Vi (ex2 := True) (As := [.int (1 : Int32), .int (((gA x14.1 b17 (1 : Int32).toNatClampNeg) - a2) - (1 : Int32))]) (rest := [.int x30.2]) (n := 2) (by rw [(isk_k k32)]; decide) (hC_10 (isk_k k32)) rfl ⟨hx, hb, hml, hown, hts⟩ (ch_X9_heightAt l D cy h (1 : Int32) (((gA x14.1 b17 (1 : Int32).toNatClampNeg) - a2) - (1 : Int32)) x30.1 x33 hc34) (cwV 2 hts gX9_canMeetWithout_X9_heightAt rfl rfl rfl ⟨rfl, nd_X9_heightAt⟩ ⟨Nat.le_of_ble_eq_true rfl, Nat.le_of_ble_eq_true rfl⟩) hI (fun h => h.elim) (fun _ => ⟨trivial, trivial⟩) rfl hl.1 (Nat.le_of_ble_eq_true rfl) dX9_canMeetWithout_98 ⟨Nat.le_of_ble_eq_true rfl, Nat.le_of_ble_eq_true rfl⟩ (fun H locs hI => ?_)
        refine lv_isub hx hb dX9_canMeetWithout_101 ?_
        refine va_mabs hx hb (hml.trans hl.1.symm) hown (hts (.methodLink RX9 57 Lib.Math.abs.name) (by decide +kernel)) (hts (.static Lib.Math.abs.name) (by decide +kernel)) (hts (.initialized "java/lang/Math") (by decide +kernel)) (hts (.code Lib.Math.abs.name Lib.Math.abs.code 1 (some .int)) (by decide +kernel)) (Nat.le_of_ble_eq_true rfl) (Nat.le_of_ble_eq_true rfl) (Nat.le_of_ble_eq_true rfl) (Nat.le_of_ble_eq_true rfl) dX9_canMeetWithout_102 ?_
        refine lv_iload_n hx hb dX9_canMeetWithout_105 rfl (lv_at hl 2 rfl) ?_
        refine lv_icmp_gt (tgt := 113) hx hb dX9_canMeetWithout_106 (by decide) (fun c35 => ?_) (fun c35 => ?_)
        · replace hf := ifp c35 hf
          refine lv_iconst (v := 0) hx hb dX9_canMeetWithout_113 (by decide) ?_
          exact hret_z hx hb hr (by decide) hlocks hI (by decide) (by decide) (fun _ => ⟨trivial, rfl⟩) (ret_e hK0 hf) dX9_canMeetWithout_114
        · replace hf := ifn c35 hf
          refine lv_iconst (v := 1) hx hb dX9_canMeetWithout_109 (by decide) ?_
          refine lv_goto (tgt := 114) hx hb dX9_canMeetWithout_110 (by decide) ?_
          exact hret_z hx hb hr (by decide) hlocks hI (by decide) (by decide) (fun _ => ⟨trivial, rfl⟩) (ret_e hK0 hf) dX9_canMeetWithout_114
    · replace hf := ifn c9 hf
      refine lv_iconst (v := 0) hx hb dX9_canMeetWithout_20 (by decide) ?_
      exact hret_z hx hb hr (by decide) hlocks hI (by decide) (by decide) (fun _ => ⟨trivial, rfl⟩) (ret_e hK0 hf) dX9_canMeetWithout_21

theorem nd_X11_mend : yX11_mend.cls ≠ "java/lang/invoke/MethodHandle" ∧ yX11_mend.cls ≠ "java/lang/invoke/VarHandle" ∧ (parseMethodDescriptor yX11_mend.desc).map (fun d => d.parameters.length) = some 1 := by decide +kernel
set_option maxHeartbeats 4000000 in
set_option maxRecDepth 100000 in
theorem ch_X11_mend (l : Launch) (D : va_G) (cy : Nat → ClassId) (h : Nat) (a1 : Int32) (s0 : HSt) (out : HSt × Int32) (hf : fh_X11_mend h a1 s0 = some out) : CHi l D cy yX11_mend wsX11_mend { frames := 2, cells := 0, slots := 0, locals := 65 } 0 0 False True [.ref h, .int a1] s0 out := by
  refine Met.ofW (cc := cX11_mend) (maxL := 6) (ret := (some .int)) (by decide) rfl ?_
  intro p e s m args below meth c s₁ B hml hv
  obtain ⟨rfl, hP, hK, hD0, hkx, hsz, hal⟩ := hv
  have hx := B.exec
  have hb := B.bytes
  have hr := B.returns
  have hts := atoms_spec (ws := wsX11_mend) B.pre
  have hown : s.vm.findClass RX11 = some m.cls := findClass_of_methodNamed B.named
  have hlocks := B.notSynchronized
  have hI : HI D cy s s0 s0 s.heap [] 0 False True := ⟨hK, hP, hD0.weaken (fun k q hk _ => Or.inl (pl_mem hk)), va_S.rf, hsz.1, hkx, ⟨hsz, hal⟩, fun _ => rfl, Nat.le_refl _⟩
  have hin_X11 : ∀ w ∈ u_ws RX11 TX11 10, w ∈ wsX11_mend := fun w hw => List.mem_cons_of_mem _ (List.mem_append_left _ (List.mem_append_left _ (List.mem_append_left _ (List.mem_append_right _ hw))))
  have hin_X8 : ∀ w ∈ u_ws RX8 TX8 5, w ∈ wsX11_mend := fun w hw => List.mem_cons_of_mem _ (List.mem_append_left _ (List.mem_append_left _ (List.mem_append_right _ hw)))
  have kl_22 : Cond.fieldLink RX11 22 "HalfBridge" "site" "LHalfBridge$Site;" ∈ wsX11_mend := by decide +kernel
  have kl_93 : Cond.fieldLink RX11 93 "HalfBridge$Site" "span" "LHalfBridge$Span;" ∈ wsX11_mend := by decide +kernel
  have hl := lv_entry ([.ref h, .int a1]) (n := 6) (Nat.le_of_ble_eq_true rfl)
  rw [lg_entry_eq]
  generalize (lg_sl ([.ref h, .int a1]) ++ List.replicate (6 - (lg_sl ([.ref h, .int a1])).length) Slot.unset).toArray = ls at hl ⊢
  have hl : lv_has ls 6 [(0, .ref h), (1, .int a1)] := hl
  obtain ⟨K0, hK0, hf⟩ := top_e hf
  have B_98 : ∀   (st : HSt) (H : Heap) (locs : List Loc) (ls : Array Slot), HI D cy s s0 st H locs 0 False True → lv_has ls 6 [] → (fh_X11_mend_j98 h st).bind K0 = some out → W p l e (headSpec wsX11_mend { frames := 2, cells := 0, slots := 0, locals := 65 }).room s m (([.ref h, .int a1] : List Value).toArray) below meth c H locs 0 0 (MQ below (HQi D cy s0 0 True out) ([.ref h, .int a1] : List Value).toArray s 0 0 (hF s0)) (F0 m 98 ls []) := by
    intro st H locs ls hI hl hf
    unfold fh_X11_mend_j98 at hf
    refine lv_bipush (v := -2) hx hb dX11_mend_98 (by decide) ?_
    exact hret_i hx hb hr hlocks hI (by decide) (by decide) (fun _ => ⟨trivial, rfl⟩) (ret_e hK0 hf) dX11_mend_100
  have L_41 : ∀ (v1 : Int32) (v2 : Option Nat) (v3 : Int32) (n : Nat) (v4 : Int32) (st : HSt) (H : Heap) (locs : List Loc) (ls : Array Slot), HI D cy s s0 st H locs 0 False True → lv_has ls 6 [(1, .int v1), (2, va_rf v2), (3, .int v3), (4, .int v4)] → (iter (fun x : (Int32 × HSt) => fh_X11_mend_s41 h v1 v2 v3 x.1 x.2) n (v4, st)).bind (fun x => ((Sum.elim (fun o : HSt × Int32 => (some o : Option (HSt × Int32))) (fun x : (Int32 × HSt) => fh_X11_mend_j98 h x.2)) x).bind K0) = some out → W p l e (headSpec wsX11_mend { frames := 2, cells := 0, slots := 0, locals := 65 }).room s m (([.ref h, .int a1] : List Value).toArray) below meth c H locs 0 0 (MQ below (HQi D cy s0 0 True out) ([.ref h, .int a1] : List Value).toArray s 0 0 (hF s0)) (F0 m 41 ls []) := by
    intro v1 v2 v3 n
    induction n with
    | zero => intro v4 st H locs ls hI hl hf; exact (iter_0 hf).elim
    | succ n ih =>
      intro v4 st H locs ls hI hl hf
      obtain ⟨K1, hK1, hf⟩ := iter_e hf
      replace hf : (fh_X11_mend_s41 h v1 v2 v3 v4 st).bind K1 = some out := hf
      have B_41_92 : ∀ (v4 : Int32)  (st : HSt) (H : Heap) (locs : List Loc) (ls : Array Slot), HI D cy s s0 st H locs 0 False True → lv_has ls 6 [(1, .int v1), (2, va_rf v2), (3, .int v3), (4, .int v4)] → (fh_X11_mend_j92 h v1 v2 v3 v4 st).bind K1 = some out → W p l e (headSpec wsX11_mend { frames := 2, cells := 0, slots := 0, locals := 65 }).room s m (([.ref h, .int a1] : List Value).toArray) below meth c H locs 0 0 (MQ below (HQi D cy s0 0 True out) ([.ref h, .int a1] : List Value).toArray s 0 0 (hF s0)) (F0 m 92 ls []) := by
        intro v4 st H locs ls hI hl hf
        unfold fh_X11_mend_j92 at hf
        refine lv_iinc (v := (v4 + 1)) (lv' := [(4, .int (v4 + 1)), (1, .int v1), (2, va_rf v2), (3, .int v3)]) hx hb dX11_mend_92 hl (k := 3) rfl (ci_ _ (by decide)) (by decide) (by first | rfl | (simp [cat_rf, cat_i, cat_l, cat_r]; done) | (simp [cat_rf, cat_i, cat_l, cat_r]; decide)) (fun ls hl => ?_)
        refine lv_goto (tgt := 41) hx hb dX11_mend_95 (by decide) ?_
        replace hf := cont_b hK1 hf
        exact ih (v4 + 1) st H locs ls hI (lv_sub hl [1, 2, 3, 0] rfl) hf
      have L_41_50 : ∀ (v4 : Int32) (n : Nat) (v5 : Int32) (st : HSt) (H : Heap) (locs : List Loc) (ls : Array Slot), HI D cy s s0 st H locs 0 False True → lv_has ls 6 [(1, .int v1), (2, va_rf v2), (3, .int v3), (4, .int v4), (5, .int v5)] → (iter (fun x : (Int32 × HSt) => fh_X11_mend_s50 h v1 v2 v3 v4 x.1 x.2) n (v5, st)).bind (fun x => ((Sum.elim (fun o : HSt × Int32 => (some (.inl o) : Option ((HSt × Int32) ⊕ ((Int32 × HSt) ⊕ (Int32 × HSt))))) (fun x : (Int32 × HSt) => fh_X11_mend_j92 h v1 v2 v3 v4 x.2)) x).bind K1) = some out → W p l e (headSpec wsX11_mend { frames := 2, cells := 0, slots := 0, locals := 65 }).room s m (([.ref h, .int a1] : List Value).toArray) below meth c H locs 0 0 (MQ below (HQi D cy s0 0 True out) ([.ref h, .int a1] : List Value).toArray s 0 0 (hF s0)) (F0 m 50 ls []) := by
        intro v4 n
        induction n with
        | zero => intro v5 st H locs ls hI hl hf; exact (iter_0 hf).elim
        | succ n ih =>
          intro v5 st H locs ls hI hl hf
          obtain ⟨K2, hK2, hf⟩ := iter_e hf
          replace hf : (fh_X11_mend_s50 h v1 v2 v3 v4 v5 st).bind K2 = some out := hf
          unfold fh_X11_mend_s50 at hf
          refine lv_iload hx hb dX11_mend_50 (lv_at hl 4 rfl) ?_
          refine lv_iload hx hb dX11_mend_52 (lv_at hl 3 rfl) ?_
          refine lv_icmp_gt (tgt := 92) hx hb dX11_mend_54 (by decide) (fun c23 => ?_) (fun c23 => ?_)
          · replace hf := ifp c23 hf
            replace hf := exit_b hK2 hf
            exact B_41_92 v4 st H locs ls hI (lv_sub hl [0, 1, 2, 3] rfl) hf
          · replace hf := ifn c23 hf
            refine hq_aload_n hx hb dX11_mend_57 rfl (lv_at hl 1 rfl) ?_
            refine lv_iload hx hb dX11_mend_58 (lv_at hl 4 rfl) ?_
            refine lv_iload hx hb dX11_mend_60 (lv_at hl 3 rfl) ?_
            refine lv_iload hx hb dX11_mend_62 (lv_at hl 4 rfl) ?_
            refine lv_isub hx hb dX11_mend_64 ?_
            obtain ⟨b24, hd25, hf⟩ := bnd_b hf
            obtain ⟨hq26, hk27⟩ := dr_e hd25
            refine W.eq (g2 := F0 m 65 ls [.int (v4 - v5), .int v5, .ref b24]) (by rw [hq26]; rfl) ?_
            obtain ⟨x28, hc29, hf⟩ := bnd_b hf
            refine hcall_Vi (ex2 := True) (As := [.int v5, .int (v4 - v5)]) (rest := []) (n := 2) (by rw [hk27]; decide) (hC_10 hk27) rfl ⟨hx, hb, hml, hown, hts⟩ (ch_X9_canMeetWithout l D cy b24 v5 (v4 - v5) st x28 hc29) (cwV 2 hts gX11_mend_X9_canMeetWithout rfl rfl rfl ⟨rfl, nd_X9_canMeetWithout⟩ ⟨Nat.le_of_ble_eq_true rfl, Nat.le_of_ble_eq_true rfl⟩) hI (fun h => h.elim) (fun _ => ⟨trivial, trivial⟩) rfl hl.1 (Nat.le_of_ble_eq_true rfl) dX11_mend_65 ⟨Nat.le_of_ble_eq_true rfl, Nat.le_of_ble_eq_true rfl⟩ (fun H locs hI => ?_)
            refine lv_if_eq (tgt := 86) hx hb dX11_mend_68 (by decide) (fun c30 => ?_) (fun c30 => ?_)
            · replace hf := ifp c30 hf
              refine lv_iinc (v := (v5 + 1)) (lv' := [(5, .int (v5 + 1)), (1, .int v1), (2, va_rf v2), (3, .int v3), (4, .int v4)]) hx hb dX11_mend_86 hl (k := 4) rfl (ci_ _ (by decide)) (by decide) (by first | rfl | (simp [cat_rf, cat_i, cat_l, cat_r]; done) | (simp [cat_rf, cat_i, cat_l, cat_r]; decide)) (fun ls hl => ?_)
              refine lv_goto (tgt := 50) hx hb dX11_mend_89 (by decide) ?_
              replace hf := cont_b hK2 hf
              exact ih (v5 + 1) x28.1 H locs ls hI (lv_sub hl [1, 2, 3, 4, 0] rfl) hf
            · replace hf := ifn c30 hf
              refine lv_iload_n hx hb dX11_mend_71 rfl (lv_at hl 0 rfl) ?_
              refine lv_if_ne (tgt := 80) hx hb dX11_mend_72 (by decide) (fun c31 => ?_) (fun c31 => ?_)
              · replace hf := ifn c31 hf
                refine lv_iload hx hb dX11_mend_80 (lv_at hl 3 rfl) ?_
                refine lv_iload hx hb dX11_mend_82 (lv_at hl 4 rfl) ?_
                refine lv_isub hx hb dX11_mend_84 ?_
                replace hf := inl_b hK2 hf
                replace hf : Option.bind (some (Sum.inl (x28.1, (v4 - v5)))) K1 = some out := hf
                replace hf := inl_b hK1 hf
                replace hf : Option.bind (some (x28.1, (v4 - v5))) K0 = some out := hf
                exact hret_i hx hb hr hlocks hI (by decide) (by decide) (fun _ => ⟨trivial, rfl⟩) (ret_e hK0 hf) dX11_mend_85
              · replace hf := ifp c31 hf
                refine lv_iload hx hb dX11_mend_75 (lv_at hl 4 rfl) ?_
                refine lv_goto (tgt := 85) hx hb dX11_mend_77 (by decide) ?_
                replace hf := inl_b hK2 hf
                replace hf : Option.bind (some (Sum.inl (x28.1, v5))) K1 = some out := hf
                replace hf := inl_b hK1 hf
                replace hf : Option.bind (some (x28.1, v5)) K0 = some out := hf
                exact hret_i hx hb hr hlocks hI (by decide) (by decide) (fun _ => ⟨trivial, rfl⟩) (ret_e hK0 hf) dX11_mend_85
      unfold fh_X11_mend_s41 at hf
      refine lv_iload hx hb dX11_mend_41 (lv_at hl 3 rfl) ?_
      refine lv_iload_n hx hb dX11_mend_43 rfl (lv_at hl 2 rfl) ?_
      refine lv_icmp_gt (tgt := 98) hx hb dX11_mend_44 (by decide) (fun c22 => ?_) (fun c22 => ?_)
      · replace hf := ifp c22 hf
        replace hf := exit_b hK1 hf
        exact B_98  st H locs ls hI (lv_sub hl [] rfl) hf
      · replace hf := ifn c22 hf
        refine lv_iconst (v := 0) hx hb dX11_mend_47 (by decide) ?_
        refine lv_istore (lv' := [(5, .int (0 : Int32)), (1, .int v1), (2, va_rf v2), (3, .int v3), (4, .int v4)]) hx hb dX11_mend_48 hl (by decide) (by first | rfl | (simp [cat_rf, cat_i, cat_l, cat_r]; done) | (simp [cat_rf, cat_i, cat_l, cat_r]; decide)) (fun ls hl => ?_)
        exact L_41_50 v4 mFuel (0 : Int32) st H locs ls hI (lv_sub hl [1, 2, 3, 4, 0] rfl) (asc_b hf)
  unfold fh_X11_mend at hf
  refine lv_aload_n hx hb dX11_mend_0 rfl (lv_at hl 0 rfl) ?_
  obtain ⟨k1, hf⟩ := chk_b hf
  obtain ⟨x2, hc3, hf⟩ := bnd_b hf
  refine hcall_Vi (ex2 := True) (As := []) (rest := []) (n := 0) (by rw [(isk_k k1)]; decide) (hC_12 (isk_k k1)) rfl ⟨hx, hb, hml, hown, hts⟩ (ch_X11_hasRiver l D cy h s0 x2 hc3) (cwV 0 hts gX11_mend_X11_hasRiver rfl rfl rfl ⟨rfl, nd_X11_hasRiver⟩ ⟨Nat.le_of_ble_eq_true rfl, Nat.le_of_ble_eq_true rfl⟩) hI (fun h => h.elim) (fun _ => ⟨trivial, trivial⟩) rfl hl.1 (Nat.le_of_ble_eq_true rfl) dX11_mend_1 ⟨Nat.le_of_ble_eq_true rfl, Nat.le_of_ble_eq_true rfl⟩ (fun H locs hI => ?_)
  refine lv_if_eq (tgt := 16) hx hb dX11_mend_4 (by decide) (fun c4 => ?_) (fun c4 => ?_)
  · replace hf := ifp c4 hf
    refine lv_iconst (v := -1) hx hb dX11_mend_16 (by decide) ?_
    exact hret_i hx hb hr hlocks hI (by decide) (by decide) (fun _ => ⟨trivial, rfl⟩) (ret_e hK0 hf) dX11_mend_17
  · replace hf := ifn c4 hf
    refine lv_iload_n hx hb dX11_mend_7 rfl (lv_at hl 1 rfl) ?_
    refine lv_iconst (v := 0) hx hb dX11_mend_8 (by decide) ?_
    refine lv_iconst (v := 1) hx hb dX11_mend_9 (by decide) ?_
    obtain ⟨x5, hc6, hf⟩ := bnd_b hf
    refine hcall_Si (ex2 := True) (As := [.int a1, .int (0 : Int32), .int (1 : Int32)]) (rest := []) (n := 3) ⟨hx, hb, hml, hown, hts⟩ (ch_X11_isWithin l D cy a1 (0 : Int32) (1 : Int32) x2.1 x5 hc6) (va_cwS 3 hts gX11_mend_X11_isWithin rfl rfl rfl nd_X11_isWithin ⟨Nat.le_of_ble_eq_true rfl, Nat.le_of_ble_eq_true rfl⟩) hI (fun h => h.elim) (fun _ => ⟨trivial, trivial⟩) rfl hl.1 (Nat.le_of_ble_eq_true rfl) dX11_mend_10 ⟨Nat.le_of_ble_eq_true rfl, Nat.le_of_ble_eq_true rfl⟩ (fun H locs hI => ?_)
    refine lv_if_ne (tgt := 18) hx hb dX11_mend_13 (by decide) (fun c7 => ?_) (fun c7 => ?_)
    · replace hf := ifn c7 hf
      refine lv_aload_n hx hb dX11_mend_18 rfl (lv_at hl 0 rfl) ?_
      obtain ⟨k8, hf⟩ := chk_b hf
      refine hg_11_4 hx hb hts hin_X11 hown kl_22 hI (isk_k k8) dX11_mend_19 ?_
      obtain ⟨b9, hd10, hf⟩ := bnd_b hf
      obtain ⟨hq11, hk12⟩ := dr_e hd10
      refine W.eq (g2 := F0 m 22 ls [.ref b9]) (by rw [hq11]; rfl) ?_
      refine hg_8_0 hx hb hts hin_X8 hown kl_93 hI hk12 dX11_mend_22 ?_
      refine hq_astore_n (lv' := [(2, va_rf (gR x5.1 800 b9)), (0, .ref h), (1, .int a1)]) hx hb dX11_mend_25 rfl hl (by decide) (by first | rfl | (simp [cat_rf, cat_i, cat_l, cat_r]; done) | (simp [cat_rf, cat_i, cat_l, cat_r]; decide)) (fun ls hl => ?_)
      refine hq_aload_n hx hb dX11_mend_26 rfl (lv_at hl 0 rfl) ?_
      refine lv_iconst (v := 0) hx hb dX11_mend_27 (by decide) ?_
      obtain ⟨b13, hd14, hf⟩ := bnd_b hf
      obtain ⟨hq15, hk16⟩ := dr_e hd14
      refine W.eq (g2 := F0 m 28 ls [.int (0 : Int32), .ref b13]) (by rw [hq15]; rfl) ?_
      obtain ⟨x17, hc18, hf⟩ := bnd_b hf
      refine hcall_Vi (ex2 := True) (As := [.int (0 : Int32)]) (rest := []) (n := 1) (by rw [hk16]; decide) (hC_10 hk16) rfl ⟨hx, hb, hml, hown, hts⟩ (ch_X9_yardsOf l D cy b13 (0 : Int32) x5.1 x17 hc18) (cwV 1 hts gX11_mend_X9_yardsOf rfl rfl rfl ⟨rfl, nd_X9_yardsOf⟩ ⟨Nat.le_of_ble_eq_true rfl, Nat.le_of_ble_eq_true rfl⟩) hI (fun h => h.elim) (fun _ => ⟨trivial, trivial⟩) rfl hl.1 (Nat.le_of_ble_eq_true rfl) dX11_mend_28 ⟨Nat.le_of_ble_eq_true rfl, Nat.le_of_ble_eq_true rfl⟩ (fun H locs hI => ?_)
      refine hq_aload_n hx hb dX11_mend_31 rfl (lv_at hl 0 rfl) ?_
      refine lv_iconst (v := 1) hx hb dX11_mend_32 (by decide) ?_
      refine W.eq (g2 := F0 m 33 ls [.int (1 : Int32), .ref b13, .int x17.2]) (by rw [hq15]; rfl) ?_
      obtain ⟨k19, hf⟩ := chk_b hf
      obtain ⟨x20, hc21, hf⟩ := bnd_b hf
      refine hcall_Vi (ex2 := True) (As := [.int (1 : Int32)]) (rest := [.int x17.2]) (n := 1) (by rw [(isk_k k19)]; decide) (hC_10 (isk_k k19)) rfl ⟨hx, hb, hml, hown, hts⟩ (ch_X9_yardsOf l D cy b13 (1 : Int32) x17.1 x20 hc21) (cwV 1 hts gX11_mend_X9_yardsOf rfl rfl rfl ⟨rfl, nd_X9_yardsOf⟩ ⟨Nat.le_of_ble_eq_true rfl, Nat.le_of_ble_eq_true rfl⟩) hI (fun h => h.elim) (fun _ => ⟨trivial, trivial⟩) rfl hl.1 (Nat.le_of_ble_eq_true rfl) dX11_mend_33 ⟨Nat.le_of_ble_eq_true rfl, Nat.le_of_ble_eq_true rfl⟩ (fun H locs hI => ?_)
      refine lv_iadd hx hb dX11_mend_36 ?_
      refine lv_istore_n (lv' := [(3, .int (x17.2 + x20.2)), (2, va_rf (gR x5.1 800 b9)), (0, .ref h), (1, .int a1)]) hx hb dX11_mend_37 rfl hl (by decide) (by first | rfl | (simp [cat_rf, cat_i, cat_l, cat_r]; done) | (simp [cat_rf, cat_i, cat_l, cat_r]; decide)) (fun ls hl => ?_)
      refine lv_iconst (v := 0) hx hb dX11_mend_38 (by decide) ?_
      refine lv_istore (lv' := [(4, .int (0 : Int32)), (3, .int (x17.2 + x20.2)), (2, va_rf (gR x5.1 800 b9)), (0, .ref h), (1, .int a1)]) hx hb dX11_mend_39 hl (by decide) (by first | rfl | (simp [cat_rf, cat_i, cat_l, cat_r]; done) | (simp [cat_rf, cat_i, cat_l, cat_r]; decide)) (fun ls hl => ?_)
      exact L_41 a1 (gR x5.1 800 b9) (x17.2 + x20.2) mFuel (0 : Int32) x20.1 H locs ls hI (lv_sub hl [4, 2, 1, 0] rfl) (asc_b hf)
    · replace hf := ifp c7 hf
      refine lv_iconst (v := -1) hx hb dX11_mend_16 (by decide) ?_
      exact hret_i hx hb hr hlocks hI (by decide) (by decide) (fun _ => ⟨trivial, rfl⟩) (ret_e hK0 hf) dX11_mend_17
