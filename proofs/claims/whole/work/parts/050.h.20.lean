noncomputable def fh_X9_beginAt (h : Nat) (a1 : Option Nat) (s0 : HSt) : Option (HSt) :=
  chk (isk s0 h 10) ((dr s0 (gR (sI (sR s0 900 h a1) 901 h (0 : Int32)) 902 h) 22).bind fun b2 => chk (inb (0 : Int32) (gL (sI (sR s0 900 h a1) 901 h (0 : Int32)) b2)) ((some (sA (sI (sR s0 900 h a1) 901 h (0 : Int32)) b2 (0 : Int32).toNatClampNeg (0 : Int32))).bind fun x7 => (dr x7 (gR x7 902 h) 22).bind fun b10 => chk (inb (1 : Int32) (gL x7 b10)) (some (sA x7 b10 (1 : Int32).toNatClampNeg (0 : Int32)))))
theorem nd_X9_beginAt : yX9_beginAt.cls ≠ "java/lang/invoke/MethodHandle" ∧ yX9_beginAt.cls ≠ "java/lang/invoke/VarHandle" ∧ (parseMethodDescriptor yX9_beginAt.desc).map (fun d => d.parameters.length) = some 1 := by decide +kernel
set_option maxHeartbeats 4000000 in
set_option maxRecDepth 100000 in
theorem ch_X9_beginAt (l : Launch) (D : va_G) (cy : Nat → ClassId) (h : Nat) (a1 : Option Nat) (s0 : HSt) (out : HSt) (hf : fh_X9_beginAt h a1 s0 = some out) : CHv l D cy yX9_beginAt wsX9_beginAt { frames := 0, cells := 0, slots := 0, locals := 0 } 0 0 False True [.ref h, va_rf a1] s0 out := by
  refine Met.ofW (cc := cX9_beginAt) (maxL := 2) (ret := none) (by decide) rfl ?_
  intro p e s m args below meth c s₁ B hml hv
  obtain ⟨rfl, hP, hK, hD0, hkx, hsz, hal⟩ := hv
  have hx := B.exec
  have hb := B.bytes
  have hr := B.returns
  have hts := atoms_spec (ws := wsX9_beginAt) B.pre
  have hown : s.vm.findClass RX9 = some m.cls := findClass_of_methodNamed B.named
  have hlocks := B.notSynchronized
  have hI : HI D cy s s0 s0 s.heap [] 0 False True := ⟨hK, hP, hD0.weaken (fun k q hk _ => Or.inl (pl_mem hk)), va_S.rf, hsz.1, hkx, ⟨hsz, hal⟩, fun _ => rfl, Nat.le_refl _⟩
  have hin_X9 : ∀ w ∈ u_ws RX9 TX9 5, w ∈ wsX9_beginAt := fun w hw => List.mem_cons_of_mem _ (List.mem_append_right _ hw)
  have kl_12 : Cond.fieldLink RX9 12 "HalfBridge$Span" "river" "LHalfBridge$River;" ∈ wsX9_beginAt := by decide +kernel
  have kl_16 : Cond.fieldLink RX9 16 "HalfBridge$Span" "yards" "[I" ∈ wsX9_beginAt := by decide +kernel
  have kl_26 : Cond.fieldLink RX9 26 "HalfBridge$Span" "day" "I" ∈ wsX9_beginAt := by decide +kernel
  have hl := lv_entry ([.ref h, va_rf a1]) (n := 2) (by simp [lg_sl, cat_rf, cat_i, cat_l, cat_r])
  rw [lg_entry_eq]
  generalize (lg_sl ([.ref h, va_rf a1]) ++ List.replicate (2 - (lg_sl ([.ref h, va_rf a1])).length) Slot.unset).toArray = ls at hl ⊢
  have hl : lv_has ls 2 [(0, .ref h), (1, va_rf a1)] := (by simpa [lv_args, cat_rf, cat_i, cat_l, cat_r] using hl)
  obtain ⟨K0, hK0, hf⟩ := top_e hf
  unfold fh_X9_beginAt at hf
  refine lv_aload_n hx hb dX9_beginAt_0 rfl (lv_at hl 0 rfl) ?_
  refine hq_aload_n hx hb dX9_beginAt_1 rfl (lv_at hl 1 rfl) ?_
  obtain ⟨k1, hf⟩ := chk_b hf
  refine hp_9_0 (x := a1) hx hb hts hin_X9 hown kl_12 hI (isk_k k1) dX9_beginAt_2 (fun H locs hI => ?_)
  refine lv_aload_n hx hb dX9_beginAt_5 rfl (lv_at hl 0 rfl) ?_
  refine lv_iconst (v := 0) hx hb dX9_beginAt_6 (by decide) ?_
  refine hp_9_1 hx hb hts hin_X9 hown kl_26 hI (gK_sR.trans (isk_k k1)) dX9_beginAt_7 (fun H locs hI => ?_)
  refine lv_aload_n hx hb dX9_beginAt_10 rfl (lv_at hl 0 rfl) ?_
  refine hg_9_2 hx hb hts hin_X9 hown kl_16 hI (gK_sI.trans (gK_sR.trans (isk_k k1))) dX9_beginAt_11 ?_
  refine lv_iconst (v := 0) hx hb dX9_beginAt_14 (by decide) ?_
  refine lv_iconst (v := 0) hx hb dX9_beginAt_15 (by decide) ?_
  obtain ⟨b2, hd3, hf⟩ := bnd_b hf
  obtain ⟨hq4, hk5⟩ := dr_e hd3
  refine W.eq (g2 := F0 m 16 ls [.int (0 : Int32), .int (0 : Int32), .ref b2]) (by rw [hq4]; rfl) ?_
  obtain ⟨k6, hf⟩ := chk_b hf
  refine hs_I hx hb hI (gK_sI.trans (gK_sR.trans hk5)) k6 dX9_beginAt_16 (fun H locs hI => ?_)
  obtain ⟨x7, hx7, hf⟩ := bnd_b hf
  replace hx7 := Option.some.inj hx7
  rw [hx7] at hI
  have hk8 : gK x7 h = 10 := by rw [← hx7]; exact (gK_sA.trans (gK_sI.trans (gK_sR.trans (isk_k k1))))
  have hk9 : gK x7 b2 = 22 := by rw [← hx7]; exact (gK_sA.trans (gK_sI.trans (gK_sR.trans hk5)))
  refine lv_aload_n hx hb dX9_beginAt_17 rfl (lv_at hl 0 rfl) ?_
  refine hg_9_2 hx hb hts hin_X9 hown kl_16 hI hk8 dX9_beginAt_18 ?_
  refine lv_iconst (v := 1) hx hb dX9_beginAt_21 (by decide) ?_
  refine lv_iconst (v := 0) hx hb dX9_beginAt_22 (by decide) ?_
  obtain ⟨b10, hd11, hf⟩ := bnd_b hf
  obtain ⟨hq12, hk13⟩ := dr_e hd11
  refine W.eq (g2 := F0 m 23 ls [.int (0 : Int32), .int (1 : Int32), .ref b10]) (by rw [hq12]; rfl) ?_
  obtain ⟨k14, hf⟩ := chk_b hf
  refine hs_I hx hb hI hk13 k14 dX9_beginAt_23 (fun H locs hI => ?_)
  exact hret_v hx hb hr hlocks hI (by decide) (by decide) (fun _ => ⟨trivial, rfl⟩) (ret_e hK0 hf) dX9_beginAt_24

noncomputable def fh_X8_clearRuins (h : Nat) (s0 : HSt) : Option (HSt) :=
  chk (isk s0 h 9) ((fh_J7_fill_53178 (gR s0 804 h) (100000 : Int32) s0).bind fun x2 => chk (isk x2 h 9) (some (sI x2 802 h (0 : Int32))))
theorem nd_X8_clearRuins : yX8_clearRuins.cls ≠ "java/lang/invoke/MethodHandle" ∧ yX8_clearRuins.cls ≠ "java/lang/invoke/VarHandle" ∧ (parseMethodDescriptor yX8_clearRuins.desc).map (fun d => d.parameters.length) = some 0 := by decide +kernel
set_option maxHeartbeats 4000000 in
set_option maxRecDepth 100000 in
theorem ch_X8_clearRuins (l : Launch) (D : va_G) (cy : Nat → ClassId) (h : Nat)  (s0 : HSt) (out : HSt) (hf : fh_X8_clearRuins h s0 = some out) : CHv l D cy yX8_clearRuins wsX8_clearRuins { frames := 1, cells := 0, slots := 0, locals := 23 } 0 0 False True [.ref h] s0 out := by
  refine Met.ofW (cc := cX8_clearRuins) (maxL := 1) (ret := none) (by decide) rfl ?_
  intro p e s m args below meth c s₁ B hml hv
  obtain ⟨rfl, hP, hK, hD0, hkx, hsz, hal⟩ := hv
  have hx := B.exec
  have hb := B.bytes
  have hr := B.returns
  have hts := atoms_spec (ws := wsX8_clearRuins) B.pre
  have hown : s.vm.findClass RX8 = some m.cls := findClass_of_methodNamed B.named
  have hlocks := B.notSynchronized
  have hI : HI D cy s s0 s0 s.heap [] 0 False True := ⟨hK, hP, hD0.weaken (fun k q hk _ => Or.inl (pl_mem hk)), va_S.rf, hsz.1, hkx, ⟨hsz, hal⟩, fun _ => rfl, Nat.le_refl _⟩
  have hin_X8 : ∀ w ∈ u_ws RX8 TX8 5, w ∈ wsX8_clearRuins := fun w hw => List.mem_cons_of_mem _ (List.mem_append_right _ hw)
  have kl_20 : Cond.fieldLink RX8 20 "HalfBridge$Site" "ruins" "[I" ∈ wsX8_clearRuins := by decide +kernel
  have kl_38 : Cond.fieldLink RX8 38 "HalfBridge$Site" "ruinsTold" "I" ∈ wsX8_clearRuins := by decide +kernel
  have hl := lv_entry ([.ref h]) (n := 1) (Nat.le_of_ble_eq_true rfl)
  rw [lg_entry_eq]
  generalize (lg_sl ([.ref h]) ++ List.replicate (1 - (lg_sl ([.ref h])).length) Slot.unset).toArray = ls at hl ⊢
  have hl : lv_has ls 1 [(0, .ref h)] := hl
  obtain ⟨K0, hK0, hf⟩ := top_e hf
  unfold fh_X8_clearRuins at hf
  refine lv_aload_n hx hb dX8_clearRuins_0 rfl (lv_at hl 0 rfl) ?_
  obtain ⟨k1, hf⟩ := chk_b hf
  refine hg_8_4 hx hb hts hin_X8 hown kl_20 hI (isk_k k1) dX8_clearRuins_1 ?_
  refine lv_ldc (v := 100000) hx hb hown (hts (.constant RX8 23 (100000)) (by decide +kernel)) dX8_clearRuins_4 ?_
  obtain ⟨x2, hc3, hf⟩ := bnd_b hf
  refine hcall_Sv (ex2 := True) (As := [va_rf (gR s0 804 h), .int (100000 : Int32)]) (rest := []) (n := 2) ⟨hx, hb, hml, hown, hts⟩ (ch_J7_fill_53178 l D cy (gR s0 804 h) (100000 : Int32) s0 x2 hc3) (va_cwS 2 hts gX8_clearRuins_J7_fill_53178 rfl rfl rfl nd_J7_fill_53178 ⟨Nat.le_of_ble_eq_true rfl, Nat.le_of_ble_eq_true rfl⟩) hI (fun h => h.elim) (fun _ => ⟨trivial, trivial⟩) rfl hl.1 (Nat.le_of_ble_eq_true rfl) dX8_clearRuins_6 ⟨Nat.le_of_ble_eq_true rfl, Nat.le_of_ble_eq_true rfl⟩ (fun H locs hI => ?_)
  refine lv_aload_n hx hb dX8_clearRuins_9 rfl (lv_at hl 0 rfl) ?_
  refine lv_iconst (v := 0) hx hb dX8_clearRuins_10 (by decide) ?_
  obtain ⟨k4, hf⟩ := chk_b hf
  refine hp_8_2 hx hb hts hin_X8 hown kl_38 hI (isk_k k4) dX8_clearRuins_11 (fun H locs hI => ?_)
  exact hret_v hx hb hr hlocks hI (by decide) (by decide) (fun _ => ⟨trivial, rfl⟩) (ret_e hK0 hf) dX8_clearRuins_14

noncomputable def fh_X8_beginAt (h : Nat) (a1 : Option Nat) (s0 : HSt) : Option (HSt) :=
  chk (isk s0 h 9) ((dr s0 (gR s0 800 h) 10).bind fun b2 => (fh_X9_beginAt b2 a1 s0).bind fun x6 => chk (isk x6 h 9) ((fh_J7_fill_53178 (gR x6 803 h) (0 : Int32) x6).bind fun x9 => chk (isk x9 h 9) ((fh_X8_clearRuins h x9).bind fun x12 => some x12)))
theorem nd_X8_beginAt : yX8_beginAt.cls ≠ "java/lang/invoke/MethodHandle" ∧ yX8_beginAt.cls ≠ "java/lang/invoke/VarHandle" ∧ (parseMethodDescriptor yX8_beginAt.desc).map (fun d => d.parameters.length) = some 1 := by decide +kernel
set_option maxHeartbeats 4000000 in
set_option maxRecDepth 100000 in
theorem ch_X8_beginAt (l : Launch) (D : va_G) (cy : Nat → ClassId) (h : Nat) (a1 : Option Nat) (s0 : HSt) (out : HSt) (hf : fh_X8_beginAt h a1 s0 = some out) : CHv l D cy yX8_beginAt wsX8_beginAt { frames := 2, cells := 0, slots := 0, locals := 43 } 0 0 False True [.ref h, va_rf a1] s0 out := by
  refine Met.ofW (cc := cX8_beginAt) (maxL := 2) (ret := none) (by decide) rfl ?_
  intro p e s m args below meth c s₁ B hml hv
  obtain ⟨rfl, hP, hK, hD0, hkx, hsz, hal⟩ := hv
  have hx := B.exec
  have hb := B.bytes
  have hr := B.returns
  have hts := atoms_spec (ws := wsX8_beginAt) B.pre
  have hown : s.vm.findClass RX8 = some m.cls := findClass_of_methodNamed B.named
  have hlocks := B.notSynchronized
  have hI : HI D cy s s0 s0 s.heap [] 0 False True := ⟨hK, hP, hD0.weaken (fun k q hk _ => Or.inl (pl_mem hk)), va_S.rf, hsz.1, hkx, ⟨hsz, hal⟩, fun _ => rfl, Nat.le_refl _⟩
  have hin_X8 : ∀ w ∈ u_ws RX8 TX8 5, w ∈ wsX8_beginAt := fun w hw => List.mem_cons_of_mem _ (List.mem_append_left _ (List.mem_append_right _ hw))
  have kl_10 : Cond.fieldLink RX8 10 "HalfBridge$Site" "span" "LHalfBridge$Span;" ∈ wsX8_beginAt := by decide +kernel
  have kl_16 : Cond.fieldLink RX8 16 "HalfBridge$Site" "errors" "[I" ∈ wsX8_beginAt := by decide +kernel
  have hl := lv_entry ([.ref h, va_rf a1]) (n := 2) (by simp [lg_sl, cat_rf, cat_i, cat_l, cat_r])
  rw [lg_entry_eq]
  generalize (lg_sl ([.ref h, va_rf a1]) ++ List.replicate (2 - (lg_sl ([.ref h, va_rf a1])).length) Slot.unset).toArray = ls at hl ⊢
  have hl : lv_has ls 2 [(0, .ref h), (1, va_rf a1)] := (by simpa [lv_args, cat_rf, cat_i, cat_l, cat_r] using hl)
  obtain ⟨K0, hK0, hf⟩ := top_e hf
  unfold fh_X8_beginAt at hf
  refine lv_aload_n hx hb dX8_beginAt_0 rfl (lv_at hl 0 rfl) ?_
  obtain ⟨k1, hf⟩ := chk_b hf
  refine hg_8_0 hx hb hts hin_X8 hown kl_10 hI (isk_k k1) dX8_beginAt_1 ?_
  refine hq_aload_n hx hb dX8_beginAt_4 rfl (lv_at hl 1 rfl) ?_
  obtain ⟨b2, hd3, hf⟩ := bnd_b hf
  obtain ⟨hq4, hk5⟩ := dr_e hd3
  refine W.eq (g2 := F0 m 5 ls [va_rf a1, .ref b2]) (by rw [hq4]; rfl) ?_
  obtain ⟨x6, hc7, hf⟩ := bnd_b hf
  refine hcall_Vv (ex2 := True) (As := [va_rf a1]) (rest := []) (n := 1) (by rw [hk5]; decide) (hC_10 hk5) rfl ⟨hx, hb, hml, hown, hts⟩ (ch_X9_beginAt l D cy b2 a1 s0 x6 hc7) (cwV 1 hts gX8_beginAt_X9_beginAt rfl rfl rfl ⟨rfl, nd_X9_beginAt⟩ ⟨Nat.le_of_ble_eq_true rfl, Nat.le_of_ble_eq_true rfl⟩) hI (fun h => h.elim) (fun _ => ⟨trivial, trivial⟩) rfl hl.1 (Nat.le_of_ble_eq_true rfl) dX8_beginAt_5 ⟨Nat.le_of_ble_eq_true rfl, Nat.le_of_ble_eq_true rfl⟩ (fun H locs hI => ?_)
  refine lv_aload_n hx hb dX8_beginAt_8 rfl (lv_at hl 0 rfl) ?_
  obtain ⟨k8, hf⟩ := chk_b hf
  refine hg_8_3 hx hb hts hin_X8 hown kl_16 hI (isk_k k8) dX8_beginAt_9 ?_
  refine lv_iconst (v := 0) hx hb dX8_beginAt_12 (by decide) ?_
  obtain ⟨x9, hc10, hf⟩ := bnd_b hf
  refine hcall_Sv (ex2 := True) (As := [va_rf (gR x6 803 h), .int (0 : Int32)]) (rest := []) (n := 2) ⟨hx, hb, hml, hown, hts⟩ (ch_J7_fill_53178 l D cy (gR x6 803 h) (0 : Int32) x6 x9 hc10) (va_cwS 2 hts gX8_beginAt_J7_fill_53178 rfl rfl rfl nd_J7_fill_53178 ⟨Nat.le_of_ble_eq_true rfl, Nat.le_of_ble_eq_true rfl⟩) hI (fun h => h.elim) (fun _ => ⟨trivial, trivial⟩) rfl hl.1 (Nat.le_of_ble_eq_true rfl) dX8_beginAt_13 ⟨Nat.le_of_ble_eq_true rfl, Nat.le_of_ble_eq_true rfl⟩ (fun H locs hI => ?_)
  refine lv_aload_n hx hb dX8_beginAt_16 rfl (lv_at hl 0 rfl) ?_
  obtain ⟨k11, hf⟩ := chk_b hf
  obtain ⟨x12, hc13, hf⟩ := bnd_b hf
  refine hcall_Vv (ex2 := True) (As := []) (rest := []) (n := 0) (by rw [(isk_k k11)]; decide) (hC_9 (isk_k k11)) rfl ⟨hx, hb, hml, hown, hts⟩ (ch_X8_clearRuins l D cy h x9 x12 hc13) (cwV 0 hts gX8_beginAt_X8_clearRuins rfl rfl rfl ⟨rfl, nd_X8_clearRuins⟩ ⟨Nat.le_of_ble_eq_true rfl, Nat.le_of_ble_eq_true rfl⟩) hI (fun h => h.elim) (fun _ => ⟨trivial, trivial⟩) rfl hl.1 (Nat.le_of_ble_eq_true rfl) dX8_beginAt_17 ⟨Nat.le_of_ble_eq_true rfl, Nat.le_of_ble_eq_true rfl⟩ (fun H locs hI => ?_)
  exact hret_v hx hb hr hlocks hI (by decide) (by decide) (fun _ => ⟨trivial, rfl⟩) (ret_e hK0 hf) dX8_beginAt_20

noncomputable def fh_X11_river (h : Nat) (s0 : HSt) : Option (HSt × Int32) :=
  chk (isk s0 h 12) ((fh_X11_scanTape h s0).bind fun x2 => chk (isk x2 h 12) ((dr x2 (gR x2 1107 h) 6).bind fun b5 => (fh_X5_read b5 x2).bind fun x9 => (if x9.2 = none then chk (isk x9.1 h 12) ((dr x9.1 (gR x9.1 1106 h) 11).bind fun b15 => some (x9.1, ((-2 : Int32) - (gI x9.1 1005 b15)))) else (x9.2).bind fun b12 => chk (isk x9.1 h 12) ((dr x9.1 (gR x9.1 1104 h) 9).bind fun b20 => (fh_X8_beginAt b20 x9.2 x9.1).bind fun x24 => chk (isk x24 b12 5) (some (x24, (gI x24 400 b12)))))))
theorem nd_X11_river : yX11_river.cls ≠ "java/lang/invoke/MethodHandle" ∧ yX11_river.cls ≠ "java/lang/invoke/VarHandle" ∧ (parseMethodDescriptor yX11_river.desc).map (fun d => d.parameters.length) = some 0 := by decide +kernel
set_option maxHeartbeats 4000000 in
set_option maxRecDepth 100000 in
theorem ch_X11_river (l : Launch) (D : va_G) (cy : Nat → ClassId) (h : Nat)  (s0 : HSt) (out : HSt × Int32) (hf : fh_X11_river h s0 = some out) : CHi l D cy yX11_river wsX11_river { frames := 10, cells := 6, slots := 31, locals := 222 } 6 31 True True [.ref h] s0 out := by
  refine Met.ofW (cc := cX11_river) (maxL := 2) (ret := (some .int)) (by decide) rfl ?_
  intro p e s m args below meth c s₁ B hml hv
  obtain ⟨rfl, hP, hK, hD0, hkx, hsz, hal⟩ := hv
  have hx := B.exec
  have hb := B.bytes
  have hr := B.returns
  have hts := atoms_spec (ws := wsX11_river) B.pre
  have hown : s.vm.findClass RX11 = some m.cls := findClass_of_methodNamed B.named
  have hlocks := B.notSynchronized
  have hI : HI D cy s s0 s0 s.heap [] 0 True True := ⟨hK, hP, hD0.weaken (fun k q hk _ => Or.inl (pl_mem hk)), va_S.rf, hsz.1, hkx, ⟨hsz, hal⟩, fun _ => rfl, Nat.le_refl _⟩
  have hin_X10 : ∀ w ∈ u_ws RX10 TX10 6, w ∈ wsX11_river := fun w hw => List.mem_cons_of_mem _ (List.mem_append_left _ (List.mem_append_left _ (List.mem_append_left _ (List.mem_append_left _ (List.mem_append_right _ hw)))))
  have hin_X11 : ∀ w ∈ u_ws RX11 TX11 10, w ∈ wsX11_river := fun w hw => List.mem_cons_of_mem _ (List.mem_append_left _ (List.mem_append_left _ (List.mem_append_left _ (List.mem_append_left _ (List.mem_append_left _ (List.mem_append_right _ hw))))))
  have hin_X4 : ∀ w ∈ u_ws RX4 TX4 9, w ∈ wsX11_river := fun w hw => List.mem_cons_of_mem _ (List.mem_append_left _ (List.mem_append_left _ (List.mem_append_left _ (List.mem_append_right _ hw))))
  have kl_22 : Cond.fieldLink RX11 22 "HalfBridge" "site" "LHalfBridge$Site;" ∈ wsX11_river := by decide +kernel
  have kl_33 : Cond.fieldLink RX11 33 "HalfBridge" "tokens" "LHalfBridge$Tokens;" ∈ wsX11_river := by decide +kernel
  have kl_42 : Cond.fieldLink RX11 42 "HalfBridge" "riverReader" "LHalfBridge$RiverReader;" ∈ wsX11_river := by decide +kernel
  have kl_75 : Cond.fieldLink RX11 75 "HalfBridge$Tokens" "fault" "I" ∈ wsX11_river := by decide +kernel
  have kl_82 : Cond.fieldLink RX11 82 "HalfBridge$River" "wide" "I" ∈ wsX11_river := by decide +kernel
  have hl := lv_entry ([.ref h]) (n := 2) (Nat.le_of_ble_eq_true rfl)
  rw [lg_entry_eq]
  generalize (lg_sl ([.ref h]) ++ List.replicate (2 - (lg_sl ([.ref h])).length) Slot.unset).toArray = ls at hl ⊢
  have hl : lv_has ls 2 [(0, .ref h)] := hl
  obtain ⟨K0, hK0, hf⟩ := top_e hf
  unfold fh_X11_river at hf
  refine lv_aload_n hx hb dX11_river_0 rfl (lv_at hl 0 rfl) ?_
  obtain ⟨k1, hf⟩ := chk_b hf
  obtain ⟨x2, hc3, hf⟩ := bnd_b hf
  refine hcall_Vv (ex2 := True) (As := []) (rest := []) (n := 0) (by rw [(isk_k k1)]; decide) (hC_12 (isk_k k1)) rfl ⟨hx, hb, hml, hown, hts⟩ (ch_X11_scanTape l D cy h s0 x2 hc3) (cwV 0 hts gX11_river_X11_scanTape rfl rfl rfl ⟨rfl, nd_X11_scanTape⟩ ⟨Nat.le_of_ble_eq_true rfl, Nat.le_of_ble_eq_true rfl⟩) hI (fun h => h.elim) (fun _ => ⟨trivial, trivial⟩) rfl hl.1 (Nat.le_of_ble_eq_true rfl) dX11_river_1 ⟨Nat.le_of_ble_eq_true rfl, Nat.le_of_ble_eq_true rfl⟩ (fun H locs hI => ?_)
  refine lv_aload_n hx hb dX11_river_4 rfl (lv_at hl 0 rfl) ?_
  obtain ⟨k4, hf⟩ := chk_b hf
  refine hg_11_7 hx hb hts hin_X11 hown kl_42 hI (isk_k k4) dX11_river_5 ?_
  obtain ⟨b5, hd6, hf⟩ := bnd_b hf
  obtain ⟨hq7, hk8⟩ := dr_e hd6
  refine W.eq (g2 := F0 m 8 ls [.ref b5]) (by rw [hq7]; rfl) ?_
  obtain ⟨x9, hc10, hf⟩ := bnd_b hf
  refine hcall_Vq (ex2 := True) (As := []) (rest := []) (n := 0) (by rw [hk8]; decide) (hC_6 hk8) rfl ⟨hx, hb, hml, hown, hts⟩ (ch_X5_read l D cy b5 x2 x9 hc10) (cwV 0 hts gX11_river_X5_read rfl rfl rfl ⟨rfl, nd_X5_read⟩ ⟨Nat.le_of_ble_eq_true rfl, Nat.le_of_ble_eq_true rfl⟩) hI (fun h => ⟨trivial, trivial⟩) (fun _ => ⟨trivial, trivial⟩) rfl hl.1 (Nat.le_of_ble_eq_true rfl) dX11_river_8 ⟨Nat.le_of_ble_eq_true rfl, Nat.le_of_ble_eq_true rfl⟩ (fun H locs hI => ?_)
  refine hq_astore_n (lv' := [(1, va_rf x9.2), (0, .ref h)]) hx hb dX11_river_11 rfl hl (by decide) (by first | rfl | (simp [cat_rf, cat_i, cat_l, cat_r]; done) | (simp [cat_rf, cat_i, cat_l, cat_r]; decide)) (fun ls hl => ?_)
  refine hq_aload_n hx hb dX11_river_12 rfl (lv_at hl 0 rfl) ?_
  by_cases c11 : x9.2 = none
  · replace hf := ifp c11 hf
    refine W.eq (g2 := F0 m 13 ls [.null]) (by rw [c11]; rfl) ?_
    refine lv_ifnonnullN hx hb dX11_river_13 ?_
    refine lv_bipush (v := -2) hx hb dX11_river_16 (by decide) ?_
    refine lv_aload_n hx hb dX11_river_18 rfl (lv_at hl 1 rfl) ?_
    obtain ⟨k14, hf⟩ := chk_b hf
    refine hg_11_6 hx hb hts hin_X11 hown kl_33 hI (isk_k k14) dX11_river_19 ?_
    obtain ⟨b15, hd16, hf⟩ := bnd_b hf
    obtain ⟨hq17, hk18⟩ := dr_e hd16
    refine W.eq (g2 := F0 m 22 ls [.ref b15, .int (-2 : Int32)]) (by rw [hq17]; rfl) ?_
    refine hg_10_5 hx hb hts hin_X10 hown kl_75 hI hk18 dX11_river_22 ?_
    refine lv_isub hx hb dX11_river_25 ?_
    exact hret_i hx hb hr hlocks hI (by decide) (by decide) (fun _ => ⟨trivial, rfl⟩) (ret_e hK0 hf) dX11_river_26
  · replace hf := ifn c11 hf
    obtain ⟨b12, hq13, hf⟩ := bnd_b hf
    refine W.eq (g2 := F0 m 13 ls [.ref b12]) (by rw [hq13]; rfl) ?_
    refine lv_ifnonnull (tgt := 27) hx hb dX11_river_13 (by decide) ?_
    refine lv_aload_n hx hb dX11_river_27 rfl (lv_at hl 1 rfl) ?_
    obtain ⟨k19, hf⟩ := chk_b hf
    refine hg_11_4 hx hb hts hin_X11 hown kl_22 hI (isk_k k19) dX11_river_28 ?_
    refine hq_aload_n hx hb dX11_river_31 rfl (lv_at hl 0 rfl) ?_
    obtain ⟨b20, hd21, hf⟩ := bnd_b hf
    obtain ⟨hq22, hk23⟩ := dr_e hd21
    refine W.eq (g2 := F0 m 32 ls [va_rf x9.2, .ref b20]) (by rw [hq22]; rfl) ?_
    obtain ⟨x24, hc25, hf⟩ := bnd_b hf
    refine hcall_Vv (ex2 := True) (As := [va_rf x9.2]) (rest := []) (n := 1) (by rw [hk23]; decide) (hC_9 hk23) rfl ⟨hx, hb, hml, hown, hts⟩ (ch_X8_beginAt l D cy b20 x9.2 x9.1 x24 hc25) (cwV 1 hts gX11_river_X8_beginAt rfl rfl rfl ⟨rfl, nd_X8_beginAt⟩ ⟨Nat.le_of_ble_eq_true rfl, Nat.le_of_ble_eq_true rfl⟩) hI (fun h => h.elim) (fun _ => ⟨trivial, trivial⟩) rfl hl.1 (Nat.le_of_ble_eq_true rfl) dX11_river_32 ⟨Nat.le_of_ble_eq_true rfl, Nat.le_of_ble_eq_true rfl⟩ (fun H locs hI => ?_)
    refine hq_aload_n hx hb dX11_river_35 rfl (lv_at hl 0 rfl) ?_
    refine W.eq (g2 := F0 m 36 ls [.ref b12]) (by rw [hq13]; rfl) ?_
    obtain ⟨k26, hf⟩ := chk_b hf
    refine hg_4_0 hx hb hts hin_X4 hown kl_82 hI (isk_k k26) dX11_river_36 ?_
    exact hret_i hx hb hr hlocks hI (by decide) (by decide) (fun _ => ⟨trivial, rfl⟩) (ret_e hK0 hf) dX11_river_39

noncomputable def fh_X8_tellRuin_j44 (h : Nat) (v3 : Int32) (v4 : Int32) (t0 : Int32) (t1 : Int32) (t2 : Nat) (st : HSt) : Option (HSt) :=
  chk (isk st t2 9) (chk (isk st h 9) ((dr st (gR (sI st 802 t2 (t1 + t0)) 804 h) 22).bind fun b12 => chk (inb v4 (gL (sI st 802 t2 (t1 + t0)) b12)) (some (sA (sI st 802 t2 (t1 + t0)) b12 v4.toNatClampNeg v3))))
noncomputable def fh_X8_tellRuin (h : Nat) (a1 : Int32) (a2 : Int32) (a3 : Int32) (s0 : HSt) : Option (HSt) :=
  (if (((2 : Int32) * a2) + a1) < 0 then some s0 else chk (isk s0 h 9) ((dr s0 (gR s0 804 h) 22).bind fun b3 => (if (nI (gL s0 b3)) ≤ (((2 : Int32) * a2) + a1) then some s0 else chk (inb (((2 : Int32) * a2) + a1) (gL s0 b3)) ((if (gA s0 b3 (((2 : Int32) * a2) + a1).toNatClampNeg) = (100000 : Int32) then fh_X8_tellRuin_j44 h a3 (((2 : Int32) * a2) + a1) (1 : Int32) (gI s0 802 h) h s0 else fh_X8_tellRuin_j44 h a3 (((2 : Int32) * a2) + a1) (0 : Int32) (gI s0 802 h) h s0)))))
theorem nd_X8_tellRuin : yX8_tellRuin.cls ≠ "java/lang/invoke/MethodHandle" ∧ yX8_tellRuin.cls ≠ "java/lang/invoke/VarHandle" ∧ (parseMethodDescriptor yX8_tellRuin.desc).map (fun d => d.parameters.length) = some 3 := by decide +kernel
set_option maxHeartbeats 4000000 in
set_option maxRecDepth 100000 in
theorem ch_X8_tellRuin (l : Launch) (D : va_G) (cy : Nat → ClassId) (h : Nat) (a1 : Int32) (a2 : Int32) (a3 : Int32) (s0 : HSt) (out : HSt) (hf : fh_X8_tellRuin h a1 a2 a3 s0 = some out) : CHv l D cy yX8_tellRuin wsX8_tellRuin { frames := 0, cells := 0, slots := 0, locals := 0 } 0 0 False True [.ref h, .int a1, .int a2, .int a3] s0 out := by
  refine Met.ofW (cc := cX8_tellRuin) (maxL := 5) (ret := none) (by decide) rfl ?_
  intro p e s m args below meth c s₁ B hml hv
  obtain ⟨rfl, hP, hK, hD0, hkx, hsz, hal⟩ := hv
  have hx := B.exec
  have hb := B.bytes
  have hr := B.returns
  have hts := atoms_spec (ws := wsX8_tellRuin) B.pre
  have hown : s.vm.findClass RX8 = some m.cls := findClass_of_methodNamed B.named
  have hlocks := B.notSynchronized
  have hI : HI D cy s s0 s0 s.heap [] 0 False True := ⟨hK, hP, hD0.weaken (fun k q hk _ => Or.inl (pl_mem hk)), va_S.rf, hsz.1, hkx, ⟨hsz, hal⟩, fun _ => rfl, Nat.le_refl _⟩
  have hin_X8 : ∀ w ∈ u_ws RX8 TX8 5, w ∈ wsX8_tellRuin := fun w hw => List.mem_cons_of_mem _ (List.mem_append_right _ hw)
  have kl_20 : Cond.fieldLink RX8 20 "HalfBridge$Site" "ruins" "[I" ∈ wsX8_tellRuin := by decide +kernel
  have kl_38 : Cond.fieldLink RX8 38 "HalfBridge$Site" "ruinsTold" "I" ∈ wsX8_tellRuin := by decide +kernel
  have hl := lv_entry ([.ref h, .int a1, .int a2, .int a3]) (n := 5) (Nat.le_of_ble_eq_true rfl)
  rw [lg_entry_eq]
  generalize (lg_sl ([.ref h, .int a1, .int a2, .int a3]) ++ List.replicate (5 - (lg_sl ([.ref h, .int a1, .int a2, .int a3])).length) Slot.unset).toArray = ls at hl ⊢
  have hl : lv_has ls 5 [(0, .ref h), (1, .int a1), (2, .int a2), (3, .int a3)] := hl
  obtain ⟨K0, hK0, hf⟩ := top_e hf
  have B_44_0 : ∀ (v3 : Int32) (v4 : Int32) (t0 : Int32) (t1 : Int32) (t2 : Nat) (st : HSt) (H : Heap) (locs : List Loc) (ls : Array Slot), HI D cy s s0 st H locs 0 False True → lv_has ls 5 [(0, .ref h), (3, .int v3), (4, .int v4)] → (fh_X8_tellRuin_j44 h v3 v4 t0 t1 t2 st).bind K0 = some out → W p l e (headSpec wsX8_tellRuin { frames := 0, cells := 0, slots := 0, locals := 0 }).room s m (([.ref h, .int a1, .int a2, .int a3] : List Value).toArray) below meth c H locs 0 0 (MQ below (HQv D cy s0 0 True out) ([.ref h, .int a1, .int a2, .int a3] : List Value).toArray s 0 0 (hF s0)) (F0 m 44 ls [.int t0, .int t1, .ref t2]) := by
    intro v3 v4 t0 t1 t2 st H locs ls hI hl hf
    unfold fh_X8_tellRuin_j44 at hf
    refine lv_iadd hx hb dX8_tellRuin_44 ?_
    obtain ⟨k10, hf⟩ := chk_b hf
    refine hp_8_2 hx hb hts hin_X8 hown kl_38 hI (isk_k k10) dX8_tellRuin_45 (fun H locs hI => ?_)
    refine lv_aload_n hx hb dX8_tellRuin_48 rfl (lv_at hl 0 rfl) ?_
    obtain ⟨k11, hf⟩ := chk_b hf
    refine hg_8_4 hx hb hts hin_X8 hown kl_20 hI (gK_sI.trans (isk_k k11)) dX8_tellRuin_49 ?_
    refine lv_iload hx hb dX8_tellRuin_52 (lv_at hl 2 rfl) ?_
    refine lv_iload_n hx hb dX8_tellRuin_54 rfl (lv_at hl 1 rfl) ?_
    obtain ⟨b12, hd13, hf⟩ := bnd_b hf
    obtain ⟨hq14, hk15⟩ := dr_e hd13
    refine W.eq (g2 := F0 m 55 ls [.int v3, .int v4, .ref b12]) (by rw [hq14]; rfl) ?_
    obtain ⟨k16, hf⟩ := chk_b hf
    refine hs_I hx hb hI (gK_sI.trans hk15) k16 dX8_tellRuin_55 (fun H locs hI => ?_)
    exact hret_v hx hb hr hlocks hI (by decide) (by decide) (fun _ => ⟨trivial, rfl⟩) (ret_e hK0 hf) dX8_tellRuin_56
  unfold fh_X8_tellRuin at hf
  refine lv_iconst (v := 2) hx hb dX8_tellRuin_0 (by decide) ?_
  refine lv_iload_n hx hb dX8_tellRuin_1 rfl (lv_at hl 2 rfl) ?_
  refine lv_imul hx hb dX8_tellRuin_2 ?_
  refine lv_iload_n hx hb dX8_tellRuin_3 rfl (lv_at hl 1 rfl) ?_
  refine lv_iadd hx hb dX8_tellRuin_4 ?_
  refine lv_istore (lv' := [(4, .int (((2 : Int32) * a2) + a1)), (0, .ref h), (1, .int a1), (2, .int a2), (3, .int a3)]) hx hb dX8_tellRuin_5 hl (by decide) rfl (fun ls hl => ?_)
  refine lv_iload hx hb dX8_tellRuin_7 (lv_at hl 0 rfl) ?_
  refine lv_if_lt (tgt := 56) hx hb dX8_tellRuin_9 (by decide) (fun c1 => ?_) (fun c1 => ?_)
  · replace hf := ifp c1 hf
    exact hret_v hx hb hr hlocks hI (by decide) (by decide) (fun _ => ⟨trivial, rfl⟩) (ret_e hK0 hf) dX8_tellRuin_56
  · replace hf := ifn c1 hf
    refine lv_iload hx hb dX8_tellRuin_12 (lv_at hl 0 rfl) ?_
    refine lv_aload_n hx hb dX8_tellRuin_14 rfl (lv_at hl 1 rfl) ?_
    obtain ⟨k2, hf⟩ := chk_b hf
    refine hg_8_4 hx hb hts hin_X8 hown kl_20 hI (isk_k k2) dX8_tellRuin_15 ?_
    obtain ⟨b3, hd4, hf⟩ := bnd_b hf
    obtain ⟨hq5, hk6⟩ := dr_e hd4
    refine W.eq (g2 := F0 m 18 ls [.ref b3, .int (((2 : Int32) * a2) + a1)]) (by rw [hq5]; rfl) ?_
    refine ha_22 hx hb hI hk6 dX8_tellRuin_18 ?_
    refine lv_icmp_ge (tgt := 56) hx hb dX8_tellRuin_19 (by decide) (fun c7 => ?_) (fun c7 => ?_)
    · replace hf := ifp c7 hf
      exact hret_v hx hb hr hlocks hI (by decide) (by decide) (fun _ => ⟨trivial, rfl⟩) (ret_e hK0 hf) dX8_tellRuin_56
    · replace hf := ifn c7 hf
      refine lv_aload_n hx hb dX8_tellRuin_22 rfl (lv_at hl 1 rfl) ?_
      refine lv_dup hx hb dX8_tellRuin_23 rfl ?_
      refine hg_8_2 hx hb hts hin_X8 hown kl_38 hI (isk_k k2) dX8_tellRuin_24 ?_
      refine lv_aload_n hx hb dX8_tellRuin_27 rfl (lv_at hl 1 rfl) ?_
      refine hg_8_4 hx hb hts hin_X8 hown kl_20 hI (isk_k k2) dX8_tellRuin_28 ?_
      refine lv_iload hx hb dX8_tellRuin_31 (lv_at hl 0 rfl) ?_
      refine W.eq (g2 := F0 m 33 ls [.int (((2 : Int32) * a2) + a1), .ref b3, .int (gI s0 802 h), .ref h]) (by rw [hq5]; rfl) ?_
      obtain ⟨k8, hf⟩ := chk_b hf
      refine hl_I hx hb hI hk6 k8 dX8_tellRuin_33 ?_
      refine lv_ldc (v := 100000) hx hb hown (hts (.constant RX8 23 (100000)) (by decide +kernel)) dX8_tellRuin_34 ?_
      refine lv_icmp_ne (tgt := 43) hx hb dX8_tellRuin_36 (by decide) (fun c9 => ?_) (fun c9 => ?_)
      · replace hf := ifn c9 hf
        refine lv_iconst (v := 0) hx hb dX8_tellRuin_43 (by decide) ?_
        exact B_44_0 a3 (((2 : Int32) * a2) + a1) (0 : Int32) (gI s0 802 h) h s0 s.heap [] ls hI (lv_sub hl [1, 4, 0] rfl) hf
      · replace hf := ifp c9 hf
        refine lv_iconst (v := 1) hx hb dX8_tellRuin_39 (by decide) ?_
        refine lv_goto (tgt := 44) hx hb dX8_tellRuin_40 (by decide) ?_
        exact B_44_0 a3 (((2 : Int32) * a2) + a1) (1 : Int32) (gI s0 802 h) h s0 s.heap [] ls hI (lv_sub hl [1, 4, 0] rfl) hf

noncomputable def fh_X11_ruin (h : Nat) (a1 : Int32) (a2 : Int32) (a3 : Int32) (s0 : HSt) : Option (HSt × Int32) :=
  chk (isk s0 h 12) ((fh_X11_hasRiver h s0).bind fun x2 => (if x2.2 = 0 then some (x2.1, (0 : Int32)) else (fh_X11_isSide a1 x2.1).bind fun x5 => (if x5.2 = 0 then some (x5.1, (0 : Int32)) else (fh_X11_isWithin a2 (-1 : Int32) (39 : Int32) x5.1).bind fun x8 => (if x8.2 = 0 then some (x8.1, (0 : Int32)) else (fh_X11_isWithin a3 (-9999 : Int32) (9999 : Int32) x8.1).bind fun x11 => (if x11.2 = 0 then some (x11.1, (0 : Int32)) else (if a2 = (-1 : Int32) then chk (isk x11.1 h 12) ((dr x11.1 (gR x11.1 1104 h) 9).bind fun b23 => (fh_X8_clearRuins b23 x11.1).bind fun x27 => some (x27, (1 : Int32))) else chk (isk x11.1 h 12) ((dr x11.1 (gR x11.1 1104 h) 9).bind fun b16 => (fh_X8_tellRuin b16 a1 a2 a3 x11.1).bind fun x20 => some (x20, (1 : Int32)))))))))
theorem nd_X11_ruin : yX11_ruin.cls ≠ "java/lang/invoke/MethodHandle" ∧ yX11_ruin.cls ≠ "java/lang/invoke/VarHandle" ∧ (parseMethodDescriptor yX11_ruin.desc).map (fun d => d.parameters.length) = some 3 := by decide +kernel
set_option maxHeartbeats 4000000 in
set_option maxRecDepth 100000 in
theorem ch_X11_ruin (l : Launch) (D : va_G) (cy : Nat → ClassId) (h : Nat) (a1 : Int32) (a2 : Int32) (a3 : Int32) (s0 : HSt) (out : HSt × Int32) (hf : fh_X11_ruin h a1 a2 a3 s0 = some out) : CHi l D cy yX11_ruin wsX11_ruin { frames := 2, cells := 0, slots := 0, locals := 43 } 0 0 False True [.ref h, .int a1, .int a2, .int a3] s0 out := by
  refine Met.ofW (cc := cX11_ruin) (maxL := 4) (ret := (some .boolean)) (by decide) rfl ?_
  intro p e s m args below meth c s₁ B hml hv
  obtain ⟨rfl, hP, hK, hD0, hkx, hsz, hal⟩ := hv
  have hx := B.exec
  have hb := B.bytes
  have hr := B.returns
  have hts := atoms_spec (ws := wsX11_ruin) B.pre
  have hown : s.vm.findClass RX11 = some m.cls := findClass_of_methodNamed B.named
  have hlocks := B.notSynchronized
  have hI : HI D cy s s0 s0 s.heap [] 0 False True := ⟨hK, hP, hD0.weaken (fun k q hk _ => Or.inl (pl_mem hk)), va_S.rf, hsz.1, hkx, ⟨hsz, hal⟩, fun _ => rfl, Nat.le_refl _⟩
  have hin_X11 : ∀ w ∈ u_ws RX11 TX11 10, w ∈ wsX11_ruin := fun w hw => List.mem_cons_of_mem _ (List.mem_append_left _ (List.mem_append_left _ (List.mem_append_left _ (List.mem_append_right _ hw))))
  have kl_22 : Cond.fieldLink RX11 22 "HalfBridge" "site" "LHalfBridge$Site;" ∈ wsX11_ruin := by decide +kernel
  have hl := lv_entry ([.ref h, .int a1, .int a2, .int a3]) (n := 4) (Nat.le_of_ble_eq_true rfl)
  rw [lg_entry_eq]
  generalize (lg_sl ([.ref h, .int a1, .int a2, .int a3]) ++ List.replicate (4 - (lg_sl ([.ref h, .int a1, .int a2, .int a3])).length) Slot.unset).toArray = ls at hl ⊢
  have hl : lv_has ls 4 [(0, .ref h), (1, .int a1), (2, .int a2), (3, .int a3)] := hl
  obtain ⟨K0, hK0, hf⟩ := top_e hf
  unfold fh_X11_ruin at hf
  refine lv_aload_n hx hb dX11_ruin_0 rfl (lv_at hl 0 rfl) ?_
  obtain ⟨k1, hf⟩ := chk_b hf
  obtain ⟨x2, hc3, hf⟩ := bnd_b hf
  refine hcall_Vi (ex2 := True) (As := []) (rest := []) (n := 0) (by rw [(isk_k k1)]; decide) (hC_12 (isk_k k1)) rfl ⟨hx, hb, hml, hown, hts⟩ (ch_X11_hasRiver l D cy h s0 x2 hc3) (cwV 0 hts gX11_ruin_X11_hasRiver rfl rfl rfl ⟨rfl, nd_X11_hasRiver⟩ ⟨Nat.le_of_ble_eq_true rfl, Nat.le_of_ble_eq_true rfl⟩) hI (fun h => h.elim) (fun _ => ⟨trivial, trivial⟩) rfl hl.1 (Nat.le_of_ble_eq_true rfl) dX11_ruin_1 ⟨Nat.le_of_ble_eq_true rfl, Nat.le_of_ble_eq_true rfl⟩ (fun H locs hI => ?_)
  refine lv_if_eq (tgt := 37) hx hb dX11_ruin_4 (by decide) (fun c4 => ?_) (fun c4 => ?_)
  · replace hf := ifp c4 hf
    refine lv_iconst (v := 0) hx hb dX11_ruin_37 (by decide) ?_
    exact hret_z hx hb hr (by decide) hlocks hI (by decide) (by decide) (fun _ => ⟨trivial, rfl⟩) (ret_e hK0 hf) dX11_ruin_38
  · replace hf := ifn c4 hf
    refine lv_iload_n hx hb dX11_ruin_7 rfl (lv_at hl 1 rfl) ?_
    obtain ⟨x5, hc6, hf⟩ := bnd_b hf
    refine hcall_Si (ex2 := True) (As := [.int a1]) (rest := []) (n := 1) ⟨hx, hb, hml, hown, hts⟩ (ch_X11_isSide l D cy a1 x2.1 x5 hc6) (va_cwS 1 hts gX11_ruin_X11_isSide rfl rfl rfl nd_X11_isSide ⟨Nat.le_of_ble_eq_true rfl, Nat.le_of_ble_eq_true rfl⟩) hI (fun h => h.elim) (fun _ => ⟨trivial, trivial⟩) rfl hl.1 (Nat.le_of_ble_eq_true rfl) dX11_ruin_8 ⟨Nat.le_of_ble_eq_true rfl, Nat.le_of_ble_eq_true rfl⟩ (fun H locs hI => ?_)
    refine lv_if_eq (tgt := 37) hx hb dX11_ruin_11 (by decide) (fun c7 => ?_) (fun c7 => ?_)
    · replace hf := ifp c7 hf
      refine lv_iconst (v := 0) hx hb dX11_ruin_37 (by decide) ?_
      exact hret_z hx hb hr (by decide) hlocks hI (by decide) (by decide) (fun _ => ⟨trivial, rfl⟩) (ret_e hK0 hf) dX11_ruin_38
    · replace hf := ifn c7 hf
      refine lv_iload_n hx hb dX11_ruin_14 rfl (lv_at hl 2 rfl) ?_
      refine lv_iconst (v := -1) hx hb dX11_ruin_15 (by decide) ?_
      refine lv_bipush (v := 39) hx hb dX11_ruin_16 (by decide) ?_
      obtain ⟨x8, hc9, hf⟩ := bnd_b hf
      refine hcall_Si (ex2 := True) (As := [.int a2, .int (-1 : Int32), .int (39 : Int32)]) (rest := []) (n := 3) ⟨hx, hb, hml, hown, hts⟩ (ch_X11_isWithin l D cy a2 (-1 : Int32) (39 : Int32) x5.1 x8 hc9) (va_cwS 3 hts gX11_ruin_X11_isWithin rfl rfl rfl nd_X11_isWithin ⟨Nat.le_of_ble_eq_true rfl, Nat.le_of_ble_eq_true rfl⟩) hI (fun h => h.elim) (fun _ => ⟨trivial, trivial⟩) rfl hl.1 (Nat.le_of_ble_eq_true rfl) dX11_ruin_18 ⟨Nat.le_of_ble_eq_true rfl, Nat.le_of_ble_eq_true rfl⟩ (fun H locs hI => ?_)
      refine lv_if_eq (tgt := 37) hx hb dX11_ruin_21 (by decide) (fun c10 => ?_) (fun c10 => ?_)
      · replace hf := ifp c10 hf
        refine lv_iconst (v := 0) hx hb dX11_ruin_37 (by decide) ?_
        exact hret_z hx hb hr (by decide) hlocks hI (by decide) (by decide) (fun _ => ⟨trivial, rfl⟩) (ret_e hK0 hf) dX11_ruin_38
      · replace hf := ifn c10 hf
        refine lv_iload_n hx hb dX11_ruin_24 rfl (lv_at hl 3 rfl) ?_
        refine lv_sipush (v := -9999) hx hb dX11_ruin_25 (by decide) ?_
        refine lv_sipush (v := 9999) hx hb dX11_ruin_28 (by decide) ?_
        obtain ⟨x11, hc12, hf⟩ := bnd_b hf
        refine hcall_Si (ex2 := True) (As := [.int a3, .int (-9999 : Int32), .int (9999 : Int32)]) (rest := []) (n := 3) ⟨hx, hb, hml, hown, hts⟩ (ch_X11_isWithin l D cy a3 (-9999 : Int32) (9999 : Int32) x8.1 x11 hc12) (va_cwS 3 hts gX11_ruin_X11_isWithin rfl rfl rfl nd_X11_isWithin ⟨Nat.le_of_ble_eq_true rfl, Nat.le_of_ble_eq_true rfl⟩) hI (fun h => h.elim) (fun _ => ⟨trivial, trivial⟩) rfl hl.1 (Nat.le_of_ble_eq_true rfl) dX11_ruin_31 ⟨Nat.le_of_ble_eq_true rfl, Nat.le_of_ble_eq_true rfl⟩ (fun H locs hI => ?_)
        refine lv_if_ne (tgt := 39) hx hb dX11_ruin_34 (by decide) (fun c13 => ?_) (fun c13 => ?_)
        · replace hf := ifn c13 hf
          refine lv_iload_n hx hb dX11_ruin_39 rfl (lv_at hl 2 rfl) ?_
          refine lv_iconst (v := -1) hx hb dX11_ruin_40 (by decide) ?_
          refine lv_icmp_ne (tgt := 54) hx hb dX11_ruin_41 (by decide) (fun c14 => ?_) (fun c14 => ?_)
          · replace hf := ifn c14 hf
            refine lv_aload_n hx hb dX11_ruin_54 rfl (lv_at hl 0 rfl) ?_
            obtain ⟨k15, hf⟩ := chk_b hf
            refine hg_11_4 hx hb hts hin_X11 hown kl_22 hI (isk_k k15) dX11_ruin_55 ?_
            refine lv_iload_n hx hb dX11_ruin_58 rfl (lv_at hl 1 rfl) ?_
            refine lv_iload_n hx hb dX11_ruin_59 rfl (lv_at hl 2 rfl) ?_
            refine lv_iload_n hx hb dX11_ruin_60 rfl (lv_at hl 3 rfl) ?_
            obtain ⟨b16, hd17, hf⟩ := bnd_b hf
            obtain ⟨hq18, hk19⟩ := dr_e hd17
            refine W.eq (g2 := F0 m 61 ls [.int a3, .int a2, .int a1, .ref b16]) (by rw [hq18]; rfl) ?_
            obtain ⟨x20, hc21, hf⟩ := bnd_b hf
            refine hcall_Vv (ex2 := True) (As := [.int a1, .int a2, .int a3]) (rest := []) (n := 3) (by rw [hk19]; decide) (hC_9 hk19) rfl ⟨hx, hb, hml, hown, hts⟩ (ch_X8_tellRuin l D cy b16 a1 a2 a3 x11.1 x20 hc21) (cwV 3 hts gX11_ruin_X8_tellRuin rfl rfl rfl ⟨rfl, nd_X8_tellRuin⟩ ⟨Nat.le_of_ble_eq_true rfl, Nat.le_of_ble_eq_true rfl⟩) hI (fun h => h.elim) (fun _ => ⟨trivial, trivial⟩) rfl hl.1 (Nat.le_of_ble_eq_true rfl) dX11_ruin_61 ⟨Nat.le_of_ble_eq_true rfl, Nat.le_of_ble_eq_true rfl⟩ (fun H locs hI => ?_)
            refine lv_iconst (v := 1) hx hb dX11_ruin_64 (by decide) ?_
            exact hret_z hx hb hr (by decide) hlocks hI (by decide) (by decide) (fun _ => ⟨trivial, rfl⟩) (ret_e hK0 hf) dX11_ruin_65
          · replace hf := ifp c14 hf
            refine lv_aload_n hx hb dX11_ruin_44 rfl (lv_at hl 0 rfl) ?_
            obtain ⟨k22, hf⟩ := chk_b hf
            refine hg_11_4 hx hb hts hin_X11 hown kl_22 hI (isk_k k22) dX11_ruin_45 ?_
            obtain ⟨b23, hd24, hf⟩ := bnd_b hf
            obtain ⟨hq25, hk26⟩ := dr_e hd24
            refine W.eq (g2 := F0 m 48 ls [.ref b23]) (by rw [hq25]; rfl) ?_
            obtain ⟨x27, hc28, hf⟩ := bnd_b hf
            refine hcall_Vv (ex2 := True) (As := []) (rest := []) (n := 0) (by rw [hk26]; decide) (hC_9 hk26) rfl ⟨hx, hb, hml, hown, hts⟩ (ch_X8_clearRuins l D cy b23 x11.1 x27 hc28) (cwV 0 hts gX11_ruin_X8_clearRuins rfl rfl rfl ⟨rfl, nd_X8_clearRuins⟩ ⟨Nat.le_of_ble_eq_true rfl, Nat.le_of_ble_eq_true rfl⟩) hI (fun h => h.elim) (fun _ => ⟨trivial, trivial⟩) rfl hl.1 (Nat.le_of_ble_eq_true rfl) dX11_ruin_48 ⟨Nat.le_of_ble_eq_true rfl, Nat.le_of_ble_eq_true rfl⟩ (fun H locs hI => ?_)
            refine lv_goto (tgt := 64) hx hb dX11_ruin_51 (by decide) ?_
            refine lv_iconst (v := 1) hx hb dX11_ruin_64 (by decide) ?_
            exact hret_z hx hb hr (by decide) hlocks hI (by decide) (by decide) (fun _ => ⟨trivial, rfl⟩) (ret_e hK0 hf) dX11_ruin_65
        · replace hf := ifp c13 hf
          refine lv_iconst (v := 0) hx hb dX11_ruin_37 (by decide) ?_
          exact hret_z hx hb hr (by decide) hlocks hI (by decide) (by decide) (fun _ => ⟨trivial, rfl⟩) (ret_e hK0 hf) dX11_ruin_38

noncomputable def fh_X7_put (h : Nat) (a1 : Int32) (s0 : HSt) : Option (HSt) :=
  chk (isk s0 h 8) ((dr s0 (gR s0 704 h) 22).bind fun b2 => (if (nI (gL s0 b2)) ≤ (gI s0 705 h) then some s0 else chk (inb (gI s0 705 h) (gL s0 b2)) ((some (sI (sA s0 b2 (gI s0 705 h).toNatClampNeg a1) 705 h ((gI (sA s0 b2 (gI s0 705 h).toNatClampNeg a1) 705 h) + (1 : Int32)))).bind fun x8 => some x8)))
theorem nd_X7_put : yX7_put.cls ≠ "java/lang/invoke/MethodHandle" ∧ yX7_put.cls ≠ "java/lang/invoke/VarHandle" ∧ (parseMethodDescriptor yX7_put.desc).map (fun d => d.parameters.length) = some 1 := by decide +kernel
set_option maxHeartbeats 4000000 in
set_option maxRecDepth 100000 in
theorem ch_X7_put (l : Launch) (D : va_G) (cy : Nat → ClassId) (h : Nat) (a1 : Int32) (s0 : HSt) (out : HSt) (hf : fh_X7_put h a1 s0 = some out) : CHv l D cy yX7_put wsX7_put { frames := 0, cells := 0, slots := 0, locals := 0 } 0 0 False True [.ref h, .int a1] s0 out := by
  refine Met.ofW (cc := cX7_put) (maxL := 2) (ret := none) (by decide) rfl ?_
  intro p e s m args below meth c s₁ B hml hv
  obtain ⟨rfl, hP, hK, hD0, hkx, hsz, hal⟩ := hv
  have hx := B.exec
  have hb := B.bytes
  have hr := B.returns
  have hts := atoms_spec (ws := wsX7_put) B.pre
  have hown : s.vm.findClass RX7 = some m.cls := findClass_of_methodNamed B.named
  have hlocks := B.notSynchronized
  have hI : HI D cy s s0 s0 s.heap [] 0 False True := ⟨hK, hP, hD0.weaken (fun k q hk _ => Or.inl (pl_mem hk)), va_S.rf, hsz.1, hkx, ⟨hsz, hal⟩, fun _ => rfl, Nat.le_refl _⟩
  have hin_X7 : ∀ w ∈ u_ws RX7 TX7 7, w ∈ wsX7_put := fun w hw => List.mem_cons_of_mem _ (List.mem_append_right _ hw)
  have kl_23 : Cond.fieldLink RX7 23 "HalfBridge$RuleReader" "code" "[I" ∈ wsX7_put := by decide +kernel
  have kl_30 : Cond.fieldLink RX7 30 "HalfBridge$RuleReader" "size" "I" ∈ wsX7_put := by decide +kernel
  have hl := lv_entry ([.ref h, .int a1]) (n := 2) (Nat.le_of_ble_eq_true rfl)
  rw [lg_entry_eq]
  generalize (lg_sl ([.ref h, .int a1]) ++ List.replicate (2 - (lg_sl ([.ref h, .int a1])).length) Slot.unset).toArray = ls at hl ⊢
  have hl : lv_has ls 2 [(0, .ref h), (1, .int a1)] := hl
  obtain ⟨K0, hK0, hf⟩ := top_e hf
  unfold fh_X7_put at hf
  refine lv_aload_n hx hb dX7_put_0 rfl (lv_at hl 0 rfl) ?_
  obtain ⟨k1, hf⟩ := chk_b hf
  refine hg_7_5 hx hb hts hin_X7 hown kl_30 hI (isk_k k1) dX7_put_1 ?_
  refine lv_aload_n hx hb dX7_put_4 rfl (lv_at hl 0 rfl) ?_
  refine hg_7_4 hx hb hts hin_X7 hown kl_23 hI (isk_k k1) dX7_put_5 ?_
  obtain ⟨b2, hd3, hf⟩ := bnd_b hf
  obtain ⟨hq4, hk5⟩ := dr_e hd3
  refine W.eq (g2 := F0 m 8 ls [.ref b2, .int (gI s0 705 h)]) (by rw [hq4]; rfl) ?_
  refine ha_22 hx hb hI hk5 dX7_put_8 ?_
  refine lv_icmp_ge (tgt := 32) hx hb dX7_put_9 (by decide) (fun c6 => ?_) (fun c6 => ?_)
  · replace hf := ifp c6 hf
    exact hret_v hx hb hr hlocks hI (by decide) (by decide) (fun _ => ⟨trivial, rfl⟩) (ret_e hK0 hf) dX7_put_32
  · replace hf := ifn c6 hf
    refine lv_aload_n hx hb dX7_put_12 rfl (lv_at hl 0 rfl) ?_
    refine hg_7_4 hx hb hts hin_X7 hown kl_23 hI (isk_k k1) dX7_put_13 ?_
    refine lv_aload_n hx hb dX7_put_16 rfl (lv_at hl 0 rfl) ?_
    refine hg_7_5 hx hb hts hin_X7 hown kl_30 hI (isk_k k1) dX7_put_17 ?_
    refine lv_iload_n hx hb dX7_put_20 rfl (lv_at hl 1 rfl) ?_
    refine W.eq (g2 := F0 m 21 ls [.int a1, .int (gI s0 705 h), .ref b2]) (by rw [hq4]; rfl) ?_
    obtain ⟨k7, hf⟩ := chk_b hf
    refine hs_I hx hb hI hk5 k7 dX7_put_21 (fun H locs hI => ?_)
    refine lv_aload_n hx hb dX7_put_22 rfl (lv_at hl 0 rfl) ?_
    refine lv_dup hx hb dX7_put_23 rfl ?_
    refine hg_7_5 hx hb hts hin_X7 hown kl_30 hI (gK_sA.trans (isk_k k1)) dX7_put_24 ?_
    refine lv_iconst (v := 1) hx hb dX7_put_27 (by decide) ?_
    refine lv_iadd hx hb dX7_put_28 ?_
    refine hp_7_5 hx hb hts hin_X7 hown kl_30 hI (gK_sA.trans (isk_k k1)) dX7_put_29 (fun H locs hI => ?_)
    obtain ⟨x8, hx8, hf⟩ := bnd_b hf
    replace hx8 := Option.some.inj hx8
    rw [hx8] at hI
    have hk9 : gK x8 h = 8 := by rw [← hx8]; exact (gK_sI.trans (gK_sA.trans (isk_k k1)))
    have hk10 : gK x8 b2 = 22 := by rw [← hx8]; exact (gK_sI.trans (gK_sA.trans hk5))
    exact hret_v hx hb hr hlocks hI (by decide) (by decide) (fun _ => ⟨trivial, rfl⟩) (ret_e hK0 hf) dX7_put_32
