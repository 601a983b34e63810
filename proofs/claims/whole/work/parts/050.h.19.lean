noncomputable def fh_X5_readBank (h : Nat) (a1 : Option Nat) (s0 : HSt) : Option (HSt) :=
  chk (isk s0 h 6) ((fh_X5_number h (0 : Int32) (1 : Int32) s0).bind fun x2 => (dr x2.1 a1 5).bind fun b4 => chk (isk x2.1 h 6) ((fh_X5_number h (0 : Int32) (99 : Int32) x2.1).bind fun x9 => (dr x9.1 (gR x2.1 404 b4) 22).bind fun b11 => chk (inb x2.2 (gL x9.1 b11)) (chk (isk x9.1 b4 5) (chk (isk x9.1 h 6) ((fh_X5_number h (0 : Int32) (99 : Int32) (sA x9.1 b11 x2.2.toNatClampNeg x9.2)).bind fun x18 => (dr x18.1 (gR (sA x9.1 b11 x2.2.toNatClampNeg x9.2) 405 b4) 22).bind fun b20 => chk (inb x2.2 (gL x18.1 b20)) (some (sA x18.1 b20 x2.2.toNatClampNeg x18.2)))))))
theorem nd_X5_readBank : yX5_readBank.cls ≠ "java/lang/invoke/MethodHandle" ∧ yX5_readBank.cls ≠ "java/lang/invoke/VarHandle" ∧ (parseMethodDescriptor yX5_readBank.desc).map (fun d => d.parameters.length) = some 1 := by decide +kernel
set_option maxHeartbeats 4000000 in
set_option maxRecDepth 100000 in
theorem ch_X5_readBank (l : Launch) (D : va_G) (cy : Nat → ClassId) (h : Nat) (a1 : Option Nat) (s0 : HSt) (out : HSt) (hf : fh_X5_readBank h a1 s0 = some out) : CHv l D cy yX5_readBank wsX5_readBank { frames := 2, cells := 0, slots := 0, locals := 44 } 0 0 False True [.ref h, va_rf a1] s0 out := by
  refine Met.ofW (cc := cX5_readBank) (maxL := 3) (ret := none) (by decide) rfl ?_
  intro p e s m args below meth c s₁ B hml hv
  obtain ⟨rfl, hP, hK, hD0, hkx, hsz, hal⟩ := hv
  have hx := B.exec
  have hb := B.bytes
  have hr := B.returns
  have hts := atoms_spec (ws := wsX5_readBank) B.pre
  have hown : s.vm.findClass RX5 = some m.cls := findClass_of_methodNamed B.named
  have hlocks := B.notSynchronized
  have hI : HI D cy s s0 s0 s.heap [] 0 False True := ⟨hK, hP, hD0.weaken (fun k q hk _ => Or.inl (pl_mem hk)), va_S.rf, hsz.1, hkx, ⟨hsz, hal⟩, fun _ => rfl, Nat.le_refl _⟩
  have hin_X4 : ∀ w ∈ u_ws RX4 TX4 9, w ∈ wsX5_readBank := fun w hw => List.mem_cons_of_mem _ (List.mem_append_left _ (List.mem_append_left _ (List.mem_append_right _ hw)))
  have kl_71 : Cond.fieldLink RX5 71 "HalfBridge$River" "bankLine" "[I" ∈ wsX5_readBank := by decide +kernel
  have kl_75 : Cond.fieldLink RX5 75 "HalfBridge$River" "bankHeight" "[I" ∈ wsX5_readBank := by decide +kernel
  have hl := lv_entry ([.ref h, va_rf a1]) (n := 3) (by simp [lg_sl, cat_rf, cat_i, cat_l, cat_r])
  rw [lg_entry_eq]
  generalize (lg_sl ([.ref h, va_rf a1]) ++ List.replicate (3 - (lg_sl ([.ref h, va_rf a1])).length) Slot.unset).toArray = ls at hl ⊢
  have hl : lv_has ls 3 [(0, .ref h), (1, va_rf a1)] := (by simpa [lv_args, cat_rf, cat_i, cat_l, cat_r] using hl)
  obtain ⟨K0, hK0, hf⟩ := top_e hf
  unfold fh_X5_readBank at hf
  refine lv_aload_n hx hb dX5_readBank_0 rfl (lv_at hl 0 rfl) ?_
  refine lv_iconst (v := 0) hx hb dX5_readBank_1 (by decide) ?_
  refine lv_iconst (v := 1) hx hb dX5_readBank_2 (by decide) ?_
  obtain ⟨k1, hf⟩ := chk_b hf
  obtain ⟨x2, hc3, hf⟩ := bnd_b hf
  refine hcall_Vi (ex2 := True) (As := [.int (0 : Int32), .int (1 : Int32)]) (rest := []) (n := 2) (by rw [(isk_k k1)]; decide) (hC_6 (isk_k k1)) rfl ⟨hx, hb, hml, hown, hts⟩ (ch_X5_number l D cy h (0 : Int32) (1 : Int32) s0 x2 hc3) (cwV 2 hts gX5_readBank_X5_number rfl rfl rfl ⟨rfl, nd_X5_number⟩ ⟨Nat.le_of_ble_eq_true rfl, Nat.le_of_ble_eq_true rfl⟩) hI (fun h => h.elim) (fun _ => ⟨trivial, trivial⟩) rfl hl.1 (Nat.le_of_ble_eq_true rfl) dX5_readBank_3 ⟨Nat.le_of_ble_eq_true rfl, Nat.le_of_ble_eq_true rfl⟩ (fun H locs hI => ?_)
  refine lv_istore_n (lv' := [(2, .int x2.2), (0, .ref h), (1, va_rf a1)]) hx hb dX5_readBank_6 rfl hl (by decide) (by first | rfl | (simp [cat_rf, cat_i, cat_l, cat_r]; done) | (simp [cat_rf, cat_i, cat_l, cat_r]; decide)) (fun ls hl => ?_)
  refine hq_aload_n hx hb dX5_readBank_7 rfl (lv_at hl 2 rfl) ?_
  obtain ⟨b4, hd5, hf⟩ := bnd_b hf
  obtain ⟨hq6, hk7⟩ := dr_e hd5
  refine W.eq (g2 := F0 m 8 ls [.ref b4]) (by rw [hq6]; rfl) ?_
  refine hg_4_4 hx hb hts hin_X4 hown kl_71 hI hk7 dX5_readBank_8 ?_
  refine lv_iload_n hx hb dX5_readBank_11 rfl (lv_at hl 0 rfl) ?_
  refine lv_aload_n hx hb dX5_readBank_12 rfl (lv_at hl 1 rfl) ?_
  refine lv_iconst (v := 0) hx hb dX5_readBank_13 (by decide) ?_
  refine lv_bipush (v := 99) hx hb dX5_readBank_14 (by decide) ?_
  obtain ⟨k8, hf⟩ := chk_b hf
  obtain ⟨x9, hc10, hf⟩ := bnd_b hf
  refine hcall_Vi (ex2 := True) (As := [.int (0 : Int32), .int (99 : Int32)]) (rest := [.int x2.2, va_rf (gR x2.1 404 b4)]) (n := 2) (by rw [(isk_k k8)]; decide) (hC_6 (isk_k k8)) rfl ⟨hx, hb, hml, hown, hts⟩ (ch_X5_number l D cy h (0 : Int32) (99 : Int32) x2.1 x9 hc10) (cwV 2 hts gX5_readBank_X5_number rfl rfl rfl ⟨rfl, nd_X5_number⟩ ⟨Nat.le_of_ble_eq_true rfl, Nat.le_of_ble_eq_true rfl⟩) hI (fun h => h.elim) (fun _ => ⟨trivial, trivial⟩) rfl hl.1 (by simp [cat_rf, cat_i, cat_l, cat_r]) dX5_readBank_16 ⟨Nat.le_of_ble_eq_true rfl, Nat.le_of_ble_eq_true rfl⟩ (fun H locs hI => ?_)
  obtain ⟨b11, hd12, hf⟩ := bnd_b hf
  obtain ⟨hq13, hk14⟩ := dr_e hd12
  refine W.eq (g2 := F0 m 19 ls [.int x9.2, .int x2.2, .ref b11]) (by rw [hq13]; rfl) ?_
  obtain ⟨k15, hf⟩ := chk_b hf
  refine hs_I hx hb hI hk14 k15 dX5_readBank_19 (fun H locs hI => ?_)
  refine hq_aload_n hx hb dX5_readBank_20 rfl (lv_at hl 2 rfl) ?_
  refine W.eq (g2 := F0 m 21 ls [.ref b4]) (by rw [hq6]; rfl) ?_
  obtain ⟨k16, hf⟩ := chk_b hf
  refine hg_4_5 hx hb hts hin_X4 hown kl_75 hI (gK_sA.trans (isk_k k16)) dX5_readBank_21 ?_
  refine lv_iload_n hx hb dX5_readBank_24 rfl (lv_at hl 0 rfl) ?_
  refine lv_aload_n hx hb dX5_readBank_25 rfl (lv_at hl 1 rfl) ?_
  refine lv_iconst (v := 0) hx hb dX5_readBank_26 (by decide) ?_
  refine lv_bipush (v := 99) hx hb dX5_readBank_27 (by decide) ?_
  obtain ⟨k17, hf⟩ := chk_b hf
  obtain ⟨x18, hc19, hf⟩ := bnd_b hf
  refine hcall_Vi (ex2 := True) (As := [.int (0 : Int32), .int (99 : Int32)]) (rest := [.int x2.2, va_rf (gR (sA x9.1 b11 x2.2.toNatClampNeg x9.2) 405 b4)]) (n := 2) (by rw [(gK_sA.trans (isk_k k17))]; decide) (hC_6 (gK_sA.trans (isk_k k17))) rfl ⟨hx, hb, hml, hown, hts⟩ (ch_X5_number l D cy h (0 : Int32) (99 : Int32) (sA x9.1 b11 x2.2.toNatClampNeg x9.2) x18 hc19) (cwV 2 hts gX5_readBank_X5_number rfl rfl rfl ⟨rfl, nd_X5_number⟩ ⟨Nat.le_of_ble_eq_true rfl, Nat.le_of_ble_eq_true rfl⟩) hI (fun h => h.elim) (fun _ => ⟨trivial, trivial⟩) rfl hl.1 (by simp [cat_rf, cat_i, cat_l, cat_r]) dX5_readBank_29 ⟨Nat.le_of_ble_eq_true rfl, Nat.le_of_ble_eq_true rfl⟩ (fun H locs hI => ?_)
  obtain ⟨b20, hd21, hf⟩ := bnd_b hf
  obtain ⟨hq22, hk23⟩ := dr_e hd21
  refine W.eq (g2 := F0 m 32 ls [.int x18.2, .int x2.2, .ref b20]) (by rw [hq22]; rfl) ?_
  obtain ⟨k24, hf⟩ := chk_b hf
  refine hs_I hx hb hI hk23 k24 dX5_readBank_32 (fun H locs hI => ?_)
  exact hret_v hx hb hr hlocks hI (by decide) (by decide) (fun _ => ⟨trivial, rfl⟩) (ret_e hK0 hf) dX5_readBank_33

noncomputable def fh_X5_readEyes (h : Nat) (a1 : Option Nat) (s0 : HSt) : Option (HSt) :=
  chk (isk s0 h 6) ((fh_X5_number h (0 : Int32) (1 : Int32) s0).bind fun x2 => (dr x2.1 a1 5).bind fun b4 => chk (isk x2.1 h 6) ((fh_X5_number h (0 : Int32) (9 : Int32) x2.1).bind fun x9 => (dr x9.1 (gR x2.1 406 b4) 22).bind fun b11 => chk (inb x2.2 (gL x9.1 b11)) (some (sA x9.1 b11 x2.2.toNatClampNeg x9.2))))
theorem nd_X5_readEyes : yX5_readEyes.cls ≠ "java/lang/invoke/MethodHandle" ∧ yX5_readEyes.cls ≠ "java/lang/invoke/VarHandle" ∧ (parseMethodDescriptor yX5_readEyes.desc).map (fun d => d.parameters.length) = some 1 := by decide +kernel
set_option maxHeartbeats 4000000 in
set_option maxRecDepth 100000 in
theorem ch_X5_readEyes (l : Launch) (D : va_G) (cy : Nat → ClassId) (h : Nat) (a1 : Option Nat) (s0 : HSt) (out : HSt) (hf : fh_X5_readEyes h a1 s0 = some out) : CHv l D cy yX5_readEyes wsX5_readEyes { frames := 2, cells := 0, slots := 0, locals := 44 } 0 0 False True [.ref h, va_rf a1] s0 out := by
  refine Met.ofW (cc := cX5_readEyes) (maxL := 3) (ret := none) (by decide) rfl ?_
  intro p e s m args below meth c s₁ B hml hv
  obtain ⟨rfl, hP, hK, hD0, hkx, hsz, hal⟩ := hv
  have hx := B.exec
  have hb := B.bytes
  have hr := B.returns
  have hts := atoms_spec (ws := wsX5_readEyes) B.pre
  have hown : s.vm.findClass RX5 = some m.cls := findClass_of_methodNamed B.named
  have hlocks := B.notSynchronized
  have hI : HI D cy s s0 s0 s.heap [] 0 False True := ⟨hK, hP, hD0.weaken (fun k q hk _ => Or.inl (pl_mem hk)), va_S.rf, hsz.1, hkx, ⟨hsz, hal⟩, fun _ => rfl, Nat.le_refl _⟩
  have hin_X4 : ∀ w ∈ u_ws RX4 TX4 9, w ∈ wsX5_readEyes := fun w hw => List.mem_cons_of_mem _ (List.mem_append_left _ (List.mem_append_left _ (List.mem_append_right _ hw)))
  have kl_78 : Cond.fieldLink RX5 78 "HalfBridge$River" "eyes" "[I" ∈ wsX5_readEyes := by decide +kernel
  have hl := lv_entry ([.ref h, va_rf a1]) (n := 3) (by simp [lg_sl, cat_rf, cat_i, cat_l, cat_r])
  rw [lg_entry_eq]
  generalize (lg_sl ([.ref h, va_rf a1]) ++ List.replicate (3 - (lg_sl ([.ref h, va_rf a1])).length) Slot.unset).toArray = ls at hl ⊢
  have hl : lv_has ls 3 [(0, .ref h), (1, va_rf a1)] := (by simpa [lv_args, cat_rf, cat_i, cat_l, cat_r] using hl)
  obtain ⟨K0, hK0, hf⟩ := top_e hf
  unfold fh_X5_readEyes at hf
  refine lv_aload_n hx hb dX5_readEyes_0 rfl (lv_at hl 0 rfl) ?_
  refine lv_iconst (v := 0) hx hb dX5_readEyes_1 (by decide) ?_
  refine lv_iconst (v := 1) hx hb dX5_readEyes_2 (by decide) ?_
  obtain ⟨k1, hf⟩ := chk_b hf
  obtain ⟨x2, hc3, hf⟩ := bnd_b hf
  refine hcall_Vi (ex2 := True) (As := [.int (0 : Int32), .int (1 : Int32)]) (rest := []) (n := 2) (by rw [(isk_k k1)]; decide) (hC_6 (isk_k k1)) rfl ⟨hx, hb, hml, hown, hts⟩ (ch_X5_number l D cy h (0 : Int32) (1 : Int32) s0 x2 hc3) (cwV 2 hts gX5_readEyes_X5_number rfl rfl rfl ⟨rfl, nd_X5_number⟩ ⟨Nat.le_of_ble_eq_true rfl, Nat.le_of_ble_eq_true rfl⟩) hI (fun h => h.elim) (fun _ => ⟨trivial, trivial⟩) rfl hl.1 (Nat.le_of_ble_eq_true rfl) dX5_readEyes_3 ⟨Nat.le_of_ble_eq_true rfl, Nat.le_of_ble_eq_true rfl⟩ (fun H locs hI => ?_)
  refine lv_istore_n (lv' := [(2, .int x2.2), (0, .ref h), (1, va_rf a1)]) hx hb dX5_readEyes_6 rfl hl (by decide) (by first | rfl | (simp [cat_rf, cat_i, cat_l, cat_r]; done) | (simp [cat_rf, cat_i, cat_l, cat_r]; decide)) (fun ls hl => ?_)
  refine hq_aload_n hx hb dX5_readEyes_7 rfl (lv_at hl 2 rfl) ?_
  obtain ⟨b4, hd5, hf⟩ := bnd_b hf
  obtain ⟨hq6, hk7⟩ := dr_e hd5
  refine W.eq (g2 := F0 m 8 ls [.ref b4]) (by rw [hq6]; rfl) ?_
  refine hg_4_6 hx hb hts hin_X4 hown kl_78 hI hk7 dX5_readEyes_8 ?_
  refine lv_iload_n hx hb dX5_readEyes_11 rfl (lv_at hl 0 rfl) ?_
  refine lv_aload_n hx hb dX5_readEyes_12 rfl (lv_at hl 1 rfl) ?_
  refine lv_iconst (v := 0) hx hb dX5_readEyes_13 (by decide) ?_
  refine lv_bipush (v := 9) hx hb dX5_readEyes_14 (by decide) ?_
  obtain ⟨k8, hf⟩ := chk_b hf
  obtain ⟨x9, hc10, hf⟩ := bnd_b hf
  refine hcall_Vi (ex2 := True) (As := [.int (0 : Int32), .int (9 : Int32)]) (rest := [.int x2.2, va_rf (gR x2.1 406 b4)]) (n := 2) (by rw [(isk_k k8)]; decide) (hC_6 (isk_k k8)) rfl ⟨hx, hb, hml, hown, hts⟩ (ch_X5_number l D cy h (0 : Int32) (9 : Int32) x2.1 x9 hc10) (cwV 2 hts gX5_readEyes_X5_number rfl rfl rfl ⟨rfl, nd_X5_number⟩ ⟨Nat.le_of_ble_eq_true rfl, Nat.le_of_ble_eq_true rfl⟩) hI (fun h => h.elim) (fun _ => ⟨trivial, trivial⟩) rfl hl.1 (by simp [cat_rf, cat_i, cat_l, cat_r]) dX5_readEyes_16 ⟨Nat.le_of_ble_eq_true rfl, Nat.le_of_ble_eq_true rfl⟩ (fun H locs hI => ?_)
  obtain ⟨b11, hd12, hf⟩ := bnd_b hf
  obtain ⟨hq13, hk14⟩ := dr_e hd12
  refine W.eq (g2 := F0 m 19 ls [.int x9.2, .int x2.2, .ref b11]) (by rw [hq13]; rfl) ?_
  obtain ⟨k15, hf⟩ := chk_b hf
  refine hs_I hx hb hI hk14 k15 dX5_readEyes_19 (fun H locs hI => ?_)
  exact hret_v hx hb hr hlocks hI (by decide) (by decide) (fun _ => ⟨trivial, rfl⟩) (ret_e hK0 hf) dX5_readEyes_20

noncomputable def fh_X5_readFlood (h : Nat) (a1 : Option Nat) (s0 : HSt) : Option (HSt) :=
  chk (isk s0 h 6) ((fh_X5_number h (0 : Int32) (399 : Int32) s0).bind fun x2 => chk (isk x2.1 h 6) ((fh_X5_number h (1 : Int32) (9 : Int32) x2.1).bind fun x5 => (dr x5.1 a1 5).bind fun b7 => (if (8 : Int32) ≤ (gI x5.1 403 b7) then some x5.1 else (dr x5.1 (gR x5.1 407 b7) 22).bind fun b12 => chk (inb (gI x5.1 403 b7) (gL x5.1 b12)) ((dr x5.1 (gR (sA x5.1 b12 (gI x5.1 403 b7).toNatClampNeg x2.2) 408 b7) 22).bind fun b17 => chk (inb (gI (sA x5.1 b12 (gI x5.1 403 b7).toNatClampNeg x2.2) 403 b7) (gL (sA x5.1 b12 (gI x5.1 403 b7).toNatClampNeg x2.2) b17)) ((some (sA (sA x5.1 b12 (gI x5.1 403 b7).toNatClampNeg x2.2) b17 (gI (sA x5.1 b12 (gI x5.1 403 b7).toNatClampNeg x2.2) 403 b7).toNatClampNeg x5.2)).bind fun x22 => some (sI x22 403 b7 ((gI x22 403 b7) + (1 : Int32))))))))
theorem nd_X5_readFlood : yX5_readFlood.cls ≠ "java/lang/invoke/MethodHandle" ∧ yX5_readFlood.cls ≠ "java/lang/invoke/VarHandle" ∧ (parseMethodDescriptor yX5_readFlood.desc).map (fun d => d.parameters.length) = some 1 := by decide +kernel
set_option maxHeartbeats 4000000 in
set_option maxRecDepth 100000 in
theorem ch_X5_readFlood (l : Launch) (D : va_G) (cy : Nat → ClassId) (h : Nat) (a1 : Option Nat) (s0 : HSt) (out : HSt) (hf : fh_X5_readFlood h a1 s0 = some out) : CHv l D cy yX5_readFlood wsX5_readFlood { frames := 2, cells := 0, slots := 0, locals := 44 } 0 0 False True [.ref h, va_rf a1] s0 out := by
  refine Met.ofW (cc := cX5_readFlood) (maxL := 4) (ret := none) (by decide) rfl ?_
  intro p e s m args below meth c s₁ B hml hv
  obtain ⟨rfl, hP, hK, hD0, hkx, hsz, hal⟩ := hv
  have hx := B.exec
  have hb := B.bytes
  have hr := B.returns
  have hts := atoms_spec (ws := wsX5_readFlood) B.pre
  have hown : s.vm.findClass RX5 = some m.cls := findClass_of_methodNamed B.named
  have hlocks := B.notSynchronized
  have hI : HI D cy s s0 s0 s.heap [] 0 False True := ⟨hK, hP, hD0.weaken (fun k q hk _ => Or.inl (pl_mem hk)), va_S.rf, hsz.1, hkx, ⟨hsz, hal⟩, fun _ => rfl, Nat.le_refl _⟩
  have hin_X4 : ∀ w ∈ u_ws RX4 TX4 9, w ∈ wsX5_readFlood := fun w hw => List.mem_cons_of_mem _ (List.mem_append_left _ (List.mem_append_left _ (List.mem_append_right _ hw)))
  have kl_68 : Cond.fieldLink RX5 68 "HalfBridge$River" "floods" "I" ∈ wsX5_readFlood := by decide +kernel
  have kl_81 : Cond.fieldLink RX5 81 "HalfBridge$River" "floodDay" "[I" ∈ wsX5_readFlood := by decide +kernel
  have kl_84 : Cond.fieldLink RX5 84 "HalfBridge$River" "floodYards" "[I" ∈ wsX5_readFlood := by decide +kernel
  have hl := lv_entry ([.ref h, va_rf a1]) (n := 4) (by simp [lg_sl, cat_rf, cat_i, cat_l, cat_r])
  rw [lg_entry_eq]
  generalize (lg_sl ([.ref h, va_rf a1]) ++ List.replicate (4 - (lg_sl ([.ref h, va_rf a1])).length) Slot.unset).toArray = ls at hl ⊢
  have hl : lv_has ls 4 [(0, .ref h), (1, va_rf a1)] := (by simpa [lv_args, cat_rf, cat_i, cat_l, cat_r] using hl)
  obtain ⟨K0, hK0, hf⟩ := top_e hf
  unfold fh_X5_readFlood at hf
  refine lv_aload_n hx hb dX5_readFlood_0 rfl (lv_at hl 0 rfl) ?_
  refine lv_iconst (v := 0) hx hb dX5_readFlood_1 (by decide) ?_
  refine lv_sipush (v := 399) hx hb dX5_readFlood_2 (by decide) ?_
  obtain ⟨k1, hf⟩ := chk_b hf
  obtain ⟨x2, hc3, hf⟩ := bnd_b hf
  refine hcall_Vi (ex2 := True) (As := [.int (0 : Int32), .int (399 : Int32)]) (rest := []) (n := 2) (by rw [(isk_k k1)]; decide) (hC_6 (isk_k k1)) rfl ⟨hx, hb, hml, hown, hts⟩ (ch_X5_number l D cy h (0 : Int32) (399 : Int32) s0 x2 hc3) (cwV 2 hts gX5_readFlood_X5_number rfl rfl rfl ⟨rfl, nd_X5_number⟩ ⟨Nat.le_of_ble_eq_true rfl, Nat.le_of_ble_eq_true rfl⟩) hI (fun h => h.elim) (fun _ => ⟨trivial, trivial⟩) rfl hl.1 (Nat.le_of_ble_eq_true rfl) dX5_readFlood_5 ⟨Nat.le_of_ble_eq_true rfl, Nat.le_of_ble_eq_true rfl⟩ (fun H locs hI => ?_)
  refine lv_istore_n (lv' := [(2, .int x2.2), (0, .ref h), (1, va_rf a1)]) hx hb dX5_readFlood_8 rfl hl (by decide) (by first | rfl | (simp [cat_rf, cat_i, cat_l, cat_r]; done) | (simp [cat_rf, cat_i, cat_l, cat_r]; decide)) (fun ls hl => ?_)
  refine lv_aload_n hx hb dX5_readFlood_9 rfl (lv_at hl 1 rfl) ?_
  refine lv_iconst (v := 1) hx hb dX5_readFlood_10 (by decide) ?_
  refine lv_bipush (v := 9) hx hb dX5_readFlood_11 (by decide) ?_
  obtain ⟨k4, hf⟩ := chk_b hf
  obtain ⟨x5, hc6, hf⟩ := bnd_b hf
  refine hcall_Vi (ex2 := True) (As := [.int (1 : Int32), .int (9 : Int32)]) (rest := []) (n := 2) (by rw [(isk_k k4)]; decide) (hC_6 (isk_k k4)) rfl ⟨hx, hb, hml, hown, hts⟩ (ch_X5_number l D cy h (1 : Int32) (9 : Int32) x2.1 x5 hc6) (cwV 2 hts gX5_readFlood_X5_number rfl rfl rfl ⟨rfl, nd_X5_number⟩ ⟨Nat.le_of_ble_eq_true rfl, Nat.le_of_ble_eq_true rfl⟩) hI (fun h => h.elim) (fun _ => ⟨trivial, trivial⟩) rfl hl.1 (Nat.le_of_ble_eq_true rfl) dX5_readFlood_13 ⟨Nat.le_of_ble_eq_true rfl, Nat.le_of_ble_eq_true rfl⟩ (fun H locs hI => ?_)
  refine lv_istore_n (lv' := [(3, .int x5.2), (2, .int x2.2), (0, .ref h), (1, va_rf a1)]) hx hb dX5_readFlood_16 rfl hl (by decide) (by first | rfl | (simp [cat_rf, cat_i, cat_l, cat_r]; done) | (simp [cat_rf, cat_i, cat_l, cat_r]; decide)) (fun ls hl => ?_)
  refine hq_aload_n hx hb dX5_readFlood_17 rfl (lv_at hl 3 rfl) ?_
  obtain ⟨b7, hd8, hf⟩ := bnd_b hf
  obtain ⟨hq9, hk10⟩ := dr_e hd8
  refine W.eq (g2 := F0 m 18 ls [.ref b7]) (by rw [hq9]; rfl) ?_
  refine hg_4_3 hx hb hts hin_X4 hown kl_68 hI hk10 dX5_readFlood_18 ?_
  refine lv_bipush (v := 8) hx hb dX5_readFlood_21 (by decide) ?_
  refine lv_icmp_ge (tgt := 56) hx hb dX5_readFlood_23 (by decide) (fun c11 => ?_) (fun c11 => ?_)
  · replace hf := ifp c11 hf
    exact hret_v hx hb hr hlocks hI (by decide) (by decide) (fun _ => ⟨trivial, rfl⟩) (ret_e hK0 hf) dX5_readFlood_56
  · replace hf := ifn c11 hf
    refine hq_aload_n hx hb dX5_readFlood_26 rfl (lv_at hl 3 rfl) ?_
    refine W.eq (g2 := F0 m 27 ls [.ref b7]) (by rw [hq9]; rfl) ?_
    refine hg_4_7 hx hb hts hin_X4 hown kl_81 hI hk10 dX5_readFlood_27 ?_
    refine hq_aload_n hx hb dX5_readFlood_30 rfl (lv_at hl 3 rfl) ?_
    refine W.eq (g2 := F0 m 31 ls [.ref b7, va_rf (gR x5.1 407 b7)]) (by rw [hq9]; rfl) ?_
    refine hg_4_3 hx hb hts hin_X4 hown kl_68 hI hk10 dX5_readFlood_31 ?_
    refine lv_iload_n hx hb dX5_readFlood_34 rfl (lv_at hl 1 rfl) ?_
    obtain ⟨b12, hd13, hf⟩ := bnd_b hf
    obtain ⟨hq14, hk15⟩ := dr_e hd13
    refine W.eq (g2 := F0 m 35 ls [.int x2.2, .int (gI x5.1 403 b7), .ref b12]) (by rw [hq14]; rfl) ?_
    obtain ⟨k16, hf⟩ := chk_b hf
    refine hs_I hx hb hI hk15 k16 dX5_readFlood_35 (fun H locs hI => ?_)
    refine hq_aload_n hx hb dX5_readFlood_36 rfl (lv_at hl 3 rfl) ?_
    refine W.eq (g2 := F0 m 37 ls [.ref b7]) (by rw [hq9]; rfl) ?_
    refine hg_4_8 hx hb hts hin_X4 hown kl_84 hI (gK_sA.trans hk10) dX5_readFlood_37 ?_
    refine hq_aload_n hx hb dX5_readFlood_40 rfl (lv_at hl 3 rfl) ?_
    refine W.eq (g2 := F0 m 41 ls [.ref b7, va_rf (gR (sA x5.1 b12 (gI x5.1 403 b7).toNatClampNeg x2.2) 408 b7)]) (by rw [hq9]; rfl) ?_
    refine hg_4_3 hx hb hts hin_X4 hown kl_68 hI (gK_sA.trans hk10) dX5_readFlood_41 ?_
    refine lv_iload_n hx hb dX5_readFlood_44 rfl (lv_at hl 0 rfl) ?_
    obtain ⟨b17, hd18, hf⟩ := bnd_b hf
    obtain ⟨hq19, hk20⟩ := dr_e hd18
    refine W.eq (g2 := F0 m 45 ls [.int x5.2, .int (gI (sA x5.1 b12 (gI x5.1 403 b7).toNatClampNeg x2.2) 403 b7), .ref b17]) (by rw [hq19]; rfl) ?_
    obtain ⟨k21, hf⟩ := chk_b hf
    refine hs_I hx hb hI (gK_sA.trans hk20) k21 dX5_readFlood_45 (fun H locs hI => ?_)
    obtain ⟨x22, hx22, hf⟩ := bnd_b hf
    replace hx22 := Option.some.inj hx22
    rw [hx22] at hI
    have hk23 : gK x22 b7 = 5 := by rw [← hx22]; exact (gK_sA.trans (gK_sA.trans hk10))
    have hk24 : gK x22 b12 = 22 := by rw [← hx22]; exact (gK_sA.trans (gK_sA.trans hk15))
    have hk25 : gK x22 b17 = 22 := by rw [← hx22]; exact (gK_sA.trans (gK_sA.trans hk20))
    refine hq_aload_n hx hb dX5_readFlood_46 rfl (lv_at hl 3 rfl) ?_
    refine lv_dup hx hb dX5_readFlood_47 (cat_rf _) ?_
    refine W.eq (g2 := F0 m 48 ls [.ref b7, va_rf a1]) (by rw [hq9]; rfl) ?_
    refine hg_4_3 hx hb hts hin_X4 hown kl_68 hI hk23 dX5_readFlood_48 ?_
    refine lv_iconst (v := 1) hx hb dX5_readFlood_51 (by decide) ?_
    refine lv_iadd hx hb dX5_readFlood_52 ?_
    refine W.eq (g2 := F0 m 53 ls [.int ((gI x22 403 b7) + (1 : Int32)), .ref b7]) (by rw [hq9]; rfl) ?_
    refine hp_4_3 hx hb hts hin_X4 hown kl_68 hI hk23 dX5_readFlood_53 (fun H locs hI => ?_)
    exact hret_v hx hb hr hlocks hI (by decide) (by decide) (fun _ => ⟨trivial, rfl⟩) (ret_e hK0 hf) dX5_readFlood_56

noncomputable def fh_X5_readClause (h : Nat) (a1 : Option Nat) (a2 : Int32) (s0 : HSt) : Option (HSt) :=
  chk (isk s0 h 6) ((dr s0 (gR s0 500 h) 11).bind fun b2 => (fh_X10_kind b2 s0).bind fun x6 => (if x6.2 < (256 : Int32) then chk (isk x6.1 h 6) ((dr x6.1 (gR x6.1 500 h) 11).bind fun b10 => (fh_X10_fail b10 (0 : Int32) x6.1).bind fun x14 => some x14) else (if x6.2 ≤ (261 : Int32) then (if (24 : Int32) ≤ a2 then chk (isk x6.1 h 6) ((dr x6.1 (gR x6.1 500 h) 11).bind fun b19 => (fh_X10_fail b19 (4 : Int32) x6.1).bind fun x23 => some x23) else chk (isk x6.1 h 6) ((fh_X5_isClauseTooMany h a1 a2 x6.2 x6.1).bind fun x26 => (if x26.2 = 0 then chk (isk x26.1 h 6) ((dr x26.1 (gR x26.1 500 h) 11).bind fun b30 => (fh_X10_next b30 x26.1).bind fun x34 => (if x6.2 = 256 then chk (isk x34 h 6) ((fh_X5_number h (2 : Int32) (40 : Int32) x34).bind fun x42 => (dr x42.1 a1 5).bind fun b44 => some (sI (sI x42.1 400 b44 x42.2) 401 b44 (1 : Int32))) else if x6.2 = 257 then chk (isk x34 h 6) ((fh_X5_readBank h a1 x34).bind fun x49 => some x49) else if x6.2 = 258 then chk (isk x34 h 6) ((fh_X5_readEyes h a1 x34).bind fun x52 => some x52) else if x6.2 = 259 then chk (isk x34 h 6) ((fh_X5_number h (1 : Int32) (20 : Int32) x34).bind fun x55 => (dr x55.1 a1 5).bind fun b57 => chk (isk x55.1 h 6) (some (sI (sI x55.1 401 b57 x55.2) 501 h (1 : Int32)))) else if x6.2 = 260 then chk (isk x34 h 6) ((fh_X5_number h (0 : Int32) (99 : Int32) x34).bind fun x63 => (dr x63.1 a1 5).bind fun b65 => chk (isk x63.1 h 6) (some (sI (sI x63.1 402 b65 x63.2) 502 h (1 : Int32)))) else chk (isk x34 h 6) ((fh_X5_readFlood h a1 x34).bind fun x71 => some x71))) else chk (isk x26.1 h 6) ((dr x26.1 (gR x26.1 500 h) 11).bind fun b74 => (fh_X10_fail b74 (4 : Int32) x26.1).bind fun x78 => some x78)))) else chk (isk x6.1 h 6) ((dr x6.1 (gR x6.1 500 h) 11).bind fun b81 => (fh_X10_fail b81 (0 : Int32) x6.1).bind fun x85 => some x85))))
theorem nd_X5_readClause : yX5_readClause.cls ≠ "java/lang/invoke/MethodHandle" ∧ yX5_readClause.cls ≠ "java/lang/invoke/VarHandle" ∧ (parseMethodDescriptor yX5_readClause.desc).map (fun d => d.parameters.length) = some 2 := by decide +kernel
set_option maxHeartbeats 4000000 in
set_option maxRecDepth 100000 in
theorem ch_X5_readClause (l : Launch) (D : va_G) (cy : Nat → ClassId) (h : Nat) (a1 : Option Nat) (a2 : Int32) (s0 : HSt) (out : HSt) (hf : fh_X5_readClause h a1 a2 s0 = some out) : CHv l D cy yX5_readClause wsX5_readClause { frames := 3, cells := 0, slots := 0, locals := 67 } 0 0 False True [.ref h, va_rf a1, .int a2] s0 out := by
  refine Met.ofW (cc := cX5_readClause) (maxL := 4) (ret := none) (by decide) rfl ?_
  intro p e s m args below meth c s₁ B hml hv
  obtain ⟨rfl, hP, hK, hD0, hkx, hsz, hal⟩ := hv
  have hx := B.exec
  have hb := B.bytes
  have hr := B.returns
  have hts := atoms_spec (ws := wsX5_readClause) B.pre
  have hown : s.vm.findClass RX5 = some m.cls := findClass_of_methodNamed B.named
  have hlocks := B.notSynchronized
  have hI : HI D cy s s0 s0 s.heap [] 0 False True := ⟨hK, hP, hD0.weaken (fun k q hk _ => Or.inl (pl_mem hk)), va_S.rf, hsz.1, hkx, ⟨hsz, hal⟩, fun _ => rfl, Nat.le_refl _⟩
  have hin_X4 : ∀ w ∈ u_ws RX4 TX4 9, w ∈ wsX5_readClause := fun w hw => List.mem_cons_of_mem _ (List.mem_append_left _ (List.mem_append_right _ hw))
  have hin_X5 : ∀ w ∈ u_ws RX5 TX5 3, w ∈ wsX5_readClause := fun w hw => List.mem_cons_of_mem _ (List.mem_append_left _ (List.mem_append_left _ (List.mem_append_right _ hw)))
  have kl_7 : Cond.fieldLink RX5 7 "HalfBridge$RiverReader" "tokens" "LHalfBridge$Tokens;" ∈ wsX5_readClause := by decide +kernel
  have kl_13 : Cond.fieldLink RX5 13 "HalfBridge$RiverReader" "stepTold" "Z" ∈ wsX5_readClause := by decide +kernel
  have kl_17 : Cond.fieldLink RX5 17 "HalfBridge$RiverReader" "inchesTold" "Z" ∈ wsX5_readClause := by decide +kernel
  have kl_48 : Cond.fieldLink RX5 48 "HalfBridge$River" "wide" "I" ∈ wsX5_readClause := by decide +kernel
  have kl_52 : Cond.fieldLink RX5 52 "HalfBridge$River" "step" "I" ∈ wsX5_readClause := by decide +kernel
  have kl_62 : Cond.fieldLink RX5 62 "HalfBridge$River" "inches" "I" ∈ wsX5_readClause := by decide +kernel
  have hl := lv_entry ([.ref h, va_rf a1, .int a2]) (n := 4) (by simp [lg_sl, cat_rf, cat_i, cat_l, cat_r])
  rw [lg_entry_eq]
  generalize (lg_sl ([.ref h, va_rf a1, .int a2]) ++ List.replicate (4 - (lg_sl ([.ref h, va_rf a1, .int a2])).length) Slot.unset).toArray = ls at hl ⊢
  have hl : lv_has ls 4 [(0, .ref h), (1, va_rf a1), (2, .int a2)] := (by simpa [lv_args, cat_rf, cat_i, cat_l, cat_r] using hl)
  obtain ⟨K0, hK0, hf⟩ := top_e hf
  unfold fh_X5_readClause at hf
  refine lv_aload_n hx hb dX5_readClause_0 rfl (lv_at hl 0 rfl) ?_
  obtain ⟨k1, hf⟩ := chk_b hf
  refine hg_5_0 hx hb hts hin_X5 hown kl_7 hI (isk_k k1) dX5_readClause_1 ?_
  obtain ⟨b2, hd3, hf⟩ := bnd_b hf
  obtain ⟨hq4, hk5⟩ := dr_e hd3
  refine W.eq (g2 := F0 m 4 ls [.ref b2]) (by rw [hq4]; rfl) ?_
  obtain ⟨x6, hc7, hf⟩ := bnd_b hf
  refine hcall_Vi (ex2 := True) (As := []) (rest := []) (n := 0) (by rw [hk5]; decide) (hC_11 hk5) rfl ⟨hx, hb, hml, hown, hts⟩ (ch_X10_kind l D cy b2 s0 x6 hc7) (cwV 0 hts gX5_readClause_X10_kind rfl rfl rfl ⟨rfl, nd_X10_kind⟩ ⟨Nat.le_of_ble_eq_true rfl, Nat.le_of_ble_eq_true rfl⟩) hI (fun h => h.elim) (fun _ => ⟨trivial, trivial⟩) rfl hl.1 (Nat.le_of_ble_eq_true rfl) dX5_readClause_4 ⟨Nat.le_of_ble_eq_true rfl, Nat.le_of_ble_eq_true rfl⟩ (fun H locs hI => ?_)
  refine lv_istore_n (lv' := [(3, .int x6.2), (0, .ref h), (1, va_rf a1), (2, .int a2)]) hx hb dX5_readClause_7 rfl hl (by decide) (by first | rfl | (simp [cat_rf, cat_i, cat_l, cat_r]; done) | (simp [cat_rf, cat_i, cat_l, cat_r]; decide)) (fun ls hl => ?_)
  refine lv_iload_n hx hb dX5_readClause_8 rfl (lv_at hl 0 rfl) ?_
  refine lv_sipush (v := 256) hx hb dX5_readClause_9 (by decide) ?_
  refine lv_icmp_lt (tgt := 22) hx hb dX5_readClause_12 (by decide) (fun c8 => ?_) (fun c8 => ?_)
  · replace hf := ifp c8 hf
    refine lv_aload_n hx hb dX5_readClause_22 rfl (lv_at hl 1 rfl) ?_
    obtain ⟨k9, hf⟩ := chk_b hf
    refine hg_5_0 hx hb hts hin_X5 hown kl_7 hI (isk_k k9) dX5_readClause_23 ?_
    refine lv_iconst (v := 0) hx hb dX5_readClause_26 (by decide) ?_
    obtain ⟨b10, hd11, hf⟩ := bnd_b hf
    obtain ⟨hq12, hk13⟩ := dr_e hd11
    refine W.eq (g2 := F0 m 27 ls [.int (0 : Int32), .ref b10]) (by rw [hq12]; rfl) ?_
    obtain ⟨x14, hc15, hf⟩ := bnd_b hf
    refine hcall_Vv (ex2 := True) (As := [.int (0 : Int32)]) (rest := []) (n := 1) (by rw [hk13]; decide) (hC_11 hk13) rfl ⟨hx, hb, hml, hown, hts⟩ (ch_X10_fail l D cy b10 (0 : Int32) x6.1 x14 hc15) (cwV 1 hts gX5_readClause_X10_fail rfl rfl rfl ⟨rfl, nd_X10_fail⟩ ⟨Nat.le_of_ble_eq_true rfl, Nat.le_of_ble_eq_true rfl⟩) hI (fun h => h.elim) (fun _ => ⟨trivial, trivial⟩) rfl hl.1 (Nat.le_of_ble_eq_true rfl) dX5_readClause_27 ⟨Nat.le_of_ble_eq_true rfl, Nat.le_of_ble_eq_true rfl⟩ (fun H locs hI => ?_)
    exact hret_v hx hb hr hlocks hI (by decide) (by decide) (fun _ => ⟨trivial, rfl⟩) (ret_e hK0 hf) dX5_readClause_30
  · replace hf := ifn c8 hf
    refine lv_iload_n hx hb dX5_readClause_15 rfl (lv_at hl 0 rfl) ?_
    refine lv_sipush (v := 261) hx hb dX5_readClause_16 (by decide) ?_
    refine lv_icmp_le (tgt := 31) hx hb dX5_readClause_19 (by decide) (fun c16 => ?_) (fun c16 => ?_)
    · replace hf := ifp c16 hf
      refine lv_iload_n hx hb dX5_readClause_31 rfl (lv_at hl 3 rfl) ?_
      refine lv_bipush (v := 24) hx hb dX5_readClause_32 (by decide) ?_
      refine lv_icmp_ge (tgt := 47) hx hb dX5_readClause_34 (by decide) (fun c17 => ?_) (fun c17 => ?_)
      · replace hf := ifp c17 hf
        refine lv_aload_n hx hb dX5_readClause_47 rfl (lv_at hl 1 rfl) ?_
        obtain ⟨k18, hf⟩ := chk_b hf
        refine hg_5_0 hx hb hts hin_X5 hown kl_7 hI (isk_k k18) dX5_readClause_48 ?_
        refine lv_iconst (v := 4) hx hb dX5_readClause_51 (by decide) ?_
        obtain ⟨b19, hd20, hf⟩ := bnd_b hf
        obtain ⟨hq21, hk22⟩ := dr_e hd20
        refine W.eq (g2 := F0 m 52 ls [.int (4 : Int32), .ref b19]) (by rw [hq21]; rfl) ?_
        obtain ⟨x23, hc24, hf⟩ := bnd_b hf
        refine hcall_Vv (ex2 := True) (As := [.int (4 : Int32)]) (rest := []) (n := 1) (by rw [hk22]; decide) (hC_11 hk22) rfl ⟨hx, hb, hml, hown, hts⟩ (ch_X10_fail l D cy b19 (4 : Int32) x6.1 x23 hc24) (cwV 1 hts gX5_readClause_X10_fail rfl rfl rfl ⟨rfl, nd_X10_fail⟩ ⟨Nat.le_of_ble_eq_true rfl, Nat.le_of_ble_eq_true rfl⟩) hI (fun h => h.elim) (fun _ => ⟨trivial, trivial⟩) rfl hl.1 (Nat.le_of_ble_eq_true rfl) dX5_readClause_52 ⟨Nat.le_of_ble_eq_true rfl, Nat.le_of_ble_eq_true rfl⟩ (fun H locs hI => ?_)
        exact hret_v hx hb hr hlocks hI (by decide) (by decide) (fun _ => ⟨trivial, rfl⟩) (ret_e hK0 hf) dX5_readClause_55
      · replace hf := ifn c17 hf
        refine lv_aload_n hx hb dX5_readClause_37 rfl (lv_at hl 1 rfl) ?_
        refine hq_aload_n hx hb dX5_readClause_38 rfl (lv_at hl 2 rfl) ?_
        refine lv_iload_n hx hb dX5_readClause_39 rfl (lv_at hl 3 rfl) ?_
        refine lv_iload_n hx hb dX5_readClause_40 rfl (lv_at hl 0 rfl) ?_
        obtain ⟨k25, hf⟩ := chk_b hf
        obtain ⟨x26, hc27, hf⟩ := bnd_b hf
        refine hcall_Vi (ex2 := True) (As := [va_rf a1, .int a2, .int x6.2]) (rest := []) (n := 3) (by rw [(isk_k k25)]; decide) (hC_6 (isk_k k25)) rfl ⟨hx, hb, hml, hown, hts⟩ (ch_X5_isClauseTooMany l D cy h a1 a2 x6.2 x6.1 x26 hc27) (cwV 3 hts gX5_readClause_X5_isClauseTooMany rfl rfl rfl ⟨rfl, nd_X5_isClauseTooMany⟩ ⟨Nat.le_of_ble_eq_true rfl, Nat.le_of_ble_eq_true rfl⟩) hI (fun h => h.elim) (fun _ => ⟨trivial, trivial⟩) rfl hl.1 (Nat.le_of_ble_eq_true rfl) dX5_readClause_41 ⟨Nat.le_of_ble_eq_true rfl, Nat.le_of_ble_eq_true rfl⟩ (fun H locs hI => ?_)
        refine lv_if_eq (tgt := 56) hx hb dX5_readClause_44 (by decide) (fun c28 => ?_) (fun c28 => ?_)
        · replace hf := ifp c28 hf
          refine lv_aload_n hx hb dX5_readClause_56 rfl (lv_at hl 1 rfl) ?_
          obtain ⟨k29, hf⟩ := chk_b hf
          refine hg_5_0 hx hb hts hin_X5 hown kl_7 hI (isk_k k29) dX5_readClause_57 ?_
          obtain ⟨b30, hd31, hf⟩ := bnd_b hf
          obtain ⟨hq32, hk33⟩ := dr_e hd31
          refine W.eq (g2 := F0 m 60 ls [.ref b30]) (by rw [hq32]; rfl) ?_
          obtain ⟨x34, hc35, hf⟩ := bnd_b hf
          refine hcall_Vv (ex2 := True) (As := []) (rest := []) (n := 0) (by rw [hk33]; decide) (hC_11 hk33) rfl ⟨hx, hb, hml, hown, hts⟩ (ch_X10_next l D cy b30 x26.1 x34 hc35) (cwV 0 hts gX5_readClause_X10_next rfl rfl rfl ⟨rfl, nd_X10_next⟩ ⟨Nat.le_of_ble_eq_true rfl, Nat.le_of_ble_eq_true rfl⟩) hI (fun h => h.elim) (fun _ => ⟨trivial, trivial⟩) rfl hl.1 (Nat.le_of_ble_eq_true rfl) dX5_readClause_60 ⟨Nat.le_of_ble_eq_true rfl, Nat.le_of_ble_eq_true rfl⟩ (fun H locs hI => ?_)
          refine lv_iload_n hx hb dX5_readClause_63 rfl (lv_at hl 0 rfl) ?_
          by_cases c36 : x6.2 = 256
          · replace hf := ifp c36 hf
            refine lv_tableIn (off := 36) (tgt := 100) hx hb dX5_readClause_64 (by rw [c36]; decide) (by rw [c36]; decide) (by rw [c36]; rfl) (by decide) ?_
            refine hq_aload_n hx hb dX5_readClause_100 rfl (lv_at hl 2 rfl) ?_
            refine lv_aload_n hx hb dX5_readClause_101 rfl (lv_at hl 1 rfl) ?_
            refine lv_iconst (v := 2) hx hb dX5_readClause_102 (by decide) ?_
            refine lv_bipush (v := 40) hx hb dX5_readClause_103 (by decide) ?_
            obtain ⟨k41, hf⟩ := chk_b hf
            obtain ⟨x42, hc43, hf⟩ := bnd_b hf
            refine hcall_Vi (ex2 := True) (As := [.int (2 : Int32), .int (40 : Int32)]) (rest := [va_rf a1]) (n := 2) (by rw [(isk_k k41)]; decide) (hC_6 (isk_k k41)) rfl ⟨hx, hb, hml, hown, hts⟩ (ch_X5_number l D cy h (2 : Int32) (40 : Int32) x34 x42 hc43) (cwV 2 hts gX5_readClause_X5_number rfl rfl rfl ⟨rfl, nd_X5_number⟩ ⟨Nat.le_of_ble_eq_true rfl, Nat.le_of_ble_eq_true rfl⟩) hI (fun h => h.elim) (fun _ => ⟨trivial, trivial⟩) rfl hl.1 (by simp [cat_rf, cat_i, cat_l, cat_r]) dX5_readClause_105 ⟨Nat.le_of_ble_eq_true rfl, Nat.le_of_ble_eq_true rfl⟩ (fun H locs hI => ?_)
            obtain ⟨b44, hd45, hf⟩ := bnd_b hf
            obtain ⟨hq46, hk47⟩ := dr_e hd45
            refine W.eq (g2 := F0 m 108 ls [.int x42.2, .ref b44]) (by rw [hq46]; rfl) ?_
            refine hp_4_0 hx hb hts hin_X4 hown kl_48 hI hk47 dX5_readClause_108 (fun H locs hI => ?_)
            refine hq_aload_n hx hb dX5_readClause_111 rfl (lv_at hl 2 rfl) ?_
            refine lv_iconst (v := 1) hx hb dX5_readClause_112 (by decide) ?_
            refine W.eq (g2 := F0 m 113 ls [.int (1 : Int32), .ref b44]) (by rw [hq46]; rfl) ?_
            refine hp_4_1 hx hb hts hin_X4 hown kl_52 hI (gK_sI.trans hk47) dX5_readClause_113 (fun H locs hI => ?_)
            refine lv_goto (tgt := 178) hx hb dX5_readClause_116 (by decide) ?_
            exact hret_v hx hb hr hlocks hI (by decide) (by decide) (fun _ => ⟨trivial, rfl⟩) (ret_e hK0 hf) dX5_readClause_178
          replace hf := ifn c36 hf
          by_cases c37 : x6.2 = 257
          · replace hf := ifp c37 hf
            refine lv_tableIn (off := 55) (tgt := 119) hx hb dX5_readClause_64 (by rw [c37]; decide) (by rw [c37]; decide) (by rw [c37]; rfl) (by decide) ?_
            refine lv_aload_n hx hb dX5_readClause_119 rfl (lv_at hl 1 rfl) ?_
            refine hq_aload_n hx hb dX5_readClause_120 rfl (lv_at hl 2 rfl) ?_
            obtain ⟨k48, hf⟩ := chk_b hf
            obtain ⟨x49, hc50, hf⟩ := bnd_b hf
            refine hcall_Vv (ex2 := True) (As := [va_rf a1]) (rest := []) (n := 1) (by rw [(isk_k k48)]; decide) (hC_6 (isk_k k48)) rfl ⟨hx, hb, hml, hown, hts⟩ (ch_X5_readBank l D cy h a1 x34 x49 hc50) (cwV 1 hts gX5_readClause_X5_readBank rfl rfl rfl ⟨rfl, nd_X5_readBank⟩ ⟨Nat.le_of_ble_eq_true rfl, Nat.le_of_ble_eq_true rfl⟩) hI (fun h => h.elim) (fun _ => ⟨trivial, trivial⟩) rfl hl.1 (Nat.le_of_ble_eq_true rfl) dX5_readClause_121 ⟨Nat.le_of_ble_eq_true rfl, Nat.le_of_ble_eq_true rfl⟩ (fun H locs hI => ?_)
            refine lv_goto (tgt := 178) hx hb dX5_readClause_124 (by decide) ?_
            exact hret_v hx hb hr hlocks hI (by decide) (by decide) (fun _ => ⟨trivial, rfl⟩) (ret_e hK0 hf) dX5_readClause_178
          replace hf := ifn c37 hf
          by_cases c38 : x6.2 = 258
          · replace hf := ifp c38 hf
            refine lv_tableIn (off := 63) (tgt := 127) hx hb dX5_readClause_64 (by rw [c38]; decide) (by rw [c38]; decide) (by rw [c38]; rfl) (by decide) ?_
            refine lv_aload_n hx hb dX5_readClause_127 rfl (lv_at hl 1 rfl) ?_
            refine hq_aload_n hx hb dX5_readClause_128 rfl (lv_at hl 2 rfl) ?_
            obtain ⟨k51, hf⟩ := chk_b hf
            obtain ⟨x52, hc53, hf⟩ := bnd_b hf
            refine hcall_Vv (ex2 := True) (As := [va_rf a1]) (rest := []) (n := 1) (by rw [(isk_k k51)]; decide) (hC_6 (isk_k k51)) rfl ⟨hx, hb, hml, hown, hts⟩ (ch_X5_readEyes l D cy h a1 x34 x52 hc53) (cwV 1 hts gX5_readClause_X5_readEyes rfl rfl rfl ⟨rfl, nd_X5_readEyes⟩ ⟨Nat.le_of_ble_eq_true rfl, Nat.le_of_ble_eq_true rfl⟩) hI (fun h => h.elim) (fun _ => ⟨trivial, trivial⟩) rfl hl.1 (Nat.le_of_ble_eq_true rfl) dX5_readClause_129 ⟨Nat.le_of_ble_eq_true rfl, Nat.le_of_ble_eq_true rfl⟩ (fun H locs hI => ?_)
            refine lv_goto (tgt := 178) hx hb dX5_readClause_132 (by decide) ?_
            exact hret_v hx hb hr hlocks hI (by decide) (by decide) (fun _ => ⟨trivial, rfl⟩) (ret_e hK0 hf) dX5_readClause_178
          replace hf := ifn c38 hf
          by_cases c39 : x6.2 = 259
          · replace hf := ifp c39 hf
            refine lv_tableIn (off := 71) (tgt := 135) hx hb dX5_readClause_64 (by rw [c39]; decide) (by rw [c39]; decide) (by rw [c39]; rfl) (by decide) ?_
            refine hq_aload_n hx hb dX5_readClause_135 rfl (lv_at hl 2 rfl) ?_
            refine lv_aload_n hx hb dX5_readClause_136 rfl (lv_at hl 1 rfl) ?_
            refine lv_iconst (v := 1) hx hb dX5_readClause_137 (by decide) ?_
            refine lv_bipush (v := 20) hx hb dX5_readClause_138 (by decide) ?_
            obtain ⟨k54, hf⟩ := chk_b hf
            obtain ⟨x55, hc56, hf⟩ := bnd_b hf
            refine hcall_Vi (ex2 := True) (As := [.int (1 : Int32), .int (20 : Int32)]) (rest := [va_rf a1]) (n := 2) (by rw [(isk_k k54)]; decide) (hC_6 (isk_k k54)) rfl ⟨hx, hb, hml, hown, hts⟩ (ch_X5_number l D cy h (1 : Int32) (20 : Int32) x34 x55 hc56) (cwV 2 hts gX5_readClause_X5_number rfl rfl rfl ⟨rfl, nd_X5_number⟩ ⟨Nat.le_of_ble_eq_true rfl, Nat.le_of_ble_eq_true rfl⟩) hI (fun h => h.elim) (fun _ => ⟨trivial, trivial⟩) rfl hl.1 (by simp [cat_rf, cat_i, cat_l, cat_r]) dX5_readClause_140 ⟨Nat.le_of_ble_eq_true rfl, Nat.le_of_ble_eq_true rfl⟩ (fun H locs hI => ?_)
            obtain ⟨b57, hd58, hf⟩ := bnd_b hf
            obtain ⟨hq59, hk60⟩ := dr_e hd58
            refine W.eq (g2 := F0 m 143 ls [.int x55.2, .ref b57]) (by rw [hq59]; rfl) ?_
            refine hp_4_1 hx hb hts hin_X4 hown kl_52 hI hk60 dX5_readClause_143 (fun H locs hI => ?_)
            refine lv_aload_n hx hb dX5_readClause_146 rfl (lv_at hl 1 rfl) ?_
            refine lv_iconst (v := 1) hx hb dX5_readClause_147 (by decide) ?_
            obtain ⟨k61, hf⟩ := chk_b hf
            refine hp_5_1 hx hb hts hin_X5 hown kl_13 hI (gK_sI.trans (isk_k k61)) (by decide) dX5_readClause_148 (fun H locs hI => ?_)
            refine lv_goto (tgt := 178) hx hb dX5_readClause_151 (by decide) ?_
            exact hret_v hx hb hr hlocks hI (by decide) (by decide) (fun _ => ⟨trivial, rfl⟩) (ret_e hK0 hf) dX5_readClause_178
          replace hf := ifn c39 hf
          by_cases c40 : x6.2 = 260
          · replace hf := ifp c40 hf
            refine lv_tableIn (off := 90) (tgt := 154) hx hb dX5_readClause_64 (by rw [c40]; decide) (by rw [c40]; decide) (by rw [c40]; rfl) (by decide) ?_
            refine hq_aload_n hx hb dX5_readClause_154 rfl (lv_at hl 2 rfl) ?_
            refine lv_aload_n hx hb dX5_readClause_155 rfl (lv_at hl 1 rfl) ?_
            refine lv_iconst (v := 0) hx hb dX5_readClause_156 (by decide) ?_
            refine lv_bipush (v := 99) hx hb dX5_readClause_157 (by decide) ?_
            obtain ⟨k62, hf⟩ := chk_b hf
            obtain ⟨x63, hc64, hf⟩ := bnd_b hf
            refine hcall_Vi (ex2 := True) (As := [.int (0 : Int32), .int (99 : Int32)]) (rest := [va_rf a1]) (n := 2) (by rw [(isk_k k62)]; decide) (hC_6 (isk_k k62)) rfl ⟨hx, hb, hml, hown, hts⟩ (ch_X5_number l D cy h (0 : Int32) (99 : Int32) x34 x63 hc64) (cwV 2 hts gX5_readClause_X5_number rfl rfl rfl ⟨rfl, nd_X5_number⟩ ⟨Nat.le_of_ble_eq_true rfl, Nat.le_of_ble_eq_true rfl⟩) hI (fun h => h.elim) (fun _ => ⟨trivial, trivial⟩) rfl hl.1 (by simp [cat_rf, cat_i, cat_l, cat_r]) dX5_readClause_159 ⟨Nat.le_of_ble_eq_true rfl, Nat.le_of_ble_eq_true rfl⟩ (fun H locs hI => ?_)
            obtain ⟨b65, hd66, hf⟩ := bnd_b hf
            obtain ⟨hq67, hk68⟩ := dr_e hd66
            refine W.eq (g2 := F0 m 162 ls [.int x63.2, .ref b65]) (by rw [hq67]; rfl) ?_
            refine hp_4_2 hx hb hts hin_X4 hown kl_62 hI hk68 dX5_readClause_162 (fun H locs hI => ?_)
            refine lv_aload_n hx hb dX5_readClause_165 rfl (lv_at hl 1 rfl) ?_
            refine lv_iconst (v := 1) hx hb dX5_readClause_166 (by decide) ?_
            obtain ⟨k69, hf⟩ := chk_b hf
            refine hp_5_2 hx hb hts hin_X5 hown kl_17 hI (gK_sI.trans (isk_k k69)) (by decide) dX5_readClause_167 (fun H locs hI => ?_)
            refine lv_goto (tgt := 178) hx hb dX5_readClause_170 (by decide) ?_
            exact hret_v hx hb hr hlocks hI (by decide) (by decide) (fun _ => ⟨trivial, rfl⟩) (ret_e hK0 hf) dX5_readClause_178
          replace hf := ifn c40 hf
          refine lv_tableOut (tgt := 173) hx hb dX5_readClause_64 (tsw_out (fun k k1 k2 => ?_)) (by decide) ?_
          · rcases (show k = 256 ∨ k = 257 ∨ k = 258 ∨ k = 259 ∨ k = 260 by omega) with rfl | rfl | rfl | rfl | rfl
            · exact c36
            · exact c37
            · exact c38
            · exact c39
            · exact c40
          · refine lv_aload_n hx hb dX5_readClause_173 rfl (lv_at hl 1 rfl) ?_
            refine hq_aload_n hx hb dX5_readClause_174 rfl (lv_at hl 2 rfl) ?_
            obtain ⟨k70, hf⟩ := chk_b hf
            obtain ⟨x71, hc72, hf⟩ := bnd_b hf
            refine hcall_Vv (ex2 := True) (As := [va_rf a1]) (rest := []) (n := 1) (by rw [(isk_k k70)]; decide) (hC_6 (isk_k k70)) rfl ⟨hx, hb, hml, hown, hts⟩ (ch_X5_readFlood l D cy h a1 x34 x71 hc72) (cwV 1 hts gX5_readClause_X5_readFlood rfl rfl rfl ⟨rfl, nd_X5_readFlood⟩ ⟨Nat.le_of_ble_eq_true rfl, Nat.le_of_ble_eq_true rfl⟩) hI (fun h => h.elim) (fun _ => ⟨trivial, trivial⟩) rfl hl.1 (Nat.le_of_ble_eq_true rfl) dX5_readClause_175 ⟨Nat.le_of_ble_eq_true rfl, Nat.le_of_ble_eq_true rfl⟩ (fun H locs hI => ?_)
            exact hret_v hx hb hr hlocks hI (by decide) (by decide) (fun _ => ⟨trivial, rfl⟩) (ret_e hK0 hf) dX5_readClause_178
        · replace hf := ifn c28 hf
          refine lv_aload_n hx hb dX5_readClause_47 rfl (lv_at hl 1 rfl) ?_
          obtain ⟨k73, hf⟩ := chk_b hf
          refine hg_5_0 hx hb hts hin_X5 hown kl_7 hI (isk_k k73) dX5_readClause_48 ?_
          refine lv_iconst (v := 4) hx hb dX5_readClause_51 (by decide) ?_
          obtain ⟨b74, hd75, hf⟩ := bnd_b hf
          obtain ⟨hq76, hk77⟩ := dr_e hd75
          refine W.eq (g2 := F0 m 52 ls [.int (4 : Int32), .ref b74]) (by rw [hq76]; rfl) ?_
          obtain ⟨x78, hc79, hf⟩ := bnd_b hf
          refine hcall_Vv (ex2 := True) (As := [.int (4 : Int32)]) (rest := []) (n := 1) (by rw [hk77]; decide) (hC_11 hk77) rfl ⟨hx, hb, hml, hown, hts⟩ (ch_X10_fail l D cy b74 (4 : Int32) x26.1 x78 hc79) (cwV 1 hts gX5_readClause_X10_fail rfl rfl rfl ⟨rfl, nd_X10_fail⟩ ⟨Nat.le_of_ble_eq_true rfl, Nat.le_of_ble_eq_true rfl⟩) hI (fun h => h.elim) (fun _ => ⟨trivial, trivial⟩) rfl hl.1 (Nat.le_of_ble_eq_true rfl) dX5_readClause_52 ⟨Nat.le_of_ble_eq_true rfl, Nat.le_of_ble_eq_true rfl⟩ (fun H locs hI => ?_)
          exact hret_v hx hb hr hlocks hI (by decide) (by decide) (fun _ => ⟨trivial, rfl⟩) (ret_e hK0 hf) dX5_readClause_55
    · replace hf := ifn c16 hf
      refine lv_aload_n hx hb dX5_readClause_22 rfl (lv_at hl 1 rfl) ?_
      obtain ⟨k80, hf⟩ := chk_b hf
      refine hg_5_0 hx hb hts hin_X5 hown kl_7 hI (isk_k k80) dX5_readClause_23 ?_
      refine lv_iconst (v := 0) hx hb dX5_readClause_26 (by decide) ?_
      obtain ⟨b81, hd82, hf⟩ := bnd_b hf
      obtain ⟨hq83, hk84⟩ := dr_e hd82
      refine W.eq (g2 := F0 m 27 ls [.int (0 : Int32), .ref b81]) (by rw [hq83]; rfl) ?_
      obtain ⟨x85, hc86, hf⟩ := bnd_b hf
      refine hcall_Vv (ex2 := True) (As := [.int (0 : Int32)]) (rest := []) (n := 1) (by rw [hk84]; decide) (hC_11 hk84) rfl ⟨hx, hb, hml, hown, hts⟩ (ch_X10_fail l D cy b81 (0 : Int32) x6.1 x85 hc86) (cwV 1 hts gX5_readClause_X10_fail rfl rfl rfl ⟨rfl, nd_X10_fail⟩ ⟨Nat.le_of_ble_eq_true rfl, Nat.le_of_ble_eq_true rfl⟩) hI (fun h => h.elim) (fun _ => ⟨trivial, trivial⟩) rfl hl.1 (Nat.le_of_ble_eq_true rfl) dX5_readClause_27 ⟨Nat.le_of_ble_eq_true rfl, Nat.le_of_ble_eq_true rfl⟩ (fun H locs hI => ?_)
      exact hret_v hx hb hr hlocks hI (by decide) (by decide) (fun _ => ⟨trivial, rfl⟩) (ret_e hK0 hf) dX5_readClause_30

noncomputable def fh_X5_read_j79 (h : Nat)   (st : HSt) : Option (HSt × Option Nat) :=
  some (st, (none : Option Nat))
noncomputable def fh_X5_read_s20 (h : Nat) (v1 : Nat) (v2 : Int32) (st : HSt) : Option ((HSt × Option Nat) ⊕ ((Int32 × HSt) ⊕ (Int32 × HSt))) :=
  (if (24 : Int32) < v2 then some (.inr (.inr (v2, st))) else chk (isk st h 6) ((fh_X5_readClause h (some v1) v2 st).bind fun x8 => chk (isk x8 h 6) ((dr x8 (gR x8 500 h) 11).bind fun b11 => (fh_X10_kind b11 x8).bind fun x15 => (if x15.2 = 0 then some (.inl (x15.1, (some v1))) else chk (isk x15.1 h 6) ((dr x15.1 (gR x15.1 500 h) 11).bind fun b19 => (fh_X10_kind b19 x15.1).bind fun x23 => (if x23.2 = (59 : Int32) then chk (isk x23.1 h 6) ((dr x23.1 (gR x23.1 500 h) 11).bind fun b27 => (fh_X10_next b27 x23.1).bind fun x31 => some (.inr (.inl ((v2 + 1), x31)))) else chk (isk x23.1 h 6) ((dr x23.1 (gR x23.1 500 h) 11).bind fun b34 => (fh_X10_fail b34 (0 : Int32) x23.1).bind fun x38 => some (.inl (x38, (none : Option Nat))))))))))
noncomputable def fh_X5_read (h : Nat) (s0 : HSt) : Option (HSt × Option Nat) :=
  chk (isk s0 h 6) ((some (nO (sI (sI s0 501 h (0 : Int32)) 502 h (0 : Int32)) 5 0)).bind fun x2 => (fh_X4_init (gN (sI (sI s0 501 h (0 : Int32)) 502 h (0 : Int32))) x2).bind fun x4 => (iter (fun x : (Int32 × HSt) => fh_X5_read_s20 h (gN (sI (sI s0 501 h (0 : Int32)) 502 h (0 : Int32))) x.1 x.2) mFuel ((0 : Int32), x4)).bind (Sum.elim (fun o : HSt × Option Nat => (some o : Option (HSt × Option Nat))) (fun x : (Int32 × HSt) => fh_X5_read_j79 h x.2)))
theorem nd_X5_read : yX5_read.cls ≠ "java/lang/invoke/MethodHandle" ∧ yX5_read.cls ≠ "java/lang/invoke/VarHandle" ∧ (parseMethodDescriptor yX5_read.desc).map (fun d => d.parameters.length) = some 0 := by decide +kernel
set_option maxHeartbeats 4000000 in
set_option maxRecDepth 100000 in
theorem ch_X5_read (l : Launch) (D : va_G) (cy : Nat → ClassId) (h : Nat)  (s0 : HSt) (out : HSt × Option Nat) (hf : fh_X5_read h s0 = some out) : CHq l D cy yX5_read wsX5_read { frames := 4, cells := 6, slots := 31, locals := 90 } 6 31 True True [.ref h] s0 out := by
  refine Met.ofW (cc := cX5_read) (maxL := 3) (ret := (some (.object "HalfBridge$River"))) (by decide) rfl ?_
  intro p e s m args below meth c s₁ B hml hv
  obtain ⟨rfl, hP, hK, hD0, hkx, hsz, hal⟩ := hv
  have hx := B.exec
  have hb := B.bytes
  have hr := B.returns
  have hts := atoms_spec (ws := wsX5_read) B.pre
  have hown : s.vm.findClass RX5 = some m.cls := findClass_of_methodNamed B.named
  have hlocks := B.notSynchronized
  have hI : HI D cy s s0 s0 s.heap [] 0 True True := ⟨hK, hP, hD0.weaken (fun k q hk _ => Or.inl (pl_mem hk)), va_S.rf, hsz.1, hkx, ⟨hsz, hal⟩, fun _ => rfl, Nat.le_refl _⟩
  have hin_X4 : ∀ w ∈ u_ws RX4 TX4 9, w ∈ wsX5_read := fun w hw => List.mem_cons_of_mem _ (List.mem_append_left _ (List.mem_append_right _ hw))
  have hin_X5 : ∀ w ∈ u_ws RX5 TX5 3, w ∈ wsX5_read := fun w hw => List.mem_cons_of_mem _ (List.mem_append_left _ (List.mem_append_left _ (List.mem_append_right _ hw)))
  have kl_7 : Cond.fieldLink RX5 7 "HalfBridge$RiverReader" "tokens" "LHalfBridge$Tokens;" ∈ wsX5_read := by decide +kernel
  have kl_13 : Cond.fieldLink RX5 13 "HalfBridge$RiverReader" "stepTold" "Z" ∈ wsX5_read := by decide +kernel
  have kl_17 : Cond.fieldLink RX5 17 "HalfBridge$RiverReader" "inchesTold" "Z" ∈ wsX5_read := by decide +kernel
  have hl := lv_entry ([.ref h]) (n := 3) (Nat.le_of_ble_eq_true rfl)
  rw [lg_entry_eq]
  generalize (lg_sl ([.ref h]) ++ List.replicate (3 - (lg_sl ([.ref h])).length) Slot.unset).toArray = ls at hl ⊢
  have hl : lv_has ls 3 [(0, .ref h)] := hl
  obtain ⟨K0, hK0, hf⟩ := top_e hf
  have B_79 : ∀   (st : HSt) (H : Heap) (locs : List Loc) (ls : Array Slot), HI D cy s s0 st H locs 6 True True → lv_has ls 3 [] → (fh_X5_read_j79 h st).bind K0 = some out → W p l e (headSpec wsX5_read { frames := 4, cells := 6, slots := 31, locals := 90 }).room s m (([.ref h] : List Value).toArray) below meth c H locs 6 31 (MQ below (HQq D cy s0 6 True out) ([.ref h] : List Value).toArray s 6 31 (hF s0)) (F0 m 79 ls []) := by
    intro st H locs ls hI hl hf
    unfold fh_X5_read_j79 at hf
    refine lv_null hx hb dX5_read_79 ?_
    exact hret_q hx hb hr (by first | exact Or.inl ⟨_, rfl⟩ | exact Or.inr ⟨_, rfl⟩) hlocks hI (by decide) (by decide) (fun _ => ⟨trivial, rfl⟩) (ret_e hK0 hf) dX5_read_80
  have L_20 : ∀ (v1 : Nat) (n : Nat) (v2 : Int32) (st : HSt) (H : Heap) (locs : List Loc) (ls : Array Slot), HI D cy s s0 st H locs 6 True True → lv_has ls 3 [(0, .ref h), (1, .ref v1), (2, .int v2)] → (iter (fun x : (Int32 × HSt) => fh_X5_read_s20 h v1 x.1 x.2) n (v2, st)).bind (fun x => ((Sum.elim (fun o : HSt × Option Nat => (some o : Option (HSt × Option Nat))) (fun x : (Int32 × HSt) => fh_X5_read_j79 h x.2)) x).bind K0) = some out → W p l e (headSpec wsX5_read { frames := 4, cells := 6, slots := 31, locals := 90 }).room s m (([.ref h] : List Value).toArray) below meth c H locs 6 31 (MQ below (HQq D cy s0 6 True out) ([.ref h] : List Value).toArray s 6 31 (hF s0)) (F0 m 20 ls []) := by
    intro v1 n
    induction n with
    | zero => intro v2 st H locs ls hI hl hf; exact (iter_0 hf).elim
    | succ n ih =>
      intro v2 st H locs ls hI hl hf
      obtain ⟨K1, hK1, hf⟩ := iter_e hf
      replace hf : (fh_X5_read_s20 h v1 v2 st).bind K1 = some out := hf
      unfold fh_X5_read_s20 at hf
      refine lv_iload_n hx hb dX5_read_20 rfl (lv_at hl 2 rfl) ?_
      refine lv_bipush (v := 24) hx hb dX5_read_21 (by decide) ?_
      refine lv_icmp_gt (tgt := 79) hx hb dX5_read_23 (by decide) (fun c6 => ?_) (fun c6 => ?_)
      · replace hf := ifp c6 hf
        replace hf := exit_b hK1 hf
        exact B_79  st H locs ls hI (lv_sub hl [] rfl) hf
      · replace hf := ifn c6 hf
        refine lv_aload_n hx hb dX5_read_26 rfl (lv_at hl 0 rfl) ?_
        refine lv_aload_n hx hb dX5_read_27 rfl (lv_at hl 1 rfl) ?_
        refine lv_iload_n hx hb dX5_read_28 rfl (lv_at hl 2 rfl) ?_
        obtain ⟨k7, hf⟩ := chk_b hf
        obtain ⟨x8, hc9, hf⟩ := bnd_b hf
        refine hcall_Vv (ex2 := True) (As := [va_rf (some v1), .int v2]) (rest := []) (n := 2) (by rw [(isk_k k7)]; decide) (hC_6 (isk_k k7)) rfl ⟨hx, hb, hml, hown, hts⟩ (ch_X5_readClause l D cy h (some v1) v2 st x8 hc9) (cwV 2 hts gX5_read_X5_readClause rfl rfl rfl ⟨rfl, nd_X5_readClause⟩ ⟨Nat.le_of_ble_eq_true rfl, Nat.le_of_ble_eq_true rfl⟩) hI (fun h => h.elim) (fun _ => ⟨trivial, trivial⟩) rfl hl.1 (Nat.le_of_ble_eq_true rfl) dX5_read_29 ⟨Nat.le_of_ble_eq_true rfl, Nat.le_of_ble_eq_true rfl⟩ (fun H locs hI => ?_)
        refine lv_aload_n hx hb dX5_read_32 rfl (lv_at hl 0 rfl) ?_
        obtain ⟨k10, hf⟩ := chk_b hf
        refine hg_5_0 hx hb hts hin_X5 hown kl_7 hI (isk_k k10) dX5_read_33 ?_
        obtain ⟨b11, hd12, hf⟩ := bnd_b hf
        obtain ⟨hq13, hk14⟩ := dr_e hd12
        refine W.eq (g2 := F0 m 36 ls [.ref b11]) (by rw [hq13]; rfl) ?_
        obtain ⟨x15, hc16, hf⟩ := bnd_b hf
        refine hcall_Vi (ex2 := True) (As := []) (rest := []) (n := 0) (by rw [hk14]; decide) (hC_11 hk14) rfl ⟨hx, hb, hml, hown, hts⟩ (ch_X10_kind l D cy b11 x8 x15 hc16) (cwV 0 hts gX5_read_X10_kind rfl rfl rfl ⟨rfl, nd_X10_kind⟩ ⟨Nat.le_of_ble_eq_true rfl, Nat.le_of_ble_eq_true rfl⟩) hI (fun h => h.elim) (fun _ => ⟨trivial, trivial⟩) rfl hl.1 (Nat.le_of_ble_eq_true rfl) dX5_read_36 ⟨Nat.le_of_ble_eq_true rfl, Nat.le_of_ble_eq_true rfl⟩ (fun H locs hI => ?_)
        refine lv_if_ne (tgt := 44) hx hb dX5_read_39 (by decide) (fun c17 => ?_) (fun c17 => ?_)
        · replace hf := ifn c17 hf
          refine lv_aload_n hx hb dX5_read_44 rfl (lv_at hl 0 rfl) ?_
          obtain ⟨k18, hf⟩ := chk_b hf
          refine hg_5_0 hx hb hts hin_X5 hown kl_7 hI (isk_k k18) dX5_read_45 ?_
          obtain ⟨b19, hd20, hf⟩ := bnd_b hf
          obtain ⟨hq21, hk22⟩ := dr_e hd20
          refine W.eq (g2 := F0 m 48 ls [.ref b19]) (by rw [hq21]; rfl) ?_
          obtain ⟨x23, hc24, hf⟩ := bnd_b hf
          refine hcall_Vi (ex2 := True) (As := []) (rest := []) (n := 0) (by rw [hk22]; decide) (hC_11 hk22) rfl ⟨hx, hb, hml, hown, hts⟩ (ch_X10_kind l D cy b19 x15.1 x23 hc24) (cwV 0 hts gX5_read_X10_kind rfl rfl rfl ⟨rfl, nd_X10_kind⟩ ⟨Nat.le_of_ble_eq_true rfl, Nat.le_of_ble_eq_true rfl⟩) hI (fun h => h.elim) (fun _ => ⟨trivial, trivial⟩) rfl hl.1 (Nat.le_of_ble_eq_true rfl) dX5_read_48 ⟨Nat.le_of_ble_eq_true rfl, Nat.le_of_ble_eq_true rfl⟩ (fun H locs hI => ?_)
          refine lv_bipush (v := 59) hx hb dX5_read_51 (by decide) ?_
          refine lv_icmp_eq (tgt := 66) hx hb dX5_read_53 (by decide) (fun c25 => ?_) (fun c25 => ?_)
          · replace hf := ifp c25 hf
            refine lv_aload_n hx hb dX5_read_66 rfl (lv_at hl 0 rfl) ?_
            obtain ⟨k26, hf⟩ := chk_b hf
            refine hg_5_0 hx hb hts hin_X5 hown kl_7 hI (isk_k k26) dX5_read_67 ?_
            obtain ⟨b27, hd28, hf⟩ := bnd_b hf
            obtain ⟨hq29, hk30⟩ := dr_e hd28
            refine W.eq (g2 := F0 m 70 ls [.ref b27]) (by rw [hq29]; rfl) ?_
            obtain ⟨x31, hc32, hf⟩ := bnd_b hf
            refine hcall_Vv (ex2 := True) (As := []) (rest := []) (n := 0) (by rw [hk30]; decide) (hC_11 hk30) rfl ⟨hx, hb, hml, hown, hts⟩ (ch_X10_next l D cy b27 x23.1 x31 hc32) (cwV 0 hts gX5_read_X10_next rfl rfl rfl ⟨rfl, nd_X10_next⟩ ⟨Nat.le_of_ble_eq_true rfl, Nat.le_of_ble_eq_true rfl⟩) hI (fun h => h.elim) (fun _ => ⟨trivial, trivial⟩) rfl hl.1 (Nat.le_of_ble_eq_true rfl) dX5_read_70 ⟨Nat.le_of_ble_eq_true rfl, Nat.le_of_ble_eq_true rfl⟩ (fun H locs hI => ?_)
            refine lv_iinc (v := (v2 + 1)) (lv' := [(2, .int (v2 + 1)), (0, .ref h), (1, .ref v1)]) hx hb dX5_read_73 hl (k := 2) rfl (ci_ _ (by decide)) (by decide) rfl (fun ls hl => ?_)
            refine lv_goto (tgt := 20) hx hb dX5_read_76 (by decide) ?_
            replace hf := cont_b hK1 hf
            exact ih (v2 + 1) x31 H locs ls hI (lv_sub hl [1, 2, 0] rfl) hf
          · replace hf := ifn c25 hf
            refine lv_aload_n hx hb dX5_read_56 rfl (lv_at hl 0 rfl) ?_
            obtain ⟨k33, hf⟩ := chk_b hf
            refine hg_5_0 hx hb hts hin_X5 hown kl_7 hI (isk_k k33) dX5_read_57 ?_
            refine lv_iconst (v := 0) hx hb dX5_read_60 (by decide) ?_
            obtain ⟨b34, hd35, hf⟩ := bnd_b hf
            obtain ⟨hq36, hk37⟩ := dr_e hd35
            refine W.eq (g2 := F0 m 61 ls [.int (0 : Int32), .ref b34]) (by rw [hq36]; rfl) ?_
            obtain ⟨x38, hc39, hf⟩ := bnd_b hf
            refine hcall_Vv (ex2 := True) (As := [.int (0 : Int32)]) (rest := []) (n := 1) (by rw [hk37]; decide) (hC_11 hk37) rfl ⟨hx, hb, hml, hown, hts⟩ (ch_X10_fail l D cy b34 (0 : Int32) x23.1 x38 hc39) (cwV 1 hts gX5_read_X10_fail rfl rfl rfl ⟨rfl, nd_X10_fail⟩ ⟨Nat.le_of_ble_eq_true rfl, Nat.le_of_ble_eq_true rfl⟩) hI (fun h => h.elim) (fun _ => ⟨trivial, trivial⟩) rfl hl.1 (Nat.le_of_ble_eq_true rfl) dX5_read_61 ⟨Nat.le_of_ble_eq_true rfl, Nat.le_of_ble_eq_true rfl⟩ (fun H locs hI => ?_)
            refine lv_null hx hb dX5_read_64 ?_
            replace hf := inl_b hK1 hf
            replace hf : Option.bind (some (x38, (none : Option Nat))) K0 = some out := hf
            exact hret_q hx hb hr (by first | exact Or.inl ⟨_, rfl⟩ | exact Or.inr ⟨_, rfl⟩) hlocks hI (by decide) (by decide) (fun _ => ⟨trivial, rfl⟩) (ret_e hK0 hf) dX5_read_65
        · replace hf := ifp c17 hf
          refine lv_aload_n hx hb dX5_read_42 rfl (lv_at hl 1 rfl) ?_
          refine W.eq (g2 := F0 m 43 ls [va_rf (some v1)]) rfl ?_
          replace hf := inl_b hK1 hf
          replace hf : Option.bind (some (x15.1, (some v1))) K0 = some out := hf
          exact hret_q hx hb hr (by first | exact Or.inl ⟨_, rfl⟩ | exact Or.inr ⟨_, rfl⟩) hlocks hI (by decide) (by decide) (fun _ => ⟨trivial, rfl⟩) (ret_e hK0 hf) dX5_read_43
  unfold fh_X5_read at hf
  refine lv_aload_n hx hb dX5_read_0 rfl (lv_at hl 0 rfl) ?_
  refine lv_iconst (v := 0) hx hb dX5_read_1 (by decide) ?_
  obtain ⟨k1, hf⟩ := chk_b hf
  refine hp_5_1 hx hb hts hin_X5 hown kl_13 hI (isk_k k1) (by decide) dX5_read_2 (fun H locs hI => ?_)
  refine lv_aload_n hx hb dX5_read_5 rfl (lv_at hl 0 rfl) ?_
  refine lv_iconst (v := 0) hx hb dX5_read_6 (by decide) ?_
  refine hp_5_2 hx hb hts hin_X5 hown kl_17 hI (gK_sI.trans (isk_k k1)) (by decide) dX5_read_7 (fun H locs hI => ?_)
  refine hn_4 hx hb hts hin_X4 hown (by decide +kernel) (by decide +kernel) (by decide +kernel) hI trivial trivial (Nat.le_of_ble_eq_true rfl) (Nat.le_of_ble_eq_true rfl) dX5_read_10 (fun H hI => ?_)
  refine W.widen (k := 1) (n := 9) (by decide) (by decide) ?_
  obtain ⟨x2, hx2, hf⟩ := bnd_b hf
  replace hx2 := Option.some.inj hx2
  rw [hx2] at hI
  have hk3 : gK x2 (gN (sI (sI s0 501 h (0 : Int32)) 502 h (0 : Int32))) = 5 := by rw [← hx2]; exact nO_K
  refine lv_dup hx hb dX5_read_13 rfl ?_
  obtain ⟨x4, hc5, hf⟩ := bnd_b hf
  refine hcall_Iv (ex2 := True) (As := []) (rest := [.ref (gN (sI (sI s0 501 h (0 : Int32)) 502 h (0 : Int32)))]) (n := 0) ⟨hx, hb, hml, hown, hts⟩ (ch_X4_init l D cy (gN (sI (sI s0 501 h (0 : Int32)) 502 h (0 : Int32))) x2 x4 hc5) (cwI 0 hts gX5_read_X4_init rfl rfl rfl (hts (.initialized RX4) (by decide +kernel)) (hts (.methodLink RX5 22 yX4_init) (by decide +kernel)) (hts (.instanceMethod yX4_init) (by decide +kernel)) rfl nd_X4_init ⟨Nat.le_of_ble_eq_true rfl, Nat.le_of_ble_eq_true rfl⟩) hI (fun h => ⟨trivial, trivial⟩) (fun _ => ⟨trivial, trivial⟩) rfl hl.1 (Nat.le_of_ble_eq_true rfl) dX5_read_14 ⟨Nat.le_of_ble_eq_true rfl, Nat.le_of_ble_eq_true rfl⟩ (fun H locs hI => ?_)
  refine lv_astore_n (lv' := [(1, .ref (gN (sI (sI s0 501 h (0 : Int32)) 502 h (0 : Int32)))), (0, .ref h)]) hx hb dX5_read_17 rfl hl (by decide) rfl (fun ls hl => ?_)
  refine lv_iconst (v := 0) hx hb dX5_read_18 (by decide) ?_
  refine lv_istore_n (lv' := [(2, .int (0 : Int32)), (1, .ref (gN (sI (sI s0 501 h (0 : Int32)) 502 h (0 : Int32)))), (0, .ref h)]) hx hb dX5_read_19 rfl hl (by decide) rfl (fun ls hl => ?_)
  exact L_20 (gN (sI (sI s0 501 h (0 : Int32)) 502 h (0 : Int32))) mFuel (0 : Int32) x4 H locs ls hI (lv_sub hl [2, 1, 0] rfl) (asc_b hf)
