theorem nd_X9_take : yX9_take.cls ≠ "java/lang/invoke/MethodHandle" ∧ yX9_take.cls ≠ "java/lang/invoke/VarHandle" ∧ (parseMethodDescriptor yX9_take.desc).map (fun d => d.parameters.length) = some 2 := by decide +kernel
set_option maxHeartbeats 4000000 in
set_option maxRecDepth 100000 in
theorem ch_X9_take (l : Launch) (D : va_G) (cy : Nat → ClassId) (h : Nat) (a1 : Int32) (a2 : Int32) (s0 : HSt) (out : HSt) (hf : fh_X9_take h a1 a2 s0 = some out) : CHv l D cy yX9_take wsX9_take { frames := 1, cells := 0, slots := 0, locals := 40 } 0 0 False True [.ref h, .int a1, .int a2] s0 out := by
  refine Met.ofW (cc := cX9_take) (maxL := 3) (ret := none) (by decide) rfl ?_
  intro p e s m args below meth c s₁ B hml hv
  obtain ⟨rfl, hP, hK, hD0, hkx, hsz, hal⟩ := hv
  have hx := B.exec
  have hb := B.bytes
  have hr := B.returns
  have hts := atoms_spec (ws := wsX9_take) B.pre
  have hown : s.vm.findClass RX9 = some m.cls := findClass_of_methodNamed B.named
  have hlocks := B.notSynchronized
  have hI : HI D cy s s0 s0 s.heap [] 0 False True := ⟨hK, hP, hD0.weaken (fun k q hk _ => Or.inl (pl_mem hk)), va_S.rf, hsz.1, hkx, ⟨hsz, hal⟩, fun _ => rfl, Nat.le_refl _⟩
  have hin_X9 : ∀ w ∈ u_ws RX9 TX9 5, w ∈ wsX9_take := fun w hw => List.mem_cons_of_mem _ (List.mem_append_right _ hw)
  have kl_16 : Cond.fieldLink RX9 16 "HalfBridge$Span" "yards" "[I" ∈ wsX9_take := by decide +kernel
  have hl := lv_entry ([.ref h, .int a1, .int a2]) (n := 3) (Nat.le_of_ble_eq_true rfl)
  rw [lg_entry_eq]
  generalize (lg_sl ([.ref h, .int a1, .int a2]) ++ List.replicate (3 - (lg_sl ([.ref h, .int a1, .int a2])).length) Slot.unset).toArray = ls at hl ⊢
  have hl : lv_has ls 3 [(0, .ref h), (1, .int a1), (2, .int a2)] := hl
  obtain ⟨K0, hK0, hf⟩ := top_e hf
  unfold fh_X9_take at hf
  refine lv_aload_n hx hb dX9_take_0 rfl (lv_at hl 0 rfl) ?_
  obtain ⟨k1, hf⟩ := chk_b hf
  refine hg_9_2 hx hb hts hin_X9 hown kl_16 hI (isk_k k1) dX9_take_1 ?_
  refine lv_iload_n hx hb dX9_take_4 rfl (lv_at hl 1 rfl) ?_
  refine lv_iconst (v := 0) hx hb dX9_take_5 (by decide) ?_
  refine lv_aload_n hx hb dX9_take_6 rfl (lv_at hl 0 rfl) ?_
  refine hg_9_2 hx hb hts hin_X9 hown kl_16 hI (isk_k k1) dX9_take_7 ?_
  refine lv_iload_n hx hb dX9_take_10 rfl (lv_at hl 1 rfl) ?_
  obtain ⟨b2, hd3, hf⟩ := bnd_b hf
  obtain ⟨hq4, hk5⟩ := dr_e hd3
  refine W.eq (g2 := F0 m 11 ls [.int a1, .ref b2, .int (0 : Int32), .int a1, va_rf (gR s0 902 h)]) (by rw [hq4]; rfl) ?_
  obtain ⟨k6, hf⟩ := chk_b hf
  refine hl_I hx hb hI hk5 k6 dX9_take_11 ?_
  refine lv_iload_n hx hb dX9_take_12 rfl (lv_at hl 2 rfl) ?_
  refine lv_isub hx hb dX9_take_13 ?_
  refine va_mmax hx hb (hml.trans hl.1.symm) hown (hts (.methodLink RX9 87 Lib.Math.max.name) (by decide +kernel)) (hts (.static Lib.Math.max.name) (by decide +kernel)) (hts (.initialized "java/lang/Math") (by decide +kernel)) (hts (.code Lib.Math.max.name Lib.Math.max.code 2 (some .int)) (by decide +kernel)) (Nat.le_of_ble_eq_true rfl) (Nat.le_trans (m := 40) (by simp [cat_rf, cat_i, cat_l, cat_r]) (Nat.le_of_ble_eq_true rfl)) (Nat.le_of_ble_eq_true rfl) (Nat.le_of_ble_eq_true rfl) dX9_take_14 ?_
  refine W.eq (g2 := F0 m 17 ls [.int (if (0 : Int32) < ((gA s0 b2 a1.toNatClampNeg) - a2) then ((gA s0 b2 a1.toNatClampNeg) - a2) else (0 : Int32)), .int a1, .ref b2]) (by rw [hq4]; rfl) ?_
  obtain ⟨k7, hf⟩ := chk_b hf
  refine hs_I hx hb hI hk5 k7 dX9_take_17 (fun H locs hI => ?_)
  obtain ⟨x8, hx8, hf⟩ := bnd_b hf
  replace hx8 := Option.some.inj hx8
  rw [hx8] at hI
  have hk9 : gK x8 h = 10 := by rw [← hx8]; exact (gK_sA.trans (isk_k k1))
  have hk10 : gK x8 b2 = 22 := by rw [← hx8]; exact (gK_sA.trans hk5)
  exact hret_v hx hb hr hlocks hI (by decide) (by decide) (fun _ => ⟨trivial, rfl⟩) (ret_e hK0 hf) dX9_take_18

theorem nd_X9_add : yX9_add.cls ≠ "java/lang/invoke/MethodHandle" ∧ yX9_add.cls ≠ "java/lang/invoke/VarHandle" ∧ (parseMethodDescriptor yX9_add.desc).map (fun d => d.parameters.length) = some 3 := by decide +kernel
set_option maxHeartbeats 4000000 in
set_option maxRecDepth 100000 in
theorem ch_X9_add (l : Launch) (D : va_G) (cy : Nat → ClassId) (h : Nat) (a1 : Int32) (a2 : Int32) (a3 : Int32) (s0 : HSt) (out : HSt × Int32) (hf : fh_X9_add h a1 a2 a3 s0 = some out) : CHi l D cy yX9_add wsX9_add { frames := 1, cells := 0, slots := 0, locals := 22 } 0 0 False True [.ref h, .int a1, .int a2, .int a3] s0 out := by
  refine Met.ofW (cc := cX9_add) (maxL := 5) (ret := (some .boolean)) (by decide) rfl ?_
  intro p e s m args below meth c s₁ B hml hv
  obtain ⟨rfl, hP, hK, hD0, hkx, hsz, hal⟩ := hv
  have hx := B.exec
  have hb := B.bytes
  have hr := B.returns
  have hts := atoms_spec (ws := wsX9_add) B.pre
  have hown : s.vm.findClass RX9 = some m.cls := findClass_of_methodNamed B.named
  have hlocks := B.notSynchronized
  have hI : HI D cy s s0 s0 s.heap [] 0 False True := ⟨hK, hP, hD0.weaken (fun k q hk _ => Or.inl (pl_mem hk)), va_S.rf, hsz.1, hkx, ⟨hsz, hal⟩, fun _ => rfl, Nat.le_refl _⟩
  have hin_X9 : ∀ w ∈ u_ws RX9 TX9 5, w ∈ wsX9_add := fun w hw => List.mem_cons_of_mem _ (List.mem_append_left _ (List.mem_append_right _ hw))
  have kl_16 : Cond.fieldLink RX9 16 "HalfBridge$Span" "yards" "[I" ∈ wsX9_add := by decide +kernel
  have kl_20 : Cond.fieldLink RX9 20 "HalfBridge$Span" "lines" "[I" ∈ wsX9_add := by decide +kernel
  have kl_23 : Cond.fieldLink RX9 23 "HalfBridge$Span" "heights" "[I" ∈ wsX9_add := by decide +kernel
  have hl := lv_entry ([.ref h, .int a1, .int a2, .int a3]) (n := 5) (Nat.le_of_ble_eq_true rfl)
  rw [lg_entry_eq]
  generalize (lg_sl ([.ref h, .int a1, .int a2, .int a3]) ++ List.replicate (5 - (lg_sl ([.ref h, .int a1, .int a2, .int a3])).length) Slot.unset).toArray = ls at hl ⊢
  have hl : lv_has ls 5 [(0, .ref h), (1, .int a1), (2, .int a2), (3, .int a3)] := hl
  obtain ⟨K0, hK0, hf⟩ := top_e hf
  unfold fh_X9_add at hf
  refine lv_aload_n hx hb dX9_add_0 rfl (lv_at hl 0 rfl) ?_
  obtain ⟨k1, hf⟩ := chk_b hf
  refine hg_9_2 hx hb hts hin_X9 hown kl_16 hI (isk_k k1) dX9_add_1 ?_
  refine lv_iload_n hx hb dX9_add_4 rfl (lv_at hl 1 rfl) ?_
  obtain ⟨b2, hd3, hf⟩ := bnd_b hf
  obtain ⟨hq4, hk5⟩ := dr_e hd3
  refine W.eq (g2 := F0 m 5 ls [.int a1, .ref b2]) (by rw [hq4]; rfl) ?_
  obtain ⟨k6, hf⟩ := chk_b hf
  refine hl_I hx hb hI hk5 k6 dX9_add_5 ?_
  refine lv_istore (lv' := [(4, .int (gA s0 b2 a1.toNatClampNeg)), (0, .ref h), (1, .int a1), (2, .int a2), (3, .int a3)]) hx hb dX9_add_6 hl (by decide) rfl (fun ls hl => ?_)
  refine lv_aload_n hx hb dX9_add_8 rfl (lv_at hl 1 rfl) ?_
  obtain ⟨x7, hc8, hf⟩ := bnd_b hf
  refine hcall_Vi (ex2 := True) (As := []) (rest := []) (n := 0) (by rw [(isk_k k1)]; decide) (hC_10 (isk_k k1)) rfl ⟨hx, hb, hml, hown, hts⟩ (ch_X9_gap l D cy h s0 x7 hc8) (cwV 0 hts gX9_add_X9_gap rfl rfl rfl ⟨rfl, nd_X9_gap⟩ ⟨Nat.le_of_ble_eq_true rfl, Nat.le_of_ble_eq_true rfl⟩) hI (fun h => h.elim) (fun _ => ⟨trivial, trivial⟩) rfl hl.1 (Nat.le_of_ble_eq_true rfl) dX9_add_9 ⟨Nat.le_of_ble_eq_true rfl, Nat.le_of_ble_eq_true rfl⟩ (fun H locs hI => ?_)
  refine lv_if_le (tgt := 22) hx hb dX9_add_12 (by decide) (fun c9 => ?_) (fun c9 => ?_)
  · replace hf := ifp c9 hf
    refine lv_iconst (v := 0) hx hb dX9_add_22 (by decide) ?_
    exact hret_z hx hb hr (by decide) hlocks hI (by decide) (by decide) (fun _ => ⟨trivial, rfl⟩) (ret_e hK0 hf) dX9_add_23
  · replace hf := ifn c9 hf
    refine lv_iload hx hb dX9_add_15 (lv_at hl 0 rfl) ?_
    refine lv_bipush (v := 40) hx hb dX9_add_17 (by decide) ?_
    refine lv_icmp_lt (tgt := 24) hx hb dX9_add_19 (by decide) (fun c10 => ?_) (fun c10 => ?_)
    · replace hf := ifp c10 hf
      refine lv_aload_n hx hb dX9_add_24 rfl (lv_at hl 1 rfl) ?_
      obtain ⟨k11, hf⟩ := chk_b hf
      refine hg_9_3 hx hb hts hin_X9 hown kl_20 hI (isk_k k11) dX9_add_25 ?_
      refine lv_iload_n hx hb dX9_add_28 rfl (lv_at hl 2 rfl) ?_
      refine lv_bipush (v := 40) hx hb dX9_add_29 (by decide) ?_
      refine lv_imul hx hb dX9_add_31 ?_
      refine lv_iload hx hb dX9_add_32 (lv_at hl 0 rfl) ?_
      refine lv_iadd hx hb dX9_add_34 ?_
      refine lv_aload_n hx hb dX9_add_35 rfl (lv_at hl 1 rfl) ?_
      refine lv_iload_n hx hb dX9_add_36 rfl (lv_at hl 2 rfl) ?_
      obtain ⟨x12, hc13, hf⟩ := bnd_b hf
      refine hcall_Vi (ex2 := True) (As := [.int a1]) (rest := [.int ((a1 * (40 : Int32)) + (gA s0 b2 a1.toNatClampNeg)), va_rf (gR x7.1 903 h)]) (n := 1) (by rw [(isk_k k11)]; decide) (hC_10 (isk_k k11)) rfl ⟨hx, hb, hml, hown, hts⟩ (ch_X9_tipLine l D cy h a1 x7.1 x12 hc13) (cwV 1 hts gX9_add_X9_tipLine rfl rfl rfl ⟨rfl, nd_X9_tipLine⟩ ⟨Nat.le_of_ble_eq_true rfl, Nat.le_of_ble_eq_true rfl⟩) hI (fun h => h.elim) (fun _ => ⟨trivial, trivial⟩) rfl hl.1 (by simp [cat_rf, cat_i, cat_l, cat_r]) dX9_add_37 ⟨Nat.le_of_ble_eq_true rfl, Nat.le_of_ble_eq_true rfl⟩ (fun H locs hI => ?_)
      refine lv_iload_n hx hb dX9_add_40 rfl (lv_at hl 3 rfl) ?_
      refine lv_iadd hx hb dX9_add_41 ?_
      obtain ⟨b14, hd15, hf⟩ := bnd_b hf
      obtain ⟨hq16, hk17⟩ := dr_e hd15
      refine W.eq (g2 := F0 m 42 ls [.int (x12.2 + a2), .int ((a1 * (40 : Int32)) + (gA s0 b2 a1.toNatClampNeg)), .ref b14]) (by rw [hq16]; rfl) ?_
      obtain ⟨k18, hf⟩ := chk_b hf
      refine hs_I hx hb hI hk17 k18 dX9_add_42 (fun H locs hI => ?_)
      obtain ⟨x19, hx19, hf⟩ := bnd_b hf
      replace hx19 := Option.some.inj hx19
      rw [hx19] at hI
      have hk20 : gK x19 b14 = 22 := by rw [← hx19]; exact (gK_sA.trans hk17)
      refine lv_aload_n hx hb dX9_add_43 rfl (lv_at hl 1 rfl) ?_
      obtain ⟨k21, hf⟩ := chk_b hf
      refine hg_9_4 hx hb hts hin_X9 hown kl_23 hI (isk_k k21) dX9_add_44 ?_
      refine lv_iload_n hx hb dX9_add_47 rfl (lv_at hl 2 rfl) ?_
      refine lv_bipush (v := 40) hx hb dX9_add_48 (by decide) ?_
      refine lv_imul hx hb dX9_add_50 ?_
      refine lv_iload hx hb dX9_add_51 (lv_at hl 0 rfl) ?_
      refine lv_iadd hx hb dX9_add_53 ?_
      refine lv_aload_n hx hb dX9_add_54 rfl (lv_at hl 1 rfl) ?_
      refine lv_iload_n hx hb dX9_add_55 rfl (lv_at hl 2 rfl) ?_
      obtain ⟨x22, hc23, hf⟩ := bnd_b hf
      refine hcall_Vi (ex2 := True) (As := [.int a1]) (rest := [.int ((a1 * (40 : Int32)) + (gA s0 b2 a1.toNatClampNeg)), va_rf (gR x19 904 h)]) (n := 1) (by rw [(isk_k k21)]; decide) (hC_10 (isk_k k21)) rfl ⟨hx, hb, hml, hown, hts⟩ (ch_X9_tipHeight l D cy h a1 x19 x22 hc23) (cwV 1 hts gX9_add_X9_tipHeight rfl rfl rfl ⟨rfl, nd_X9_tipHeight⟩ ⟨Nat.le_of_ble_eq_true rfl, Nat.le_of_ble_eq_true rfl⟩) hI (fun h => h.elim) (fun _ => ⟨trivial, trivial⟩) rfl hl.1 (by simp [cat_rf, cat_i, cat_l, cat_r]) dX9_add_56 ⟨Nat.le_of_ble_eq_true rfl, Nat.le_of_ble_eq_true rfl⟩ (fun H locs hI => ?_)
      refine lv_iload_n hx hb dX9_add_59 rfl (lv_at hl 4 rfl) ?_
      refine lv_iadd hx hb dX9_add_60 ?_
      obtain ⟨b24, hd25, hf⟩ := bnd_b hf
      obtain ⟨hq26, hk27⟩ := dr_e hd25
      refine W.eq (g2 := F0 m 61 ls [.int (x22.2 + a3), .int ((a1 * (40 : Int32)) + (gA s0 b2 a1.toNatClampNeg)), .ref b24]) (by rw [hq26]; rfl) ?_
      obtain ⟨k28, hf⟩ := chk_b hf
      refine hs_I hx hb hI hk27 k28 dX9_add_61 (fun H locs hI => ?_)
      obtain ⟨x29, hx29, hf⟩ := bnd_b hf
      replace hx29 := Option.some.inj hx29
      rw [hx29] at hI
      have hk30 : gK x29 b24 = 22 := by rw [← hx29]; exact (gK_sA.trans hk27)
      refine lv_aload_n hx hb dX9_add_62 rfl (lv_at hl 1 rfl) ?_
      obtain ⟨k31, hf⟩ := chk_b hf
      refine hg_9_2 hx hb hts hin_X9 hown kl_16 hI (isk_k k31) dX9_add_63 ?_
      refine lv_iload_n hx hb dX9_add_66 rfl (lv_at hl 2 rfl) ?_
      refine lv_iload hx hb dX9_add_67 (lv_at hl 0 rfl) ?_
      refine lv_iconst (v := 1) hx hb dX9_add_69 (by decide) ?_
      refine lv_iadd hx hb dX9_add_70 ?_
      obtain ⟨b32, hd33, hf⟩ := bnd_b hf
      obtain ⟨hq34, hk35⟩ := dr_e hd33
      refine W.eq (g2 := F0 m 71 ls [.int ((gA s0 b2 a1.toNatClampNeg) + (1 : Int32)), .int a1, .ref b32]) (by rw [hq34]; rfl) ?_
      obtain ⟨k36, hf⟩ := chk_b hf
      refine hs_I hx hb hI hk35 k36 dX9_add_71 (fun H locs hI => ?_)
      obtain ⟨x37, hx37, hf⟩ := bnd_b hf
      replace hx37 := Option.some.inj hx37
      rw [hx37] at hI
      have hk38 : gK x37 b24 = 22 := by rw [← hx37]; exact (gK_sA.trans hk30)
      have hk39 : gK x37 h = 10 := by rw [← hx37]; exact (gK_sA.trans (isk_k k31))
      have hk40 : gK x37 b32 = 22 := by rw [← hx37]; exact (gK_sA.trans hk35)
      refine lv_iconst (v := 1) hx hb dX9_add_72 (by decide) ?_
      exact hret_z hx hb hr (by decide) hlocks hI (by decide) (by decide) (fun _ => ⟨trivial, rfl⟩) (ret_e hK0 hf) dX9_add_73
    · replace hf := ifn c10 hf
      refine lv_iconst (v := 0) hx hb dX9_add_22 (by decide) ?_
      exact hret_z hx hb hr (by decide) hlocks hI (by decide) (by decide) (fun _ => ⟨trivial, rfl⟩) (ret_e hK0 hf) dX9_add_23

theorem nd_X9_act : yX9_act.cls ≠ "java/lang/invoke/MethodHandle" ∧ yX9_act.cls ≠ "java/lang/invoke/VarHandle" ∧ (parseMethodDescriptor yX9_act.desc).map (fun d => d.parameters.length) = some 2 := by decide +kernel
set_option maxHeartbeats 4000000 in
set_option maxRecDepth 100000 in
theorem ch_X9_act (l : Launch) (D : va_G) (cy : Nat → ClassId) (h : Nat) (a1 : Int32) (a2 : Int32) (s0 : HSt) (out : HSt) (hf : fh_X9_act h a1 a2 s0 = some out) : CHv l D cy yX9_act wsX9_act { frames := 2, cells := 0, slots := 0, locals := 62 } 0 0 False True [.ref h, .int a1, .int a2] s0 out := by
  refine Met.ofW (cc := cX9_act) (maxL := 3) (ret := none) (by decide) rfl ?_
  intro p e s m args below meth c s₁ B hml hv
  obtain ⟨rfl, hP, hK, hD0, hkx, hsz, hal⟩ := hv
  have hx := B.exec
  have hb := B.bytes
  have hr := B.returns
  have hts := atoms_spec (ws := wsX9_act) B.pre
  have hown : s.vm.findClass RX9 = some m.cls := findClass_of_methodNamed B.named
  have hlocks := B.notSynchronized
  have hI : HI D cy s s0 s0 s.heap [] 0 False True := ⟨hK, hP, hD0.weaken (fun k q hk _ => Or.inl (pl_mem hk)), va_S.rf, hsz.1, hkx, ⟨hsz, hal⟩, fun _ => rfl, Nat.le_refl _⟩
  have hl := lv_entry ([.ref h, .int a1, .int a2]) (n := 3) (Nat.le_of_ble_eq_true rfl)
  rw [lg_entry_eq]
  generalize (lg_sl ([.ref h, .int a1, .int a2]) ++ List.replicate (3 - (lg_sl ([.ref h, .int a1, .int a2])).length) Slot.unset).toArray = ls at hl ⊢
  have hl : lv_has ls 3 [(0, .ref h), (1, .int a1), (2, .int a2)] := hl
  obtain ⟨K0, hK0, hf⟩ := top_e hf
  unfold fh_X9_act at hf
  refine lv_iload_n hx hb dX9_act_0 rfl (lv_at hl 2 rfl) ?_
  refine lv_iconst (v := -1) hx hb dX9_act_1 (by decide) ?_
  refine lv_icmp_ne (tgt := 14) hx hb dX9_act_2 (by decide) (fun c1 => ?_) (fun c1 => ?_)
  · replace hf := ifn c1 hf
    refine lv_iload_n hx hb dX9_act_14 rfl (lv_at hl 2 rfl) ?_
    refine lv_if_lt (tgt := 38) hx hb dX9_act_15 (by decide) (fun c2 => ?_) (fun c2 => ?_)
    · replace hf := ifp c2 hf
      exact hret_v hx hb hr hlocks hI (by decide) (by decide) (fun _ => ⟨trivial, rfl⟩) (ret_e hK0 hf) dX9_act_38
    · replace hf := ifn c2 hf
      refine lv_aload_n hx hb dX9_act_18 rfl (lv_at hl 0 rfl) ?_
      refine lv_iload_n hx hb dX9_act_19 rfl (lv_at hl 1 rfl) ?_
      refine lv_iload_n hx hb dX9_act_20 rfl (lv_at hl 2 rfl) ?_
      refine lv_bipush (v := 41) hx hb dX9_act_21 (by decide) ?_
      refine lv_idiv hx hb dX9_act_23 (by decide) ?_
      refine lv_bipush (v := 20) hx hb dX9_act_24 (by decide) ?_
      refine lv_isub hx hb dX9_act_26 ?_
      refine lv_iload_n hx hb dX9_act_27 rfl (lv_at hl 2 rfl) ?_
      refine lv_bipush (v := 41) hx hb dX9_act_28 (by decide) ?_
      refine lv_irem hx hb dX9_act_30 (by decide) ?_
      refine lv_bipush (v := 20) hx hb dX9_act_31 (by decide) ?_
      refine lv_isub hx hb dX9_act_33 ?_
      obtain ⟨k3, hf⟩ := chk_b hf
      obtain ⟨x4, hc5, hf⟩ := bnd_b hf
      refine hcall_Vi (ex2 := True) (As := [.int a1, .int ((a2 / (41 : Int32)) - (20 : Int32)), .int ((a2 - a2 / (41 : Int32) * (41 : Int32)) - (20 : Int32))]) (rest := []) (n := 3) (by rw [(isk_k k3)]; decide) (hC_10 (isk_k k3)) rfl ⟨hx, hb, hml, hown, hts⟩ (ch_X9_add l D cy h a1 ((a2 / (41 : Int32)) - (20 : Int32)) ((a2 - a2 / (41 : Int32) * (41 : Int32)) - (20 : Int32)) s0 x4 hc5) (cwV 3 hts gX9_act_X9_add rfl rfl rfl ⟨rfl, nd_X9_add⟩ ⟨Nat.le_of_ble_eq_true rfl, Nat.le_of_ble_eq_true rfl⟩) hI (fun h => h.elim) (fun _ => ⟨trivial, trivial⟩) rfl hl.1 (Nat.le_of_ble_eq_true rfl) dX9_act_34 ⟨Nat.le_of_ble_eq_true rfl, Nat.le_of_ble_eq_true rfl⟩ (fun H locs hI => ?_)
      refine lv_pop hx hb dX9_act_37 rfl ?_
      exact hret_v hx hb hr hlocks hI (by decide) (by decide) (fun _ => ⟨trivial, rfl⟩) (ret_e hK0 hf) dX9_act_38
  · replace hf := ifp c1 hf
    refine lv_aload_n hx hb dX9_act_5 rfl (lv_at hl 0 rfl) ?_
    refine lv_iload_n hx hb dX9_act_6 rfl (lv_at hl 1 rfl) ?_
    refine lv_iconst (v := 1) hx hb dX9_act_7 (by decide) ?_
    obtain ⟨k6, hf⟩ := chk_b hf
    obtain ⟨x7, hc8, hf⟩ := bnd_b hf
    refine hcall_Vv (ex2 := True) (As := [.int a1, .int (1 : Int32)]) (rest := []) (n := 2) (by rw [(isk_k k6)]; decide) (hC_10 (isk_k k6)) rfl ⟨hx, hb, hml, hown, hts⟩ (ch_X9_take l D cy h a1 (1 : Int32) s0 x7 hc8) (cwV 2 hts gX9_act_X9_take rfl rfl rfl ⟨rfl, nd_X9_take⟩ ⟨Nat.le_of_ble_eq_true rfl, Nat.le_of_ble_eq_true rfl⟩) hI (fun h => h.elim) (fun _ => ⟨trivial, trivial⟩) rfl hl.1 (Nat.le_of_ble_eq_true rfl) dX9_act_8 ⟨Nat.le_of_ble_eq_true rfl, Nat.le_of_ble_eq_true rfl⟩ (fun H locs hI => ?_)
    refine lv_goto (tgt := 38) hx hb dX9_act_11 (by decide) ?_
    exact hret_v hx hb hr hlocks hI (by decide) (by decide) (fun _ => ⟨trivial, rfl⟩) (ret_e hK0 hf) dX9_act_38

theorem nd_X0_actBoth : yX0_actBoth.cls ≠ "java/lang/invoke/MethodHandle" ∧ yX0_actBoth.cls ≠ "java/lang/invoke/VarHandle" ∧ (parseMethodDescriptor yX0_actBoth.desc).map (fun d => d.parameters.length) = some 5 := by decide +kernel
set_option maxHeartbeats 4000000 in
set_option maxRecDepth 100000 in
theorem ch_X0_actBoth (l : Launch) (D : va_G) (cy : Nat → ClassId) (h : Nat) (a1 : Option Nat) (a2 : Option Nat) (a3 : Option Nat) (a4 : Int32) (a5 : Int32) (s0 : HSt) (out : HSt) (hf : fh_X0_actBoth h a1 a2 a3 a4 a5 s0 = some out) : CHv l D cy yX0_actBoth wsX0_actBoth { frames := 4, cells := 0, slots := 0, locals := 117 } 0 0 False True [.ref h, va_rf a1, va_rf a2, va_rf a3, .int a4, .int a5] s0 out := by
  refine Met.ofW (cc := cX0_actBoth) (maxL := 8) (ret := none) (by decide) rfl ?_
  intro p e s m args below meth c s₁ B hml hv
  obtain ⟨rfl, hP, hK, hD0, hkx, hsz, hal⟩ := hv
  have hx := B.exec
  have hb := B.bytes
  have hr := B.returns
  have hts := atoms_spec (ws := wsX0_actBoth) B.pre
  have hown : s.vm.findClass RX0 = some m.cls := findClass_of_methodNamed B.named
  have hlocks := B.notSynchronized
  have hI : HI D cy s s0 s0 s.heap [] 0 False True := ⟨hK, hP, hD0.weaken (fun k q hk _ => Or.inl (pl_mem hk)), va_S.rf, hsz.1, hkx, ⟨hsz, hal⟩, fun _ => rfl, Nat.le_refl _⟩
  have hin_X0 : ∀ w ∈ u_ws RX0 TX0 11, w ∈ wsX0_actBoth := fun w hw => List.mem_cons_of_mem _ (List.mem_append_left _ (List.mem_append_left _ (List.mem_append_left _ (List.mem_append_left _ (List.mem_append_right _ hw)))))
  have kl_10 : Cond.fieldLink RX0 10 "HalfBridge$Foresight" "looker" "LHalfBridge$Looker;" ∈ wsX0_actBoth := by decide +kernel
  have hl := lv_entry ([.ref h, va_rf a1, va_rf a2, va_rf a3, .int a4, .int a5]) (n := 8) (by simp [lg_sl, cat_rf, cat_i, cat_l, cat_r])
  rw [lg_entry_eq]
  generalize (lg_sl ([.ref h, va_rf a1, va_rf a2, va_rf a3, .int a4, .int a5]) ++ List.replicate (8 - (lg_sl ([.ref h, va_rf a1, va_rf a2, va_rf a3, .int a4, .int a5])).length) Slot.unset).toArray = ls at hl ⊢
  have hl : lv_has ls 8 [(0, .ref h), (1, va_rf a1), (2, va_rf a2), (3, va_rf a3), (4, .int a4), (5, .int a5)] := (by simpa [lv_args, cat_rf, cat_i, cat_l, cat_r] using hl)
  obtain ⟨K0, hK0, hf⟩ := top_e hf
  unfold fh_X0_actBoth at hf
  refine lv_aload_n hx hb dX0_actBoth_0 rfl (lv_at hl 0 rfl) ?_
  obtain ⟨k1, hf⟩ := chk_b hf
  refine hg_0_0 hx hb hts hin_X0 hown kl_10 hI (isk_k k1) dX0_actBoth_1 ?_
  refine hq_aload_n hx hb dX0_actBoth_4 rfl (lv_at hl 1 rfl) ?_
  refine hq_aload_n hx hb dX0_actBoth_5 rfl (lv_at hl 2 rfl) ?_
  refine lv_iconst (v := 0) hx hb dX0_actBoth_6 (by decide) ?_
  refine lv_iload hx hb dX0_actBoth_7 (lv_at hl 4 rfl) ?_
  obtain ⟨b2, hd3, hf⟩ := bnd_b hf
  obtain ⟨hq4, hk5⟩ := dr_e hd3
  refine W.eq (g2 := F0 m 9 ls [.int a4, .int (0 : Int32), va_rf a2, va_rf a1, .ref b2]) (by rw [hq4]; rfl) ?_
  obtain ⟨x6, hc7, hf⟩ := bnd_b hf
  refine hcall_Vi (ex2 := True) (As := [va_rf a1, va_rf a2, .int (0 : Int32), .int a4]) (rest := []) (n := 4) (by rw [hk5]; decide) (hC_4 hk5) rfl ⟨hx, hb, hml, hown, hts⟩ (ch_X3_planOf l D cy b2 a1 a2 (0 : Int32) a4 s0 x6 hc7) (cwV 4 hts gX0_actBoth_X3_planOf rfl rfl rfl ⟨rfl, nd_X3_planOf⟩ ⟨Nat.le_of_ble_eq_true rfl, Nat.le_of_ble_eq_true rfl⟩) hI (fun h => h.elim) (fun _ => ⟨trivial, trivial⟩) rfl hl.1 (Nat.le_of_ble_eq_true rfl) dX0_actBoth_9 ⟨Nat.le_of_ble_eq_true rfl, Nat.le_of_ble_eq_true rfl⟩ (fun H locs hI => ?_)
  refine lv_istore (lv' := [(6, .int x6.2), (0, .ref h), (1, va_rf a1), (2, va_rf a2), (3, va_rf a3), (4, .int a4), (5, .int a5)]) hx hb dX0_actBoth_12 hl (by decide) (by first | rfl | (simp [cat_rf, cat_i, cat_l, cat_r]; done) | (simp [cat_rf, cat_i, cat_l, cat_r]; decide)) (fun ls hl => ?_)
  refine lv_aload_n hx hb dX0_actBoth_14 rfl (lv_at hl 1 rfl) ?_
  obtain ⟨k8, hf⟩ := chk_b hf
  refine hg_0_0 hx hb hts hin_X0 hown kl_10 hI (isk_k k8) dX0_actBoth_15 ?_
  refine hq_aload_n hx hb dX0_actBoth_18 rfl (lv_at hl 2 rfl) ?_
  refine hq_aload_n hx hb dX0_actBoth_19 rfl (lv_at hl 4 rfl) ?_
  refine lv_iconst (v := 1) hx hb dX0_actBoth_20 (by decide) ?_
  refine lv_iload hx hb dX0_actBoth_21 (lv_at hl 6 rfl) ?_
  obtain ⟨b9, hd10, hf⟩ := bnd_b hf
  obtain ⟨hq11, hk12⟩ := dr_e hd10
  refine W.eq (g2 := F0 m 23 ls [.int a5, .int (1 : Int32), va_rf a3, va_rf a1, .ref b9]) (by rw [hq11]; rfl) ?_
  obtain ⟨x13, hc14, hf⟩ := bnd_b hf
  refine hcall_Vi (ex2 := True) (As := [va_rf a1, va_rf a3, .int (1 : Int32), .int a5]) (rest := []) (n := 4) (by rw [hk12]; decide) (hC_4 hk12) rfl ⟨hx, hb, hml, hown, hts⟩ (ch_X3_planOf l D cy b9 a1 a3 (1 : Int32) a5 x6.1 x13 hc14) (cwV 4 hts gX0_actBoth_X3_planOf rfl rfl rfl ⟨rfl, nd_X3_planOf⟩ ⟨Nat.le_of_ble_eq_true rfl, Nat.le_of_ble_eq_true rfl⟩) hI (fun h => h.elim) (fun _ => ⟨trivial, trivial⟩) rfl hl.1 (Nat.le_of_ble_eq_true rfl) dX0_actBoth_23 ⟨Nat.le_of_ble_eq_true rfl, Nat.le_of_ble_eq_true rfl⟩ (fun H locs hI => ?_)
  refine lv_istore (lv' := [(7, .int x13.2), (6, .int x6.2), (0, .ref h), (1, va_rf a1), (2, va_rf a2), (3, va_rf a3), (4, .int a4), (5, .int a5)]) hx hb dX0_actBoth_26 hl (by decide) (by first | rfl | (simp [cat_rf, cat_i, cat_l, cat_r]; done) | (simp [cat_rf, cat_i, cat_l, cat_r]; decide)) (fun ls hl => ?_)
  refine hq_aload_n hx hb dX0_actBoth_28 rfl (lv_at hl 3 rfl) ?_
  refine lv_iconst (v := 0) hx hb dX0_actBoth_29 (by decide) ?_
  refine lv_iload hx hb dX0_actBoth_30 (lv_at hl 1 rfl) ?_
  obtain ⟨b15, hd16, hf⟩ := bnd_b hf
  obtain ⟨hq17, hk18⟩ := dr_e hd16
  refine W.eq (g2 := F0 m 32 ls [.int x6.2, .int (0 : Int32), .ref b15]) (by rw [hq17]; rfl) ?_
  obtain ⟨x19, hc20, hf⟩ := bnd_b hf
  refine hcall_Vv (ex2 := True) (As := [.int (0 : Int32), .int x6.2]) (rest := []) (n := 2) (by rw [hk18]; decide) (hC_10 hk18) rfl ⟨hx, hb, hml, hown, hts⟩ (ch_X9_act l D cy b15 (0 : Int32) x6.2 x13.1 x19 hc20) (cwV 2 hts gX0_actBoth_X9_act rfl rfl rfl ⟨rfl, nd_X9_act⟩ ⟨Nat.le_of_ble_eq_true rfl, Nat.le_of_ble_eq_true rfl⟩) hI (fun h => h.elim) (fun _ => ⟨trivial, trivial⟩) rfl hl.1 (Nat.le_of_ble_eq_true rfl) dX0_actBoth_32 ⟨Nat.le_of_ble_eq_true rfl, Nat.le_of_ble_eq_true rfl⟩ (fun H locs hI => ?_)
  refine hq_aload_n hx hb dX0_actBoth_35 rfl (lv_at hl 3 rfl) ?_
  refine lv_iconst (v := 1) hx hb dX0_actBoth_36 (by decide) ?_
  refine lv_iload hx hb dX0_actBoth_37 (lv_at hl 0 rfl) ?_
  refine W.eq (g2 := F0 m 39 ls [.int x13.2, .int (1 : Int32), .ref b15]) (by rw [hq17]; rfl) ?_
  obtain ⟨k21, hf⟩ := chk_b hf
  obtain ⟨x22, hc23, hf⟩ := bnd_b hf
  refine hcall_Vv (ex2 := True) (As := [.int (1 : Int32), .int x13.2]) (rest := []) (n := 2) (by rw [(isk_k k21)]; decide) (hC_10 (isk_k k21)) rfl ⟨hx, hb, hml, hown, hts⟩ (ch_X9_act l D cy b15 (1 : Int32) x13.2 x19 x22 hc23) (cwV 2 hts gX0_actBoth_X9_act rfl rfl rfl ⟨rfl, nd_X9_act⟩ ⟨Nat.le_of_ble_eq_true rfl, Nat.le_of_ble_eq_true rfl⟩) hI (fun h => h.elim) (fun _ => ⟨trivial, trivial⟩) rfl hl.1 (Nat.le_of_ble_eq_true rfl) dX0_actBoth_39 ⟨Nat.le_of_ble_eq_true rfl, Nat.le_of_ble_eq_true rfl⟩ (fun H locs hI => ?_)
  exact hret_v hx hb hr hlocks hI (by decide) (by decide) (fun _ => ⟨trivial, rfl⟩) (ret_e hK0 hf) dX0_actBoth_42

theorem nd_X9_become : yX9_become.cls ≠ "java/lang/invoke/MethodHandle" ∧ yX9_become.cls ≠ "java/lang/invoke/VarHandle" ∧ (parseMethodDescriptor yX9_become.desc).map (fun d => d.parameters.length) = some 1 := by decide +kernel
set_option maxHeartbeats 4000000 in
set_option maxRecDepth 100000 in
theorem ch_X9_become (l : Launch) (D : va_G) (cy : Nat → ClassId) (h : Nat) (a1 : Option Nat) (s0 : HSt) (out : HSt) (hf : fh_X9_become h a1 s0 = some out) : CHv l D cy yX9_become wsX9_become { frames := 1, cells := 0, slots := 0, locals := 60 } 0 0 False True [.ref h, va_rf a1] s0 out := by
  refine Met.ofW (cc := cX9_become) (maxL := 3) (ret := none) (by decide) rfl ?_
  intro p e s m args below meth c s₁ B hml hv
  obtain ⟨rfl, hP, hK, hD0, hkx, hsz, hal⟩ := hv
  have hx := B.exec
  have hb := B.bytes
  have hr := B.returns
  have hts := atoms_spec (ws := wsX9_become) B.pre
  have hown : s.vm.findClass RX9 = some m.cls := findClass_of_methodNamed B.named
  have hlocks := B.notSynchronized
  have hI : HI D cy s s0 s0 s.heap [] 0 False True := ⟨hK, hP, hD0.weaken (fun k q hk _ => Or.inl (pl_mem hk)), va_S.rf, hsz.1, hkx, ⟨hsz, hal⟩, fun _ => rfl, Nat.le_refl _⟩
  have hin_X9 : ∀ w ∈ u_ws RX9 TX9 5, w ∈ wsX9_become := fun w hw => List.mem_cons_of_mem _ (List.mem_append_right _ hw)
  have kl_12 : Cond.fieldLink RX9 12 "HalfBridge$Span" "river" "LHalfBridge$River;" ∈ wsX9_become := by decide +kernel
  have kl_16 : Cond.fieldLink RX9 16 "HalfBridge$Span" "yards" "[I" ∈ wsX9_become := by decide +kernel
  have kl_20 : Cond.fieldLink RX9 20 "HalfBridge$Span" "lines" "[I" ∈ wsX9_become := by decide +kernel
  have kl_23 : Cond.fieldLink RX9 23 "HalfBridge$Span" "heights" "[I" ∈ wsX9_become := by decide +kernel
  have kl_26 : Cond.fieldLink RX9 26 "HalfBridge$Span" "day" "I" ∈ wsX9_become := by decide +kernel
  have hl := lv_entry ([.ref h, va_rf a1]) (n := 3) (by simp [lg_sl, cat_rf, cat_i, cat_l, cat_r])
  rw [lg_entry_eq]
  generalize (lg_sl ([.ref h, va_rf a1]) ++ List.replicate (3 - (lg_sl ([.ref h, va_rf a1])).length) Slot.unset).toArray = ls at hl ⊢
  have hl : lv_has ls 3 [(0, .ref h), (1, va_rf a1)] := (by simpa [lv_args, cat_rf, cat_i, cat_l, cat_r] using hl)
  obtain ⟨K0, hK0, hf⟩ := top_e hf
  have B_91 : ∀   (st : HSt) (H : Heap) (locs : List Loc) (ls : Array Slot), HI D cy s s0 st H locs 0 False True → lv_has ls 3 [] → (fh_X9_become_j91 h st).bind K0 = some out → W p l e (headSpec wsX9_become { frames := 1, cells := 0, slots := 0, locals := 60 }).room s m (([.ref h, va_rf a1] : List Value).toArray) below meth c H locs 0 0 (MQ below (HQv D cy s0 0 True out) ([.ref h, va_rf a1] : List Value).toArray s 0 0 (hF s0)) (F0 m 91 ls []) := by
    intro st H locs ls hI hl hf
    unfold fh_X9_become_j91 at hf
    exact hret_v hx hb hr hlocks hI (by decide) (by decide) (fun _ => ⟨trivial, rfl⟩) (ret_e hK0 hf) dX9_become_91
  have L_18 : ∀ (v1 : Option Nat) (n : Nat) (v2 : Int32) (st : HSt) (H : Heap) (locs : List Loc) (ls : Array Slot), HI D cy s s0 st H locs 0 False True → lv_has ls 3 [(0, .ref h), (1, va_rf v1), (2, .int v2)] → (iter (fun x : (Int32 × HSt) => fh_X9_become_s18 h v1 x.1 x.2) n (v2, st)).bind (fun x => ((Sum.elim (fun o : HSt => (some o : Option (HSt))) (fun x : (Int32 × HSt) => fh_X9_become_j91 h x.2)) x).bind K0) = some out → W p l e (headSpec wsX9_become { frames := 1, cells := 0, slots := 0, locals := 60 }).room s m (([.ref h, va_rf a1] : List Value).toArray) below meth c H locs 0 0 (MQ below (HQv D cy s0 0 True out) ([.ref h, va_rf a1] : List Value).toArray s 0 0 (hF s0)) (F0 m 18 ls []) := by
    intro v1 n
    induction n with
    | zero => intro v2 st H locs ls hI hl hf; exact (iter_0 hf).elim
    | succ n ih =>
      intro v2 st H locs ls hI hl hf
      obtain ⟨K1, hK1, hf⟩ := iter_e hf
      replace hf : (fh_X9_become_s18 h v1 v2 st).bind K1 = some out := hf
      unfold fh_X9_become_s18 at hf
      refine lv_iload_n hx hb dX9_become_18 rfl (lv_at hl 2 rfl) ?_
      refine lv_iconst (v := 2) hx hb dX9_become_19 (by decide) ?_
      refine lv_icmp_ge (tgt := 91) hx hb dX9_become_20 (by decide) (fun c9 => ?_) (fun c9 => ?_)
      · replace hf := ifp c9 hf
        replace hf := exit_b hK1 hf
        exact B_91  st H locs ls hI (lv_sub hl [] rfl) hf
      · replace hf := ifn c9 hf
        refine lv_aload_n hx hb dX9_become_23 rfl (lv_at hl 0 rfl) ?_
        obtain ⟨k10, hf⟩ := chk_b hf
        refine hg_9_2 hx hb hts hin_X9 hown kl_16 hI (isk_k k10) dX9_become_24 ?_
        refine lv_iload_n hx hb dX9_become_27 rfl (lv_at hl 2 rfl) ?_
        refine hq_aload_n hx hb dX9_become_28 rfl (lv_at hl 1 rfl) ?_
        obtain ⟨b11, hd12, hf⟩ := bnd_b hf
        obtain ⟨hq13, hk14⟩ := dr_e hd12
        refine W.eq (g2 := F0 m 29 ls [.ref b11, .int v2, va_rf (gR st 902 h)]) (by rw [hq13]; rfl) ?_
        refine hg_9_2 hx hb hts hin_X9 hown kl_16 hI hk14 dX9_become_29 ?_
        refine lv_iload_n hx hb dX9_become_32 rfl (lv_at hl 2 rfl) ?_
        obtain ⟨b15, hd16, hf⟩ := bnd_b hf
        obtain ⟨hq17, hk18⟩ := dr_e hd16
        refine W.eq (g2 := F0 m 33 ls [.int v2, .ref b15, .int v2, va_rf (gR st 902 h)]) (by rw [hq17]; rfl) ?_
        obtain ⟨k19, hf⟩ := chk_b hf
        refine hl_I hx hb hI hk18 k19 dX9_become_33 ?_
        obtain ⟨b20, hd21, hf⟩ := bnd_b hf
        obtain ⟨hq22, hk23⟩ := dr_e hd21
        refine W.eq (g2 := F0 m 34 ls [.int (gA st b15 v2.toNatClampNeg), .int v2, .ref b20]) (by rw [hq22]; rfl) ?_
        obtain ⟨k24, hf⟩ := chk_b hf
        refine hs_I hx hb hI hk23 k24 dX9_become_34 (fun H locs hI => ?_)
        refine hq_aload_n hx hb dX9_become_35 rfl (lv_at hl 1 rfl) ?_
        refine W.eq (g2 := F0 m 36 ls [.ref b11]) (by rw [hq13]; rfl) ?_
        refine hg_9_3 hx hb hts hin_X9 hown kl_20 hI (gK_sA.trans hk14) dX9_become_36 ?_
        refine lv_iload_n hx hb dX9_become_39 rfl (lv_at hl 2 rfl) ?_
        refine lv_bipush (v := 40) hx hb dX9_become_40 (by decide) ?_
        refine lv_imul hx hb dX9_become_42 ?_
        refine lv_aload_n hx hb dX9_become_43 rfl (lv_at hl 0 rfl) ?_
        refine hg_9_3 hx hb hts hin_X9 hown kl_20 hI (gK_sA.trans (isk_k k10)) dX9_become_44 ?_
        refine lv_iload_n hx hb dX9_become_47 rfl (lv_at hl 2 rfl) ?_
        refine lv_bipush (v := 40) hx hb dX9_become_48 (by decide) ?_
        refine lv_imul hx hb dX9_become_50 ?_
        refine lv_aload_n hx hb dX9_become_51 rfl (lv_at hl 0 rfl) ?_
        refine hg_9_2 hx hb hts hin_X9 hown kl_16 hI (gK_sA.trans (isk_k k10)) dX9_become_52 ?_
        refine lv_iload_n hx hb dX9_become_55 rfl (lv_at hl 2 rfl) ?_
        obtain ⟨b25, hd26, hf⟩ := bnd_b hf
        obtain ⟨hq27, hk28⟩ := dr_e hd26
        refine W.eq (g2 := F0 m 56 ls [.int v2, .ref b25, .int (v2 * (40 : Int32)), va_rf (gR (sA st b20 v2.toNatClampNeg (gA st b15 v2.toNatClampNeg)) 903 h), .int (v2 * (40 : Int32)), va_rf (gR (sA st b20 v2.toNatClampNeg (gA st b15 v2.toNatClampNeg)) 903 b11)]) (by rw [hq27]; rfl) ?_
        obtain ⟨k29, hf⟩ := chk_b hf
        refine hl_I hx hb hI (gK_sA.trans hk28) k29 dX9_become_56 ?_
        obtain ⟨b30, hd31, hf⟩ := bnd_b hf
        obtain ⟨hq32, hk33⟩ := dr_e hd31
        refine W.eq (g2 := F0 m 57 ls [.int (gA (sA st b20 v2.toNatClampNeg (gA st b15 v2.toNatClampNeg)) b25 v2.toNatClampNeg), .int (v2 * (40 : Int32)), va_rf (gR (sA st b20 v2.toNatClampNeg (gA st b15 v2.toNatClampNeg)) 903 h), .int (v2 * (40 : Int32)), .ref b30]) (by rw [hq32]; rfl) ?_
        obtain ⟨b34, hd35, hf⟩ := bnd_b hf
        obtain ⟨hq36, hk37⟩ := dr_e hd35
        refine W.eq (g2 := F0 m 57 ls [.int (gA (sA st b20 v2.toNatClampNeg (gA st b15 v2.toNatClampNeg)) b25 v2.toNatClampNeg), .int (v2 * (40 : Int32)), .ref b34, .int (v2 * (40 : Int32)), .ref b30]) (by rw [hq36]; rfl) ?_
        obtain ⟨k38, hf⟩ := chk_b hf
        refine h_copy hx hb (hml.trans hl.1.symm) hown (hts (.methodLink RX9 30 arraycopyName) (by decide +kernel)) (hts (.native arraycopyName) (by decide +kernel)) (hts (.static arraycopyName) (by decide +kernel)) (hts (.initialized "java/lang/System") (by decide +kernel)) hI (gK_sA.trans hk33) (gK_sA.trans hk37) k38 (Nat.le_of_ble_eq_true rfl) (Nat.le_of_ble_eq_true rfl) dX9_become_57 (fun H locs hI => ?_)
        obtain ⟨x39, hx39, hf⟩ := bnd_b hf
        replace hx39 := Option.some.inj hx39
        rw [hx39] at hI
        have hk40 : gK x39 h = 10 := by rw [← hx39]; exact (gK_sAf.trans (gK_sA.trans (isk_k k10)))
        have hk41 : gK x39 b11 = 10 := by rw [← hx39]; exact (gK_sAf.trans (gK_sA.trans hk14))
        have hk42 : gK x39 b15 = 22 := by rw [← hx39]; exact (gK_sAf.trans (gK_sA.trans hk18))
        have hk43 : gK x39 b20 = 22 := by rw [← hx39]; exact (gK_sAf.trans (gK_sA.trans hk23))
        have hk44 : gK x39 b25 = 22 := by rw [← hx39]; exact (gK_sAf.trans (gK_sA.trans hk28))
        have hk45 : gK x39 b30 = 22 := by rw [← hx39]; exact (gK_sAf.trans (gK_sA.trans hk33))
        have hk46 : gK x39 b34 = 22 := by rw [← hx39]; exact (gK_sAf.trans (gK_sA.trans hk37))
        refine hq_aload_n hx hb dX9_become_60 rfl (lv_at hl 1 rfl) ?_
        refine W.eq (g2 := F0 m 61 ls [.ref b11]) (by rw [hq13]; rfl) ?_
        refine hg_9_4 hx hb hts hin_X9 hown kl_23 hI hk41 dX9_become_61 ?_
        refine lv_iload_n hx hb dX9_become_64 rfl (lv_at hl 2 rfl) ?_
        refine lv_bipush (v := 40) hx hb dX9_become_65 (by decide) ?_
        refine lv_imul hx hb dX9_become_67 ?_
        refine lv_aload_n hx hb dX9_become_68 rfl (lv_at hl 0 rfl) ?_
        refine hg_9_4 hx hb hts hin_X9 hown kl_23 hI hk40 dX9_become_69 ?_
        refine lv_iload_n hx hb dX9_become_72 rfl (lv_at hl 2 rfl) ?_
        refine lv_bipush (v := 40) hx hb dX9_become_73 (by decide) ?_
        refine lv_imul hx hb dX9_become_75 ?_
        refine lv_aload_n hx hb dX9_become_76 rfl (lv_at hl 0 rfl) ?_
        refine hg_9_2 hx hb hts hin_X9 hown kl_16 hI hk40 dX9_become_77 ?_
        refine lv_iload_n hx hb dX9_become_80 rfl (lv_at hl 2 rfl) ?_
        obtain ⟨b47, hd48, hf⟩ := bnd_b hf
        obtain ⟨hq49, hk50⟩ := dr_e hd48
        refine W.eq (g2 := F0 m 81 ls [.int v2, .ref b47, .int (v2 * (40 : Int32)), va_rf (gR x39 904 h), .int (v2 * (40 : Int32)), va_rf (gR x39 904 b11)]) (by rw [hq49]; rfl) ?_
        obtain ⟨k51, hf⟩ := chk_b hf
        refine hl_I hx hb hI hk50 k51 dX9_become_81 ?_
        obtain ⟨b52, hd53, hf⟩ := bnd_b hf
        obtain ⟨hq54, hk55⟩ := dr_e hd53
        refine W.eq (g2 := F0 m 82 ls [.int (gA x39 b47 v2.toNatClampNeg), .int (v2 * (40 : Int32)), va_rf (gR x39 904 h), .int (v2 * (40 : Int32)), .ref b52]) (by rw [hq54]; rfl) ?_
        obtain ⟨b56, hd57, hf⟩ := bnd_b hf
        obtain ⟨hq58, hk59⟩ := dr_e hd57
        refine W.eq (g2 := F0 m 82 ls [.int (gA x39 b47 v2.toNatClampNeg), .int (v2 * (40 : Int32)), .ref b56, .int (v2 * (40 : Int32)), .ref b52]) (by rw [hq58]; rfl) ?_
        obtain ⟨k60, hf⟩ := chk_b hf
        refine h_copy hx hb (hml.trans hl.1.symm) hown (hts (.methodLink RX9 30 arraycopyName) (by decide +kernel)) (hts (.native arraycopyName) (by decide +kernel)) (hts (.static arraycopyName) (by decide +kernel)) (hts (.initialized "java/lang/System") (by decide +kernel)) hI hk55 hk59 k60 (Nat.le_of_ble_eq_true rfl) (Nat.le_of_ble_eq_true rfl) dX9_become_82 (fun H locs hI => ?_)
        obtain ⟨x61, hx61, hf⟩ := bnd_b hf
        replace hx61 := Option.some.inj hx61
        rw [hx61] at hI
        have hk62 : gK x61 h = 10 := by rw [← hx61]; exact (gK_sAf.trans hk40)
        have hk63 : gK x61 b11 = 10 := by rw [← hx61]; exact (gK_sAf.trans hk41)
        have hk64 : gK x61 b15 = 22 := by rw [← hx61]; exact (gK_sAf.trans hk42)
        have hk65 : gK x61 b20 = 22 := by rw [← hx61]; exact (gK_sAf.trans hk43)
        have hk66 : gK x61 b25 = 22 := by rw [← hx61]; exact (gK_sAf.trans hk44)
        have hk67 : gK x61 b30 = 22 := by rw [← hx61]; exact (gK_sAf.trans hk45)
        have hk68 : gK x61 b34 = 22 := by rw [← hx61]; exact (gK_sAf.trans hk46)
        have hk69 : gK x61 b47 = 22 := by rw [← hx61]; exact (gK_sAf.trans hk50)
        have hk70 : gK x61 b52 = 22 := by rw [← hx61]; exact (gK_sAf.trans hk55)
        have hk71 : gK x61 b56 = 22 := by rw [← hx61]; exact (gK_sAf.trans hk59)
        refine lv_iinc (v := (v2 + 1)) (lv' := [(2, .int (v2 + 1)), (0, .ref h), (1, va_rf v1)]) hx hb dX9_become_85 hl (k := 2) rfl (ci_ _ (by decide)) (by decide) (by first | rfl | (simp [cat_rf, cat_i, cat_l, cat_r]; done) | (simp [cat_rf, cat_i, cat_l, cat_r]; decide)) (fun ls hl => ?_)
        refine lv_goto (tgt := 18) hx hb dX9_become_88 (by decide) ?_
        replace hf := cont_b hK1 hf
        exact ih (v2 + 1) x61 H locs ls hI (lv_sub hl [1, 2, 0] rfl) hf
  unfold fh_X9_become at hf
  refine lv_aload_n hx hb dX9_become_0 rfl (lv_at hl 0 rfl) ?_
  refine hq_aload_n hx hb dX9_become_1 rfl (lv_at hl 1 rfl) ?_
  obtain ⟨b1, hd2, hf⟩ := bnd_b hf
  obtain ⟨hq3, hk4⟩ := dr_e hd2
  refine W.eq (g2 := F0 m 2 ls [.ref b1, .ref h]) (by rw [hq3]; rfl) ?_
  refine hg_9_0 hx hb hts hin_X9 hown kl_12 hI hk4 dX9_become_2 ?_
  obtain ⟨k5, hf⟩ := chk_b hf
  refine hp_9_0 (x := (gR s0 900 b1)) hx hb hts hin_X9 hown kl_12 hI (isk_k k5) dX9_become_5 (fun H locs hI => ?_)
  refine lv_aload_n hx hb dX9_become_8 rfl (lv_at hl 0 rfl) ?_
  refine hq_aload_n hx hb dX9_become_9 rfl (lv_at hl 1 rfl) ?_
  refine W.eq (g2 := F0 m 10 ls [.ref b1, .ref h]) (by rw [hq3]; rfl) ?_
  refine hg_9_1 hx hb hts hin_X9 hown kl_26 hI (gK_sR.trans hk4) dX9_become_10 ?_
  refine hp_9_1 hx hb hts hin_X9 hown kl_26 hI (gK_sR.trans (isk_k k5)) dX9_become_13 (fun H locs hI => ?_)
  obtain ⟨x6, hx6, hf⟩ := bnd_b hf
  replace hx6 := Option.some.inj hx6
  rw [hx6] at hI
  have hk7 : gK x6 b1 = 10 := by rw [← hx6]; exact (gK_sI.trans (gK_sR.trans hk4))
  have hk8 : gK x6 h = 10 := by rw [← hx6]; exact (gK_sI.trans (gK_sR.trans (isk_k k5)))
  refine lv_iconst (v := 0) hx hb dX9_become_16 (by decide) ?_
  refine lv_istore_n (lv' := [(2, .int (0 : Int32)), (0, .ref h), (1, va_rf a1)]) hx hb dX9_become_17 rfl hl (by decide) (by first | rfl | (simp [cat_rf, cat_i, cat_l, cat_r]; done) | (simp [cat_rf, cat_i, cat_l, cat_r]; decide)) (fun ls hl => ?_)
  exact L_18 a1 mFuel (0 : Int32) x6 H locs ls hI (lv_sub hl [1, 2, 0] rfl) (asc_b hf)

theorem nd_X9_heightAt : yX9_heightAt.cls ≠ "java/lang/invoke/MethodHandle" ∧ yX9_heightAt.cls ≠ "java/lang/invoke/VarHandle" ∧ (parseMethodDescriptor yX9_heightAt.desc).map (fun d => d.parameters.length) = some 2 := by decide +kernel
set_option maxHeartbeats 4000000 in
set_option maxRecDepth 100000 in
theorem ch_X9_heightAt (l : Launch) (D : va_G) (cy : Nat → ClassId) (h : Nat) (a1 : Int32) (a2 : Int32) (s0 : HSt) (out : HSt × Int32) (hf : fh_X9_heightAt h a1 a2 s0 = some out) : CHi l D cy yX9_heightAt wsX9_heightAt { frames := 0, cells := 0, slots := 0, locals := 0 } 0 0 False True [.ref h, .int a1, .int a2] s0 out := by
  refine Met.ofW (cc := cX9_heightAt) (maxL := 3) (ret := (some .int)) (by decide) rfl ?_
  intro p e s m args below meth c s₁ B hml hv
  obtain ⟨rfl, hP, hK, hD0, hkx, hsz, hal⟩ := hv
  have hx := B.exec
  have hb := B.bytes
  have hr := B.returns
  have hts := atoms_spec (ws := wsX9_heightAt) B.pre
  have hown : s.vm.findClass RX9 = some m.cls := findClass_of_methodNamed B.named
  have hlocks := B.notSynchronized
  have hI : HI D cy s s0 s0 s.heap [] 0 False True := ⟨hK, hP, hD0.weaken (fun k q hk _ => Or.inl (pl_mem hk)), va_S.rf, hsz.1, hkx, ⟨hsz, hal⟩, fun _ => rfl, Nat.le_refl _⟩
  have hin_X4 : ∀ w ∈ u_ws RX4 TX4 9, w ∈ wsX9_heightAt := fun w hw => List.mem_cons_of_mem _ (List.mem_append_right _ hw)
  have hin_X9 : ∀ w ∈ u_ws RX9 TX9 5, w ∈ wsX9_heightAt := fun w hw => List.mem_cons_of_mem _ (List.mem_append_left _ (List.mem_append_right _ hw))
  have kl_12 : Cond.fieldLink RX9 12 "HalfBridge$Span" "river" "LHalfBridge$River;" ∈ wsX9_heightAt := by decide +kernel
  have kl_16 : Cond.fieldLink RX9 16 "HalfBridge$Span" "yards" "[I" ∈ wsX9_heightAt := by decide +kernel
  have kl_23 : Cond.fieldLink RX9 23 "HalfBridge$Span" "heights" "[I" ∈ wsX9_heightAt := by decide +kernel
  have kl_46 : Cond.fieldLink RX9 46 "HalfBridge$River" "bankHeight" "[I" ∈ wsX9_heightAt := by decide +kernel
  have hl := lv_entry ([.ref h, .int a1, .int a2]) (n := 3) (Nat.le_of_ble_eq_true rfl)
  rw [lg_entry_eq]
  generalize (lg_sl ([.ref h, .int a1, .int a2]) ++ List.replicate (3 - (lg_sl ([.ref h, .int a1, .int a2])).length) Slot.unset).toArray = ls at hl ⊢
  have hl : lv_has ls 3 [(0, .ref h), (1, .int a1), (2, .int a2)] := hl
  obtain ⟨K0, hK0, hf⟩ := top_e hf
  unfold fh_X9_heightAt at hf
  refine lv_iload_n hx hb dX9_heightAt_0 rfl (lv_at hl 2 rfl) ?_
  refine lv_if_lt (tgt := 14) hx hb dX9_heightAt_1 (by decide) (fun c1 => ?_) (fun c1 => ?_)
  · replace hf := ifp c1 hf
    refine lv_aload_n hx hb dX9_heightAt_14 rfl (lv_at hl 0 rfl) ?_
    obtain ⟨k2, hf⟩ := chk_b hf
    refine hg_9_0 hx hb hts hin_X9 hown kl_12 hI (isk_k k2) dX9_heightAt_15 ?_
    obtain ⟨b3, hd4, hf⟩ := bnd_b hf
    obtain ⟨hq5, hk6⟩ := dr_e hd4
    refine W.eq (g2 := F0 m 18 ls [.ref b3]) (by rw [hq5]; rfl) ?_
    refine hg_4_5 hx hb hts hin_X4 hown kl_46 hI hk6 dX9_heightAt_18 ?_
    refine lv_iload_n hx hb dX9_heightAt_21 rfl (lv_at hl 1 rfl) ?_
    obtain ⟨b7, hd8, hf⟩ := bnd_b hf
    obtain ⟨hq9, hk10⟩ := dr_e hd8
    refine W.eq (g2 := F0 m 22 ls [.int a1, .ref b7]) (by rw [hq9]; rfl) ?_
    obtain ⟨k11, hf⟩ := chk_b hf
    refine hl_I hx hb hI hk10 k11 dX9_heightAt_22 ?_
    refine lv_goto (tgt := 37) hx hb dX9_heightAt_23 (by decide) ?_
    exact hret_i hx hb hr hlocks hI (by decide) (by decide) (fun _ => ⟨trivial, rfl⟩) (ret_e hK0 hf) dX9_heightAt_37
  · replace hf := ifn c1 hf
    refine lv_iload_n hx hb dX9_heightAt_4 rfl (lv_at hl 2 rfl) ?_
    refine lv_aload_n hx hb dX9_heightAt_5 rfl (lv_at hl 0 rfl) ?_
    obtain ⟨k12, hf⟩ := chk_b hf
    refine hg_9_2 hx hb hts hin_X9 hown kl_16 hI (isk_k k12) dX9_heightAt_6 ?_
    refine lv_iload_n hx hb dX9_heightAt_9 rfl (lv_at hl 1 rfl) ?_
    obtain ⟨b13, hd14, hf⟩ := bnd_b hf
    obtain ⟨hq15, hk16⟩ := dr_e hd14
    refine W.eq (g2 := F0 m 10 ls [.int a1, .ref b13, .int a2]) (by rw [hq15]; rfl) ?_
    obtain ⟨k17, hf⟩ := chk_b hf
    refine hl_I hx hb hI hk16 k17 dX9_heightAt_10 ?_
    refine lv_icmp_lt (tgt := 26) hx hb dX9_heightAt_11 (by decide) (fun c18 => ?_) (fun c18 => ?_)
    · replace hf := ifp c18 hf
      refine lv_aload_n hx hb dX9_heightAt_26 rfl (lv_at hl 0 rfl) ?_
      refine hg_9_4 hx hb hts hin_X9 hown kl_23 hI (isk_k k12) dX9_heightAt_27 ?_
      refine lv_iload_n hx hb dX9_heightAt_30 rfl (lv_at hl 1 rfl) ?_
      refine lv_bipush (v := 40) hx hb dX9_heightAt_31 (by decide) ?_
      refine lv_imul hx hb dX9_heightAt_33 ?_
      refine lv_iload_n hx hb dX9_heightAt_34 rfl (lv_at hl 2 rfl) ?_
      refine lv_iadd hx hb dX9_heightAt_35 ?_
      obtain ⟨b19, hd20, hf⟩ := bnd_b hf
      obtain ⟨hq21, hk22⟩ := dr_e hd20
      refine W.eq (g2 := F0 m 36 ls [.int ((a1 * (40 : Int32)) + a2), .ref b19]) (by rw [hq21]; rfl) ?_
      obtain ⟨k23, hf⟩ := chk_b hf
      refine hl_I hx hb hI hk22 k23 dX9_heightAt_36 ?_
      exact hret_i hx hb hr hlocks hI (by decide) (by decide) (fun _ => ⟨trivial, rfl⟩) (ret_e hK0 hf) dX9_heightAt_37
    · replace hf := ifn c18 hf
      refine lv_aload_n hx hb dX9_heightAt_14 rfl (lv_at hl 0 rfl) ?_
      refine hg_9_0 hx hb hts hin_X9 hown kl_12 hI (isk_k k12) dX9_heightAt_15 ?_
      obtain ⟨b24, hd25, hf⟩ := bnd_b hf
      obtain ⟨hq26, hk27⟩ := dr_e hd25
      refine W.eq (g2 := F0 m 18 ls [.ref b24]) (by rw [hq26]; rfl) ?_
      refine hg_4_5 hx hb hts hin_X4 hown kl_46 hI hk27 dX9_heightAt_18 ?_
      refine lv_iload_n hx hb dX9_heightAt_21 rfl (lv_at hl 1 rfl) ?_
      obtain ⟨b28, hd29, hf⟩ := bnd_b hf
      obtain ⟨hq30, hk31⟩ := dr_e hd29
      refine W.eq (g2 := F0 m 22 ls [.int a1, .ref b28]) (by rw [hq30]; rfl) ?_
      obtain ⟨k32, hf⟩ := chk_b hf
      refine hl_I hx hb hI hk31 k32 dX9_heightAt_22 ?_
      refine lv_goto (tgt := 37) hx hb dX9_heightAt_23 (by decide) ?_
      exact hret_i hx hb hr hlocks hI (by decide) (by decide) (fun _ => ⟨trivial, rfl⟩) (ret_e hK0 hf) dX9_heightAt_37
