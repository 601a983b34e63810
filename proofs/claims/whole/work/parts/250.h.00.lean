theorem nd_J0_isLatin1_aae02 : yJ0_isLatin1_aae02.cls ≠ "java/lang/invoke/MethodHandle" ∧ yJ0_isLatin1_aae02.cls ≠ "java/lang/invoke/VarHandle" ∧ (parseMethodDescriptor yJ0_isLatin1_aae02.desc).map (fun d => d.parameters.length) = some 0 := by decide +kernel
set_option maxHeartbeats 4000000 in
set_option maxRecDepth 100000 in
theorem ch_J0_isLatin1_aae02 (l : Launch) (D : va_G) (cy : Nat → ClassId) (h : Nat)  (s0 : HSt) (out : HSt × Int32) (hf : fh_J0_isLatin1_aae02 h s0 = some out) : CHi l D cy yJ0_isLatin1_aae02 wsJ0_isLatin1_aae02 { frames := 0, cells := 0, slots := 0, locals := 0 } 0 0 False True [.ref (cy (100 + h))] s0 out := by
  refine Met.ofW (cc := cJ0_isLatin1_aae02) (maxL := 1) (ret := (some .boolean)) (by decide) rfl ?_
  intro p e s m args below meth c s₁ B hml hv
  obtain ⟨rfl, hP, hK, hD0, hkx, hsz, hal⟩ := hv
  have hx := B.exec
  have hb := B.bytes
  have hr := B.returns
  have hts := atoms_spec (ws := wsJ0_isLatin1_aae02) B.pre
  have hown : s.vm.findClass RJ0 = some m.cls := findClass_of_methodNamed B.named
  have hlocks := B.notSynchronized
  have hI : HI D cy s s0 s0 s.heap [] 0 False True := ⟨hK, hP, hD0.weaken (fun k q hk _ => Or.inl (pl_mem hk)), va_S.rf, hsz.1, hkx, ⟨hsz, hal⟩, fun _ => rfl, Nat.le_refl _⟩
  have hl := lv_entry ([.ref (cy (100 + h))]) (n := 1) (Nat.le_of_ble_eq_true rfl)
  rw [lg_entry_eq]
  generalize (lg_sl ([.ref (cy (100 + h))]) ++ List.replicate (1 - (lg_sl ([.ref (cy (100 + h))])).length) Slot.unset).toArray = ls at hl ⊢
  have hl : lv_has ls 1 [(0, .ref (cy (100 + h)))] := hl
  obtain ⟨K0, hK0, hf⟩ := top_e hf
  unfold fh_J0_isLatin1_aae02 at hf
  refine hs_cmp hx hb hts hown (by decide +kernel) hI dJ0_isLatin1_aae02_0 ?_
  refine lv_if_eq (tgt := 17) hx hb dJ0_isLatin1_aae02_3 (by decide) (fun c1 => ?_) (fun c1 => ?_)
  · replace hf := ifp c1 hf
    refine lv_iconst (v := 0) hx hb dJ0_isLatin1_aae02_17 (by decide) ?_
    exact hret_z hx hb hr (by decide) hlocks hI (by decide) (by decide) (fun _ => ⟨trivial, rfl⟩) (ret_e hK0 hf) dJ0_isLatin1_aae02_18
  · replace hf := ifn c1 hf
    refine lv_aload_n hx hb dJ0_isLatin1_aae02_6 rfl (lv_at hl 0 rfl) ?_
    obtain ⟨k2, hf⟩ := chk_b hf
    refine hs_cod hx hb hts hown (by decide +kernel) hI (of_decide_eq_true k2) dJ0_isLatin1_aae02_7 ?_
    refine lv_if_ne (tgt := 17) hx hb dJ0_isLatin1_aae02_10 (by decide) (fun c3 => ?_) (fun c3 => ?_)
    · replace hf := ifn c3 hf
      refine lv_iconst (v := 0) hx hb dJ0_isLatin1_aae02_17 (by decide) ?_
      exact hret_z hx hb hr (by decide) hlocks hI (by decide) (by decide) (fun _ => ⟨trivial, rfl⟩) (ret_e hK0 hf) dJ0_isLatin1_aae02_18
    · replace hf := ifp c3 hf
      refine lv_iconst (v := 1) hx hb dJ0_isLatin1_aae02_13 (by decide) ?_
      refine lv_goto (tgt := 18) hx hb dJ0_isLatin1_aae02_14 (by decide) ?_
      exact hret_z hx hb hr (by decide) hlocks hI (by decide) (by decide) (fun _ => ⟨trivial, rfl⟩) (ret_e hK0 hf) dJ0_isLatin1_aae02_18

theorem nd_J3_checkIndex_8e157 : yJ3_checkIndex_8e157.cls ≠ "java/lang/invoke/MethodHandle" ∧ yJ3_checkIndex_8e157.cls ≠ "java/lang/invoke/VarHandle" ∧ (parseMethodDescriptor yJ3_checkIndex_8e157.desc).map (fun d => d.parameters.length) = some 3 := by decide +kernel
set_option maxHeartbeats 4000000 in
set_option maxRecDepth 100000 in
theorem ch_J3_checkIndex_8e157 (l : Launch) (D : va_G) (cy : Nat → ClassId) (a0 : Int32) (a1 : Int32) (a2 : Option Nat) (s0 : HSt) (out : HSt × Int32) (hf : fh_J3_checkIndex_8e157 a0 a1 s0 = some out) : CHi l D cy yJ3_checkIndex_8e157 wsJ3_checkIndex_8e157 { frames := 0, cells := 0, slots := 0, locals := 0 } 0 0 False True [.int a0, .int a1, va_rf a2] s0 out := by
  refine Met.ofW (cc := cJ3_checkIndex_8e157) (maxL := 3) (ret := (some .int)) (by decide) rfl ?_
  intro p e s m args below meth c s₁ B hml hv
  obtain ⟨rfl, hP, hK, hD0, hkx, hsz, hal⟩ := hv
  have hx := B.exec
  have hb := B.bytes
  have hr := B.returns
  have hts := atoms_spec (ws := wsJ3_checkIndex_8e157) B.pre
  have hown : s.vm.findClass RJ3 = some m.cls := findClass_of_methodNamed B.named
  have hlocks := B.notSynchronized
  have hI : HI D cy s s0 s0 s.heap [] 0 False True := ⟨hK, hP, hD0.weaken (fun k q hk _ => Or.inl (pl_mem hk)), va_S.rf, hsz.1, hkx, ⟨hsz, hal⟩, fun _ => rfl, Nat.le_refl _⟩
  have hl := lv_entry ([.int a0, .int a1, va_rf a2]) (n := 3) (by simp [lg_sl, cat_rf, cat_i, cat_l, cat_r])
  rw [lg_entry_eq]
  generalize (lg_sl ([.int a0, .int a1, va_rf a2]) ++ List.replicate (3 - (lg_sl ([.int a0, .int a1, va_rf a2])).length) Slot.unset).toArray = ls at hl ⊢
  have hl : lv_has ls 3 [(0, .int a0), (1, .int a1), (2, va_rf a2)] := (by simpa [lv_args, cat_rf, cat_i, cat_l, cat_r] using hl)
  obtain ⟨K0, hK0, hf⟩ := top_e hf
  unfold fh_J3_checkIndex_8e157 at hf
  refine lv_iload_n hx hb dJ3_checkIndex_8e157_0 rfl (lv_at hl 0 rfl) ?_
  refine lv_if_lt (tgt := 9) hx hb dJ3_checkIndex_8e157_1 (by decide) (fun c1 => ?_) (fun c1 => ?_)
  · replace hf := ifp c1 hf
    refine hq_aload_n hx hb dJ3_checkIndex_8e157_9 rfl (lv_at hl 2 rfl) ?_
    refine lv_iload_n hx hb dJ3_checkIndex_8e157_10 rfl (lv_at hl 0 rfl) ?_
    refine lv_iload_n hx hb dJ3_checkIndex_8e157_11 rfl (lv_at hl 1 rfl) ?_
    exact absurd hf (by simp)
  · replace hf := ifn c1 hf
    refine lv_iload_n hx hb dJ3_checkIndex_8e157_4 rfl (lv_at hl 0 rfl) ?_
    refine lv_iload_n hx hb dJ3_checkIndex_8e157_5 rfl (lv_at hl 1 rfl) ?_
    refine lv_icmp_lt (tgt := 16) hx hb dJ3_checkIndex_8e157_6 (by decide) (fun c2 => ?_) (fun c2 => ?_)
    · replace hf := ifp c2 hf
      refine lv_iload_n hx hb dJ3_checkIndex_8e157_16 rfl (lv_at hl 0 rfl) ?_
      exact hret_i hx hb hr hlocks hI (by decide) (by decide) (fun _ => ⟨trivial, rfl⟩) (ret_e hK0 hf) dJ3_checkIndex_8e157_17
    · replace hf := ifn c2 hf
      refine hq_aload_n hx hb dJ3_checkIndex_8e157_9 rfl (lv_at hl 2 rfl) ?_
      refine lv_iload_n hx hb dJ3_checkIndex_8e157_10 rfl (lv_at hl 0 rfl) ?_
      refine lv_iload_n hx hb dJ3_checkIndex_8e157_11 rfl (lv_at hl 1 rfl) ?_
      exact absurd hf (by simp)

theorem nd_J0_checkIndex_df160 : yJ0_checkIndex_df160.cls ≠ "java/lang/invoke/MethodHandle" ∧ yJ0_checkIndex_df160.cls ≠ "java/lang/invoke/VarHandle" ∧ (parseMethodDescriptor yJ0_checkIndex_df160.desc).map (fun d => d.parameters.length) = some 2 := by decide +kernel
set_option maxHeartbeats 4000000 in
set_option maxRecDepth 100000 in
theorem ch_J0_checkIndex_df160 (l : Launch) (D : va_G) (cy : Nat → ClassId) (a0 : Int32) (a1 : Int32) (s0 : HSt) (out : HSt) (hf : fh_J0_checkIndex_df160 a0 a1 s0 = some out) : CHv l D cy yJ0_checkIndex_df160 wsJ0_checkIndex_df160 { frames := 1, cells := 0, slots := 0, locals := 22 } 0 0 False True [.int a0, .int a1] s0 out := by
  refine Met.ofW (cc := cJ0_checkIndex_df160) (maxL := 2) (ret := none) (by decide) rfl ?_
  intro p e s m args below meth c s₁ B hml hv
  obtain ⟨rfl, hP, hK, hD0, hkx, hsz, hal⟩ := hv
  have hx := B.exec
  have hb := B.bytes
  have hr := B.returns
  have hts := atoms_spec (ws := wsJ0_checkIndex_df160) B.pre
  have hown : s.vm.findClass RJ0 = some m.cls := findClass_of_methodNamed B.named
  have hlocks := B.notSynchronized
  have hI : HI D cy s s0 s0 s.heap [] 0 False True := ⟨hK, hP, hD0.weaken (fun k q hk _ => Or.inl (pl_mem hk)), va_S.rf, hsz.1, hkx, ⟨hsz, hal⟩, fun _ => rfl, Nat.le_refl _⟩
  have hl := lv_entry ([.int a0, .int a1]) (n := 2) (Nat.le_of_ble_eq_true rfl)
  rw [lg_entry_eq]
  generalize (lg_sl ([.int a0, .int a1]) ++ List.replicate (2 - (lg_sl ([.int a0, .int a1])).length) Slot.unset).toArray = ls at hl ⊢
  have hl : lv_has ls 2 [(0, .int a0), (1, .int a1)] := hl
  obtain ⟨K0, hK0, hf⟩ := top_e hf
  unfold fh_J0_checkIndex_df160 at hf
  refine lv_iload_n hx hb dJ0_checkIndex_df160_0 rfl (lv_at hl 0 rfl) ?_
  refine lv_iload_n hx hb dJ0_checkIndex_df160_1 rfl (lv_at hl 1 rfl) ?_
  refine hs_fmt hx hb hts hown (by decide +kernel) hI dJ0_checkIndex_df160_2 (fun fo1 => ?_)
  obtain ⟨x2, hc3, hf⟩ := bnd_b hf
  refine hcall_Si (ex2 := True) (As := [.int a0, .int a1, va_rf fo1]) (rest := []) (n := 3) ⟨hx, hb, hml, hown, hts⟩ (ch_J3_checkIndex_8e157 l D cy a0 a1 fo1 s0 x2 hc3) (va_cwS 3 hts gJ0_checkIndex_df160_J3_checkIndex_8e157 rfl rfl rfl nd_J3_checkIndex_8e157 ⟨Nat.le_of_ble_eq_true rfl, Nat.le_of_ble_eq_true rfl⟩) hI (fun h => h.elim) (fun _ => ⟨trivial, trivial⟩) rfl hl.1 (Nat.le_of_ble_eq_true rfl) dJ0_checkIndex_df160_5 ⟨Nat.le_of_ble_eq_true rfl, Nat.le_of_ble_eq_true rfl⟩ (fun H locs hI => ?_)
  refine lv_pop hx hb dJ0_checkIndex_df160_8 rfl ?_
  exact hret_v hx hb hr hlocks hI (by decide) (by decide) (fun _ => ⟨trivial, rfl⟩) (ret_e hK0 hf) dJ0_checkIndex_df160_9

theorem nd_J1_charAt_3b067 : yJ1_charAt_3b067.cls ≠ "java/lang/invoke/MethodHandle" ∧ yJ1_charAt_3b067.cls ≠ "java/lang/invoke/VarHandle" ∧ (parseMethodDescriptor yJ1_charAt_3b067.desc).map (fun d => d.parameters.length) = some 2 := by decide +kernel
set_option maxHeartbeats 4000000 in
set_option maxRecDepth 100000 in
theorem ch_J1_charAt_3b067 (l : Launch) (D : va_G) (cy : Nat → ClassId) (a0 : Nat) (a1 : Int32) (s0 : HSt) (out : HSt × Int32) (hf : fh_J1_charAt_3b067 a0 a1 s0 = some out) : CHi l D cy yJ1_charAt_3b067 wsJ1_charAt_3b067 { frames := 2, cells := 0, slots := 0, locals := 43 } 0 0 False True [.ref (cy (200 + a0)), .int a1] s0 out := by
  refine Met.ofW (cc := cJ1_charAt_3b067) (maxL := 2) (ret := (some .char)) (by decide) rfl ?_
  intro p e s m args below meth c s₁ B hml hv
  obtain ⟨rfl, hP, hK, hD0, hkx, hsz, hal⟩ := hv
  have hx := B.exec
  have hb := B.bytes
  have hr := B.returns
  have hts := atoms_spec (ws := wsJ1_charAt_3b067) B.pre
  have hown : s.vm.findClass RJ1 = some m.cls := findClass_of_methodNamed B.named
  have hlocks := B.notSynchronized
  have hI : HI D cy s s0 s0 s.heap [] 0 False True := ⟨hK, hP, hD0.weaken (fun k q hk _ => Or.inl (pl_mem hk)), va_S.rf, hsz.1, hkx, ⟨hsz, hal⟩, fun _ => rfl, Nat.le_refl _⟩
  have hl := lv_entry ([.ref (cy (200 + a0)), .int a1]) (n := 2) (Nat.le_of_ble_eq_true rfl)
  rw [lg_entry_eq]
  generalize (lg_sl ([.ref (cy (200 + a0)), .int a1]) ++ List.replicate (2 - (lg_sl ([.ref (cy (200 + a0)), .int a1])).length) Slot.unset).toArray = ls at hl ⊢
  have hl : lv_has ls 2 [(0, .ref (cy (200 + a0))), (1, .int a1)] := hl
  obtain ⟨K0, hK0, hf⟩ := top_e hf
  unfold fh_J1_charAt_3b067 at hf
  refine lv_iload_n hx hb dJ1_charAt_3b067_0 rfl (lv_at hl 1 rfl) ?_
  refine lv_aload_n hx hb dJ1_charAt_3b067_1 rfl (lv_at hl 0 rfl) ?_
  obtain ⟨k1, hf⟩ := chk_b hf
  refine hs_len hx hb hI (of_decide_eq_true k1) dJ1_charAt_3b067_2 ?_
  obtain ⟨x2, hc3, hf⟩ := bnd_b hf
  refine hcall_Sv (ex2 := True) (As := [.int a1, .int (nI (sLen.getD a0 0))]) (rest := []) (n := 2) ⟨hx, hb, hml, hown, hts⟩ (ch_J0_checkIndex_df160 l D cy a1 (nI (sLen.getD a0 0)) s0 x2 hc3) (va_cwS 2 hts gJ1_charAt_3b067_J0_checkIndex_df160 rfl rfl rfl nd_J0_checkIndex_df160 ⟨Nat.le_of_ble_eq_true rfl, Nat.le_of_ble_eq_true rfl⟩) hI (fun h => h.elim) (fun _ => ⟨trivial, trivial⟩) rfl hl.1 (Nat.le_of_ble_eq_true rfl) dJ1_charAt_3b067_3 ⟨Nat.le_of_ble_eq_true rfl, Nat.le_of_ble_eq_true rfl⟩ (fun H locs hI => ?_)
  refine lv_aload_n hx hb dJ1_charAt_3b067_6 rfl (lv_at hl 0 rfl) ?_
  refine lv_iload_n hx hb dJ1_charAt_3b067_7 rfl (lv_at hl 1 rfl) ?_
  obtain ⟨k4, hf⟩ := chk_b hf
  refine hs_bal hx hb hI (of_decide_eq_true k1) k4 dJ1_charAt_3b067_8 ?_
  refine lv_sipush (v := 255) hx hb dJ1_charAt_3b067_9 (by decide) ?_
  refine lv_iand hx hb dJ1_charAt_3b067_12 ?_
  refine lv_i2c (v := (((((sByt.getD a0 []).getD a1.toNatClampNeg 0) &&& (255 : Int32)).toUInt32 % 65536).toInt32)) hx hb dJ1_charAt_3b067_13 rfl ?_
  obtain ⟨k5, hf⟩ := chk_b hf
  exact hret_c hx hb hr (nar_c k5) hlocks hI (by decide) (by decide) (fun _ => ⟨trivial, rfl⟩) (ret_e hK0 hf) dJ1_charAt_3b067_14

theorem nd_J0_charAt_5068e : yJ0_charAt_5068e.cls ≠ "java/lang/invoke/MethodHandle" ∧ yJ0_charAt_5068e.cls ≠ "java/lang/invoke/VarHandle" ∧ (parseMethodDescriptor yJ0_charAt_5068e.desc).map (fun d => d.parameters.length) = some 1 := by decide +kernel
set_option maxHeartbeats 4000000 in
set_option maxRecDepth 100000 in
theorem ch_J0_charAt_5068e (l : Launch) (D : va_G) (cy : Nat → ClassId) (h : Nat) (a1 : Int32) (s0 : HSt) (out : HSt × Int32) (hf : fh_J0_charAt_5068e h a1 s0 = some out) : CHi l D cy yJ0_charAt_5068e wsJ0_charAt_5068e { frames := 3, cells := 0, slots := 0, locals := 64 } 0 0 False True [.ref (cy (100 + h)), .int a1] s0 out := by
  refine Met.ofW (cc := cJ0_charAt_5068e) (maxL := 2) (ret := (some .char)) (by decide) rfl ?_
  intro p e s m args below meth c s₁ B hml hv
  obtain ⟨rfl, hP, hK, hD0, hkx, hsz, hal⟩ := hv
  have hx := B.exec
  have hb := B.bytes
  have hr := B.returns
  have hts := atoms_spec (ws := wsJ0_charAt_5068e) B.pre
  have hown : s.vm.findClass RJ0 = some m.cls := findClass_of_methodNamed B.named
  have hlocks := B.notSynchronized
  have hI : HI D cy s s0 s0 s.heap [] 0 False True := ⟨hK, hP, hD0.weaken (fun k q hk _ => Or.inl (pl_mem hk)), va_S.rf, hsz.1, hkx, ⟨hsz, hal⟩, fun _ => rfl, Nat.le_refl _⟩
  have hl := lv_entry ([.ref (cy (100 + h)), .int a1]) (n := 2) (Nat.le_of_ble_eq_true rfl)
  rw [lg_entry_eq]
  generalize (lg_sl ([.ref (cy (100 + h)), .int a1]) ++ List.replicate (2 - (lg_sl ([.ref (cy (100 + h)), .int a1])).length) Slot.unset).toArray = ls at hl ⊢
  have hl : lv_has ls 2 [(0, .ref (cy (100 + h))), (1, .int a1)] := hl
  obtain ⟨K0, hK0, hf⟩ := top_e hf
  unfold fh_J0_charAt_5068e at hf
  refine lv_aload_n hx hb dJ0_charAt_5068e_0 rfl (lv_at hl 0 rfl) ?_
  obtain ⟨k1, hf⟩ := chk_b hf
  obtain ⟨x2, hc3, hf⟩ := bnd_b hf
  refine hcall_Ti (ex2 := True) (As := []) (rest := []) (n := 0) (of_decide_eq_true k1) ⟨hx, hb, hml, hown, hts⟩ (ch_J0_isLatin1_aae02 l D cy h s0 x2 hc3) (cwV 0 hts gJ0_charAt_5068e_J0_isLatin1_aae02 rfl rfl rfl ⟨rfl, nd_J0_isLatin1_aae02⟩ ⟨Nat.le_of_ble_eq_true rfl, Nat.le_of_ble_eq_true rfl⟩) hI (fun h => h.elim) (fun _ => ⟨trivial, trivial⟩) rfl hl.1 (Nat.le_of_ble_eq_true rfl) dJ0_charAt_5068e_1 ⟨Nat.le_of_ble_eq_true rfl, Nat.le_of_ble_eq_true rfl⟩ (fun H locs hI => ?_)
  refine lv_if_eq (tgt := 16) hx hb dJ0_charAt_5068e_4 (by decide) (fun c4 => ?_) (fun c4 => ?_)
  · replace hf := ifp c4 hf
    refine lv_aload_n hx hb dJ0_charAt_5068e_16 rfl (lv_at hl 0 rfl) ?_
    refine hs_val hx hb hts hown (by decide +kernel) hI (of_decide_eq_true k1) dJ0_charAt_5068e_17 ?_
    refine lv_iload_n hx hb dJ0_charAt_5068e_20 rfl (lv_at hl 1 rfl) ?_
    exact absurd hf (by simp)
  · replace hf := ifn c4 hf
    refine lv_aload_n hx hb dJ0_charAt_5068e_7 rfl (lv_at hl 0 rfl) ?_
    refine hs_val hx hb hts hown (by decide +kernel) hI (of_decide_eq_true k1) dJ0_charAt_5068e_8 ?_
    refine lv_iload_n hx hb dJ0_charAt_5068e_11 rfl (lv_at hl 1 rfl) ?_
    obtain ⟨x5, hc6, hf⟩ := bnd_b hf
    refine hcall_Si (ex2 := True) (As := [.ref (cy (200 + h)), .int a1]) (rest := []) (n := 2) ⟨hx, hb, hml, hown, hts⟩ (ch_J1_charAt_3b067 l D cy h a1 x2.1 x5 hc6) (va_cwS 2 hts gJ0_charAt_5068e_J1_charAt_3b067 rfl rfl rfl nd_J1_charAt_3b067 ⟨Nat.le_of_ble_eq_true rfl, Nat.le_of_ble_eq_true rfl⟩) hI (fun h => h.elim) (fun _ => ⟨trivial, trivial⟩) rfl hl.1 (Nat.le_of_ble_eq_true rfl) dJ0_charAt_5068e_12 ⟨Nat.le_of_ble_eq_true rfl, Nat.le_of_ble_eq_true rfl⟩ (fun H locs hI => ?_)
    obtain ⟨k7, hf⟩ := chk_b hf
    exact hret_c hx hb hr (nar_c k7) hlocks hI (by decide) (by decide) (fun _ => ⟨trivial, rfl⟩) (ret_e hK0 hf) dJ0_charAt_5068e_15

theorem nd_J0_coder_7d493 : yJ0_coder_7d493.cls ≠ "java/lang/invoke/MethodHandle" ∧ yJ0_coder_7d493.cls ≠ "java/lang/invoke/VarHandle" ∧ (parseMethodDescriptor yJ0_coder_7d493.desc).map (fun d => d.parameters.length) = some 0 := by decide +kernel
set_option maxHeartbeats 4000000 in
set_option maxRecDepth 100000 in
theorem ch_J0_coder_7d493 (l : Launch) (D : va_G) (cy : Nat → ClassId) (h : Nat)  (s0 : HSt) (out : HSt × Int32) (hf : fh_J0_coder_7d493 h s0 = some out) : CHi l D cy yJ0_coder_7d493 wsJ0_coder_7d493 { frames := 0, cells := 0, slots := 0, locals := 0 } 0 0 False True [.ref (cy (100 + h))] s0 out := by
  refine Met.ofW (cc := cJ0_coder_7d493) (maxL := 1) (ret := (some .byte)) (by decide) rfl ?_
  intro p e s m args below meth c s₁ B hml hv
  obtain ⟨rfl, hP, hK, hD0, hkx, hsz, hal⟩ := hv
  have hx := B.exec
  have hb := B.bytes
  have hr := B.returns
  have hts := atoms_spec (ws := wsJ0_coder_7d493) B.pre
  have hown : s.vm.findClass RJ0 = some m.cls := findClass_of_methodNamed B.named
  have hlocks := B.notSynchronized
  have hI : HI D cy s s0 s0 s.heap [] 0 False True := ⟨hK, hP, hD0.weaken (fun k q hk _ => Or.inl (pl_mem hk)), va_S.rf, hsz.1, hkx, ⟨hsz, hal⟩, fun _ => rfl, Nat.le_refl _⟩
  have hl := lv_entry ([.ref (cy (100 + h))]) (n := 1) (Nat.le_of_ble_eq_true rfl)
  rw [lg_entry_eq]
  generalize (lg_sl ([.ref (cy (100 + h))]) ++ List.replicate (1 - (lg_sl ([.ref (cy (100 + h))])).length) Slot.unset).toArray = ls at hl ⊢
  have hl : lv_has ls 1 [(0, .ref (cy (100 + h)))] := hl
  obtain ⟨K0, hK0, hf⟩ := top_e hf
  unfold fh_J0_coder_7d493 at hf
  refine hs_cmp hx hb hts hown (by decide +kernel) hI dJ0_coder_7d493_0 ?_
  refine lv_if_eq (tgt := 13) hx hb dJ0_coder_7d493_3 (by decide) (fun c1 => ?_) (fun c1 => ?_)
  · replace hf := ifp c1 hf
    refine lv_iconst (v := 1) hx hb dJ0_coder_7d493_13 (by decide) ?_
    obtain ⟨k2, hf⟩ := chk_b hf
    exact hret_b hx hb hr (nar_b k2) hlocks hI (by decide) (by decide) (fun _ => ⟨trivial, rfl⟩) (ret_e hK0 hf) dJ0_coder_7d493_14
  · replace hf := ifn c1 hf
    refine lv_aload_n hx hb dJ0_coder_7d493_6 rfl (lv_at hl 0 rfl) ?_
    obtain ⟨k3, hf⟩ := chk_b hf
    refine hs_cod hx hb hts hown (by decide +kernel) hI (of_decide_eq_true k3) dJ0_coder_7d493_7 ?_
    refine lv_goto (tgt := 14) hx hb dJ0_coder_7d493_10 (by decide) ?_
    obtain ⟨k4, hf⟩ := chk_b hf
    exact hret_b hx hb hr (nar_b k4) hlocks hI (by decide) (by decide) (fun _ => ⟨trivial, rfl⟩) (ret_e hK0 hf) dJ0_coder_7d493_14

theorem nd_J0_length_8abf5 : yJ0_length_8abf5.cls ≠ "java/lang/invoke/MethodHandle" ∧ yJ0_length_8abf5.cls ≠ "java/lang/invoke/VarHandle" ∧ (parseMethodDescriptor yJ0_length_8abf5.desc).map (fun d => d.parameters.length) = some 0 := by decide +kernel
set_option maxHeartbeats 4000000 in
set_option maxRecDepth 100000 in
theorem ch_J0_length_8abf5 (l : Launch) (D : va_G) (cy : Nat → ClassId) (h : Nat)  (s0 : HSt) (out : HSt × Int32) (hf : fh_J0_length_8abf5 h s0 = some out) : CHi l D cy yJ0_length_8abf5 wsJ0_length_8abf5 { frames := 1, cells := 0, slots := 0, locals := 20 } 0 0 False True [.ref (cy (100 + h))] s0 out := by
  refine Met.ofW (cc := cJ0_length_8abf5) (maxL := 1) (ret := (some .int)) (by decide) rfl ?_
  intro p e s m args below meth c s₁ B hml hv
  obtain ⟨rfl, hP, hK, hD0, hkx, hsz, hal⟩ := hv
  have hx := B.exec
  have hb := B.bytes
  have hr := B.returns
  have hts := atoms_spec (ws := wsJ0_length_8abf5) B.pre
  have hown : s.vm.findClass RJ0 = some m.cls := findClass_of_methodNamed B.named
  have hlocks := B.notSynchronized
  have hI : HI D cy s s0 s0 s.heap [] 0 False True := ⟨hK, hP, hD0.weaken (fun k q hk _ => Or.inl (pl_mem hk)), va_S.rf, hsz.1, hkx, ⟨hsz, hal⟩, fun _ => rfl, Nat.le_refl _⟩
  have hl := lv_entry ([.ref (cy (100 + h))]) (n := 1) (Nat.le_of_ble_eq_true rfl)
  rw [lg_entry_eq]
  generalize (lg_sl ([.ref (cy (100 + h))]) ++ List.replicate (1 - (lg_sl ([.ref (cy (100 + h))])).length) Slot.unset).toArray = ls at hl ⊢
  have hl : lv_has ls 1 [(0, .ref (cy (100 + h)))] := hl
  obtain ⟨K0, hK0, hf⟩ := top_e hf
  unfold fh_J0_length_8abf5 at hf
  refine lv_aload_n hx hb dJ0_length_8abf5_0 rfl (lv_at hl 0 rfl) ?_
  obtain ⟨k1, hf⟩ := chk_b hf
  refine hs_val hx hb hts hown (by decide +kernel) hI (of_decide_eq_true k1) dJ0_length_8abf5_1 ?_
  refine hs_len hx hb hI (of_decide_eq_true k1) dJ0_length_8abf5_4 ?_
  refine lv_aload_n hx hb dJ0_length_8abf5_5 rfl (lv_at hl 0 rfl) ?_
  obtain ⟨x2, hc3, hf⟩ := bnd_b hf
  refine hcall_Ti (ex2 := True) (As := []) (rest := [.int (nI (sLen.getD h 0))]) (n := 0) (of_decide_eq_true k1) ⟨hx, hb, hml, hown, hts⟩ (ch_J0_coder_7d493 l D cy h s0 x2 hc3) (cwV 0 hts gJ0_length_8abf5_J0_coder_7d493 rfl rfl rfl ⟨rfl, nd_J0_coder_7d493⟩ ⟨Nat.le_of_ble_eq_true rfl, Nat.le_of_ble_eq_true rfl⟩) hI (fun h => h.elim) (fun _ => ⟨trivial, trivial⟩) rfl hl.1 (Nat.le_of_ble_eq_true rfl) dJ0_length_8abf5_6 ⟨Nat.le_of_ble_eq_true rfl, Nat.le_of_ble_eq_true rfl⟩ (fun H locs hI => ?_)
  refine lv_ishr hx hb dJ0_length_8abf5_9 ?_
  exact hret_i hx hb hr hlocks hI (by decide) (by decide) (fun _ => ⟨trivial, rfl⟩) (ret_e hK0 hf) dJ0_length_8abf5_10

theorem nd_J7_copyOf_59c91 : yJ7_copyOf_59c91.cls ≠ "java/lang/invoke/MethodHandle" ∧ yJ7_copyOf_59c91.cls ≠ "java/lang/invoke/VarHandle" ∧ (parseMethodDescriptor yJ7_copyOf_59c91.desc).map (fun d => d.parameters.length) = some 2 := by decide +kernel
set_option maxHeartbeats 4000000 in
set_option maxRecDepth 100000 in
theorem ch_J7_copyOf_59c91 (l : Launch) (D : va_G) (cy : Nat → ClassId) (a0 : Option Nat) (a1 : Int32) (s0 : HSt) (out : HSt × Option Nat) (hf : fh_J7_copyOf_59c91 a0 a1 s0 = some out) : CHq l D cy yJ7_copyOf_59c91 wsJ7_copyOf_59c91 { frames := 1, cells := 1, slots := 400, locals := 60 } 1 400 True True [va_rf a0, .int a1] s0 out := by
  refine Met.ofW (cc := cJ7_copyOf_59c91) (maxL := 3) (ret := (some (.array .int))) (by decide) rfl ?_
  intro p e s m args below meth c s₁ B hml hv
  obtain ⟨rfl, hP, hK, hD0, hkx, hsz, hal⟩ := hv
  have hx := B.exec
  have hb := B.bytes
  have hr := B.returns
  have hts := atoms_spec (ws := wsJ7_copyOf_59c91) B.pre
  have hown : s.vm.findClass RJ7 = some m.cls := findClass_of_methodNamed B.named
  have hlocks := B.notSynchronized
  have hI : HI D cy s s0 s0 s.heap [] 0 True True := ⟨hK, hP, hD0.weaken (fun k q hk _ => Or.inl (pl_mem hk)), va_S.rf, hsz.1, hkx, ⟨hsz, hal⟩, fun _ => rfl, Nat.le_refl _⟩
  have hl := lv_entry ([va_rf a0, .int a1]) (n := 3) (by simp [lg_sl, cat_rf, cat_i, cat_l, cat_r])
  rw [lg_entry_eq]
  generalize (lg_sl ([va_rf a0, .int a1]) ++ List.replicate (3 - (lg_sl ([va_rf a0, .int a1])).length) Slot.unset).toArray = ls at hl ⊢
  have hl : lv_has ls 3 [(0, va_rf a0), (1, .int a1)] := (by simpa [lv_args, cat_rf, cat_i, cat_l, cat_r] using hl)
  obtain ⟨K0, hK0, hf⟩ := top_e hf
  unfold fh_J7_copyOf_59c91 at hf
  refine lv_iload_n hx hb dJ7_copyOf_59c91_0 rfl (lv_at hl 1 rfl) ?_
  refine hq_aload_n hx hb dJ7_copyOf_59c91_1 rfl (lv_at hl 0 rfl) ?_
  obtain ⟨b1, hd2, hf⟩ := bnd_b hf
  obtain ⟨hq3, hk4⟩ := dr_e hd2
  refine W.eq (g2 := F0 m 2 ls [.ref b1, .int a1]) (by rw [hq3]; rfl) ?_
  refine ha_22 hx hb hI hk4 dJ7_copyOf_59c91_2 ?_
  refine lv_icmp_ne (tgt := 14) hx hb dJ7_copyOf_59c91_3 (by decide) (fun c5 => ?_) (fun c5 => ?_)
  · replace hf := ifn c5 hf
    refine lv_iload_n hx hb dJ7_copyOf_59c91_14 rfl (lv_at hl 1 rfl) ?_
    obtain ⟨k6, hf⟩ := chk_b hf
    have hk7 : ¬ a1 < 0 ∧ a1.toNatClampNeg ≤ 400 := of_decide_eq_true k6
    refine hn_I (N := a1.toNatClampNeg) hx hb hts (by decide +kernel) hI trivial trivial hk7.1 rfl (by have := hk7.2; show _ * 4 ≤ _; omega) (Nat.le_of_ble_eq_true rfl) (Nat.le_trans (Nat.add_le_add_left hk7.2 _) (Nat.le_of_ble_eq_true rfl)) dJ7_copyOf_59c91_15 (fun H hI => ?_)
    refine W.widen (k := 1) (n := 400) (by decide) (Nat.add_le_add_left hk7.2 _) ?_
    obtain ⟨x8, hx8, hf⟩ := bnd_b hf
    replace hx8 := Option.some.inj hx8
    rw [hx8] at hI
    have hk9 : gK x8 (gN s0) = 22 := by rw [← hx8]; exact nO_K
    refine lv_astore_n (lv' := [(2, .ref (gN s0)), (0, va_rf a0), (1, .int a1)]) hx hb dJ7_copyOf_59c91_17 rfl hl (by decide) (by first | rfl | (simp [cat_rf, cat_i, cat_l, cat_r]; done) | (simp [cat_rf, cat_i, cat_l, cat_r]; decide)) (fun ls hl => ?_)
    refine hq_aload_n hx hb dJ7_copyOf_59c91_18 rfl (lv_at hl 1 rfl) ?_
    refine lv_iconst (v := 0) hx hb dJ7_copyOf_59c91_19 (by decide) ?_
    refine lv_aload_n hx hb dJ7_copyOf_59c91_20 rfl (lv_at hl 0 rfl) ?_
    refine lv_iconst (v := 0) hx hb dJ7_copyOf_59c91_21 (by decide) ?_
    refine hq_aload_n hx hb dJ7_copyOf_59c91_22 rfl (lv_at hl 1 rfl) ?_
    refine W.eq (g2 := F0 m 23 ls [.ref b1, .int (0 : Int32), .ref (gN s0), .int (0 : Int32), va_rf a0]) (by rw [hq3]; rfl) ?_
    obtain ⟨k10, hf⟩ := chk_b hf
    refine ha_22 hx hb hI (isk_k k10) dJ7_copyOf_59c91_23 ?_
    refine lv_iload_n hx hb dJ7_copyOf_59c91_24 rfl (lv_at hl 2 rfl) ?_
    refine va_mmin hx hb (hml.trans hl.1.symm) hown (hts (.methodLink RJ7 304 Lib.Math.min.name) (by decide +kernel)) (hts (.static Lib.Math.min.name) (by decide +kernel)) (hts (.initialized "java/lang/Math") (by decide +kernel)) (hts (.code Lib.Math.min.name Lib.Math.min.code 2 (some .int)) (by decide +kernel)) (Nat.le_of_ble_eq_true rfl) (Nat.le_trans (m := 40) (by simp [cat_rf, cat_i, cat_l, cat_r]) (Nat.le_of_ble_eq_true rfl)) (Nat.le_of_ble_eq_true rfl) (Nat.le_of_ble_eq_true rfl) dJ7_copyOf_59c91_25 ?_
    refine W.eq (g2 := F0 m 28 ls [.int (if a1 < (nI (gL x8 b1)) then a1 else (nI (gL x8 b1))), .int (0 : Int32), .ref (gN s0), .int (0 : Int32), .ref b1]) (by rw [hq3]; rfl) ?_
    obtain ⟨k11, hf⟩ := chk_b hf
    refine h_copy hx hb (hml.trans hl.1.symm) hown (hts (.methodLink RJ7 150 arraycopyName) (by decide +kernel)) (hts (.native arraycopyName) (by decide +kernel)) (hts (.static arraycopyName) (by decide +kernel)) (hts (.initialized "java/lang/System") (by decide +kernel)) hI (isk_k k10) hk9 k11 (Nat.le_of_ble_eq_true rfl) (Nat.le_of_ble_eq_true rfl) dJ7_copyOf_59c91_28 (fun H locs hI => ?_)
    obtain ⟨x12, hx12, hf⟩ := bnd_b hf
    replace hx12 := Option.some.inj hx12
    rw [hx12] at hI
    have hk13 : gK x12 (gN s0) = 22 := by rw [← hx12]; exact (gK_sAf.trans hk9)
    have hk14 : gK x12 b1 = 22 := by rw [← hx12]; exact (gK_sAf.trans (isk_k k10))
    refine lv_aload_n hx hb dJ7_copyOf_59c91_31 rfl (lv_at hl 0 rfl) ?_
    refine W.eq (g2 := F0 m 32 ls [va_rf (some (gN s0))]) rfl ?_
    exact hret_q hx hb hr (by first | exact Or.inl ⟨_, rfl⟩ | exact Or.inr ⟨_, rfl⟩) hlocks hI (by decide) (by decide) (fun _ => ⟨trivial, rfl⟩) (ret_e hK0 hf) dJ7_copyOf_59c91_32
  · replace hf := ifp c5 hf
    refine hq_aload_n hx hb dJ7_copyOf_59c91_6 rfl (lv_at hl 0 rfl) ?_
    refine W.eq (g2 := F0 m 7 ls [.ref b1]) (by rw [hq3]; rfl) ?_
    obtain ⟨k15, hf⟩ := chk_b hf
    have hk16 : gL s0 b1 ≤ 400 := of_decide_eq_true k15
    refine h_clone hx hb (hml.trans hl.1.symm) hown hts (by decide +kernel) (by decide +kernel) (by decide +kernel) (by decide +kernel) (by decide +kernel) hI trivial trivial hk4 (Nat.le_of_ble_eq_true rfl) (Nat.le_of_ble_eq_true rfl) (Nat.le_of_ble_eq_true rfl) (Nat.le_trans (Nat.add_le_add_left hk16 _) (Nat.le_of_ble_eq_true rfl)) dJ7_copyOf_59c91_7 (fun H hI => ?_)
    refine W.widen (k := 1) (n := 400) (by decide) (Nat.add_le_add_left hk16 _) ?_
    obtain ⟨x17, hx17, hf⟩ := bnd_b hf
    replace hx17 := Option.some.inj hx17
    rw [hx17] at hI
    have hk18 : gK x17 (gN s0) = 22 := by rw [← hx17]; exact nO_K
    refine h_cast hx hb hown hts (by decide +kernel) hI hk18 dJ7_copyOf_59c91_10 ?_
    refine W.eq (g2 := F0 m 13 ls [va_rf (some (gN s0))]) rfl ?_
    exact hret_q hx hb hr (by first | exact Or.inl ⟨_, rfl⟩ | exact Or.inr ⟨_, rfl⟩) hlocks hI (by decide) (by decide) (fun _ => ⟨trivial, rfl⟩) (ret_e hK0 hf) dJ7_copyOf_59c91_13

theorem nd_J7_fill_53178 : yJ7_fill_53178.cls ≠ "java/lang/invoke/MethodHandle" ∧ yJ7_fill_53178.cls ≠ "java/lang/invoke/VarHandle" ∧ (parseMethodDescriptor yJ7_fill_53178.desc).map (fun d => d.parameters.length) = some 2 := by decide +kernel
set_option maxHeartbeats 4000000 in
set_option maxRecDepth 100000 in
theorem ch_J7_fill_53178 (l : Launch) (D : va_G) (cy : Nat → ClassId) (a0 : Option Nat) (a1 : Int32) (s0 : HSt) (out : HSt) (hf : fh_J7_fill_53178 a0 a1 s0 = some out) : CHv l D cy yJ7_fill_53178 wsJ7_fill_53178 { frames := 0, cells := 0, slots := 0, locals := 0 } 0 0 False True [va_rf a0, .int a1] s0 out := by
  refine Met.ofW (cc := cJ7_fill_53178) (maxL := 4) (ret := none) (by decide) rfl ?_
  intro p e s m args below meth c s₁ B hml hv
  obtain ⟨rfl, hP, hK, hD0, hkx, hsz, hal⟩ := hv
  have hx := B.exec
  have hb := B.bytes
  have hr := B.returns
  have hts := atoms_spec (ws := wsJ7_fill_53178) B.pre
  have hown : s.vm.findClass RJ7 = some m.cls := findClass_of_methodNamed B.named
  have hlocks := B.notSynchronized
  have hI : HI D cy s s0 s0 s.heap [] 0 False True := ⟨hK, hP, hD0.weaken (fun k q hk _ => Or.inl (pl_mem hk)), va_S.rf, hsz.1, hkx, ⟨hsz, hal⟩, fun _ => rfl, Nat.le_refl _⟩
  have hl := lv_entry ([va_rf a0, .int a1]) (n := 4) (by simp [lg_sl, cat_rf, cat_i, cat_l, cat_r])
  rw [lg_entry_eq]
  generalize (lg_sl ([va_rf a0, .int a1]) ++ List.replicate (4 - (lg_sl ([va_rf a0, .int a1])).length) Slot.unset).toArray = ls at hl ⊢
  have hl : lv_has ls 4 [(0, va_rf a0), (1, .int a1)] := (by simpa [lv_args, cat_rf, cat_i, cat_l, cat_r] using hl)
  obtain ⟨K0, hK0, hf⟩ := top_e hf
  have B_20 : ∀   (st : HSt) (H : Heap) (locs : List Loc) (ls : Array Slot), HI D cy s s0 st H locs 0 False True → lv_has ls 4 [] → (fh_J7_fill_53178_j20 st).bind K0 = some out → W p l e (headSpec wsJ7_fill_53178 { frames := 0, cells := 0, slots := 0, locals := 0 }).room s m (([va_rf a0, .int a1] : List Value).toArray) below meth c H locs 0 0 (MQ below (HQv D cy s0 0 True out) ([va_rf a0, .int a1] : List Value).toArray s 0 0 (hF s0)) (F0 m 20 ls []) := by
    intro st H locs ls hI hl hf
    unfold fh_J7_fill_53178_j20 at hf
    exact hret_v hx hb hr hlocks hI (by decide) (by decide) (fun _ => ⟨trivial, rfl⟩) (ret_e hK0 hf) dJ7_fill_53178_20
  have L_5 : ∀ (v0 : Option Nat) (v1 : Int32) (v3 : Int32) (n : Nat) (v2 : Int32) (st : HSt) (H : Heap) (locs : List Loc) (ls : Array Slot), HI D cy s s0 st H locs 0 False True → lv_has ls 4 [(0, va_rf v0), (1, .int v1), (2, .int v2), (3, .int v3)] → (iter (fun x : (Int32 × HSt) => fh_J7_fill_53178_s5 v0 v1 v3 x.1 x.2) n (v2, st)).bind (fun x => ((Sum.elim (fun o : HSt => (some o : Option (HSt))) (fun x : (Int32 × HSt) => fh_J7_fill_53178_j20 x.2)) x).bind K0) = some out → W p l e (headSpec wsJ7_fill_53178 { frames := 0, cells := 0, slots := 0, locals := 0 }).room s m (([va_rf a0, .int a1] : List Value).toArray) below meth c H locs 0 0 (MQ below (HQv D cy s0 0 True out) ([va_rf a0, .int a1] : List Value).toArray s 0 0 (hF s0)) (F0 m 5 ls []) := by
    intro v0 v1 v3 n
    induction n with
    | zero => intro v2 st H locs ls hI hl hf; exact (iter_0 hf).elim
    | succ n ih =>
      intro v2 st H locs ls hI hl hf
      obtain ⟨K1, hK1, hf⟩ := iter_e hf
      replace hf : (fh_J7_fill_53178_s5 v0 v1 v3 v2 st).bind K1 = some out := hf
      unfold fh_J7_fill_53178_s5 at hf
      refine lv_iload_n hx hb dJ7_fill_53178_5 rfl (lv_at hl 2 rfl) ?_
      refine lv_iload_n hx hb dJ7_fill_53178_6 rfl (lv_at hl 3 rfl) ?_
      refine lv_icmp_ge (tgt := 20) hx hb dJ7_fill_53178_7 (by decide) (fun c5 => ?_) (fun c5 => ?_)
      · replace hf := ifp c5 hf
        replace hf := exit_b hK1 hf
        exact B_20  st H locs ls hI (lv_sub hl [] rfl) hf
      · replace hf := ifn c5 hf
        refine hq_aload_n hx hb dJ7_fill_53178_10 rfl (lv_at hl 0 rfl) ?_
        refine lv_iload_n hx hb dJ7_fill_53178_11 rfl (lv_at hl 2 rfl) ?_
        refine lv_iload_n hx hb dJ7_fill_53178_12 rfl (lv_at hl 1 rfl) ?_
        obtain ⟨b6, hd7, hf⟩ := bnd_b hf
        obtain ⟨hq8, hk9⟩ := dr_e hd7
        refine W.eq (g2 := F0 m 13 ls [.int v1, .int v2, .ref b6]) (by rw [hq8]; rfl) ?_
        obtain ⟨k10, hf⟩ := chk_b hf
        refine hs_I hx hb hI hk9 k10 dJ7_fill_53178_13 (fun H locs hI => ?_)
        refine lv_iinc (v := (v2 + 1)) (lv' := [(2, .int (v2 + 1)), (0, va_rf v0), (1, .int v1), (3, .int v3)]) hx hb dJ7_fill_53178_14 hl (k := 2) rfl (ci_ _ (by decide)) (by decide) (by first | rfl | (simp [cat_rf, cat_i, cat_l, cat_r]; done) | (simp [cat_rf, cat_i, cat_l, cat_r]; decide)) (fun ls hl => ?_)
        refine lv_goto (tgt := 5) hx hb dJ7_fill_53178_17 (by decide) ?_
        replace hf := cont_b hK1 hf
        exact ih (v2 + 1) (sA st b6 v2.toNatClampNeg v1) H locs ls hI (lv_sub hl [1, 2, 0, 3] rfl) hf
  unfold fh_J7_fill_53178 at hf
  refine lv_iconst (v := 0) hx hb dJ7_fill_53178_0 (by decide) ?_
  refine lv_istore_n (lv' := [(2, .int (0 : Int32)), (0, va_rf a0), (1, .int a1)]) hx hb dJ7_fill_53178_1 rfl hl (by decide) (by first | rfl | (simp [cat_rf, cat_i, cat_l, cat_r]; done) | (simp [cat_rf, cat_i, cat_l, cat_r]; decide)) (fun ls hl => ?_)
  refine hq_aload_n hx hb dJ7_fill_53178_2 rfl (lv_at hl 1 rfl) ?_
  obtain ⟨b1, hd2, hf⟩ := bnd_b hf
  obtain ⟨hq3, hk4⟩ := dr_e hd2
  refine W.eq (g2 := F0 m 3 ls [.ref b1]) (by rw [hq3]; rfl) ?_
  refine ha_22 hx hb hI hk4 dJ7_fill_53178_3 ?_
  refine lv_istore_n (lv' := [(3, .int (nI (gL s0 b1))), (2, .int (0 : Int32)), (0, va_rf a0), (1, .int a1)]) hx hb dJ7_fill_53178_4 rfl hl (by decide) (by first | rfl | (simp [cat_rf, cat_i, cat_l, cat_r]; done) | (simp [cat_rf, cat_i, cat_l, cat_r]; decide)) (fun ls hl => ?_)
  exact L_5 a0 a1 (nI (gL s0 b1)) mFuel (0 : Int32) s0 s.heap [] ls hI (lv_sub hl [2, 3, 1, 0] rfl) (asc_b hf)

theorem nd_J9_floorMod_7cf53 : yJ9_floorMod_7cf53.cls ≠ "java/lang/invoke/MethodHandle" ∧ yJ9_floorMod_7cf53.cls ≠ "java/lang/invoke/VarHandle" ∧ (parseMethodDescriptor yJ9_floorMod_7cf53.desc).map (fun d => d.parameters.length) = some 2 := by decide +kernel
set_option maxHeartbeats 4000000 in
set_option maxRecDepth 100000 in
theorem ch_J9_floorMod_7cf53 (l : Launch) (D : va_G) (cy : Nat → ClassId) (a0 : Int32) (a1 : Int32) (s0 : HSt) (out : HSt × Int32) (hf : fh_J9_floorMod_7cf53 a0 a1 s0 = some out) : CHi l D cy yJ9_floorMod_7cf53 wsJ9_floorMod_7cf53 { frames := 0, cells := 0, slots := 0, locals := 0 } 0 0 False True [.int a0, .int a1] s0 out := by
  refine va_MetF (cc := cJ9_floorMod_7cf53) (maxL := 3) (ret := (some .int)) (by decide +kernel) rfl ?_
  intro p e s m args below meth c s₁ B hml hv
  obtain ⟨rfl, hP, hK, hD0, hkx, hsz, hal⟩ := hv
  have hx := B.exec
  have hb := B.bytes
  have hr := B.returns
  have hts := atoms_spec (ws := wsJ9_floorMod_7cf53) B.pre
  have hown : s.vm.findClass RJ9 = some m.cls := findClass_of_methodNamed B.named
  have hlocks := B.notSynchronized
  have hI : HI D cy s s0 s0 s.heap [] 0 False True := ⟨hK, hP, hD0.weaken (fun k q hk _ => Or.inl (pl_mem hk)), va_S.rf, hsz.1, hkx, ⟨hsz, hal⟩, fun _ => rfl, Nat.le_refl _⟩
  have hl := lv_entry ([.int a0, .int a1]) (n := 3) (Nat.le_of_ble_eq_true rfl)
  rw [lg_entry_eq]
  generalize (lg_sl ([.int a0, .int a1]) ++ List.replicate (3 - (lg_sl ([.int a0, .int a1])).length) Slot.unset).toArray = ls at hl ⊢
  have hl : lv_has ls 3 [(0, .int a0), (1, .int a1)] := hl
  obtain ⟨K0, hK0, hf⟩ := top_e hf
  unfold fh_J9_floorMod_7cf53 at hf
  refine lv_iload_n hx hb dJ9_floorMod_7cf53_0 rfl (lv_at hl 0 rfl) ?_
  refine lv_iload_n hx hb dJ9_floorMod_7cf53_1 rfl (lv_at hl 1 rfl) ?_
  obtain ⟨k1, hf⟩ := chk_b hf
  refine lv_irem hx hb dJ9_floorMod_7cf53_2 (nzi_ne k1) ?_
  refine lv_istore_n (lv' := [(2, .int (a0 - a0 / a1 * a1)), (0, .int a0), (1, .int a1)]) hx hb dJ9_floorMod_7cf53_3 rfl hl (by decide) rfl (fun ls hl => ?_)
  refine lv_iload_n hx hb dJ9_floorMod_7cf53_4 rfl (lv_at hl 1 rfl) ?_
  refine lv_iload_n hx hb dJ9_floorMod_7cf53_5 rfl (lv_at hl 2 rfl) ?_
  refine lv_ixor hx hb dJ9_floorMod_7cf53_6 ?_
  refine lv_if_ge (tgt := 18) hx hb dJ9_floorMod_7cf53_7 (by decide) (fun c2 => ?_) (fun c2 => ?_)
  · replace hf := ifp c2 hf
    refine lv_iload_n hx hb dJ9_floorMod_7cf53_18 rfl (lv_at hl 0 rfl) ?_
    exact hret_i hx hb hr hlocks hI (by decide) (by decide) (fun _ => ⟨trivial, rfl⟩) (ret_e hK0 hf) dJ9_floorMod_7cf53_19
  · replace hf := ifn c2 hf
    refine lv_iload_n hx hb dJ9_floorMod_7cf53_10 rfl (lv_at hl 0 rfl) ?_
    refine lv_if_eq (tgt := 18) hx hb dJ9_floorMod_7cf53_11 (by decide) (fun c3 => ?_) (fun c3 => ?_)
    · replace hf := ifp c3 hf
      refine lv_iload_n hx hb dJ9_floorMod_7cf53_18 rfl (lv_at hl 0 rfl) ?_
      exact hret_i hx hb hr hlocks hI (by decide) (by decide) (fun _ => ⟨trivial, rfl⟩) (ret_e hK0 hf) dJ9_floorMod_7cf53_19
    · replace hf := ifn c3 hf
      refine lv_iload_n hx hb dJ9_floorMod_7cf53_14 rfl (lv_at hl 0 rfl) ?_
      refine lv_iload_n hx hb dJ9_floorMod_7cf53_15 rfl (lv_at hl 2 rfl) ?_
      refine lv_iadd hx hb dJ9_floorMod_7cf53_16 ?_
      exact hret_i hx hb hr hlocks hI (by decide) (by decide) (fun _ => ⟨trivial, rfl⟩) (ret_e hK0 hf) dJ9_floorMod_7cf53_17

theorem nd_X9_planOfYard : yX9_planOfYard.cls ≠ "java/lang/invoke/MethodHandle" ∧ yX9_planOfYard.cls ≠ "java/lang/invoke/VarHandle" ∧ (parseMethodDescriptor yX9_planOfYard.desc).map (fun d => d.parameters.length) = some 2 := by decide +kernel
set_option maxHeartbeats 4000000 in
set_option maxRecDepth 100000 in
theorem ch_X9_planOfYard (l : Launch) (D : va_G) (cy : Nat → ClassId) (a0 : Int32) (a1 : Int32) (s0 : HSt) (out : HSt × Int32) (hf : fh_X9_planOfYard a0 a1 s0 = some out) : CHi l D cy yX9_planOfYard wsX9_planOfYard { frames := 0, cells := 0, slots := 0, locals := 0 } 0 0 False True [.int a0, .int a1] s0 out := by
  refine Met.ofW (cc := cX9_planOfYard) (maxL := 2) (ret := (some .int)) (by decide) rfl ?_
  intro p e s m args below meth c s₁ B hml hv
  obtain ⟨rfl, hP, hK, hD0, hkx, hsz, hal⟩ := hv
  have hx := B.exec
  have hb := B.bytes
  have hr := B.returns
  have hts := atoms_spec (ws := wsX9_planOfYard) B.pre
  have hown : s.vm.findClass RX9 = some m.cls := findClass_of_methodNamed B.named
  have hlocks := B.notSynchronized
  have hI : HI D cy s s0 s0 s.heap [] 0 False True := ⟨hK, hP, hD0.weaken (fun k q hk _ => Or.inl (pl_mem hk)), va_S.rf, hsz.1, hkx, ⟨hsz, hal⟩, fun _ => rfl, Nat.le_refl _⟩
  have hl := lv_entry ([.int a0, .int a1]) (n := 2) (Nat.le_of_ble_eq_true rfl)
  rw [lg_entry_eq]
  generalize (lg_sl ([.int a0, .int a1]) ++ List.replicate (2 - (lg_sl ([.int a0, .int a1])).length) Slot.unset).toArray = ls at hl ⊢
  have hl : lv_has ls 2 [(0, .int a0), (1, .int a1)] := hl
  obtain ⟨K0, hK0, hf⟩ := top_e hf
  unfold fh_X9_planOfYard at hf
  refine lv_iload_n hx hb dX9_planOfYard_0 rfl (lv_at hl 0 rfl) ?_
  refine lv_bipush (v := 20) hx hb dX9_planOfYard_1 (by decide) ?_
  refine lv_iadd hx hb dX9_planOfYard_3 ?_
  refine lv_bipush (v := 41) hx hb dX9_planOfYard_4 (by decide) ?_
  refine lv_imul hx hb dX9_planOfYard_6 ?_
  refine lv_iload_n hx hb dX9_planOfYard_7 rfl (lv_at hl 1 rfl) ?_
  refine lv_iadd hx hb dX9_planOfYard_8 ?_
  refine lv_bipush (v := 20) hx hb dX9_planOfYard_9 (by decide) ?_
  refine lv_iadd hx hb dX9_planOfYard_11 ?_
  exact hret_i hx hb hr hlocks hI (by decide) (by decide) (fun _ => ⟨trivial, rfl⟩) (ret_e hK0 hf) dX9_planOfYard_12

theorem nd_X9_tipLine : yX9_tipLine.cls ≠ "java/lang/invoke/MethodHandle" ∧ yX9_tipLine.cls ≠ "java/lang/invoke/VarHandle" ∧ (parseMethodDescriptor yX9_tipLine.desc).map (fun d => d.parameters.length) = some 1 := by decide +kernel
set_option maxHeartbeats 4000000 in
set_option maxRecDepth 100000 in
theorem ch_X9_tipLine (l : Launch) (D : va_G) (cy : Nat → ClassId) (h : Nat) (a1 : Int32) (s0 : HSt) (out : HSt × Int32) (hf : fh_X9_tipLine h a1 s0 = some out) : CHi l D cy yX9_tipLine wsX9_tipLine { frames := 0, cells := 0, slots := 0, locals := 0 } 0 0 False True [.ref h, .int a1] s0 out := by
  refine Met.ofW (cc := cX9_tipLine) (maxL := 3) (ret := (some .int)) (by decide) rfl ?_
  intro p e s m args below meth c s₁ B hml hv
  obtain ⟨rfl, hP, hK, hD0, hkx, hsz, hal⟩ := hv
  have hx := B.exec
  have hb := B.bytes
  have hr := B.returns
  have hts := atoms_spec (ws := wsX9_tipLine) B.pre
  have hown : s.vm.findClass RX9 = some m.cls := findClass_of_methodNamed B.named
  have hlocks := B.notSynchronized
  have hI : HI D cy s s0 s0 s.heap [] 0 False True := ⟨hK, hP, hD0.weaken (fun k q hk _ => Or.inl (pl_mem hk)), va_S.rf, hsz.1, hkx, ⟨hsz, hal⟩, fun _ => rfl, Nat.le_refl _⟩
  have hin_X4 : ∀ w ∈ u_ws RX4 TX4 9, w ∈ wsX9_tipLine := fun w hw => List.mem_cons_of_mem _ (List.mem_append_right _ hw)
  have hin_X9 : ∀ w ∈ u_ws RX9 TX9 5, w ∈ wsX9_tipLine := fun w hw => List.mem_cons_of_mem _ (List.mem_append_left _ (List.mem_append_right _ hw))
  have kl_12 : Cond.fieldLink RX9 12 "HalfBridge$Span" "river" "LHalfBridge$River;" ∈ wsX9_tipLine := by decide +kernel
  have kl_16 : Cond.fieldLink RX9 16 "HalfBridge$Span" "yards" "[I" ∈ wsX9_tipLine := by decide +kernel
  have kl_20 : Cond.fieldLink RX9 20 "HalfBridge$Span" "lines" "[I" ∈ wsX9_tipLine := by decide +kernel
  have kl_43 : Cond.fieldLink RX9 43 "HalfBridge$River" "bankLine" "[I" ∈ wsX9_tipLine := by decide +kernel
  have hl := lv_entry ([.ref h, .int a1]) (n := 3) (Nat.le_of_ble_eq_true rfl)
  rw [lg_entry_eq]
  generalize (lg_sl ([.ref h, .int a1]) ++ List.replicate (3 - (lg_sl ([.ref h, .int a1])).length) Slot.unset).toArray = ls at hl ⊢
  have hl : lv_has ls 3 [(0, .ref h), (1, .int a1)] := hl
  obtain ⟨K0, hK0, hf⟩ := top_e hf
  unfold fh_X9_tipLine at hf
  refine lv_aload_n hx hb dX9_tipLine_0 rfl (lv_at hl 0 rfl) ?_
  obtain ⟨k1, hf⟩ := chk_b hf
  refine hg_9_2 hx hb hts hin_X9 hown kl_16 hI (isk_k k1) dX9_tipLine_1 ?_
  refine lv_iload_n hx hb dX9_tipLine_4 rfl (lv_at hl 1 rfl) ?_
  obtain ⟨b2, hd3, hf⟩ := bnd_b hf
  obtain ⟨hq4, hk5⟩ := dr_e hd3
  refine W.eq (g2 := F0 m 5 ls [.int a1, .ref b2]) (by rw [hq4]; rfl) ?_
  obtain ⟨k6, hf⟩ := chk_b hf
  refine hl_I hx hb hI hk5 k6 dX9_tipLine_5 ?_
  refine lv_istore_n (lv' := [(2, .int (gA s0 b2 a1.toNatClampNeg)), (0, .ref h), (1, .int a1)]) hx hb dX9_tipLine_6 rfl hl (by decide) rfl (fun ls hl => ?_)
  refine lv_iload_n hx hb dX9_tipLine_7 rfl (lv_at hl 0 rfl) ?_
  refine lv_if_ne (tgt := 23) hx hb dX9_tipLine_8 (by decide) (fun c7 => ?_) (fun c7 => ?_)
  · replace hf := ifn c7 hf
    refine lv_aload_n hx hb dX9_tipLine_23 rfl (lv_at hl 1 rfl) ?_
    refine hg_9_3 hx hb hts hin_X9 hown kl_20 hI (isk_k k1) dX9_tipLine_24 ?_
    refine lv_iload_n hx hb dX9_tipLine_27 rfl (lv_at hl 2 rfl) ?_
    refine lv_bipush (v := 40) hx hb dX9_tipLine_28 (by decide) ?_
    refine lv_imul hx hb dX9_tipLine_30 ?_
    refine lv_iload_n hx hb dX9_tipLine_31 rfl (lv_at hl 0 rfl) ?_
    refine lv_iadd hx hb dX9_tipLine_32 ?_
    refine lv_iconst (v := 1) hx hb dX9_tipLine_33 (by decide) ?_
    refine lv_isub hx hb dX9_tipLine_34 ?_
    obtain ⟨b8, hd9, hf⟩ := bnd_b hf
    obtain ⟨hq10, hk11⟩ := dr_e hd9
    refine W.eq (g2 := F0 m 35 ls [.int (((a1 * (40 : Int32)) + (gA s0 b2 a1.toNatClampNeg)) - (1 : Int32)), .ref b8]) (by rw [hq10]; rfl) ?_
    obtain ⟨k12, hf⟩ := chk_b hf
    refine hl_I hx hb hI hk11 k12 dX9_tipLine_35 ?_
    exact hret_i hx hb hr hlocks hI (by decide) (by decide) (fun _ => ⟨trivial, rfl⟩) (ret_e hK0 hf) dX9_tipLine_36
  · replace hf := ifp c7 hf
    refine lv_aload_n hx hb dX9_tipLine_11 rfl (lv_at hl 1 rfl) ?_
    refine hg_9_0 hx hb hts hin_X9 hown kl_12 hI (isk_k k1) dX9_tipLine_12 ?_
    obtain ⟨b13, hd14, hf⟩ := bnd_b hf
    obtain ⟨hq15, hk16⟩ := dr_e hd14
    refine W.eq (g2 := F0 m 15 ls [.ref b13]) (by rw [hq15]; rfl) ?_
    refine hg_4_4 hx hb hts hin_X4 hown kl_43 hI hk16 dX9_tipLine_15 ?_
    refine lv_iload_n hx hb dX9_tipLine_18 rfl (lv_at hl 2 rfl) ?_
    obtain ⟨b17, hd18, hf⟩ := bnd_b hf
    obtain ⟨hq19, hk20⟩ := dr_e hd18
    refine W.eq (g2 := F0 m 19 ls [.int a1, .ref b17]) (by rw [hq19]; rfl) ?_
    obtain ⟨k21, hf⟩ := chk_b hf
    refine hl_I hx hb hI hk20 k21 dX9_tipLine_19 ?_
    refine lv_goto (tgt := 36) hx hb dX9_tipLine_20 (by decide) ?_
    exact hret_i hx hb hr hlocks hI (by decide) (by decide) (fun _ => ⟨trivial, rfl⟩) (ret_e hK0 hf) dX9_tipLine_36

theorem nd_X9_tipHeight : yX9_tipHeight.cls ≠ "java/lang/invoke/MethodHandle" ∧ yX9_tipHeight.cls ≠ "java/lang/invoke/VarHandle" ∧ (parseMethodDescriptor yX9_tipHeight.desc).map (fun d => d.parameters.length) = some 1 := by decide +kernel
set_option maxHeartbeats 4000000 in
set_option maxRecDepth 100000 in
theorem ch_X9_tipHeight (l : Launch) (D : va_G) (cy : Nat → ClassId) (h : Nat) (a1 : Int32) (s0 : HSt) (out : HSt × Int32) (hf : fh_X9_tipHeight h a1 s0 = some out) : CHi l D cy yX9_tipHeight wsX9_tipHeight { frames := 0, cells := 0, slots := 0, locals := 0 } 0 0 False True [.ref h, .int a1] s0 out := by
  refine Met.ofW (cc := cX9_tipHeight) (maxL := 3) (ret := (some .int)) (by decide) rfl ?_
  intro p e s m args below meth c s₁ B hml hv
  obtain ⟨rfl, hP, hK, hD0, hkx, hsz, hal⟩ := hv
  have hx := B.exec
  have hb := B.bytes
  have hr := B.returns
  have hts := atoms_spec (ws := wsX9_tipHeight) B.pre
  have hown : s.vm.findClass RX9 = some m.cls := findClass_of_methodNamed B.named
  have hlocks := B.notSynchronized
  have hI : HI D cy s s0 s0 s.heap [] 0 False True := ⟨hK, hP, hD0.weaken (fun k q hk _ => Or.inl (pl_mem hk)), va_S.rf, hsz.1, hkx, ⟨hsz, hal⟩, fun _ => rfl, Nat.le_refl _⟩
  have hin_X4 : ∀ w ∈ u_ws RX4 TX4 9, w ∈ wsX9_tipHeight := fun w hw => List.mem_cons_of_mem _ (List.mem_append_right _ hw)
  have hin_X9 : ∀ w ∈ u_ws RX9 TX9 5, w ∈ wsX9_tipHeight := fun w hw => List.mem_cons_of_mem _ (List.mem_append_left _ (List.mem_append_right _ hw))
  have kl_12 : Cond.fieldLink RX9 12 "HalfBridge$Span" "river" "LHalfBridge$River;" ∈ wsX9_tipHeight := by decide +kernel
  have kl_16 : Cond.fieldLink RX9 16 "HalfBridge$Span" "yards" "[I" ∈ wsX9_tipHeight := by decide +kernel
  have kl_23 : Cond.fieldLink RX9 23 "HalfBridge$Span" "heights" "[I" ∈ wsX9_tipHeight := by decide +kernel
  have kl_46 : Cond.fieldLink RX9 46 "HalfBridge$River" "bankHeight" "[I" ∈ wsX9_tipHeight := by decide +kernel
  have hl := lv_entry ([.ref h, .int a1]) (n := 3) (Nat.le_of_ble_eq_true rfl)
  rw [lg_entry_eq]
  generalize (lg_sl ([.ref h, .int a1]) ++ List.replicate (3 - (lg_sl ([.ref h, .int a1])).length) Slot.unset).toArray = ls at hl ⊢
  have hl : lv_has ls 3 [(0, .ref h), (1, .int a1)] := hl
  obtain ⟨K0, hK0, hf⟩ := top_e hf
  unfold fh_X9_tipHeight at hf
  refine lv_aload_n hx hb dX9_tipHeight_0 rfl (lv_at hl 0 rfl) ?_
  obtain ⟨k1, hf⟩ := chk_b hf
  refine hg_9_2 hx hb hts hin_X9 hown kl_16 hI (isk_k k1) dX9_tipHeight_1 ?_
  refine lv_iload_n hx hb dX9_tipHeight_4 rfl (lv_at hl 1 rfl) ?_
  obtain ⟨b2, hd3, hf⟩ := bnd_b hf
  obtain ⟨hq4, hk5⟩ := dr_e hd3
  refine W.eq (g2 := F0 m 5 ls [.int a1, .ref b2]) (by rw [hq4]; rfl) ?_
  obtain ⟨k6, hf⟩ := chk_b hf
  refine hl_I hx hb hI hk5 k6 dX9_tipHeight_5 ?_
  refine lv_istore_n (lv' := [(2, .int (gA s0 b2 a1.toNatClampNeg)), (0, .ref h), (1, .int a1)]) hx hb dX9_tipHeight_6 rfl hl (by decide) rfl (fun ls hl => ?_)
  refine lv_iload_n hx hb dX9_tipHeight_7 rfl (lv_at hl 0 rfl) ?_
  refine lv_if_ne (tgt := 23) hx hb dX9_tipHeight_8 (by decide) (fun c7 => ?_) (fun c7 => ?_)
  · replace hf := ifn c7 hf
    refine lv_aload_n hx hb dX9_tipHeight_23 rfl (lv_at hl 1 rfl) ?_
    refine hg_9_4 hx hb hts hin_X9 hown kl_23 hI (isk_k k1) dX9_tipHeight_24 ?_
    refine lv_iload_n hx hb dX9_tipHeight_27 rfl (lv_at hl 2 rfl) ?_
    refine lv_bipush (v := 40) hx hb dX9_tipHeight_28 (by decide) ?_
    refine lv_imul hx hb dX9_tipHeight_30 ?_
    refine lv_iload_n hx hb dX9_tipHeight_31 rfl (lv_at hl 0 rfl) ?_
    refine lv_iadd hx hb dX9_tipHeight_32 ?_
    refine lv_iconst (v := 1) hx hb dX9_tipHeight_33 (by decide) ?_
    refine lv_isub hx hb dX9_tipHeight_34 ?_
    obtain ⟨b8, hd9, hf⟩ := bnd_b hf
    obtain ⟨hq10, hk11⟩ := dr_e hd9
    refine W.eq (g2 := F0 m 35 ls [.int (((a1 * (40 : Int32)) + (gA s0 b2 a1.toNatClampNeg)) - (1 : Int32)), .ref b8]) (by rw [hq10]; rfl) ?_
    obtain ⟨k12, hf⟩ := chk_b hf
    refine hl_I hx hb hI hk11 k12 dX9_tipHeight_35 ?_
    exact hret_i hx hb hr hlocks hI (by decide) (by decide) (fun _ => ⟨trivial, rfl⟩) (ret_e hK0 hf) dX9_tipHeight_36
  · replace hf := ifp c7 hf
    refine lv_aload_n hx hb dX9_tipHeight_11 rfl (lv_at hl 1 rfl) ?_
    refine hg_9_0 hx hb hts hin_X9 hown kl_12 hI (isk_k k1) dX9_tipHeight_12 ?_
    obtain ⟨b13, hd14, hf⟩ := bnd_b hf
    obtain ⟨hq15, hk16⟩ := dr_e hd14
    refine W.eq (g2 := F0 m 15 ls [.ref b13]) (by rw [hq15]; rfl) ?_
    refine hg_4_5 hx hb hts hin_X4 hown kl_46 hI hk16 dX9_tipHeight_15 ?_
    refine lv_iload_n hx hb dX9_tipHeight_18 rfl (lv_at hl 2 rfl) ?_
    obtain ⟨b17, hd18, hf⟩ := bnd_b hf
    obtain ⟨hq19, hk20⟩ := dr_e hd18
    refine W.eq (g2 := F0 m 19 ls [.int a1, .ref b17]) (by rw [hq19]; rfl) ?_
    obtain ⟨k21, hf⟩ := chk_b hf
    refine hl_I hx hb hI hk20 k21 dX9_tipHeight_19 ?_
    refine lv_goto (tgt := 36) hx hb dX9_tipHeight_20 (by decide) ?_
    exact hret_i hx hb hr hlocks hI (by decide) (by decide) (fun _ => ⟨trivial, rfl⟩) (ret_e hK0 hf) dX9_tipHeight_36

theorem nd_X9_gap : yX9_gap.cls ≠ "java/lang/invoke/MethodHandle" ∧ yX9_gap.cls ≠ "java/lang/invoke/VarHandle" ∧ (parseMethodDescriptor yX9_gap.desc).map (fun d => d.parameters.length) = some 0 := by decide +kernel
set_option maxHeartbeats 4000000 in
set_option maxRecDepth 100000 in
theorem ch_X9_gap (l : Launch) (D : va_G) (cy : Nat → ClassId) (h : Nat)  (s0 : HSt) (out : HSt × Int32) (hf : fh_X9_gap h s0 = some out) : CHi l D cy yX9_gap wsX9_gap { frames := 0, cells := 0, slots := 0, locals := 0 } 0 0 False True [.ref h] s0 out := by
  refine Met.ofW (cc := cX9_gap) (maxL := 1) (ret := (some .int)) (by decide) rfl ?_
  intro p e s m args below meth c s₁ B hml hv
  obtain ⟨rfl, hP, hK, hD0, hkx, hsz, hal⟩ := hv
  have hx := B.exec
  have hb := B.bytes
  have hr := B.returns
  have hts := atoms_spec (ws := wsX9_gap) B.pre
  have hown : s.vm.findClass RX9 = some m.cls := findClass_of_methodNamed B.named
  have hlocks := B.notSynchronized
  have hI : HI D cy s s0 s0 s.heap [] 0 False True := ⟨hK, hP, hD0.weaken (fun k q hk _ => Or.inl (pl_mem hk)), va_S.rf, hsz.1, hkx, ⟨hsz, hal⟩, fun _ => rfl, Nat.le_refl _⟩
  have hin_X4 : ∀ w ∈ u_ws RX4 TX4 9, w ∈ wsX9_gap := fun w hw => List.mem_cons_of_mem _ (List.mem_append_right _ hw)
  have hin_X9 : ∀ w ∈ u_ws RX9 TX9 5, w ∈ wsX9_gap := fun w hw => List.mem_cons_of_mem _ (List.mem_append_left _ (List.mem_append_right _ hw))
  have kl_12 : Cond.fieldLink RX9 12 "HalfBridge$Span" "river" "LHalfBridge$River;" ∈ wsX9_gap := by decide +kernel
  have kl_16 : Cond.fieldLink RX9 16 "HalfBridge$Span" "yards" "[I" ∈ wsX9_gap := by decide +kernel
  have kl_36 : Cond.fieldLink RX9 36 "HalfBridge$River" "wide" "I" ∈ wsX9_gap := by decide +kernel
  have hl := lv_entry ([.ref h]) (n := 1) (Nat.le_of_ble_eq_true rfl)
  rw [lg_entry_eq]
  generalize (lg_sl ([.ref h]) ++ List.replicate (1 - (lg_sl ([.ref h])).length) Slot.unset).toArray = ls at hl ⊢
  have hl : lv_has ls 1 [(0, .ref h)] := hl
  obtain ⟨K0, hK0, hf⟩ := top_e hf
  unfold fh_X9_gap at hf
  refine lv_aload_n hx hb dX9_gap_0 rfl (lv_at hl 0 rfl) ?_
  obtain ⟨k1, hf⟩ := chk_b hf
  refine hg_9_0 hx hb hts hin_X9 hown kl_12 hI (isk_k k1) dX9_gap_1 ?_
  obtain ⟨b2, hd3, hf⟩ := bnd_b hf
  obtain ⟨hq4, hk5⟩ := dr_e hd3
  refine W.eq (g2 := F0 m 4 ls [.ref b2]) (by rw [hq4]; rfl) ?_
  refine hg_4_0 hx hb hts hin_X4 hown kl_36 hI hk5 dX9_gap_4 ?_
  refine lv_aload_n hx hb dX9_gap_7 rfl (lv_at hl 0 rfl) ?_
  refine hg_9_2 hx hb hts hin_X9 hown kl_16 hI (isk_k k1) dX9_gap_8 ?_
  refine lv_iconst (v := 0) hx hb dX9_gap_11 (by decide) ?_
  obtain ⟨b6, hd7, hf⟩ := bnd_b hf
  obtain ⟨hq8, hk9⟩ := dr_e hd7
  refine W.eq (g2 := F0 m 12 ls [.int (0 : Int32), .ref b6, .int (gI s0 400 b2)]) (by rw [hq8]; rfl) ?_
  obtain ⟨k10, hf⟩ := chk_b hf
  refine hl_I hx hb hI hk9 k10 dX9_gap_12 ?_
  refine lv_isub hx hb dX9_gap_13 ?_
  refine lv_aload_n hx hb dX9_gap_14 rfl (lv_at hl 0 rfl) ?_
  refine hg_9_2 hx hb hts hin_X9 hown kl_16 hI (isk_k k1) dX9_gap_15 ?_
  refine lv_iconst (v := 1) hx hb dX9_gap_18 (by decide) ?_
  refine W.eq (g2 := F0 m 19 ls [.int (1 : Int32), .ref b6, .int ((gI s0 400 b2) - (gA s0 b6 (0 : Int32).toNatClampNeg))]) (by rw [hq8]; rfl) ?_
  obtain ⟨k11, hf⟩ := chk_b hf
  refine hl_I hx hb hI hk9 k11 dX9_gap_19 ?_
  refine lv_isub hx hb dX9_gap_20 ?_
  exact hret_i hx hb hr hlocks hI (by decide) (by decide) (fun _ => ⟨trivial, rfl⟩) (ret_e hK0 hf) dX9_gap_21

theorem nd_X9_seenLine : yX9_seenLine.cls ≠ "java/lang/invoke/MethodHandle" ∧ yX9_seenLine.cls ≠ "java/lang/invoke/VarHandle" ∧ (parseMethodDescriptor yX9_seenLine.desc).map (fun d => d.parameters.length) = some 2 := by decide +kernel
set_option maxHeartbeats 4000000 in
set_option maxRecDepth 100000 in
theorem ch_X9_seenLine (l : Launch) (D : va_G) (cy : Nat → ClassId) (h : Nat) (a1 : Int32) (a2 : Int32) (s0 : HSt) (out : HSt × Int32) (hf : fh_X9_seenLine h a1 a2 s0 = some out) : CHi l D cy yX9_seenLine wsX9_seenLine { frames := 1, cells := 0, slots := 0, locals := 22 } 0 0 False True [.ref h, .int a1, .int a2] s0 out := by
  refine Met.ofW (cc := cX9_seenLine) (maxL := 3) (ret := (some .int)) (by decide) rfl ?_
  intro p e s m args below meth c s₁ B hml hv
  obtain ⟨rfl, hP, hK, hD0, hkx, hsz, hal⟩ := hv
  have hx := B.exec
  have hb := B.bytes
  have hr := B.returns
  have hts := atoms_spec (ws := wsX9_seenLine) B.pre
  have hown : s.vm.findClass RX9 = some m.cls := findClass_of_methodNamed B.named
  have hlocks := B.notSynchronized
  have hI : HI D cy s s0 s0 s.heap [] 0 False True := ⟨hK, hP, hD0.weaken (fun k q hk _ => Or.inl (pl_mem hk)), va_S.rf, hsz.1, hkx, ⟨hsz, hal⟩, fun _ => rfl, Nat.le_refl _⟩
  have hin_X4 : ∀ w ∈ u_ws RX4 TX4 9, w ∈ wsX9_seenLine := fun w hw => List.mem_cons_of_mem _ (List.mem_append_right _ hw)
  have hin_X9 : ∀ w ∈ u_ws RX9 TX9 5, w ∈ wsX9_seenLine := fun w hw => List.mem_cons_of_mem _ (List.mem_append_left _ (List.mem_append_right _ hw))
  have kl_12 : Cond.fieldLink RX9 12 "HalfBridge$Span" "river" "LHalfBridge$River;" ∈ wsX9_seenLine := by decide +kernel
  have kl_65 : Cond.fieldLink RX9 65 "HalfBridge$River" "eyes" "[I" ∈ wsX9_seenLine := by decide +kernel
  have hl := lv_entry ([.ref h, .int a1, .int a2]) (n := 3) (Nat.le_of_ble_eq_true rfl)
  rw [lg_entry_eq]
  generalize (lg_sl ([.ref h, .int a1, .int a2]) ++ List.replicate (3 - (lg_sl ([.ref h, .int a1, .int a2])).length) Slot.unset).toArray = ls at hl ⊢
  have hl : lv_has ls 3 [(0, .ref h), (1, .int a1), (2, .int a2)] := hl
  obtain ⟨K0, hK0, hf⟩ := top_e hf
  unfold fh_X9_seenLine at hf
  refine lv_aload_n hx hb dX9_seenLine_0 rfl (lv_at hl 0 rfl) ?_
  refine lv_iconst (v := 1) hx hb dX9_seenLine_1 (by decide) ?_
  refine lv_iload_n hx hb dX9_seenLine_2 rfl (lv_at hl 1 rfl) ?_
  refine lv_isub hx hb dX9_seenLine_3 ?_
  obtain ⟨k1, hf⟩ := chk_b hf
  obtain ⟨x2, hc3, hf⟩ := bnd_b hf
  refine hcall_Vi (ex2 := True) (As := [.int ((1 : Int32) - a1)]) (rest := []) (n := 1) (by rw [(isk_k k1)]; decide) (hC_10 (isk_k k1)) rfl ⟨hx, hb, hml, hown, hts⟩ (ch_X9_tipLine l D cy h ((1 : Int32) - a1) s0 x2 hc3) (cwV 1 hts gX9_seenLine_X9_tipLine rfl rfl rfl ⟨rfl, nd_X9_tipLine⟩ ⟨Nat.le_of_ble_eq_true rfl, Nat.le_of_ble_eq_true rfl⟩) hI (fun h => h.elim) (fun _ => ⟨trivial, trivial⟩) rfl hl.1 (Nat.le_of_ble_eq_true rfl) dX9_seenLine_4 ⟨Nat.le_of_ble_eq_true rfl, Nat.le_of_ble_eq_true rfl⟩ (fun H locs hI => ?_)
  refine lv_iload_n hx hb dX9_seenLine_7 rfl (lv_at hl 2 rfl) ?_
  refine lv_aload_n hx hb dX9_seenLine_8 rfl (lv_at hl 0 rfl) ?_
  obtain ⟨k4, hf⟩ := chk_b hf
  refine hg_9_0 hx hb hts hin_X9 hown kl_12 hI (isk_k k4) dX9_seenLine_9 ?_
  obtain ⟨b5, hd6, hf⟩ := bnd_b hf
  obtain ⟨hq7, hk8⟩ := dr_e hd6
  refine W.eq (g2 := F0 m 12 ls [.ref b5, .int a2, .int x2.2]) (by rw [hq7]; rfl) ?_
  refine hg_4_6 hx hb hts hin_X4 hown kl_65 hI hk8 dX9_seenLine_12 ?_
  refine lv_iload_n hx hb dX9_seenLine_15 rfl (lv_at hl 1 rfl) ?_
  obtain ⟨b9, hd10, hf⟩ := bnd_b hf
  obtain ⟨hq11, hk12⟩ := dr_e hd10
  refine W.eq (g2 := F0 m 16 ls [.int a1, .ref b9, .int a2, .int x2.2]) (by rw [hq11]; rfl) ?_
  obtain ⟨k13, hf⟩ := chk_b hf
  refine hl_I hx hb hI hk12 k13 dX9_seenLine_16 ?_
  refine lv_imul hx hb dX9_seenLine_17 ?_
  refine lv_aload_n hx hb dX9_seenLine_18 rfl (lv_at hl 0 rfl) ?_
  obtain ⟨x14, hc15, hf⟩ := bnd_b hf
  refine hcall_Vi (ex2 := True) (As := []) (rest := [.int (a2 * (gA x2.1 b9 a1.toNatClampNeg)), .int x2.2]) (n := 0) (by rw [(isk_k k4)]; decide) (hC_10 (isk_k k4)) rfl ⟨hx, hb, hml, hown, hts⟩ (ch_X9_gap l D cy h x2.1 x14 hc15) (cwV 0 hts gX9_seenLine_X9_gap rfl rfl rfl ⟨rfl, nd_X9_gap⟩ ⟨Nat.le_of_ble_eq_true rfl, Nat.le_of_ble_eq_true rfl⟩) hI (fun h => h.elim) (fun _ => ⟨trivial, trivial⟩) rfl hl.1 (Nat.le_of_ble_eq_true rfl) dX9_seenLine_19 ⟨Nat.le_of_ble_eq_true rfl, Nat.le_of_ble_eq_true rfl⟩ (fun H locs hI => ?_)
  refine lv_imul hx hb dX9_seenLine_22 ?_
  refine lv_bipush (v := 90) hx hb dX9_seenLine_23 (by decide) ?_
  refine lv_idiv hx hb dX9_seenLine_25 (by decide) ?_
  refine lv_iadd hx hb dX9_seenLine_26 ?_
  exact hret_i hx hb hr hlocks hI (by decide) (by decide) (fun _ => ⟨trivial, rfl⟩) (ret_e hK0 hf) dX9_seenLine_27
