theorem nd_X10_kindOf : yX10_kindOf.cls ≠ "java/lang/invoke/MethodHandle" ∧ yX10_kindOf.cls ≠ "java/lang/invoke/VarHandle" ∧ (parseMethodDescriptor yX10_kindOf.desc).map (fun d => d.parameters.length) = some 3 := by decide +kernel
set_option maxHeartbeats 4000000 in
set_option maxRecDepth 100000 in
theorem ch_X10_kindOf (l : Launch) (D : va_G) (cy : Nat → ClassId) (a0 : Option Nat) (a1 : Int32) (a2 : Int32) (s0 : HSt) (out : HSt × Int32) (hf : fh_X10_kindOf a0 a1 a2 s0 = some out) : CHi l D cy yX10_kindOf wsX10_kindOf { frames := 7, cells := 0, slots := 0, locals := 153 } 0 0 False True [va_rf a0, .int a1, .int a2] s0 out := by
  refine Met.ofW (cc := cX10_kindOf) (maxL := 5) (ret := (some .int)) (by decide) rfl ?_
  intro p e s m args below meth c s₁ B hml hv
  obtain ⟨rfl, hP, hK, hD0, hkx, hsz, hal⟩ := hv
  have hx := B.exec
  have hb := B.bytes
  have hr := B.returns
  have hts := atoms_spec (ws := wsX10_kindOf) B.pre
  have hown : s.vm.findClass RX10 = some m.cls := findClass_of_methodNamed B.named
  have hlocks := B.notSynchronized
  have hI : HI D cy s s0 s0 s.heap [] 0 False True := ⟨hK, hP, hD0.weaken (fun k q hk _ => Or.inl (pl_mem hk)), va_S.rf, hsz.1, hkx, ⟨hsz, hal⟩, fun _ => rfl, Nat.le_refl _⟩
  have hl := lv_entry ([va_rf a0, .int a1, .int a2]) (n := 5) (by simp [lg_sl, cat_rf, cat_i, cat_l, cat_r])
  rw [lg_entry_eq]
  generalize (lg_sl ([va_rf a0, .int a1, .int a2]) ++ List.replicate (5 - (lg_sl ([va_rf a0, .int a1, .int a2])).length) Slot.unset).toArray = ls at hl ⊢
  have hl : lv_has ls 5 [(0, va_rf a0), (1, .int a1), (2, .int a2)] := (by simpa [lv_args, cat_rf, cat_i, cat_l, cat_r] using hl)
  obtain ⟨K0, hK0, hf⟩ := top_e hf
  unfold fh_X10_kindOf at hf
  refine hq_aload_n hx hb dX10_kindOf_0 rfl (lv_at hl 0 rfl) ?_
  refine lv_iload_n hx hb dX10_kindOf_1 rfl (lv_at hl 1 rfl) ?_
  obtain ⟨b1, hd2, hf⟩ := bnd_b hf
  obtain ⟨hq3, hk4⟩ := dr_e hd2
  refine W.eq (g2 := F0 m 2 ls [.int a1, .ref b1]) (by rw [hq3]; rfl) ?_
  obtain ⟨k5, hf⟩ := chk_b hf
  refine hl_B hx hb hI hk4 k5 dX10_kindOf_2 ?_
  refine lv_istore_n (lv' := [(3, .int (gA s0 b1 a1.toNatClampNeg)), (0, va_rf a0), (1, .int a1), (2, .int a2)]) hx hb dX10_kindOf_3 rfl hl (by decide) (by first | rfl | (simp [cat_rf, cat_i, cat_l, cat_r]; done) | (simp [cat_rf, cat_i, cat_l, cat_r]; decide)) (fun ls hl => ?_)
  refine lv_iload_n hx hb dX10_kindOf_4 rfl (lv_at hl 0 rfl) ?_
  obtain ⟨x6, hc7, hf⟩ := bnd_b hf
  refine hcall_Si (ex2 := True) (As := [.int (gA s0 b1 a1.toNatClampNeg)]) (rest := []) (n := 1) ⟨hx, hb, hml, hown, hts⟩ (ch_X10_isLetter l D cy (gA s0 b1 a1.toNatClampNeg) s0 x6 hc7) (va_cwS 1 hts gX10_kindOf_X10_isLetter rfl rfl rfl nd_X10_isLetter ⟨Nat.le_of_ble_eq_true rfl, Nat.le_of_ble_eq_true rfl⟩) hI (fun h => h.elim) (fun _ => ⟨trivial, trivial⟩) rfl hl.1 (Nat.le_of_ble_eq_true rfl) dX10_kindOf_5 ⟨Nat.le_of_ble_eq_true rfl, Nat.le_of_ble_eq_true rfl⟩ (fun H locs hI => ?_)
  refine lv_if_eq (tgt := 37) hx hb dX10_kindOf_8 (by decide) (fun c8 => ?_) (fun c8 => ?_)
  · replace hf := ifp c8 hf
    refine lv_iload_n hx hb dX10_kindOf_37 rfl (lv_at hl 0 rfl) ?_
    obtain ⟨x9, hc10, hf⟩ := bnd_b hf
    refine hcall_Si (ex2 := True) (As := [.int (gA s0 b1 a1.toNatClampNeg)]) (rest := []) (n := 1) ⟨hx, hb, hml, hown, hts⟩ (ch_X10_isDigit l D cy (gA s0 b1 a1.toNatClampNeg) x6.1 x9 hc10) (va_cwS 1 hts gX10_kindOf_X10_isDigit rfl rfl rfl nd_X10_isDigit ⟨Nat.le_of_ble_eq_true rfl, Nat.le_of_ble_eq_true rfl⟩) hI (fun h => h.elim) (fun _ => ⟨trivial, trivial⟩) rfl hl.1 (Nat.le_of_ble_eq_true rfl) dX10_kindOf_38 ⟨Nat.le_of_ble_eq_true rfl, Nat.le_of_ble_eq_true rfl⟩ (fun H locs hI => ?_)
    refine lv_if_eq (tgt := 46) hx hb dX10_kindOf_41 (by decide) (fun c11 => ?_) (fun c11 => ?_)
    · replace hf := ifp c11 hf
      refine lv_iload_n hx hb dX10_kindOf_46 rfl (lv_at hl 3 rfl) ?_
      refine lv_iload_n hx hb dX10_kindOf_47 rfl (lv_at hl 2 rfl) ?_
      refine lv_isub hx hb dX10_kindOf_48 ?_
      refine lv_iconst (v := 2) hx hb dX10_kindOf_49 (by decide) ?_
      refine lv_icmp_ne (tgt := 65) hx hb dX10_kindOf_50 (by decide) (fun c12 => ?_) (fun c12 => ?_)
      · replace hf := ifn c12 hf
        refine lv_iload_n hx hb dX10_kindOf_65 rfl (lv_at hl 0 rfl) ?_
        obtain ⟨x13, hc14, hf⟩ := bnd_b hf
        refine hcall_Si (ex2 := True) (As := [.int (gA s0 b1 a1.toNatClampNeg)]) (rest := []) (n := 1) ⟨hx, hb, hml, hown, hts⟩ (ch_X10_isSign l D cy (gA s0 b1 a1.toNatClampNeg) x9.1 x13 hc14) (va_cwS 1 hts gX10_kindOf_X10_isSign rfl rfl rfl nd_X10_isSign ⟨Nat.le_of_ble_eq_true rfl, Nat.le_of_ble_eq_true rfl⟩) hI (fun h => h.elim) (fun _ => ⟨trivial, trivial⟩) rfl hl.1 (Nat.le_of_ble_eq_true rfl) dX10_kindOf_66 ⟨Nat.le_of_ble_eq_true rfl, Nat.le_of_ble_eq_true rfl⟩ (fun H locs hI => ?_)
        refine lv_if_eq (tgt := 76) hx hb dX10_kindOf_69 (by decide) (fun c15 => ?_) (fun c15 => ?_)
        · replace hf := ifp c15 hf
          refine lv_iconst (v := 1) hx hb dX10_kindOf_76 (by decide) ?_
          exact hret_i hx hb hr hlocks hI (by decide) (by decide) (fun _ => ⟨trivial, rfl⟩) (ret_e hK0 hf) dX10_kindOf_77
        · replace hf := ifn c15 hf
          refine lv_iload_n hx hb dX10_kindOf_72 rfl (lv_at hl 0 rfl) ?_
          refine lv_goto (tgt := 77) hx hb dX10_kindOf_73 (by decide) ?_
          exact hret_i hx hb hr hlocks hI (by decide) (by decide) (fun _ => ⟨trivial, rfl⟩) (ret_e hK0 hf) dX10_kindOf_77
      · replace hf := ifp c12 hf
        refine lv_iload_n hx hb dX10_kindOf_53 rfl (lv_at hl 0 rfl) ?_
        refine lv_bipush (v := 60) hx hb dX10_kindOf_54 (by decide) ?_
        refine lv_icmp_ne (tgt := 63) hx hb dX10_kindOf_56 (by decide) (fun c16 => ?_) (fun c16 => ?_)
        · replace hf := ifn c16 hf
          refine lv_iconst (v := 4) hx hb dX10_kindOf_63 (by decide) ?_
          exact hret_i hx hb hr hlocks hI (by decide) (by decide) (fun _ => ⟨trivial, rfl⟩) (ret_e hK0 hf) dX10_kindOf_64
        · replace hf := ifp c16 hf
          refine lv_iconst (v := 3) hx hb dX10_kindOf_59 (by decide) ?_
          refine lv_goto (tgt := 64) hx hb dX10_kindOf_60 (by decide) ?_
          exact hret_i hx hb hr hlocks hI (by decide) (by decide) (fun _ => ⟨trivial, rfl⟩) (ret_e hK0 hf) dX10_kindOf_64
    · replace hf := ifn c11 hf
      refine lv_iconst (v := 2) hx hb dX10_kindOf_44 (by decide) ?_
      exact hret_i hx hb hr hlocks hI (by decide) (by decide) (fun _ => ⟨trivial, rfl⟩) (ret_e hK0 hf) dX10_kindOf_45
  · replace hf := ifn c8 hf
    refine hq_aload_n hx hb dX10_kindOf_11 rfl (lv_at hl 1 rfl) ?_
    refine lv_iload_n hx hb dX10_kindOf_12 rfl (lv_at hl 2 rfl) ?_
    refine lv_iload_n hx hb dX10_kindOf_13 rfl (lv_at hl 3 rfl) ?_
    obtain ⟨x17, hc18, hf⟩ := bnd_b hf
    refine hcall_Si (ex2 := True) (As := [va_rf a0, .int a1, .int a2]) (rest := []) (n := 3) ⟨hx, hb, hml, hown, hts⟩ (ch_X10_riverWord l D cy a0 a1 a2 x6.1 x17 hc18) (va_cwS 3 hts gX10_kindOf_X10_riverWord rfl rfl rfl nd_X10_riverWord ⟨Nat.le_of_ble_eq_true rfl, Nat.le_of_ble_eq_true rfl⟩) hI (fun h => h.elim) (fun _ => ⟨trivial, trivial⟩) rfl hl.1 (Nat.le_of_ble_eq_true rfl) dX10_kindOf_14 ⟨Nat.le_of_ble_eq_true rfl, Nat.le_of_ble_eq_true rfl⟩ (fun H locs hI => ?_)
    refine lv_istore (lv' := [(4, .int x17.2), (3, .int (gA s0 b1 a1.toNatClampNeg)), (0, va_rf a0), (1, .int a1), (2, .int a2)]) hx hb dX10_kindOf_17 hl (by decide) (by first | rfl | (simp [cat_rf, cat_i, cat_l, cat_r]; done) | (simp [cat_rf, cat_i, cat_l, cat_r]; decide)) (fun ls hl => ?_)
    refine lv_iload hx hb dX10_kindOf_19 (lv_at hl 0 rfl) ?_
    refine lv_iconst (v := 1) hx hb dX10_kindOf_21 (by decide) ?_
    refine lv_icmp_ne (tgt := 34) hx hb dX10_kindOf_22 (by decide) (fun c19 => ?_) (fun c19 => ?_)
    · replace hf := ifn c19 hf
      refine lv_iload hx hb dX10_kindOf_34 (lv_at hl 0 rfl) ?_
      exact hret_i hx hb hr hlocks hI (by decide) (by decide) (fun _ => ⟨trivial, rfl⟩) (ret_e hK0 hf) dX10_kindOf_36
    · replace hf := ifp c19 hf
      refine hq_aload_n hx hb dX10_kindOf_25 rfl (lv_at hl 2 rfl) ?_
      refine lv_iload_n hx hb dX10_kindOf_26 rfl (lv_at hl 3 rfl) ?_
      refine lv_iload_n hx hb dX10_kindOf_27 rfl (lv_at hl 4 rfl) ?_
      obtain ⟨x20, hc21, hf⟩ := bnd_b hf
      refine hcall_Si (ex2 := True) (As := [va_rf a0, .int a1, .int a2]) (rest := []) (n := 3) ⟨hx, hb, hml, hown, hts⟩ (ch_X10_ruleWord l D cy a0 a1 a2 x17.1 x20 hc21) (va_cwS 3 hts gX10_kindOf_X10_ruleWord rfl rfl rfl nd_X10_ruleWord ⟨Nat.le_of_ble_eq_true rfl, Nat.le_of_ble_eq_true rfl⟩) hI (fun h => h.elim) (fun _ => ⟨trivial, trivial⟩) rfl hl.1 (Nat.le_of_ble_eq_true rfl) dX10_kindOf_28 ⟨Nat.le_of_ble_eq_true rfl, Nat.le_of_ble_eq_true rfl⟩ (fun H locs hI => ?_)
      refine lv_goto (tgt := 36) hx hb dX10_kindOf_31 (by decide) ?_
      exact hret_i hx hb hr hlocks hI (by decide) (by decide) (fun _ => ⟨trivial, rfl⟩) (ret_e hK0 hf) dX10_kindOf_36

theorem nd_X10_next : yX10_next.cls ≠ "java/lang/invoke/MethodHandle" ∧ yX10_next.cls ≠ "java/lang/invoke/VarHandle" ∧ (parseMethodDescriptor yX10_next.desc).map (fun d => d.parameters.length) = some 0 := by decide +kernel
set_option maxHeartbeats 4000000 in
set_option maxRecDepth 100000 in
theorem ch_X10_next (l : Launch) (D : va_G) (cy : Nat → ClassId) (h : Nat)  (s0 : HSt) (out : HSt) (hf : fh_X10_next h s0 = some out) : CHv l D cy yX10_next wsX10_next { frames := 0, cells := 0, slots := 0, locals := 0 } 0 0 False True [.ref h] s0 out := by
  refine Met.ofW (cc := cX10_next) (maxL := 1) (ret := none) (by decide) rfl ?_
  intro p e s m args below meth c s₁ B hml hv
  obtain ⟨rfl, hP, hK, hD0, hkx, hsz, hal⟩ := hv
  have hx := B.exec
  have hb := B.bytes
  have hr := B.returns
  have hts := atoms_spec (ws := wsX10_next) B.pre
  have hown : s.vm.findClass RX10 = some m.cls := findClass_of_methodNamed B.named
  have hlocks := B.notSynchronized
  have hI : HI D cy s s0 s0 s.heap [] 0 False True := ⟨hK, hP, hD0.weaken (fun k q hk _ => Or.inl (pl_mem hk)), va_S.rf, hsz.1, hkx, ⟨hsz, hal⟩, fun _ => rfl, Nat.le_refl _⟩
  have hin_X10 : ∀ w ∈ u_ws RX10 TX10 6, w ∈ wsX10_next := fun w hw => List.mem_cons_of_mem _ (List.mem_append_right _ hw)
  have kl_21 : Cond.fieldLink RX10 21 "HalfBridge$Tokens" "size" "I" ∈ wsX10_next := by decide +kernel
  have kl_25 : Cond.fieldLink RX10 25 "HalfBridge$Tokens" "at" "I" ∈ wsX10_next := by decide +kernel
  have hl := lv_entry ([.ref h]) (n := 1) (Nat.le_of_ble_eq_true rfl)
  rw [lg_entry_eq]
  generalize (lg_sl ([.ref h]) ++ List.replicate (1 - (lg_sl ([.ref h])).length) Slot.unset).toArray = ls at hl ⊢
  have hl : lv_has ls 1 [(0, .ref h)] := hl
  obtain ⟨K0, hK0, hf⟩ := top_e hf
  unfold fh_X10_next at hf
  refine lv_aload_n hx hb dX10_next_0 rfl (lv_at hl 0 rfl) ?_
  obtain ⟨k1, hf⟩ := chk_b hf
  refine hg_10_4 hx hb hts hin_X10 hown kl_25 hI (isk_k k1) dX10_next_1 ?_
  refine lv_aload_n hx hb dX10_next_4 rfl (lv_at hl 0 rfl) ?_
  refine hg_10_3 hx hb hts hin_X10 hown kl_21 hI (isk_k k1) dX10_next_5 ?_
  refine lv_iconst (v := 1) hx hb dX10_next_8 (by decide) ?_
  refine lv_isub hx hb dX10_next_9 ?_
  refine lv_icmp_ge (tgt := 23) hx hb dX10_next_10 (by decide) (fun c2 => ?_) (fun c2 => ?_)
  · replace hf := ifp c2 hf
    exact hret_v hx hb hr hlocks hI (by decide) (by decide) (fun _ => ⟨trivial, rfl⟩) (ret_e hK0 hf) dX10_next_23
  · replace hf := ifn c2 hf
    refine lv_aload_n hx hb dX10_next_13 rfl (lv_at hl 0 rfl) ?_
    refine lv_dup hx hb dX10_next_14 rfl ?_
    refine hg_10_4 hx hb hts hin_X10 hown kl_25 hI (isk_k k1) dX10_next_15 ?_
    refine lv_iconst (v := 1) hx hb dX10_next_18 (by decide) ?_
    refine lv_iadd hx hb dX10_next_19 ?_
    refine hp_10_4 hx hb hts hin_X10 hown kl_25 hI (isk_k k1) dX10_next_20 (fun H locs hI => ?_)
    exact hret_v hx hb hr hlocks hI (by decide) (by decide) (fun _ => ⟨trivial, rfl⟩) (ret_e hK0 hf) dX10_next_23

theorem nd_X10_put : yX10_put.cls ≠ "java/lang/invoke/MethodHandle" ∧ yX10_put.cls ≠ "java/lang/invoke/VarHandle" ∧ (parseMethodDescriptor yX10_put.desc).map (fun d => d.parameters.length) = some 3 := by decide +kernel
set_option maxHeartbeats 4000000 in
set_option maxRecDepth 100000 in
theorem ch_X10_put (l : Launch) (D : va_G) (cy : Nat → ClassId) (h : Nat) (a1 : Int32) (a2 : Int32) (a3 : Int32) (s0 : HSt) (out : HSt) (hf : fh_X10_put h a1 a2 a3 s0 = some out) : CHv l D cy yX10_put wsX10_put { frames := 0, cells := 0, slots := 0, locals := 0 } 0 0 False True [.ref h, .int a1, .int a2, .int a3] s0 out := by
  refine Met.ofW (cc := cX10_put) (maxL := 4) (ret := none) (by decide) rfl ?_
  intro p e s m args below meth c s₁ B hml hv
  obtain ⟨rfl, hP, hK, hD0, hkx, hsz, hal⟩ := hv
  have hx := B.exec
  have hb := B.bytes
  have hr := B.returns
  have hts := atoms_spec (ws := wsX10_put) B.pre
  have hown : s.vm.findClass RX10 = some m.cls := findClass_of_methodNamed B.named
  have hlocks := B.notSynchronized
  have hI : HI D cy s s0 s0 s.heap [] 0 False True := ⟨hK, hP, hD0.weaken (fun k q hk _ => Or.inl (pl_mem hk)), va_S.rf, hsz.1, hkx, ⟨hsz, hal⟩, fun _ => rfl, Nat.le_refl _⟩
  have hin_X10 : ∀ w ∈ u_ws RX10 TX10 6, w ∈ wsX10_put := fun w hw => List.mem_cons_of_mem _ (List.mem_append_right _ hw)
  have kl_9 : Cond.fieldLink RX10 9 "HalfBridge$Tokens" "kinds" "[I" ∈ wsX10_put := by decide +kernel
  have kl_15 : Cond.fieldLink RX10 15 "HalfBridge$Tokens" "places" "[I" ∈ wsX10_put := by decide +kernel
  have kl_18 : Cond.fieldLink RX10 18 "HalfBridge$Tokens" "values" "[I" ∈ wsX10_put := by decide +kernel
  have kl_21 : Cond.fieldLink RX10 21 "HalfBridge$Tokens" "size" "I" ∈ wsX10_put := by decide +kernel
  have hl := lv_entry ([.ref h, .int a1, .int a2, .int a3]) (n := 4) (Nat.le_of_ble_eq_true rfl)
  rw [lg_entry_eq]
  generalize (lg_sl ([.ref h, .int a1, .int a2, .int a3]) ++ List.replicate (4 - (lg_sl ([.ref h, .int a1, .int a2, .int a3])).length) Slot.unset).toArray = ls at hl ⊢
  have hl : lv_has ls 4 [(0, .ref h), (1, .int a1), (2, .int a2), (3, .int a3)] := hl
  obtain ⟨K0, hK0, hf⟩ := top_e hf
  unfold fh_X10_put at hf
  refine lv_aload_n hx hb dX10_put_0 rfl (lv_at hl 0 rfl) ?_
  obtain ⟨k1, hf⟩ := chk_b hf
  refine hg_10_3 hx hb hts hin_X10 hown kl_21 hI (isk_k k1) dX10_put_1 ?_
  refine lv_aload_n hx hb dX10_put_4 rfl (lv_at hl 0 rfl) ?_
  refine hg_10_0 hx hb hts hin_X10 hown kl_9 hI (isk_k k1) dX10_put_5 ?_
  obtain ⟨b2, hd3, hf⟩ := bnd_b hf
  obtain ⟨hq4, hk5⟩ := dr_e hd3
  refine W.eq (g2 := F0 m 8 ls [.ref b2, .int (gI s0 1003 h)]) (by rw [hq4]; rfl) ?_
  refine ha_22 hx hb hI hk5 dX10_put_8 ?_
  refine lv_icmp_ge (tgt := 52) hx hb dX10_put_9 (by decide) (fun c6 => ?_) (fun c6 => ?_)
  · replace hf := ifp c6 hf
    exact hret_v hx hb hr hlocks hI (by decide) (by decide) (fun _ => ⟨trivial, rfl⟩) (ret_e hK0 hf) dX10_put_52
  · replace hf := ifn c6 hf
    refine lv_aload_n hx hb dX10_put_12 rfl (lv_at hl 0 rfl) ?_
    refine hg_10_0 hx hb hts hin_X10 hown kl_9 hI (isk_k k1) dX10_put_13 ?_
    refine lv_aload_n hx hb dX10_put_16 rfl (lv_at hl 0 rfl) ?_
    refine hg_10_3 hx hb hts hin_X10 hown kl_21 hI (isk_k k1) dX10_put_17 ?_
    refine lv_iload_n hx hb dX10_put_20 rfl (lv_at hl 1 rfl) ?_
    refine W.eq (g2 := F0 m 21 ls [.int a1, .int (gI s0 1003 h), .ref b2]) (by rw [hq4]; rfl) ?_
    obtain ⟨k7, hf⟩ := chk_b hf
    refine hs_I hx hb hI hk5 k7 dX10_put_21 (fun H locs hI => ?_)
    refine lv_aload_n hx hb dX10_put_22 rfl (lv_at hl 0 rfl) ?_
    refine hg_10_1 hx hb hts hin_X10 hown kl_15 hI (gK_sA.trans (isk_k k1)) dX10_put_23 ?_
    refine lv_aload_n hx hb dX10_put_26 rfl (lv_at hl 0 rfl) ?_
    refine hg_10_3 hx hb hts hin_X10 hown kl_21 hI (gK_sA.trans (isk_k k1)) dX10_put_27 ?_
    refine lv_iload_n hx hb dX10_put_30 rfl (lv_at hl 2 rfl) ?_
    obtain ⟨b8, hd9, hf⟩ := bnd_b hf
    obtain ⟨hq10, hk11⟩ := dr_e hd9
    refine W.eq (g2 := F0 m 31 ls [.int a2, .int (gI (sA s0 b2 (gI s0 1003 h).toNatClampNeg a1) 1003 h), .ref b8]) (by rw [hq10]; rfl) ?_
    obtain ⟨k12, hf⟩ := chk_b hf
    refine hs_I hx hb hI (gK_sA.trans hk11) k12 dX10_put_31 (fun H locs hI => ?_)
    obtain ⟨x13, hx13, hf⟩ := bnd_b hf
    replace hx13 := Option.some.inj hx13
    rw [hx13] at hI
    have hk14 : gK x13 h = 11 := by rw [← hx13]; exact (gK_sA.trans (gK_sA.trans (isk_k k1)))
    have hk15 : gK x13 b2 = 22 := by rw [← hx13]; exact (gK_sA.trans (gK_sA.trans hk5))
    have hk16 : gK x13 b8 = 22 := by rw [← hx13]; exact (gK_sA.trans (gK_sA.trans hk11))
    refine lv_aload_n hx hb dX10_put_32 rfl (lv_at hl 0 rfl) ?_
    refine hg_10_2 hx hb hts hin_X10 hown kl_18 hI hk14 dX10_put_33 ?_
    refine lv_aload_n hx hb dX10_put_36 rfl (lv_at hl 0 rfl) ?_
    refine hg_10_3 hx hb hts hin_X10 hown kl_21 hI hk14 dX10_put_37 ?_
    refine lv_iload_n hx hb dX10_put_40 rfl (lv_at hl 3 rfl) ?_
    obtain ⟨b17, hd18, hf⟩ := bnd_b hf
    obtain ⟨hq19, hk20⟩ := dr_e hd18
    refine W.eq (g2 := F0 m 41 ls [.int a3, .int (gI x13 1003 h), .ref b17]) (by rw [hq19]; rfl) ?_
    obtain ⟨k21, hf⟩ := chk_b hf
    refine hs_I hx hb hI hk20 k21 dX10_put_41 (fun H locs hI => ?_)
    refine lv_aload_n hx hb dX10_put_42 rfl (lv_at hl 0 rfl) ?_
    refine lv_dup hx hb dX10_put_43 rfl ?_
    refine hg_10_3 hx hb hts hin_X10 hown kl_21 hI (gK_sA.trans hk14) dX10_put_44 ?_
    refine lv_iconst (v := 1) hx hb dX10_put_47 (by decide) ?_
    refine lv_iadd hx hb dX10_put_48 ?_
    refine hp_10_3 hx hb hts hin_X10 hown kl_21 hI (gK_sA.trans hk14) dX10_put_49 (fun H locs hI => ?_)
    obtain ⟨x22, hx22, hf⟩ := bnd_b hf
    replace hx22 := Option.some.inj hx22
    rw [hx22] at hI
    have hk23 : gK x22 h = 11 := by rw [← hx22]; exact (gK_sI.trans (gK_sA.trans hk14))
    have hk24 : gK x22 b2 = 22 := by rw [← hx22]; exact (gK_sI.trans (gK_sA.trans hk15))
    have hk25 : gK x22 b8 = 22 := by rw [← hx22]; exact (gK_sI.trans (gK_sA.trans hk16))
    have hk26 : gK x22 b17 = 22 := by rw [← hx22]; exact (gK_sI.trans (gK_sA.trans hk20))
    exact hret_v hx hb hr hlocks hI (by decide) (by decide) (fun _ => ⟨trivial, rfl⟩) (ret_e hK0 hf) dX10_put_52

theorem nd_X10_runEnd : yX10_runEnd.cls ≠ "java/lang/invoke/MethodHandle" ∧ yX10_runEnd.cls ≠ "java/lang/invoke/VarHandle" ∧ (parseMethodDescriptor yX10_runEnd.desc).map (fun d => d.parameters.length) = some 3 := by decide +kernel
set_option maxHeartbeats 4000000 in
set_option maxRecDepth 100000 in
theorem ch_X10_runEnd (l : Launch) (D : va_G) (cy : Nat → ClassId) (a0 : Option Nat) (a1 : Int32) (a2 : Int32) (s0 : HSt) (out : HSt × Int32) (hf : fh_X10_runEnd a0 a1 a2 s0 = some out) : CHi l D cy yX10_runEnd wsX10_runEnd { frames := 1, cells := 0, slots := 0, locals := 20 } 0 0 False True [va_rf a0, .int a1, .int a2] s0 out := by
  refine Met.ofW (cc := cX10_runEnd) (maxL := 4) (ret := (some .int)) (by decide) rfl ?_
  intro p e s m args below meth c s₁ B hml hv
  obtain ⟨rfl, hP, hK, hD0, hkx, hsz, hal⟩ := hv
  have hx := B.exec
  have hb := B.bytes
  have hr := B.returns
  have hts := atoms_spec (ws := wsX10_runEnd) B.pre
  have hown : s.vm.findClass RX10 = some m.cls := findClass_of_methodNamed B.named
  have hlocks := B.notSynchronized
  have hI : HI D cy s s0 s0 s.heap [] 0 False True := ⟨hK, hP, hD0.weaken (fun k q hk _ => Or.inl (pl_mem hk)), va_S.rf, hsz.1, hkx, ⟨hsz, hal⟩, fun _ => rfl, Nat.le_refl _⟩
  have hl := lv_entry ([va_rf a0, .int a1, .int a2]) (n := 4) (by simp [lg_sl, cat_rf, cat_i, cat_l, cat_r])
  rw [lg_entry_eq]
  generalize (lg_sl ([va_rf a0, .int a1, .int a2]) ++ List.replicate (4 - (lg_sl ([va_rf a0, .int a1, .int a2])).length) Slot.unset).toArray = ls at hl ⊢
  have hl : lv_has ls 4 [(0, va_rf a0), (1, .int a1), (2, .int a2)] := (by simpa [lv_args, cat_rf, cat_i, cat_l, cat_r] using hl)
  obtain ⟨K0, hK0, hf⟩ := top_e hf
  have B_78 : ∀ (v0 : Option Nat) (v2 : Int32) (v3 : Int32)  (st : HSt) (H : Heap) (locs : List Loc) (ls : Array Slot), HI D cy s s0 st H locs 0 False True → lv_has ls 4 [(0, va_rf v0), (2, .int v2), (3, .int v3)] → (fh_X10_runEnd_j78 v0 v2 v3 st).bind K0 = some out → W p l e (headSpec wsX10_runEnd { frames := 1, cells := 0, slots := 0, locals := 20 }).room s m (([va_rf a0, .int a1, .int a2] : List Value).toArray) below meth c H locs 0 0 (MQ below (HQi D cy s0 0 True out) ([va_rf a0, .int a1, .int a2] : List Value).toArray s 0 0 (hF s0)) (F0 m 78 ls []) := by
    intro v0 v2 v3 st H locs ls hI hl hf
    unfold fh_X10_runEnd_j78 at hf
    refine lv_iload_n hx hb dX10_runEnd_78 rfl (lv_at hl 2 rfl) ?_
    refine lv_iload_n hx hb dX10_runEnd_79 rfl (lv_at hl 1 rfl) ?_
    refine lv_icmp_ge (tgt := 94) hx hb dX10_runEnd_80 (by decide) (fun c17 => ?_) (fun c17 => ?_)
    · replace hf := ifp c17 hf
      refine lv_iload_n hx hb dX10_runEnd_94 rfl (lv_at hl 2 rfl) ?_
      exact hret_i hx hb hr hlocks hI (by decide) (by decide) (fun _ => ⟨trivial, rfl⟩) (ret_e hK0 hf) dX10_runEnd_95
    · replace hf := ifn c17 hf
      refine hq_aload_n hx hb dX10_runEnd_83 rfl (lv_at hl 0 rfl) ?_
      refine lv_iload_n hx hb dX10_runEnd_84 rfl (lv_at hl 2 rfl) ?_
      obtain ⟨b18, hd19, hf⟩ := bnd_b hf
      obtain ⟨hq20, hk21⟩ := dr_e hd19
      refine W.eq (g2 := F0 m 85 ls [.int v3, .ref b18]) (by rw [hq20]; rfl) ?_
      obtain ⟨k22, hf⟩ := chk_b hf
      refine hl_B hx hb hI hk21 k22 dX10_runEnd_85 ?_
      refine lv_bipush (v := 61) hx hb dX10_runEnd_86 (by decide) ?_
      refine lv_icmp_ne (tgt := 94) hx hb dX10_runEnd_88 (by decide) (fun c23 => ?_) (fun c23 => ?_)
      · replace hf := ifn c23 hf
        refine lv_iload_n hx hb dX10_runEnd_94 rfl (lv_at hl 2 rfl) ?_
        exact hret_i hx hb hr hlocks hI (by decide) (by decide) (fun _ => ⟨trivial, rfl⟩) (ret_e hK0 hf) dX10_runEnd_95
      · replace hf := ifp c23 hf
        refine lv_iinc (v := (v3 + 1)) (lv' := [(3, .int (v3 + 1)), (0, va_rf v0), (2, .int v2)]) hx hb dX10_runEnd_91 hl (k := 2) rfl (ci_ _ (by decide)) (by decide) (by first | rfl | (simp [cat_rf, cat_i, cat_l, cat_r]; done) | (simp [cat_rf, cat_i, cat_l, cat_r]; decide)) (fun ls hl => ?_)
        refine lv_iload_n hx hb dX10_runEnd_94 rfl (lv_at hl 0 rfl) ?_
        exact hret_i hx hb hr hlocks hI (by decide) (by decide) (fun _ => ⟨trivial, rfl⟩) (ret_e hK0 hf) dX10_runEnd_95
  have B_94 : ∀ (v3 : Int32)  (st : HSt) (H : Heap) (locs : List Loc) (ls : Array Slot), HI D cy s s0 st H locs 0 False True → lv_has ls 4 [(3, .int v3)] → (fh_X10_runEnd_j94 v3 st).bind K0 = some out → W p l e (headSpec wsX10_runEnd { frames := 1, cells := 0, slots := 0, locals := 20 }).room s m (([va_rf a0, .int a1, .int a2] : List Value).toArray) below meth c H locs 0 0 (MQ below (HQi D cy s0 0 True out) ([va_rf a0, .int a1, .int a2] : List Value).toArray s 0 0 (hF s0)) (F0 m 94 ls []) := by
    intro v3 st H locs ls hI hl hf
    unfold fh_X10_runEnd_j94 at hf
    refine lv_iload_n hx hb dX10_runEnd_94 rfl (lv_at hl 0 rfl) ?_
    exact hret_i hx hb hr hlocks hI (by decide) (by decide) (fun _ => ⟨trivial, rfl⟩) (ret_e hK0 hf) dX10_runEnd_95
  have L_42 : ∀ (v0 : Option Nat) (v2 : Int32) (n : Nat) (v3 : Int32) (st : HSt) (H : Heap) (locs : List Loc) (ls : Array Slot), HI D cy s s0 st H locs 0 False True → lv_has ls 4 [(0, va_rf v0), (2, .int v2), (3, .int v3)] → (iter (fun x : (Int32 × HSt) => fh_X10_runEnd_s42 v0 v2 x.1 x.2) n (v3, st)).bind (fun x => ((Sum.elim (fun o : HSt × Int32 => (some o : Option (HSt × Int32))) (fun x : (Int32 × HSt) => fh_X10_runEnd_j94 x.1 x.2)) x).bind K0) = some out → W p l e (headSpec wsX10_runEnd { frames := 1, cells := 0, slots := 0, locals := 20 }).room s m (([va_rf a0, .int a1, .int a2] : List Value).toArray) below meth c H locs 0 0 (MQ below (HQi D cy s0 0 True out) ([va_rf a0, .int a1, .int a2] : List Value).toArray s 0 0 (hF s0)) (F0 m 42 ls []) := by
    intro v0 v2 n
    induction n with
    | zero => intro v3 st H locs ls hI hl hf; exact (iter_0 hf).elim
    | succ n ih =>
      intro v3 st H locs ls hI hl hf
      obtain ⟨K1, hK1, hf⟩ := iter_e hf
      replace hf : (fh_X10_runEnd_s42 v0 v2 v3 st).bind K1 = some out := hf
      unfold fh_X10_runEnd_s42 at hf
      refine lv_iload_n hx hb dX10_runEnd_42 rfl (lv_at hl 2 rfl) ?_
      refine lv_iload_n hx hb dX10_runEnd_43 rfl (lv_at hl 1 rfl) ?_
      refine lv_icmp_ge (tgt := 94) hx hb dX10_runEnd_44 (by decide) (fun c26 => ?_) (fun c26 => ?_)
      · replace hf := ifp c26 hf
        replace hf := exit_b hK1 hf
        exact B_94 v3 st H locs ls hI (lv_sub hl [2] rfl) hf
      · replace hf := ifn c26 hf
        refine hq_aload_n hx hb dX10_runEnd_47 rfl (lv_at hl 0 rfl) ?_
        refine lv_iload_n hx hb dX10_runEnd_48 rfl (lv_at hl 2 rfl) ?_
        obtain ⟨b27, hd28, hf⟩ := bnd_b hf
        obtain ⟨hq29, hk30⟩ := dr_e hd28
        refine W.eq (g2 := F0 m 49 ls [.int v3, .ref b27]) (by rw [hq29]; rfl) ?_
        obtain ⟨k31, hf⟩ := chk_b hf
        refine hl_B hx hb hI hk30 k31 dX10_runEnd_49 ?_
        obtain ⟨x32, hc33, hf⟩ := bnd_b hf
        refine hcall_Si (ex2 := True) (As := [.int (gA st b27 v3.toNatClampNeg)]) (rest := []) (n := 1) ⟨hx, hb, hml, hown, hts⟩ (ch_X10_isDigit l D cy (gA st b27 v3.toNatClampNeg) st x32 hc33) (va_cwS 1 hts gX10_runEnd_X10_isDigit rfl rfl rfl nd_X10_isDigit ⟨Nat.le_of_ble_eq_true rfl, Nat.le_of_ble_eq_true rfl⟩) hI (fun h => h.elim) (fun _ => ⟨trivial, trivial⟩) rfl hl.1 (Nat.le_of_ble_eq_true rfl) dX10_runEnd_50 ⟨Nat.le_of_ble_eq_true rfl, Nat.le_of_ble_eq_true rfl⟩ (fun H locs hI => ?_)
        refine lv_if_eq (tgt := 94) hx hb dX10_runEnd_53 (by decide) (fun c34 => ?_) (fun c34 => ?_)
        · replace hf := ifp c34 hf
          replace hf := exit_b hK1 hf
          exact B_94 v3 x32.1 H locs ls hI (lv_sub hl [2] rfl) hf
        · replace hf := ifn c34 hf
          refine lv_iinc (v := (v3 + 1)) (lv' := [(3, .int (v3 + 1)), (0, va_rf v0), (2, .int v2)]) hx hb dX10_runEnd_56 hl (k := 2) rfl (ci_ _ (by decide)) (by decide) (by first | rfl | (simp [cat_rf, cat_i, cat_l, cat_r]; done) | (simp [cat_rf, cat_i, cat_l, cat_r]; decide)) (fun ls hl => ?_)
          refine lv_goto (tgt := 42) hx hb dX10_runEnd_59 (by decide) ?_
          replace hf := cont_b hK1 hf
          exact ih (v3 + 1) x32.1 H locs ls hI (lv_sub hl [1, 2, 0] rfl) hf
  have L_13 : ∀ (v0 : Option Nat) (v2 : Int32) (n : Nat) (v3 : Int32) (st : HSt) (H : Heap) (locs : List Loc) (ls : Array Slot), HI D cy s s0 st H locs 0 False True → lv_has ls 4 [(0, va_rf v0), (2, .int v2), (3, .int v3)] → (iter (fun x : (Int32 × HSt) => fh_X10_runEnd_s13 v0 v2 x.1 x.2) n (v3, st)).bind (fun x => ((Sum.elim (fun o : HSt × Int32 => (some o : Option (HSt × Int32))) (fun x : (Int32 × HSt) => fh_X10_runEnd_j94 x.1 x.2)) x).bind K0) = some out → W p l e (headSpec wsX10_runEnd { frames := 1, cells := 0, slots := 0, locals := 20 }).room s m (([va_rf a0, .int a1, .int a2] : List Value).toArray) below meth c H locs 0 0 (MQ below (HQi D cy s0 0 True out) ([va_rf a0, .int a1, .int a2] : List Value).toArray s 0 0 (hF s0)) (F0 m 13 ls []) := by
    intro v0 v2 n
    induction n with
    | zero => intro v3 st H locs ls hI hl hf; exact (iter_0 hf).elim
    | succ n ih =>
      intro v3 st H locs ls hI hl hf
      obtain ⟨K1, hK1, hf⟩ := iter_e hf
      replace hf : (fh_X10_runEnd_s13 v0 v2 v3 st).bind K1 = some out := hf
      unfold fh_X10_runEnd_s13 at hf
      refine lv_iload_n hx hb dX10_runEnd_13 rfl (lv_at hl 2 rfl) ?_
      refine lv_iload_n hx hb dX10_runEnd_14 rfl (lv_at hl 1 rfl) ?_
      refine lv_icmp_ge (tgt := 94) hx hb dX10_runEnd_15 (by decide) (fun c35 => ?_) (fun c35 => ?_)
      · replace hf := ifp c35 hf
        replace hf := exit_b hK1 hf
        exact B_94 v3 st H locs ls hI (lv_sub hl [2] rfl) hf
      · replace hf := ifn c35 hf
        refine hq_aload_n hx hb dX10_runEnd_18 rfl (lv_at hl 0 rfl) ?_
        refine lv_iload_n hx hb dX10_runEnd_19 rfl (lv_at hl 2 rfl) ?_
        obtain ⟨b36, hd37, hf⟩ := bnd_b hf
        obtain ⟨hq38, hk39⟩ := dr_e hd37
        refine W.eq (g2 := F0 m 20 ls [.int v3, .ref b36]) (by rw [hq38]; rfl) ?_
        obtain ⟨k40, hf⟩ := chk_b hf
        refine hl_B hx hb hI hk39 k40 dX10_runEnd_20 ?_
        obtain ⟨x41, hc42, hf⟩ := bnd_b hf
        refine hcall_Si (ex2 := True) (As := [.int (gA st b36 v3.toNatClampNeg)]) (rest := []) (n := 1) ⟨hx, hb, hml, hown, hts⟩ (ch_X10_isLetter l D cy (gA st b36 v3.toNatClampNeg) st x41 hc42) (va_cwS 1 hts gX10_runEnd_X10_isLetter rfl rfl rfl nd_X10_isLetter ⟨Nat.le_of_ble_eq_true rfl, Nat.le_of_ble_eq_true rfl⟩) hI (fun h => h.elim) (fun _ => ⟨trivial, trivial⟩) rfl hl.1 (Nat.le_of_ble_eq_true rfl) dX10_runEnd_21 ⟨Nat.le_of_ble_eq_true rfl, Nat.le_of_ble_eq_true rfl⟩ (fun H locs hI => ?_)
        refine lv_if_eq (tgt := 94) hx hb dX10_runEnd_24 (by decide) (fun c43 => ?_) (fun c43 => ?_)
        · replace hf := ifp c43 hf
          replace hf := exit_b hK1 hf
          exact B_94 v3 x41.1 H locs ls hI (lv_sub hl [2] rfl) hf
        · replace hf := ifn c43 hf
          refine lv_iinc (v := (v3 + 1)) (lv' := [(3, .int (v3 + 1)), (0, va_rf v0), (2, .int v2)]) hx hb dX10_runEnd_27 hl (k := 2) rfl (ci_ _ (by decide)) (by decide) (by first | rfl | (simp [cat_rf, cat_i, cat_l, cat_r]; done) | (simp [cat_rf, cat_i, cat_l, cat_r]; decide)) (fun ls hl => ?_)
          refine lv_goto (tgt := 13) hx hb dX10_runEnd_30 (by decide) ?_
          replace hf := cont_b hK1 hf
          exact ih (v3 + 1) x41.1 H locs ls hI (lv_sub hl [1, 2, 0] rfl) hf
  unfold fh_X10_runEnd at hf
  refine lv_iload_n hx hb dX10_runEnd_0 rfl (lv_at hl 1 rfl) ?_
  refine lv_iconst (v := 1) hx hb dX10_runEnd_1 (by decide) ?_
  refine lv_iadd hx hb dX10_runEnd_2 ?_
  refine lv_istore_n (lv' := [(3, .int (a1 + (1 : Int32))), (0, va_rf a0), (1, .int a1), (2, .int a2)]) hx hb dX10_runEnd_3 rfl hl (by decide) (by first | rfl | (simp [cat_rf, cat_i, cat_l, cat_r]; done) | (simp [cat_rf, cat_i, cat_l, cat_r]; decide)) (fun ls hl => ?_)
  refine hq_aload_n hx hb dX10_runEnd_4 rfl (lv_at hl 1 rfl) ?_
  refine lv_iload_n hx hb dX10_runEnd_5 rfl (lv_at hl 2 rfl) ?_
  obtain ⟨b1, hd2, hf⟩ := bnd_b hf
  obtain ⟨hq3, hk4⟩ := dr_e hd2
  refine W.eq (g2 := F0 m 6 ls [.int a1, .ref b1]) (by rw [hq3]; rfl) ?_
  obtain ⟨k5, hf⟩ := chk_b hf
  refine hl_B hx hb hI hk4 k5 dX10_runEnd_6 ?_
  obtain ⟨x6, hc7, hf⟩ := bnd_b hf
  refine hcall_Si (ex2 := True) (As := [.int (gA s0 b1 a1.toNatClampNeg)]) (rest := []) (n := 1) ⟨hx, hb, hml, hown, hts⟩ (ch_X10_isLetter l D cy (gA s0 b1 a1.toNatClampNeg) s0 x6 hc7) (va_cwS 1 hts gX10_runEnd_X10_isLetter rfl rfl rfl nd_X10_isLetter ⟨Nat.le_of_ble_eq_true rfl, Nat.le_of_ble_eq_true rfl⟩) hI (fun h => h.elim) (fun _ => ⟨trivial, trivial⟩) rfl hl.1 (Nat.le_of_ble_eq_true rfl) dX10_runEnd_7 ⟨Nat.le_of_ble_eq_true rfl, Nat.le_of_ble_eq_true rfl⟩ (fun H locs hI => ?_)
  refine lv_if_eq (tgt := 33) hx hb dX10_runEnd_10 (by decide) (fun c8 => ?_) (fun c8 => ?_)
  · replace hf := ifp c8 hf
    refine hq_aload_n hx hb dX10_runEnd_33 rfl (lv_at hl 1 rfl) ?_
    refine lv_iload_n hx hb dX10_runEnd_34 rfl (lv_at hl 2 rfl) ?_
    refine W.eq (g2 := F0 m 35 ls [.int a1, .ref b1]) (by rw [hq3]; rfl) ?_
    obtain ⟨k9, hf⟩ := chk_b hf
    obtain ⟨k10, hf⟩ := chk_b hf
    refine hl_B hx hb hI (isk_k k9) k10 dX10_runEnd_35 ?_
    obtain ⟨x11, hc12, hf⟩ := bnd_b hf
    refine hcall_Si (ex2 := True) (As := [.int (gA x6.1 b1 a1.toNatClampNeg)]) (rest := []) (n := 1) ⟨hx, hb, hml, hown, hts⟩ (ch_X10_isDigit l D cy (gA x6.1 b1 a1.toNatClampNeg) x6.1 x11 hc12) (va_cwS 1 hts gX10_runEnd_X10_isDigit rfl rfl rfl nd_X10_isDigit ⟨Nat.le_of_ble_eq_true rfl, Nat.le_of_ble_eq_true rfl⟩) hI (fun h => h.elim) (fun _ => ⟨trivial, trivial⟩) rfl hl.1 (Nat.le_of_ble_eq_true rfl) dX10_runEnd_36 ⟨Nat.le_of_ble_eq_true rfl, Nat.le_of_ble_eq_true rfl⟩ (fun H locs hI => ?_)
    refine lv_if_eq (tgt := 62) hx hb dX10_runEnd_39 (by decide) (fun c13 => ?_) (fun c13 => ?_)
    · replace hf := ifp c13 hf
      refine hq_aload_n hx hb dX10_runEnd_62 rfl (lv_at hl 1 rfl) ?_
      refine lv_iload_n hx hb dX10_runEnd_63 rfl (lv_at hl 2 rfl) ?_
      refine W.eq (g2 := F0 m 64 ls [.int a1, .ref b1]) (by rw [hq3]; rfl) ?_
      obtain ⟨k14, hf⟩ := chk_b hf
      obtain ⟨k15, hf⟩ := chk_b hf
      refine hl_B hx hb hI (isk_k k14) k15 dX10_runEnd_64 ?_
      refine lv_bipush (v := 60) hx hb dX10_runEnd_65 (by decide) ?_
      refine lv_icmp_eq (tgt := 78) hx hb dX10_runEnd_67 (by decide) (fun c16 => ?_) (fun c16 => ?_)
      · replace hf := ifp c16 hf
        exact B_78 a0 a2 (a1 + (1 : Int32)) x11.1 H locs ls hI (lv_sub hl [1, 3, 0] rfl) hf
      · replace hf := ifn c16 hf
        refine hq_aload_n hx hb dX10_runEnd_70 rfl (lv_at hl 1 rfl) ?_
        refine lv_iload_n hx hb dX10_runEnd_71 rfl (lv_at hl 2 rfl) ?_
        refine W.eq (g2 := F0 m 72 ls [.int a1, .ref b1]) (by rw [hq3]; rfl) ?_
        obtain ⟨k24, hf⟩ := chk_b hf
        refine hl_B hx hb hI (isk_k k14) k24 dX10_runEnd_72 ?_
        refine lv_bipush (v := 62) hx hb dX10_runEnd_73 (by decide) ?_
        refine lv_icmp_ne (tgt := 94) hx hb dX10_runEnd_75 (by decide) (fun c25 => ?_) (fun c25 => ?_)
        · replace hf := ifn c25 hf
          refine lv_iload_n hx hb dX10_runEnd_94 rfl (lv_at hl 0 rfl) ?_
          exact hret_i hx hb hr hlocks hI (by decide) (by decide) (fun _ => ⟨trivial, rfl⟩) (ret_e hK0 hf) dX10_runEnd_95
        · replace hf := ifp c25 hf
          exact B_78 a0 a2 (a1 + (1 : Int32)) x11.1 H locs ls hI (lv_sub hl [1, 3, 0] rfl) hf
    · replace hf := ifn c13 hf
      exact L_42 a0 a2 mFuel (a1 + (1 : Int32)) x11.1 H locs ls hI (lv_sub hl [1, 3, 0] rfl) (asc_b hf)
  · replace hf := ifn c8 hf
    exact L_13 a0 a2 mFuel (a1 + (1 : Int32)) x6.1 H locs ls hI (lv_sub hl [1, 3, 0] rfl) (asc_b hf)

theorem nd_X10_valueOf : yX10_valueOf.cls ≠ "java/lang/invoke/MethodHandle" ∧ yX10_valueOf.cls ≠ "java/lang/invoke/VarHandle" ∧ (parseMethodDescriptor yX10_valueOf.desc).map (fun d => d.parameters.length) = some 3 := by decide +kernel
set_option maxHeartbeats 4000000 in
set_option maxRecDepth 100000 in
theorem ch_X10_valueOf (l : Launch) (D : va_G) (cy : Nat → ClassId) (a0 : Option Nat) (a1 : Int32) (a2 : Int32) (s0 : HSt) (out : HSt × Int32) (hf : fh_X10_valueOf a0 a1 a2 s0 = some out) : CHi l D cy yX10_valueOf wsX10_valueOf { frames := 1, cells := 0, slots := 0, locals := 20 } 0 0 False True [va_rf a0, .int a1, .int a2] s0 out := by
  refine Met.ofW (cc := cX10_valueOf) (maxL := 5) (ret := (some .int)) (by decide) rfl ?_
  intro p e s m args below meth c s₁ B hml hv
  obtain ⟨rfl, hP, hK, hD0, hkx, hsz, hal⟩ := hv
  have hx := B.exec
  have hb := B.bytes
  have hr := B.returns
  have hts := atoms_spec (ws := wsX10_valueOf) B.pre
  have hown : s.vm.findClass RX10 = some m.cls := findClass_of_methodNamed B.named
  have hlocks := B.notSynchronized
  have hI : HI D cy s s0 s0 s.heap [] 0 False True := ⟨hK, hP, hD0.weaken (fun k q hk _ => Or.inl (pl_mem hk)), va_S.rf, hsz.1, hkx, ⟨hsz, hal⟩, fun _ => rfl, Nat.le_refl _⟩
  have hl := lv_entry ([va_rf a0, .int a1, .int a2]) (n := 5) (by simp [lg_sl, cat_rf, cat_i, cat_l, cat_r])
  rw [lg_entry_eq]
  generalize (lg_sl ([va_rf a0, .int a1, .int a2]) ++ List.replicate (5 - (lg_sl ([va_rf a0, .int a1, .int a2])).length) Slot.unset).toArray = ls at hl ⊢
  have hl : lv_has ls 5 [(0, va_rf a0), (1, .int a1), (2, .int a2)] := (by simpa [lv_args, cat_rf, cat_i, cat_l, cat_r] using hl)
  obtain ⟨K0, hK0, hf⟩ := top_e hf
  have B_48 : ∀ (v3 : Int32)  (st : HSt) (H : Heap) (locs : List Loc) (ls : Array Slot), HI D cy s s0 st H locs 0 False True → lv_has ls 5 [(3, .int v3)] → (fh_X10_valueOf_j48 v3 st).bind K0 = some out → W p l e (headSpec wsX10_valueOf { frames := 1, cells := 0, slots := 0, locals := 20 }).room s m (([va_rf a0, .int a1, .int a2] : List Value).toArray) below meth c H locs 0 0 (MQ below (HQi D cy s0 0 True out) ([va_rf a0, .int a1, .int a2] : List Value).toArray s 0 0 (hF s0)) (F0 m 48 ls []) := by
    intro v3 st H locs ls hI hl hf
    unfold fh_X10_valueOf_j48 at hf
    refine lv_iload_n hx hb dX10_valueOf_48 rfl (lv_at hl 0 rfl) ?_
    exact hret_i hx hb hr hlocks hI (by decide) (by decide) (fun _ => ⟨trivial, rfl⟩) (ret_e hK0 hf) dX10_valueOf_49
  have L_23 : ∀ (v0 : Option Nat) (v2 : Int32) (n : Nat) (v3 : Int32) (v4 : Int32) (st : HSt) (H : Heap) (locs : List Loc) (ls : Array Slot), HI D cy s s0 st H locs 0 False True → lv_has ls 5 [(0, va_rf v0), (2, .int v2), (3, .int v3), (4, .int v4)] → (iter (fun x : (Int32 × Int32 × HSt) => fh_X10_valueOf_s23 v0 v2 x.1 x.2.1 x.2.2) n (v3, v4, st)).bind (fun x => ((Sum.elim (fun o : HSt × Int32 => (some o : Option (HSt × Int32))) (fun x : (Int32 × Int32 × HSt) => fh_X10_valueOf_j48 x.1 x.2.2)) x).bind K0) = some out → W p l e (headSpec wsX10_valueOf { frames := 1, cells := 0, slots := 0, locals := 20 }).room s m (([va_rf a0, .int a1, .int a2] : List Value).toArray) below meth c H locs 0 0 (MQ below (HQi D cy s0 0 True out) ([va_rf a0, .int a1, .int a2] : List Value).toArray s 0 0 (hF s0)) (F0 m 23 ls []) := by
    intro v0 v2 n
    induction n with
    | zero => intro v3 v4 st H locs ls hI hl hf; exact (iter_0 hf).elim
    | succ n ih =>
      intro v3 v4 st H locs ls hI hl hf
      obtain ⟨K1, hK1, hf⟩ := iter_e hf
      replace hf : (fh_X10_valueOf_s23 v0 v2 v3 v4 st).bind K1 = some out := hf
      unfold fh_X10_valueOf_s23 at hf
      refine lv_iload hx hb dX10_valueOf_23 (lv_at hl 3 rfl) ?_
      refine lv_iload_n hx hb dX10_valueOf_25 rfl (lv_at hl 1 rfl) ?_
      refine lv_icmp_ge (tgt := 48) hx hb dX10_valueOf_26 (by decide) (fun c10 => ?_) (fun c10 => ?_)
      · replace hf := ifp c10 hf
        replace hf := exit_b hK1 hf
        exact B_48 v3 st H locs ls hI (lv_sub hl [2] rfl) hf
      · replace hf := ifn c10 hf
        refine lv_iload_n hx hb dX10_valueOf_29 rfl (lv_at hl 2 rfl) ?_
        refine lv_bipush (v := 10) hx hb dX10_valueOf_30 (by decide) ?_
        refine lv_imul hx hb dX10_valueOf_32 ?_
        refine hq_aload_n hx hb dX10_valueOf_33 rfl (lv_at hl 0 rfl) ?_
        refine lv_iload hx hb dX10_valueOf_34 (lv_at hl 3 rfl) ?_
        obtain ⟨b11, hd12, hf⟩ := bnd_b hf
        obtain ⟨hq13, hk14⟩ := dr_e hd12
        refine W.eq (g2 := F0 m 36 ls [.int v4, .ref b11, .int (v3 * (10 : Int32))]) (by rw [hq13]; rfl) ?_
        obtain ⟨k15, hf⟩ := chk_b hf
        refine hl_B hx hb hI hk14 k15 dX10_valueOf_36 ?_
        refine lv_iadd hx hb dX10_valueOf_37 ?_
        refine lv_bipush (v := 48) hx hb dX10_valueOf_38 (by decide) ?_
        refine lv_isub hx hb dX10_valueOf_40 ?_
        refine lv_istore_n (lv' := [(3, .int (((v3 * (10 : Int32)) + (gA st b11 v4.toNatClampNeg)) - (48 : Int32))), (0, va_rf v0), (2, .int v2), (4, .int v4)]) hx hb dX10_valueOf_41 rfl hl (by decide) (by first | rfl | (simp [cat_rf, cat_i, cat_l, cat_r]; done) | (simp [cat_rf, cat_i, cat_l, cat_r]; decide)) (fun ls hl => ?_)
        refine lv_iinc (v := (v4 + 1)) (lv' := [(4, .int (v4 + 1)), (3, .int (((v3 * (10 : Int32)) + (gA st b11 v4.toNatClampNeg)) - (48 : Int32))), (0, va_rf v0), (2, .int v2)]) hx hb dX10_valueOf_42 hl (k := 3) rfl (ci_ _ (by decide)) (by decide) (by first | rfl | (simp [cat_rf, cat_i, cat_l, cat_r]; done) | (simp [cat_rf, cat_i, cat_l, cat_r]; decide)) (fun ls hl => ?_)
        refine lv_goto (tgt := 23) hx hb dX10_valueOf_45 (by decide) ?_
        replace hf := cont_b hK1 hf
        exact ih (((v3 * (10 : Int32)) + (gA st b11 v4.toNatClampNeg)) - (48 : Int32)) (v4 + 1) st H locs ls hI (lv_sub hl [2, 3, 1, 0] rfl) hf
  unfold fh_X10_valueOf at hf
  refine lv_iload_n hx hb dX10_valueOf_0 rfl (lv_at hl 2 rfl) ?_
  refine lv_iload_n hx hb dX10_valueOf_1 rfl (lv_at hl 1 rfl) ?_
  refine lv_isub hx hb dX10_valueOf_2 ?_
  refine lv_iconst (v := 5) hx hb dX10_valueOf_3 (by decide) ?_
  refine lv_icmp_gt (tgt := 16) hx hb dX10_valueOf_4 (by decide) (fun c1 => ?_) (fun c1 => ?_)
  · replace hf := ifp c1 hf
    refine lv_iconst (v := -1) hx hb dX10_valueOf_16 (by decide) ?_
    exact hret_i hx hb hr hlocks hI (by decide) (by decide) (fun _ => ⟨trivial, rfl⟩) (ret_e hK0 hf) dX10_valueOf_17
  · replace hf := ifn c1 hf
    refine hq_aload_n hx hb dX10_valueOf_7 rfl (lv_at hl 0 rfl) ?_
    refine lv_iload_n hx hb dX10_valueOf_8 rfl (lv_at hl 1 rfl) ?_
    obtain ⟨b2, hd3, hf⟩ := bnd_b hf
    obtain ⟨hq4, hk5⟩ := dr_e hd3
    refine W.eq (g2 := F0 m 9 ls [.int a1, .ref b2]) (by rw [hq4]; rfl) ?_
    obtain ⟨k6, hf⟩ := chk_b hf
    refine hl_B hx hb hI hk5 k6 dX10_valueOf_9 ?_
    obtain ⟨x7, hc8, hf⟩ := bnd_b hf
    refine hcall_Si (ex2 := True) (As := [.int (gA s0 b2 a1.toNatClampNeg)]) (rest := []) (n := 1) ⟨hx, hb, hml, hown, hts⟩ (ch_X10_isDigit l D cy (gA s0 b2 a1.toNatClampNeg) s0 x7 hc8) (va_cwS 1 hts gX10_valueOf_X10_isDigit rfl rfl rfl nd_X10_isDigit ⟨Nat.le_of_ble_eq_true rfl, Nat.le_of_ble_eq_true rfl⟩) hI (fun h => h.elim) (fun _ => ⟨trivial, trivial⟩) rfl hl.1 (Nat.le_of_ble_eq_true rfl) dX10_valueOf_10 ⟨Nat.le_of_ble_eq_true rfl, Nat.le_of_ble_eq_true rfl⟩ (fun H locs hI => ?_)
    refine lv_if_ne (tgt := 18) hx hb dX10_valueOf_13 (by decide) (fun c9 => ?_) (fun c9 => ?_)
    · replace hf := ifn c9 hf
      refine lv_iconst (v := 0) hx hb dX10_valueOf_18 (by decide) ?_
      refine lv_istore_n (lv' := [(3, .int (0 : Int32)), (0, va_rf a0), (1, .int a1), (2, .int a2)]) hx hb dX10_valueOf_19 rfl hl (by decide) (by first | rfl | (simp [cat_rf, cat_i, cat_l, cat_r]; done) | (simp [cat_rf, cat_i, cat_l, cat_r]; decide)) (fun ls hl => ?_)
      refine lv_iload_n hx hb dX10_valueOf_20 rfl (lv_at hl 2 rfl) ?_
      refine lv_istore (lv' := [(4, .int a1), (3, .int (0 : Int32)), (0, va_rf a0), (1, .int a1), (2, .int a2)]) hx hb dX10_valueOf_21 hl (by decide) (by first | rfl | (simp [cat_rf, cat_i, cat_l, cat_r]; done) | (simp [cat_rf, cat_i, cat_l, cat_r]; decide)) (fun ls hl => ?_)
      exact L_23 a0 a2 mFuel (0 : Int32) a1 x7.1 H locs ls hI (lv_sub hl [2, 4, 1, 0] rfl) (asc_b hf)
    · replace hf := ifp c9 hf
      refine lv_iconst (v := -1) hx hb dX10_valueOf_16 (by decide) ?_
      exact hret_i hx hb hr hlocks hI (by decide) (by decide) (fun _ => ⟨trivial, rfl⟩) (ret_e hK0 hf) dX10_valueOf_17

theorem nd_X10_scan : yX10_scan.cls ≠ "java/lang/invoke/MethodHandle" ∧ yX10_scan.cls ≠ "java/lang/invoke/VarHandle" ∧ (parseMethodDescriptor yX10_scan.desc).map (fun d => d.parameters.length) = some 2 := by decide +kernel
set_option maxHeartbeats 4000000 in
set_option maxRecDepth 100000 in
theorem ch_X10_scan (l : Launch) (D : va_G) (cy : Nat → ClassId) (h : Nat) (a1 : Option Nat) (a2 : Int32) (s0 : HSt) (out : HSt) (hf : fh_X10_scan h a1 a2 s0 = some out) : CHv l D cy yX10_scan wsX10_scan { frames := 8, cells := 0, slots := 0, locals := 177 } 0 0 False True [.ref h, va_rf a1, .int a2] s0 out := by
  refine Met.ofW (cc := cX10_scan) (maxL := 6) (ret := none) (by decide) rfl ?_
  intro p e s m args below meth c s₁ B hml hv
  obtain ⟨rfl, hP, hK, hD0, hkx, hsz, hal⟩ := hv
  have hx := B.exec
  have hb := B.bytes
  have hr := B.returns
  have hts := atoms_spec (ws := wsX10_scan) B.pre
  have hown : s.vm.findClass RX10 = some m.cls := findClass_of_methodNamed B.named
  have hlocks := B.notSynchronized
  have hI : HI D cy s s0 s0 s.heap [] 0 False True := ⟨hK, hP, hD0.weaken (fun k q hk _ => Or.inl (pl_mem hk)), va_S.rf, hsz.1, hkx, ⟨hsz, hal⟩, fun _ => rfl, Nat.le_refl _⟩
  have hin_X10 : ∀ w ∈ u_ws RX10 TX10 6, w ∈ wsX10_scan := fun w hw => List.mem_cons_of_mem _ (List.mem_append_right _ hw)
  have kl_21 : Cond.fieldLink RX10 21 "HalfBridge$Tokens" "size" "I" ∈ wsX10_scan := by decide +kernel
  have kl_25 : Cond.fieldLink RX10 25 "HalfBridge$Tokens" "at" "I" ∈ wsX10_scan := by decide +kernel
  have kl_28 : Cond.fieldLink RX10 28 "HalfBridge$Tokens" "fault" "I" ∈ wsX10_scan := by decide +kernel
  have hl := lv_entry ([.ref h, va_rf a1, .int a2]) (n := 6) (by simp [lg_sl, cat_rf, cat_i, cat_l, cat_r])
  rw [lg_entry_eq]
  generalize (lg_sl ([.ref h, va_rf a1, .int a2]) ++ List.replicate (6 - (lg_sl ([.ref h, va_rf a1, .int a2])).length) Slot.unset).toArray = ls at hl ⊢
  have hl : lv_has ls 6 [(0, .ref h), (1, va_rf a1), (2, .int a2)] := (by simpa [lv_args, cat_rf, cat_i, cat_l, cat_r] using hl)
  obtain ⟨K0, hK0, hf⟩ := top_e hf
  have B_85 : ∀ (v3 : Int32)  (st : HSt) (H : Heap) (locs : List Loc) (ls : Array Slot), HI D cy s s0 st H locs 0 False True → lv_has ls 6 [(0, .ref h), (3, .int v3)] → (fh_X10_scan_j85 h v3 st).bind K0 = some out → W p l e (headSpec wsX10_scan { frames := 8, cells := 0, slots := 0, locals := 177 }).room s m (([.ref h, va_rf a1, .int a2] : List Value).toArray) below meth c H locs 0 0 (MQ below (HQv D cy s0 0 True out) ([.ref h, va_rf a1, .int a2] : List Value).toArray s 0 0 (hF s0)) (F0 m 85 ls []) := by
    intro v3 st H locs ls hI hl hf
    unfold fh_X10_scan_j85 at hf
    refine lv_aload_n hx hb dX10_scan_85 rfl (lv_at hl 0 rfl) ?_
    refine lv_iconst (v := 0) hx hb dX10_scan_86 (by decide) ?_
    refine lv_iload_n hx hb dX10_scan_87 rfl (lv_at hl 1 rfl) ?_
    refine lv_iconst (v := 0) hx hb dX10_scan_88 (by decide) ?_
    obtain ⟨k8, hf⟩ := chk_b hf
    obtain ⟨x9, hc10, hf⟩ := bnd_b hf
    refine hcall_Vv (ex2 := True) (As := [.int (0 : Int32), .int v3, .int (0 : Int32)]) (rest := []) (n := 3) (by rw [(isk_k k8)]; decide) (hC_11 (isk_k k8)) rfl ⟨hx, hb, hml, hown, hts⟩ (ch_X10_put l D cy h (0 : Int32) v3 (0 : Int32) st x9 hc10) (cwV 3 hts gX10_scan_X10_put rfl rfl rfl ⟨rfl, nd_X10_put⟩ ⟨Nat.le_of_ble_eq_true rfl, Nat.le_of_ble_eq_true rfl⟩) hI (fun h => h.elim) (fun _ => ⟨trivial, trivial⟩) rfl hl.1 (Nat.le_of_ble_eq_true rfl) dX10_scan_89 ⟨Nat.le_of_ble_eq_true rfl, Nat.le_of_ble_eq_true rfl⟩ (fun H locs hI => ?_)
    exact hret_v hx hb hr hlocks hI (by decide) (by decide) (fun _ => ⟨trivial, rfl⟩) (ret_e hK0 hf) dX10_scan_92
  have L_25 : ∀ (v1 : Option Nat) (v3 : Int32) (n : Nat) (v4 : Int32) (st : HSt) (H : Heap) (locs : List Loc) (ls : Array Slot), HI D cy s s0 st H locs 0 False True → lv_has ls 6 [(0, .ref h), (1, va_rf v1), (3, .int v3), (4, .int v4)] → (iter (fun x : (Int32 × HSt) => fh_X10_scan_s25 h v1 v3 x.1 x.2) n (v4, st)).bind (fun x => ((Sum.elim (fun o : HSt => (some o : Option (HSt))) (fun x : (Int32 × HSt) => fh_X10_scan_j85 h v3 x.2)) x).bind K0) = some out → W p l e (headSpec wsX10_scan { frames := 8, cells := 0, slots := 0, locals := 177 }).room s m (([.ref h, va_rf a1, .int a2] : List Value).toArray) below meth c H locs 0 0 (MQ below (HQv D cy s0 0 True out) ([.ref h, va_rf a1, .int a2] : List Value).toArray s 0 0 (hF s0)) (F0 m 25 ls []) := by
    intro v1 v3 n
    induction n with
    | zero => intro v4 st H locs ls hI hl hf; exact (iter_0 hf).elim
    | succ n ih =>
      intro v4 st H locs ls hI hl hf
      obtain ⟨K1, hK1, hf⟩ := iter_e hf
      replace hf : (fh_X10_scan_s25 h v1 v3 v4 st).bind K1 = some out := hf
      unfold fh_X10_scan_s25 at hf
      refine lv_iload hx hb dX10_scan_25 (lv_at hl 3 rfl) ?_
      refine lv_iload_n hx hb dX10_scan_27 rfl (lv_at hl 2 rfl) ?_
      refine lv_icmp_ge (tgt := 85) hx hb dX10_scan_28 (by decide) (fun c11 => ?_) (fun c11 => ?_)
      · replace hf := ifp c11 hf
        replace hf := exit_b hK1 hf
        exact B_85 v3 st H locs ls hI (lv_sub hl [0, 2] rfl) hf
      · replace hf := ifn c11 hf
        refine hq_aload_n hx hb dX10_scan_31 rfl (lv_at hl 1 rfl) ?_
        refine lv_iload hx hb dX10_scan_32 (lv_at hl 3 rfl) ?_
        refine lv_iload_n hx hb dX10_scan_34 rfl (lv_at hl 2 rfl) ?_
        obtain ⟨x12, hc13, hf⟩ := bnd_b hf
        refine hcall_Si (ex2 := True) (As := [va_rf v1, .int v4, .int v3]) (rest := []) (n := 3) ⟨hx, hb, hml, hown, hts⟩ (ch_X10_runEnd l D cy v1 v4 v3 st x12 hc13) (va_cwS 3 hts gX10_scan_X10_runEnd rfl rfl rfl nd_X10_runEnd ⟨Nat.le_of_ble_eq_true rfl, Nat.le_of_ble_eq_true rfl⟩) hI (fun h => h.elim) (fun _ => ⟨trivial, trivial⟩) rfl hl.1 (Nat.le_of_ble_eq_true rfl) dX10_scan_35 ⟨Nat.le_of_ble_eq_true rfl, Nat.le_of_ble_eq_true rfl⟩ (fun H locs hI => ?_)
        refine lv_iload hx hb dX10_scan_38 (lv_at hl 3 rfl) ?_
        refine lv_iconst (v := 1) hx hb dX10_scan_40 (by decide) ?_
        refine lv_iadd hx hb dX10_scan_41 ?_
        refine va_mmax hx hb (hml.trans hl.1.symm) hown (hts (.methodLink RX10 41 Lib.Math.max.name) (by decide +kernel)) (hts (.static Lib.Math.max.name) (by decide +kernel)) (hts (.initialized "java/lang/Math") (by decide +kernel)) (hts (.code Lib.Math.max.name Lib.Math.max.code 2 (some .int)) (by decide +kernel)) (Nat.le_of_ble_eq_true rfl) (Nat.le_of_ble_eq_true rfl) (Nat.le_of_ble_eq_true rfl) (Nat.le_of_ble_eq_true rfl) dX10_scan_42 ?_
        refine lv_istore (lv' := [(5, .int (if x12.2 < (v4 + (1 : Int32)) then (v4 + (1 : Int32)) else x12.2)), (0, .ref h), (1, va_rf v1), (3, .int v3), (4, .int v4)]) hx hb dX10_scan_45 hl (by decide) (by first | rfl | (simp [cat_rf, cat_i, cat_l, cat_r]; done) | (simp [cat_rf, cat_i, cat_l, cat_r]; decide)) (fun ls hl => ?_)
        refine hq_aload_n hx hb dX10_scan_47 rfl (lv_at hl 2 rfl) ?_
        refine lv_iload hx hb dX10_scan_48 (lv_at hl 4 rfl) ?_
        obtain ⟨b14, hd15, hf⟩ := bnd_b hf
        obtain ⟨hq16, hk17⟩ := dr_e hd15
        refine W.eq (g2 := F0 m 50 ls [.int v4, .ref b14]) (by rw [hq16]; rfl) ?_
        obtain ⟨k18, hf⟩ := chk_b hf
        refine hl_B hx hb hI hk17 k18 dX10_scan_50 ?_
        refine lv_bipush (v := 32) hx hb dX10_scan_51 (by decide) ?_
        refine lv_icmp_eq (tgt := 78) hx hb dX10_scan_53 (by decide) (fun c19 => ?_) (fun c19 => ?_)
        · replace hf := ifp c19 hf
          refine lv_iload hx hb dX10_scan_78 (lv_at hl 0 rfl) ?_
          refine lv_istore (lv' := [(4, .int (if x12.2 < (v4 + (1 : Int32)) then (v4 + (1 : Int32)) else x12.2)), (5, .int (if x12.2 < (v4 + (1 : Int32)) then (v4 + (1 : Int32)) else x12.2)), (0, .ref h), (1, va_rf v1), (3, .int v3)]) hx hb dX10_scan_80 hl (by decide) (by first | rfl | (simp [cat_rf, cat_i, cat_l, cat_r]; done) | (simp [cat_rf, cat_i, cat_l, cat_r]; decide)) (fun ls hl => ?_)
          refine lv_goto (tgt := 25) hx hb dX10_scan_82 (by decide) ?_
          replace hf := cont_b hK1 hf
          exact ih (if x12.2 < (v4 + (1 : Int32)) then (v4 + (1 : Int32)) else x12.2) x12.1 H locs ls hI (lv_sub hl [2, 3, 4, 0] rfl) hf
        · replace hf := ifn c19 hf
          refine lv_aload_n hx hb dX10_scan_56 rfl (lv_at hl 1 rfl) ?_
          refine hq_aload_n hx hb dX10_scan_57 rfl (lv_at hl 2 rfl) ?_
          refine lv_iload hx hb dX10_scan_58 (lv_at hl 4 rfl) ?_
          refine lv_iload hx hb dX10_scan_60 (lv_at hl 0 rfl) ?_
          obtain ⟨x20, hc21, hf⟩ := bnd_b hf
          refine hcall_Si (ex2 := True) (As := [va_rf v1, .int v4, .int (if x12.2 < (v4 + (1 : Int32)) then (v4 + (1 : Int32)) else x12.2)]) (rest := [.ref h]) (n := 3) ⟨hx, hb, hml, hown, hts⟩ (ch_X10_kindOf l D cy v1 v4 (if x12.2 < (v4 + (1 : Int32)) then (v4 + (1 : Int32)) else x12.2) x12.1 x20 hc21) (va_cwS 3 hts gX10_scan_X10_kindOf rfl rfl rfl nd_X10_kindOf ⟨Nat.le_of_ble_eq_true rfl, Nat.le_of_ble_eq_true rfl⟩) hI (fun h => h.elim) (fun _ => ⟨trivial, trivial⟩) rfl hl.1 (Nat.le_of_ble_eq_true rfl) dX10_scan_62 ⟨Nat.le_of_ble_eq_true rfl, Nat.le_of_ble_eq_true rfl⟩ (fun H locs hI => ?_)
          refine lv_iload hx hb dX10_scan_65 (lv_at hl 4 rfl) ?_
          refine hq_aload_n hx hb dX10_scan_67 rfl (lv_at hl 2 rfl) ?_
          refine lv_iload hx hb dX10_scan_68 (lv_at hl 4 rfl) ?_
          refine lv_iload hx hb dX10_scan_70 (lv_at hl 0 rfl) ?_
          obtain ⟨x22, hc23, hf⟩ := bnd_b hf
          refine hcall_Si (ex2 := True) (As := [va_rf v1, .int v4, .int (if x12.2 < (v4 + (1 : Int32)) then (v4 + (1 : Int32)) else x12.2)]) (rest := [.int v4, .int x20.2, .ref h]) (n := 3) ⟨hx, hb, hml, hown, hts⟩ (ch_X10_valueOf l D cy v1 v4 (if x12.2 < (v4 + (1 : Int32)) then (v4 + (1 : Int32)) else x12.2) x20.1 x22 hc23) (va_cwS 3 hts gX10_scan_X10_valueOf rfl rfl rfl nd_X10_valueOf ⟨Nat.le_of_ble_eq_true rfl, Nat.le_of_ble_eq_true rfl⟩) hI (fun h => h.elim) (fun _ => ⟨trivial, trivial⟩) rfl hl.1 (Nat.le_of_ble_eq_true rfl) dX10_scan_72 ⟨Nat.le_of_ble_eq_true rfl, Nat.le_of_ble_eq_true rfl⟩ (fun H locs hI => ?_)
          obtain ⟨k24, hf⟩ := chk_b hf
          obtain ⟨x25, hc26, hf⟩ := bnd_b hf
          refine hcall_Vv (ex2 := True) (As := [.int x20.2, .int v4, .int x22.2]) (rest := []) (n := 3) (by rw [(isk_k k24)]; decide) (hC_11 (isk_k k24)) rfl ⟨hx, hb, hml, hown, hts⟩ (ch_X10_put l D cy h x20.2 v4 x22.2 x22.1 x25 hc26) (cwV 3 hts gX10_scan_X10_put rfl rfl rfl ⟨rfl, nd_X10_put⟩ ⟨Nat.le_of_ble_eq_true rfl, Nat.le_of_ble_eq_true rfl⟩) hI (fun h => h.elim) (fun _ => ⟨trivial, trivial⟩) rfl hl.1 (Nat.le_of_ble_eq_true rfl) dX10_scan_75 ⟨Nat.le_of_ble_eq_true rfl, Nat.le_of_ble_eq_true rfl⟩ (fun H locs hI => ?_)
          refine lv_iload hx hb dX10_scan_78 (lv_at hl 0 rfl) ?_
          refine lv_istore (lv' := [(4, .int (if x12.2 < (v4 + (1 : Int32)) then (v4 + (1 : Int32)) else x12.2)), (5, .int (if x12.2 < (v4 + (1 : Int32)) then (v4 + (1 : Int32)) else x12.2)), (0, .ref h), (1, va_rf v1), (3, .int v3)]) hx hb dX10_scan_80 hl (by decide) (by first | rfl | (simp [cat_rf, cat_i, cat_l, cat_r]; done) | (simp [cat_rf, cat_i, cat_l, cat_r]; decide)) (fun ls hl => ?_)
          refine lv_goto (tgt := 25) hx hb dX10_scan_82 (by decide) ?_
          replace hf := cont_b hK1 hf
          exact ih (if x12.2 < (v4 + (1 : Int32)) then (v4 + (1 : Int32)) else x12.2) x25 H locs ls hI (lv_sub hl [2, 3, 4, 0] rfl) hf
  unfold fh_X10_scan at hf
  refine lv_aload_n hx hb dX10_scan_0 rfl (lv_at hl 0 rfl) ?_
  refine lv_iconst (v := 0) hx hb dX10_scan_1 (by decide) ?_
  obtain ⟨k1, hf⟩ := chk_b hf
  refine hp_10_3 hx hb hts hin_X10 hown kl_21 hI (isk_k k1) dX10_scan_2 (fun H locs hI => ?_)
  refine lv_aload_n hx hb dX10_scan_5 rfl (lv_at hl 0 rfl) ?_
  refine lv_iconst (v := 0) hx hb dX10_scan_6 (by decide) ?_
  refine hp_10_4 hx hb hts hin_X10 hown kl_25 hI (gK_sI.trans (isk_k k1)) dX10_scan_7 (fun H locs hI => ?_)
  refine lv_aload_n hx hb dX10_scan_10 rfl (lv_at hl 0 rfl) ?_
  refine lv_iconst (v := 0) hx hb dX10_scan_11 (by decide) ?_
  refine hp_10_5 hx hb hts hin_X10 hown kl_28 hI (gK_sI.trans (gK_sI.trans (isk_k k1))) dX10_scan_12 (fun H locs hI => ?_)
  obtain ⟨x2, hx2, hf⟩ := bnd_b hf
  replace hx2 := Option.some.inj hx2
  rw [hx2] at hI
  have hk3 : gK x2 h = 11 := by rw [← hx2]; exact (gK_sI.trans (gK_sI.trans (gK_sI.trans (isk_k k1))))
  refine lv_iload_n hx hb dX10_scan_15 rfl (lv_at hl 2 rfl) ?_
  refine hq_aload_n hx hb dX10_scan_16 rfl (lv_at hl 1 rfl) ?_
  obtain ⟨b4, hd5, hf⟩ := bnd_b hf
  obtain ⟨hq6, hk7⟩ := dr_e hd5
  refine W.eq (g2 := F0 m 17 ls [.ref b4, .int a2]) (by rw [hq6]; rfl) ?_
  refine ha_21 hx hb hI hk7 dX10_scan_17 ?_
  refine va_mmin hx hb (hml.trans hl.1.symm) hown (hts (.methodLink RX10 31 Lib.Math.min.name) (by decide +kernel)) (hts (.static Lib.Math.min.name) (by decide +kernel)) (hts (.initialized "java/lang/Math") (by decide +kernel)) (hts (.code Lib.Math.min.name Lib.Math.min.code 2 (some .int)) (by decide +kernel)) (Nat.le_of_ble_eq_true rfl) (Nat.le_of_ble_eq_true rfl) (Nat.le_of_ble_eq_true rfl) (Nat.le_of_ble_eq_true rfl) dX10_scan_18 ?_
  refine lv_istore_n (lv' := [(3, .int (if (nI (gL x2 b4)) < a2 then (nI (gL x2 b4)) else a2)), (0, .ref h), (1, va_rf a1), (2, .int a2)]) hx hb dX10_scan_21 rfl hl (by decide) (by first | rfl | (simp [cat_rf, cat_i, cat_l, cat_r]; done) | (simp [cat_rf, cat_i, cat_l, cat_r]; decide)) (fun ls hl => ?_)
  refine lv_iconst (v := 0) hx hb dX10_scan_22 (by decide) ?_
  refine lv_istore (lv' := [(4, .int (0 : Int32)), (3, .int (if (nI (gL x2 b4)) < a2 then (nI (gL x2 b4)) else a2)), (0, .ref h), (1, va_rf a1), (2, .int a2)]) hx hb dX10_scan_23 hl (by decide) (by first | rfl | (simp [cat_rf, cat_i, cat_l, cat_r]; done) | (simp [cat_rf, cat_i, cat_l, cat_r]; decide)) (fun ls hl => ?_)
  exact L_25 a1 (if (nI (gL x2 b4)) < a2 then (nI (gL x2 b4)) else a2) mFuel (0 : Int32) x2 H locs ls hI (lv_sub hl [2, 3, 1, 0] rfl) (asc_b hf)

theorem nd_X10_value : yX10_value.cls ≠ "java/lang/invoke/MethodHandle" ∧ yX10_value.cls ≠ "java/lang/invoke/VarHandle" ∧ (parseMethodDescriptor yX10_value.desc).map (fun d => d.parameters.length) = some 0 := by decide +kernel
set_option maxHeartbeats 4000000 in
set_option maxRecDepth 100000 in
theorem ch_X10_value (l : Launch) (D : va_G) (cy : Nat → ClassId) (h : Nat)  (s0 : HSt) (out : HSt × Int32) (hf : fh_X10_value h s0 = some out) : CHi l D cy yX10_value wsX10_value { frames := 0, cells := 0, slots := 0, locals := 0 } 0 0 False True [.ref h] s0 out := by
  refine Met.ofW (cc := cX10_value) (maxL := 1) (ret := (some .int)) (by decide) rfl ?_
  intro p e s m args below meth c s₁ B hml hv
  obtain ⟨rfl, hP, hK, hD0, hkx, hsz, hal⟩ := hv
  have hx := B.exec
  have hb := B.bytes
  have hr := B.returns
  have hts := atoms_spec (ws := wsX10_value) B.pre
  have hown : s.vm.findClass RX10 = some m.cls := findClass_of_methodNamed B.named
  have hlocks := B.notSynchronized
  have hI : HI D cy s s0 s0 s.heap [] 0 False True := ⟨hK, hP, hD0.weaken (fun k q hk _ => Or.inl (pl_mem hk)), va_S.rf, hsz.1, hkx, ⟨hsz, hal⟩, fun _ => rfl, Nat.le_refl _⟩
  have hin_X10 : ∀ w ∈ u_ws RX10 TX10 6, w ∈ wsX10_value := fun w hw => List.mem_cons_of_mem _ (List.mem_append_right _ hw)
  have kl_18 : Cond.fieldLink RX10 18 "HalfBridge$Tokens" "values" "[I" ∈ wsX10_value := by decide +kernel
  have kl_21 : Cond.fieldLink RX10 21 "HalfBridge$Tokens" "size" "I" ∈ wsX10_value := by decide +kernel
  have kl_25 : Cond.fieldLink RX10 25 "HalfBridge$Tokens" "at" "I" ∈ wsX10_value := by decide +kernel
  have hl := lv_entry ([.ref h]) (n := 1) (Nat.le_of_ble_eq_true rfl)
  rw [lg_entry_eq]
  generalize (lg_sl ([.ref h]) ++ List.replicate (1 - (lg_sl ([.ref h])).length) Slot.unset).toArray = ls at hl ⊢
  have hl : lv_has ls 1 [(0, .ref h)] := hl
  obtain ⟨K0, hK0, hf⟩ := top_e hf
  unfold fh_X10_value at hf
  refine lv_aload_n hx hb dX10_value_0 rfl (lv_at hl 0 rfl) ?_
  obtain ⟨k1, hf⟩ := chk_b hf
  refine hg_10_4 hx hb hts hin_X10 hown kl_25 hI (isk_k k1) dX10_value_1 ?_
  refine lv_aload_n hx hb dX10_value_4 rfl (lv_at hl 0 rfl) ?_
  refine hg_10_3 hx hb hts hin_X10 hown kl_21 hI (isk_k k1) dX10_value_5 ?_
  refine lv_icmp_ge (tgt := 23) hx hb dX10_value_8 (by decide) (fun c2 => ?_) (fun c2 => ?_)
  · replace hf := ifp c2 hf
    refine lv_iconst (v := -1) hx hb dX10_value_23 (by decide) ?_
    exact hret_i hx hb hr hlocks hI (by decide) (by decide) (fun _ => ⟨trivial, rfl⟩) (ret_e hK0 hf) dX10_value_24
  · replace hf := ifn c2 hf
    refine lv_aload_n hx hb dX10_value_11 rfl (lv_at hl 0 rfl) ?_
    refine hg_10_2 hx hb hts hin_X10 hown kl_18 hI (isk_k k1) dX10_value_12 ?_
    refine lv_aload_n hx hb dX10_value_15 rfl (lv_at hl 0 rfl) ?_
    refine hg_10_4 hx hb hts hin_X10 hown kl_25 hI (isk_k k1) dX10_value_16 ?_
    obtain ⟨b3, hd4, hf⟩ := bnd_b hf
    obtain ⟨hq5, hk6⟩ := dr_e hd4
    refine W.eq (g2 := F0 m 19 ls [.int (gI s0 1004 h), .ref b3]) (by rw [hq5]; rfl) ?_
    obtain ⟨k7, hf⟩ := chk_b hf
    refine hl_I hx hb hI hk6 k7 dX10_value_19 ?_
    refine lv_goto (tgt := 24) hx hb dX10_value_20 (by decide) ?_
    exact hret_i hx hb hr hlocks hI (by decide) (by decide) (fun _ => ⟨trivial, rfl⟩) (ret_e hK0 hf) dX10_value_24
