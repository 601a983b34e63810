theorem nd_X11_ruin : yX11_ruin.cls ≠ "java/lang/invoke/MethodHandle" ∧ yX11_ruin.cls ≠ "java/lang/invoke/VarHandle" ∧ (parseMethodDescriptor yX11_ruin.desc).map (fun d => d.parameters.length) = some 3 := by decide +kernel
set_option maxHeartbeats 4000000 in
set_option maxRecDepth 100000 in
theorem ch_X11_ruin (l : Launch) (D : va_G) (cy : Nat → ClassId) (h : Nat) (a1 : Int32) (a2 : Int32) (a3 : Int32) (s0 : HSt) (out : HSt × Int32) (hf : fh_X11_ruin h a1 a2 a3 s0 = some out) : CHi l D cy yX11_ruin wsX11_ruin { frames := 2, cells := 0, slots := 0, locals := 43 } 0 0 False True [.ref h, .int a1, .int a2, .int a3] s0 out := by
  refine Met.ofW (cc := cX11_ruin) (maxL := 4) (ret := (some .boolean)) (by decide) rfl ?_
  intro p e s m args below meth c s₁ B hml hv
  obtain ⟨rfl, hP, hK, hD0, hkx, hsz, hal⟩ := hv
  have hx := B.exec
  have hb := B.bytes
  have hr := B.returns
  have hts := atoms_spec (ws := wsX11_ruin) B.pre
  have hown : s.vm.findClass RX11 = some m.cls := findClass_of_methodNamed B.named
  have hlocks := B.notSynchronized
  have hI : HI D cy s s0 s0 s.heap [] 0 False True := ⟨hK, hP, hD0.weaken (fun k q hk _ => Or.inl (pl_mem hk)), va_S.rf, hsz.1, hkx, ⟨hsz, hal⟩, fun _ => rfl, Nat.le_refl _⟩
  have hin_X11 : ∀ w ∈ u_ws RX11 TX11 10, w ∈ wsX11_ruin := fun w hw => List.mem_cons_of_mem _ (List.mem_append_left _ (List.mem_append_left _ (List.mem_append_left _ (List.mem_append_right _ hw))))
  have kl_22 : Cond.fieldLink RX11 22 "HalfBridge" "site" "LHalfBridge$Site;" ∈ wsX11_ruin := by decide +kernel
  have hl := lv_entry ([.ref h, .int a1, .int a2, .int a3]) (n := 4) (Nat.le_of_ble_eq_true rfl)
  rw [lg_entry_eq]
  generalize (lg_sl ([.ref h, .int a1, .int a2, .int a3]) ++ List.replicate (4 - (lg_sl ([.ref h, .int a1, .int a2, .int a3])).length) Slot.unset).toArray = ls at hl ⊢
  have hl : lv_has ls 4 [(0, .ref h), (1, .int a1), (2, .int a2), (3, .int a3)] := hl
  obtain ⟨K0, hK0, hf⟩ := top_e hf
  unfold fh_X11_ruin at hf
  refine lv_aload_n hx hb dX11_ruin_0 rfl (lv_at hl 0 rfl) ?_
  obtain ⟨k1, hf⟩ := chk_b hf
  obtain ⟨x2, hc3, hf⟩ := bnd_b hf
  refine hcall_Vi (ex2 := True) (As := []) (rest := []) (n := 0) (by rw [(isk_k k1)]; decide) (hC_12 (isk_k k1)) rfl ⟨hx, hb, hml, hown, hts⟩ (ch_X11_hasRiver l D cy h s0 x2 hc3) (cwV 0 hts gX11_ruin_X11_hasRiver rfl rfl rfl ⟨rfl, nd_X11_hasRiver⟩ ⟨Nat.le_of_ble_eq_true rfl, Nat.le_of_ble_eq_true rfl⟩) hI (fun h => h.elim) (fun _ => ⟨trivial, trivial⟩) rfl hl.1 (Nat.le_of_ble_eq_true rfl) dX11_ruin_1 ⟨Nat.le_of_ble_eq_true rfl, Nat.le_of_ble_eq_true rfl⟩ (fun H locs hI => ?_)
  refine lv_if_eq (tgt := 14) hx hb dX11_ruin_4 (by decide) (fun c4 => ?_) (fun c4 => ?_)
  · replace hf := ifp c4 hf
    refine lv_iconst (v := 0) hx hb dX11_ruin_14 (by decide) ?_
    exact hret_z hx hb hr (by decide) hlocks hI (by decide) (by decide) (fun _ => ⟨trivial, rfl⟩) (ret_e hK0 hf) dX11_ruin_15
  · replace hf := ifn c4 hf
    refine lv_iload_n hx hb dX11_ruin_7 rfl (lv_at hl 1 rfl) ?_
    obtain ⟨x5, hc6, hf⟩ := bnd_b hf
    refine hcall_Si (ex2 := True) (As := [.int a1]) (rest := []) (n := 1) ⟨hx, hb, hml, hown, hts⟩ (ch_X11_isSide l D cy a1 x2.1 x5 hc6) (va_cwS 1 hts gX11_ruin_X11_isSide rfl rfl rfl nd_X11_isSide ⟨Nat.le_of_ble_eq_true rfl, Nat.le_of_ble_eq_true rfl⟩) hI (fun h => h.elim) (fun _ => ⟨trivial, trivial⟩) rfl hl.1 (Nat.le_of_ble_eq_true rfl) dX11_ruin_8 ⟨Nat.le_of_ble_eq_true rfl, Nat.le_of_ble_eq_true rfl⟩ (fun H locs hI => ?_)
    refine lv_if_ne (tgt := 16) hx hb dX11_ruin_11 (by decide) (fun c7 => ?_) (fun c7 => ?_)
    · replace hf := ifn c7 hf
      refine lv_iload_n hx hb dX11_ruin_16 rfl (lv_at hl 2 rfl) ?_
      refine lv_iconst (v := -1) hx hb dX11_ruin_17 (by decide) ?_
      refine lv_icmp_ne (tgt := 30) hx hb dX11_ruin_18 (by decide) (fun c8 => ?_) (fun c8 => ?_)
      · replace hf := ifn c8 hf
        refine lv_iload_n hx hb dX11_ruin_30 rfl (lv_at hl 2 rfl) ?_
        refine lv_iconst (v := 0) hx hb dX11_ruin_31 (by decide) ?_
        refine lv_bipush (v := 39) hx hb dX11_ruin_32 (by decide) ?_
        obtain ⟨x9, hc10, hf⟩ := bnd_b hf
        refine hcall_Si (ex2 := True) (As := [.int a2, .int (0 : Int32), .int (39 : Int32)]) (rest := []) (n := 3) ⟨hx, hb, hml, hown, hts⟩ (ch_X11_isWithin l D cy a2 (0 : Int32) (39 : Int32) x5.1 x9 hc10) (va_cwS 3 hts gX11_ruin_X11_isWithin rfl rfl rfl nd_X11_isWithin ⟨Nat.le_of_ble_eq_true rfl, Nat.le_of_ble_eq_true rfl⟩) hI (fun h => h.elim) (fun _ => ⟨trivial, trivial⟩) rfl hl.1 (Nat.le_of_ble_eq_true rfl) dX11_ruin_34 ⟨Nat.le_of_ble_eq_true rfl, Nat.le_of_ble_eq_true rfl⟩ (fun H locs hI => ?_)
        refine lv_if_eq (tgt := 53) hx hb dX11_ruin_37 (by decide) (fun c11 => ?_) (fun c11 => ?_)
        · replace hf := ifp c11 hf
          refine lv_iconst (v := 0) hx hb dX11_ruin_53 (by decide) ?_
          exact hret_z hx hb hr (by decide) hlocks hI (by decide) (by decide) (fun _ => ⟨trivial, rfl⟩) (ret_e hK0 hf) dX11_ruin_54
        · replace hf := ifn c11 hf
          refine lv_iload_n hx hb dX11_ruin_40 rfl (lv_at hl 3 rfl) ?_
          refine lv_sipush (v := -9999) hx hb dX11_ruin_41 (by decide) ?_
          refine lv_sipush (v := 9999) hx hb dX11_ruin_44 (by decide) ?_
          obtain ⟨x12, hc13, hf⟩ := bnd_b hf
          refine hcall_Si (ex2 := True) (As := [.int a3, .int (-9999 : Int32), .int (9999 : Int32)]) (rest := []) (n := 3) ⟨hx, hb, hml, hown, hts⟩ (ch_X11_isWithin l D cy a3 (-9999 : Int32) (9999 : Int32) x9.1 x12 hc13) (va_cwS 3 hts gX11_ruin_X11_isWithin rfl rfl rfl nd_X11_isWithin ⟨Nat.le_of_ble_eq_true rfl, Nat.le_of_ble_eq_true rfl⟩) hI (fun h => h.elim) (fun _ => ⟨trivial, trivial⟩) rfl hl.1 (Nat.le_of_ble_eq_true rfl) dX11_ruin_47 ⟨Nat.le_of_ble_eq_true rfl, Nat.le_of_ble_eq_true rfl⟩ (fun H locs hI => ?_)
          refine lv_if_ne (tgt := 55) hx hb dX11_ruin_50 (by decide) (fun c14 => ?_) (fun c14 => ?_)
          · replace hf := ifn c14 hf
            refine lv_aload_n hx hb dX11_ruin_55 rfl (lv_at hl 0 rfl) ?_
            obtain ⟨k15, hf⟩ := chk_b hf
            refine hg_11_4 hx hb hts hin_X11 hown kl_22 hI (isk_k k15) dX11_ruin_56 ?_
            refine lv_iload_n hx hb dX11_ruin_59 rfl (lv_at hl 1 rfl) ?_
            refine lv_iload_n hx hb dX11_ruin_60 rfl (lv_at hl 2 rfl) ?_
            refine lv_iload_n hx hb dX11_ruin_61 rfl (lv_at hl 3 rfl) ?_
            obtain ⟨b16, hd17, hf⟩ := bnd_b hf
            obtain ⟨hq18, hk19⟩ := dr_e hd17
            refine W.eq (g2 := F0 m 62 ls [.int a3, .int a2, .int a1, .ref b16]) (by rw [hq18]; rfl) ?_
            obtain ⟨x20, hc21, hf⟩ := bnd_b hf
            refine hcall_Vv (ex2 := True) (As := [.int a1, .int a2, .int a3]) (rest := []) (n := 3) (by rw [hk19]; decide) (hC_9 hk19) rfl ⟨hx, hb, hml, hown, hts⟩ (ch_X8_tellRuin l D cy b16 a1 a2 a3 x12.1 x20 hc21) (cwV 3 hts gX11_ruin_X8_tellRuin rfl rfl rfl ⟨rfl, nd_X8_tellRuin⟩ ⟨Nat.le_of_ble_eq_true rfl, Nat.le_of_ble_eq_true rfl⟩) hI (fun h => h.elim) (fun _ => ⟨trivial, trivial⟩) rfl hl.1 (Nat.le_of_ble_eq_true rfl) dX11_ruin_62 ⟨Nat.le_of_ble_eq_true rfl, Nat.le_of_ble_eq_true rfl⟩ (fun H locs hI => ?_)
            refine lv_iconst (v := 1) hx hb dX11_ruin_65 (by decide) ?_
            exact hret_z hx hb hr (by decide) hlocks hI (by decide) (by decide) (fun _ => ⟨trivial, rfl⟩) (ret_e hK0 hf) dX11_ruin_66
          · replace hf := ifp c14 hf
            refine lv_iconst (v := 0) hx hb dX11_ruin_53 (by decide) ?_
            exact hret_z hx hb hr (by decide) hlocks hI (by decide) (by decide) (fun _ => ⟨trivial, rfl⟩) (ret_e hK0 hf) dX11_ruin_54
      · replace hf := ifp c8 hf
        refine lv_aload_n hx hb dX11_ruin_21 rfl (lv_at hl 0 rfl) ?_
        obtain ⟨k22, hf⟩ := chk_b hf
        refine hg_11_4 hx hb hts hin_X11 hown kl_22 hI (isk_k k22) dX11_ruin_22 ?_
        obtain ⟨b23, hd24, hf⟩ := bnd_b hf
        obtain ⟨hq25, hk26⟩ := dr_e hd24
        refine W.eq (g2 := F0 m 25 ls [.ref b23]) (by rw [hq25]; rfl) ?_
        obtain ⟨x27, hc28, hf⟩ := bnd_b hf
        refine hcall_Vv (ex2 := True) (As := []) (rest := []) (n := 0) (by rw [hk26]; decide) (hC_9 hk26) rfl ⟨hx, hb, hml, hown, hts⟩ (ch_X8_clearRuins l D cy b23 x5.1 x27 hc28) (cwV 0 hts gX11_ruin_X8_clearRuins rfl rfl rfl ⟨rfl, nd_X8_clearRuins⟩ ⟨Nat.le_of_ble_eq_true rfl, Nat.le_of_ble_eq_true rfl⟩) hI (fun h => h.elim) (fun _ => ⟨trivial, trivial⟩) rfl hl.1 (Nat.le_of_ble_eq_true rfl) dX11_ruin_25 ⟨Nat.le_of_ble_eq_true rfl, Nat.le_of_ble_eq_true rfl⟩ (fun H locs hI => ?_)
        refine lv_iconst (v := 1) hx hb dX11_ruin_28 (by decide) ?_
        exact hret_z hx hb hr (by decide) hlocks hI (by decide) (by decide) (fun _ => ⟨trivial, rfl⟩) (ret_e hK0 hf) dX11_ruin_29
    · replace hf := ifp c7 hf
      refine lv_iconst (v := 0) hx hb dX11_ruin_14 (by decide) ?_
      exact hret_z hx hb hr (by decide) hlocks hI (by decide) (by decide) (fun _ => ⟨trivial, rfl⟩) (ret_e hK0 hf) dX11_ruin_15

theorem nd_X7_put : yX7_put.cls ≠ "java/lang/invoke/MethodHandle" ∧ yX7_put.cls ≠ "java/lang/invoke/VarHandle" ∧ (parseMethodDescriptor yX7_put.desc).map (fun d => d.parameters.length) = some 1 := by decide +kernel
set_option maxHeartbeats 4000000 in
set_option maxRecDepth 100000 in
theorem ch_X7_put (l : Launch) (D : va_G) (cy : Nat → ClassId) (h : Nat) (a1 : Int32) (s0 : HSt) (out : HSt) (hf : fh_X7_put h a1 s0 = some out) : CHv l D cy yX7_put wsX7_put { frames := 0, cells := 0, slots := 0, locals := 0 } 0 0 False True [.ref h, .int a1] s0 out := by
  refine Met.ofW (cc := cX7_put) (maxL := 2) (ret := none) (by decide) rfl ?_
  intro p e s m args below meth c s₁ B hml hv
  obtain ⟨rfl, hP, hK, hD0, hkx, hsz, hal⟩ := hv
  have hx := B.exec
  have hb := B.bytes
  have hr := B.returns
  have hts := atoms_spec (ws := wsX7_put) B.pre
  have hown : s.vm.findClass RX7 = some m.cls := findClass_of_methodNamed B.named
  have hlocks := B.notSynchronized
  have hI : HI D cy s s0 s0 s.heap [] 0 False True := ⟨hK, hP, hD0.weaken (fun k q hk _ => Or.inl (pl_mem hk)), va_S.rf, hsz.1, hkx, ⟨hsz, hal⟩, fun _ => rfl, Nat.le_refl _⟩
  have hin_X7 : ∀ w ∈ u_ws RX7 TX7 7, w ∈ wsX7_put := fun w hw => List.mem_cons_of_mem _ (List.mem_append_right _ hw)
  have kl_23 : Cond.fieldLink RX7 23 "HalfBridge$RuleReader" "code" "[I" ∈ wsX7_put := by decide +kernel
  have kl_30 : Cond.fieldLink RX7 30 "HalfBridge$RuleReader" "size" "I" ∈ wsX7_put := by decide +kernel
  have hl := lv_entry ([.ref h, .int a1]) (n := 2) (Nat.le_of_ble_eq_true rfl)
  rw [lg_entry_eq]
  generalize (lg_sl ([.ref h, .int a1]) ++ List.replicate (2 - (lg_sl ([.ref h, .int a1])).length) Slot.unset).toArray = ls at hl ⊢
  have hl : lv_has ls 2 [(0, .ref h), (1, .int a1)] := hl
  obtain ⟨K0, hK0, hf⟩ := top_e hf
  unfold fh_X7_put at hf
  refine lv_aload_n hx hb dX7_put_0 rfl (lv_at hl 0 rfl) ?_
  obtain ⟨k1, hf⟩ := chk_b hf
  refine hg_7_5 hx hb hts hin_X7 hown kl_30 hI (isk_k k1) dX7_put_1 ?_
  refine lv_aload_n hx hb dX7_put_4 rfl (lv_at hl 0 rfl) ?_
  refine hg_7_4 hx hb hts hin_X7 hown kl_23 hI (isk_k k1) dX7_put_5 ?_
  obtain ⟨b2, hd3, hf⟩ := bnd_b hf
  obtain ⟨hq4, hk5⟩ := dr_e hd3
  refine W.eq (g2 := F0 m 8 ls [.ref b2, .int (gI s0 705 h)]) (by rw [hq4]; rfl) ?_
  refine ha_22 hx hb hI hk5 dX7_put_8 ?_
  refine lv_icmp_ge (tgt := 32) hx hb dX7_put_9 (by decide) (fun c6 => ?_) (fun c6 => ?_)
  · replace hf := ifp c6 hf
    exact hret_v hx hb hr hlocks hI (by decide) (by decide) (fun _ => ⟨trivial, rfl⟩) (ret_e hK0 hf) dX7_put_32
  · replace hf := ifn c6 hf
    refine lv_aload_n hx hb dX7_put_12 rfl (lv_at hl 0 rfl) ?_
    refine hg_7_4 hx hb hts hin_X7 hown kl_23 hI (isk_k k1) dX7_put_13 ?_
    refine lv_aload_n hx hb dX7_put_16 rfl (lv_at hl 0 rfl) ?_
    refine hg_7_5 hx hb hts hin_X7 hown kl_30 hI (isk_k k1) dX7_put_17 ?_
    refine lv_iload_n hx hb dX7_put_20 rfl (lv_at hl 1 rfl) ?_
    refine W.eq (g2 := F0 m 21 ls [.int a1, .int (gI s0 705 h), .ref b2]) (by rw [hq4]; rfl) ?_
    obtain ⟨k7, hf⟩ := chk_b hf
    refine hs_I hx hb hI hk5 k7 dX7_put_21 (fun H locs hI => ?_)
    refine lv_aload_n hx hb dX7_put_22 rfl (lv_at hl 0 rfl) ?_
    refine lv_dup hx hb dX7_put_23 rfl ?_
    refine hg_7_5 hx hb hts hin_X7 hown kl_30 hI (gK_sA.trans (isk_k k1)) dX7_put_24 ?_
    refine lv_iconst (v := 1) hx hb dX7_put_27 (by decide) ?_
    refine lv_iadd hx hb dX7_put_28 ?_
    refine hp_7_5 hx hb hts hin_X7 hown kl_30 hI (gK_sA.trans (isk_k k1)) dX7_put_29 (fun H locs hI => ?_)
    obtain ⟨x8, hx8, hf⟩ := bnd_b hf
    replace hx8 := Option.some.inj hx8
    rw [hx8] at hI
    have hk9 : gK x8 h = 8 := by rw [← hx8]; exact (gK_sI.trans (gK_sA.trans (isk_k k1)))
    have hk10 : gK x8 b2 = 22 := by rw [← hx8]; exact (gK_sI.trans (gK_sA.trans hk5))
    exact hret_v hx hb hr hlocks hI (by decide) (by decide) (fun _ => ⟨trivial, rfl⟩) (ret_e hK0 hf) dX7_put_32

theorem nd_X7_readValue : yX7_readValue.cls ≠ "java/lang/invoke/MethodHandle" ∧ yX7_readValue.cls ≠ "java/lang/invoke/VarHandle" ∧ (parseMethodDescriptor yX7_readValue.desc).map (fun d => d.parameters.length) = some 0 := by decide +kernel
set_option maxHeartbeats 4000000 in
set_option maxRecDepth 100000 in
theorem ch_X7_readValue (l : Launch) (D : va_G) (cy : Nat → ClassId) (h : Nat)  (s0 : HSt) (out : HSt) (hf : fh_X7_readValue h s0 = some out) : CHv l D cy yX7_readValue wsX7_readValue { frames := 1, cells := 0, slots := 0, locals := 21 } 0 0 False True [.ref h] s0 out := by
  refine Met.ofW (cc := cX7_readValue) (maxL := 3) (ret := none) (by decide) rfl ?_
  intro p e s m args below meth c s₁ B hml hv
  obtain ⟨rfl, hP, hK, hD0, hkx, hsz, hal⟩ := hv
  have hx := B.exec
  have hb := B.bytes
  have hr := B.returns
  have hts := atoms_spec (ws := wsX7_readValue) B.pre
  have hown : s.vm.findClass RX7 = some m.cls := findClass_of_methodNamed B.named
  have hlocks := B.notSynchronized
  have hI : HI D cy s s0 s0 s.heap [] 0 False True := ⟨hK, hP, hD0.weaken (fun k q hk _ => Or.inl (pl_mem hk)), va_S.rf, hsz.1, hkx, ⟨hsz, hal⟩, fun _ => rfl, Nat.le_refl _⟩
  have hin_X7 : ∀ w ∈ u_ws RX7 TX7 7, w ∈ wsX7_readValue := fun w hw => List.mem_cons_of_mem _ (List.mem_append_left _ (List.mem_append_right _ hw))
  have kl_26 : Cond.fieldLink RX7 26 "HalfBridge$RuleReader" "tokens" "LHalfBridge$Tokens;" ∈ wsX7_readValue := by decide +kernel
  have kl_34 : Cond.fieldLink RX7 34 "HalfBridge$RuleReader" "items" "I" ∈ wsX7_readValue := by decide +kernel
  have hl := lv_entry ([.ref h]) (n := 3) (Nat.le_of_ble_eq_true rfl)
  rw [lg_entry_eq]
  generalize (lg_sl ([.ref h]) ++ List.replicate (3 - (lg_sl ([.ref h])).length) Slot.unset).toArray = ls at hl ⊢
  have hl : lv_has ls 3 [(0, .ref h)] := hl
  obtain ⟨K0, hK0, hf⟩ := top_e hf
  have B_85 : ∀ (v1 : Int32) (v2 : Int32)  (st : HSt) (H : Heap) (locs : List Loc) (ls : Array Slot), HI D cy s s0 st H locs 0 False True → lv_has ls 3 [(0, .ref h), (1, .int v1), (2, .int v2)] → (fh_X7_readValue_j85 h v1 v2 st).bind K0 = some out → W p l e (headSpec wsX7_readValue { frames := 1, cells := 0, slots := 0, locals := 21 }).room s m (([.ref h] : List Value).toArray) below meth c H locs 0 0 (MQ below (HQv D cy s0 0 True out) ([.ref h] : List Value).toArray s 0 0 (hF s0)) (F0 m 85 ls []) := by
    intro v1 v2 st H locs ls hI hl hf
    unfold fh_X7_readValue_j85 at hf
    refine lv_aload_n hx hb dX7_readValue_85 rfl (lv_at hl 0 rfl) ?_
    refine lv_dup hx hb dX7_readValue_86 rfl ?_
    obtain ⟨k13, hf⟩ := chk_b hf
    refine hg_7_6 hx hb hts hin_X7 hown kl_34 hI (isk_k k13) dX7_readValue_87 ?_
    refine lv_iconst (v := 1) hx hb dX7_readValue_90 (by decide) ?_
    refine lv_iadd hx hb dX7_readValue_91 ?_
    refine hp_7_6 hx hb hts hin_X7 hown kl_34 hI (isk_k k13) dX7_readValue_92 (fun H locs hI => ?_)
    refine lv_aload_n hx hb dX7_readValue_95 rfl (lv_at hl 0 rfl) ?_
    refine lv_iload_n hx hb dX7_readValue_96 rfl (lv_at hl 2 rfl) ?_
    refine lv_if_eq (tgt := 110) hx hb dX7_readValue_97 (by decide) (fun c14 => ?_) (fun c14 => ?_)
    · replace hf := ifp c14 hf
      refine lv_iload_n hx hb dX7_readValue_110 rfl (lv_at hl 1 rfl) ?_
      refine lv_ineg hx hb dX7_readValue_111 ?_
      obtain ⟨x15, hc16, hf⟩ := bnd_b hf
      refine hcall_Vv (ex2 := True) (As := [.int (-v1)]) (rest := []) (n := 1) (by rw [(gK_sI.trans (isk_k k13))]; decide) (hC_8 (gK_sI.trans (isk_k k13))) rfl ⟨hx, hb, hml, hown, hts⟩ (ch_X7_put l D cy h (-v1) (sI st 706 h ((gI st 706 h) + (1 : Int32))) x15 hc16) (cwV 1 hts gX7_readValue_X7_put rfl rfl rfl ⟨rfl, nd_X7_put⟩ ⟨Nat.le_of_ble_eq_true rfl, Nat.le_of_ble_eq_true rfl⟩) hI (fun h => h.elim) (fun _ => ⟨trivial, trivial⟩) rfl hl.1 (Nat.le_of_ble_eq_true rfl) dX7_readValue_112 ⟨Nat.le_of_ble_eq_true rfl, Nat.le_of_ble_eq_true rfl⟩ (fun H locs hI => ?_)
      refine lv_aload_n hx hb dX7_readValue_115 rfl (lv_at hl 0 rfl) ?_
      obtain ⟨k17, hf⟩ := chk_b hf
      refine hg_7_0 hx hb hts hin_X7 hown kl_26 hI (isk_k k17) dX7_readValue_116 ?_
      obtain ⟨b18, hd19, hf⟩ := bnd_b hf
      obtain ⟨hq20, hk21⟩ := dr_e hd19
      refine W.eq (g2 := F0 m 119 ls [.ref b18]) (by rw [hq20]; rfl) ?_
      obtain ⟨x22, hc23, hf⟩ := bnd_b hf
      refine hcall_Vv (ex2 := True) (As := []) (rest := []) (n := 0) (by rw [hk21]; decide) (hC_11 hk21) rfl ⟨hx, hb, hml, hown, hts⟩ (ch_X10_next l D cy b18 x15 x22 hc23) (cwV 0 hts gX7_readValue_X10_next rfl rfl rfl ⟨rfl, nd_X10_next⟩ ⟨Nat.le_of_ble_eq_true rfl, Nat.le_of_ble_eq_true rfl⟩) hI (fun h => h.elim) (fun _ => ⟨trivial, trivial⟩) rfl hl.1 (Nat.le_of_ble_eq_true rfl) dX7_readValue_119 ⟨Nat.le_of_ble_eq_true rfl, Nat.le_of_ble_eq_true rfl⟩ (fun H locs hI => ?_)
      exact hret_v hx hb hr hlocks hI (by decide) (by decide) (fun _ => ⟨trivial, rfl⟩) (ret_e hK0 hf) dX7_readValue_122
    · replace hf := ifn c14 hf
      refine lv_aload_n hx hb dX7_readValue_100 rfl (lv_at hl 0 rfl) ?_
      refine hg_7_0 hx hb hts hin_X7 hown kl_26 hI (gK_sI.trans (isk_k k13)) dX7_readValue_101 ?_
      obtain ⟨b24, hd25, hf⟩ := bnd_b hf
      obtain ⟨hq26, hk27⟩ := dr_e hd25
      refine W.eq (g2 := F0 m 104 ls [.ref b24, .ref h]) (by rw [hq26]; rfl) ?_
      obtain ⟨x28, hc29, hf⟩ := bnd_b hf
      refine hcall_Vi (ex2 := True) (As := []) (rest := [.ref h]) (n := 0) (by rw [(gK_sI.trans hk27)]; decide) (hC_11 (gK_sI.trans hk27)) rfl ⟨hx, hb, hml, hown, hts⟩ (ch_X10_value l D cy b24 (sI st 706 h ((gI st 706 h) + (1 : Int32))) x28 hc29) (cwV 0 hts gX7_readValue_X10_value rfl rfl rfl ⟨rfl, nd_X10_value⟩ ⟨Nat.le_of_ble_eq_true rfl, Nat.le_of_ble_eq_true rfl⟩) hI (fun h => h.elim) (fun _ => ⟨trivial, trivial⟩) rfl hl.1 (Nat.le_of_ble_eq_true rfl) dX7_readValue_104 ⟨Nat.le_of_ble_eq_true rfl, Nat.le_of_ble_eq_true rfl⟩ (fun H locs hI => ?_)
      refine lv_goto (tgt := 112) hx hb dX7_readValue_107 (by decide) ?_
      obtain ⟨k30, hf⟩ := chk_b hf
      obtain ⟨x31, hc32, hf⟩ := bnd_b hf
      refine hcall_Vv (ex2 := True) (As := [.int x28.2]) (rest := []) (n := 1) (by rw [(isk_k k30)]; decide) (hC_8 (isk_k k30)) rfl ⟨hx, hb, hml, hown, hts⟩ (ch_X7_put l D cy h x28.2 x28.1 x31 hc32) (cwV 1 hts gX7_readValue_X7_put rfl rfl rfl ⟨rfl, nd_X7_put⟩ ⟨Nat.le_of_ble_eq_true rfl, Nat.le_of_ble_eq_true rfl⟩) hI (fun h => h.elim) (fun _ => ⟨trivial, trivial⟩) rfl hl.1 (Nat.le_of_ble_eq_true rfl) dX7_readValue_112 ⟨Nat.le_of_ble_eq_true rfl, Nat.le_of_ble_eq_true rfl⟩ (fun H locs hI => ?_)
      refine lv_aload_n hx hb dX7_readValue_115 rfl (lv_at hl 0 rfl) ?_
      obtain ⟨k33, hf⟩ := chk_b hf
      refine hg_7_0 hx hb hts hin_X7 hown kl_26 hI (isk_k k33) dX7_readValue_116 ?_
      obtain ⟨b34, hd35, hf⟩ := bnd_b hf
      obtain ⟨hq36, hk37⟩ := dr_e hd35
      refine W.eq (g2 := F0 m 119 ls [.ref b34]) (by rw [hq36]; rfl) ?_
      obtain ⟨x38, hc39, hf⟩ := bnd_b hf
      refine hcall_Vv (ex2 := True) (As := []) (rest := []) (n := 0) (by rw [hk37]; decide) (hC_11 hk37) rfl ⟨hx, hb, hml, hown, hts⟩ (ch_X10_next l D cy b34 x31 x38 hc39) (cwV 0 hts gX7_readValue_X10_next rfl rfl rfl ⟨rfl, nd_X10_next⟩ ⟨Nat.le_of_ble_eq_true rfl, Nat.le_of_ble_eq_true rfl⟩) hI (fun h => h.elim) (fun _ => ⟨trivial, trivial⟩) rfl hl.1 (Nat.le_of_ble_eq_true rfl) dX7_readValue_119 ⟨Nat.le_of_ble_eq_true rfl, Nat.le_of_ble_eq_true rfl⟩ (fun H locs hI => ?_)
      exact hret_v hx hb hr hlocks hI (by decide) (by decide) (fun _ => ⟨trivial, rfl⟩) (ret_e hK0 hf) dX7_readValue_122
  have B_68 : ∀ (v1 : Int32) (v2 : Int32)  (st : HSt) (H : Heap) (locs : List Loc) (ls : Array Slot), HI D cy s s0 st H locs 0 False True → lv_has ls 3 [(0, .ref h), (1, .int v1), (2, .int v2)] → (fh_X7_readValue_j68 h v1 v2 st).bind K0 = some out → W p l e (headSpec wsX7_readValue { frames := 1, cells := 0, slots := 0, locals := 21 }).room s m (([.ref h] : List Value).toArray) below meth c H locs 0 0 (MQ below (HQv D cy s0 0 True out) ([.ref h] : List Value).toArray s 0 0 (hF s0)) (F0 m 68 ls []) := by
    intro v1 v2 st H locs ls hI hl hf
    unfold fh_X7_readValue_j68 at hf
    refine lv_aload_n hx hb dX7_readValue_68 rfl (lv_at hl 0 rfl) ?_
    obtain ⟨k11, hf⟩ := chk_b hf
    refine hg_7_6 hx hb hts hin_X7 hown kl_34 hI (isk_k k11) dX7_readValue_69 ?_
    refine lv_bipush (v := 60) hx hb dX7_readValue_72 (by decide) ?_
    refine lv_icmp_lt (tgt := 85) hx hb dX7_readValue_74 (by decide) (fun c12 => ?_) (fun c12 => ?_)
    · replace hf := ifp c12 hf
      exact B_85 v1 v2 st H locs ls hI (lv_sub hl [0, 1, 2] rfl) hf
    · replace hf := ifn c12 hf
      refine lv_aload_n hx hb dX7_readValue_77 rfl (lv_at hl 0 rfl) ?_
      refine hg_7_0 hx hb hts hin_X7 hown kl_26 hI (isk_k k11) dX7_readValue_78 ?_
      refine lv_iconst (v := 3) hx hb dX7_readValue_81 (by decide) ?_
      obtain ⟨b40, hd41, hf⟩ := bnd_b hf
      obtain ⟨hq42, hk43⟩ := dr_e hd41
      refine W.eq (g2 := F0 m 82 ls [.int (3 : Int32), .ref b40]) (by rw [hq42]; rfl) ?_
      obtain ⟨x44, hc45, hf⟩ := bnd_b hf
      refine hcall_Vv (ex2 := True) (As := [.int (3 : Int32)]) (rest := []) (n := 1) (by rw [hk43]; decide) (hC_11 hk43) rfl ⟨hx, hb, hml, hown, hts⟩ (ch_X10_fail l D cy b40 (3 : Int32) st x44 hc45) (cwV 1 hts gX7_readValue_X10_fail rfl rfl rfl ⟨rfl, nd_X10_fail⟩ ⟨Nat.le_of_ble_eq_true rfl, Nat.le_of_ble_eq_true rfl⟩) hI (fun h => h.elim) (fun _ => ⟨trivial, trivial⟩) rfl hl.1 (Nat.le_of_ble_eq_true rfl) dX7_readValue_82 ⟨Nat.le_of_ble_eq_true rfl, Nat.le_of_ble_eq_true rfl⟩ (fun H locs hI => ?_)
      exact B_85 v1 v2 x44 H locs ls hI (lv_sub hl [0, 1, 2] rfl) hf
  have B_46 : ∀ (v1 : Int32) (v2 : Int32)  (st : HSt) (H : Heap) (locs : List Loc) (ls : Array Slot), HI D cy s s0 st H locs 0 False True → lv_has ls 3 [(0, .ref h), (1, .int v1), (2, .int v2)] → (fh_X7_readValue_j46 h v1 v2 st).bind K0 = some out → W p l e (headSpec wsX7_readValue { frames := 1, cells := 0, slots := 0, locals := 21 }).room s m (([.ref h] : List Value).toArray) below meth c H locs 0 0 (MQ below (HQv D cy s0 0 True out) ([.ref h] : List Value).toArray s 0 0 (hF s0)) (F0 m 46 ls []) := by
    intro v1 v2 st H locs ls hI hl hf
    unfold fh_X7_readValue_j46 at hf
    refine lv_iload_n hx hb dX7_readValue_46 rfl (lv_at hl 2 rfl) ?_
    refine lv_if_eq (tgt := 68) hx hb dX7_readValue_47 (by decide) (fun c10 => ?_) (fun c10 => ?_)
    · replace hf := ifp c10 hf
      exact B_68 v1 v2 st H locs ls hI (lv_sub hl [0, 1, 2] rfl) hf
    · replace hf := ifn c10 hf
      refine lv_aload_n hx hb dX7_readValue_50 rfl (lv_at hl 0 rfl) ?_
      obtain ⟨k46, hf⟩ := chk_b hf
      refine hg_7_0 hx hb hts hin_X7 hown kl_26 hI (isk_k k46) dX7_readValue_51 ?_
      obtain ⟨b47, hd48, hf⟩ := bnd_b hf
      obtain ⟨hq49, hk50⟩ := dr_e hd48
      refine W.eq (g2 := F0 m 54 ls [.ref b47]) (by rw [hq49]; rfl) ?_
      obtain ⟨x51, hc52, hf⟩ := bnd_b hf
      refine hcall_Vi (ex2 := True) (As := []) (rest := []) (n := 0) (by rw [hk50]; decide) (hC_11 hk50) rfl ⟨hx, hb, hml, hown, hts⟩ (ch_X10_value l D cy b47 st x51 hc52) (cwV 0 hts gX7_readValue_X10_value rfl rfl rfl ⟨rfl, nd_X10_value⟩ ⟨Nat.le_of_ble_eq_true rfl, Nat.le_of_ble_eq_true rfl⟩) hI (fun h => h.elim) (fun _ => ⟨trivial, trivial⟩) rfl hl.1 (Nat.le_of_ble_eq_true rfl) dX7_readValue_54 ⟨Nat.le_of_ble_eq_true rfl, Nat.le_of_ble_eq_true rfl⟩ (fun H locs hI => ?_)
      refine lv_if_ge (tgt := 68) hx hb dX7_readValue_57 (by decide) (fun c53 => ?_) (fun c53 => ?_)
      · replace hf := ifp c53 hf
        exact B_68 v1 v2 x51.1 H locs ls hI (lv_sub hl [0, 1, 2] rfl) hf
      · replace hf := ifn c53 hf
        refine lv_aload_n hx hb dX7_readValue_60 rfl (lv_at hl 0 rfl) ?_
        obtain ⟨k54, hf⟩ := chk_b hf
        refine hg_7_0 hx hb hts hin_X7 hown kl_26 hI (isk_k k54) dX7_readValue_61 ?_
        refine lv_iconst (v := 1) hx hb dX7_readValue_64 (by decide) ?_
        obtain ⟨b55, hd56, hf⟩ := bnd_b hf
        obtain ⟨hq57, hk58⟩ := dr_e hd56
        refine W.eq (g2 := F0 m 65 ls [.int (1 : Int32), .ref b55]) (by rw [hq57]; rfl) ?_
        obtain ⟨x59, hc60, hf⟩ := bnd_b hf
        refine hcall_Vv (ex2 := True) (As := [.int (1 : Int32)]) (rest := []) (n := 1) (by rw [hk58]; decide) (hC_11 hk58) rfl ⟨hx, hb, hml, hown, hts⟩ (ch_X10_fail l D cy b55 (1 : Int32) x51.1 x59 hc60) (cwV 1 hts gX7_readValue_X10_fail rfl rfl rfl ⟨rfl, nd_X10_fail⟩ ⟨Nat.le_of_ble_eq_true rfl, Nat.le_of_ble_eq_true rfl⟩) hI (fun h => h.elim) (fun _ => ⟨trivial, trivial⟩) rfl hl.1 (Nat.le_of_ble_eq_true rfl) dX7_readValue_65 ⟨Nat.le_of_ble_eq_true rfl, Nat.le_of_ble_eq_true rfl⟩ (fun H locs hI => ?_)
        exact B_68 v1 v2 x59 H locs ls hI (lv_sub hl [0, 1, 2] rfl) hf
  have B_18_0 : ∀ (v1 : Int32) (t0 : Int32) (st : HSt) (H : Heap) (locs : List Loc) (ls : Array Slot), HI D cy s s0 st H locs 0 False True → lv_has ls 3 [(0, .ref h), (1, .int v1)] → (fh_X7_readValue_j18 h v1 t0 st).bind K0 = some out → W p l e (headSpec wsX7_readValue { frames := 1, cells := 0, slots := 0, locals := 21 }).room s m (([.ref h] : List Value).toArray) below meth c H locs 0 0 (MQ below (HQv D cy s0 0 True out) ([.ref h] : List Value).toArray s 0 0 (hF s0)) (F0 m 18 ls [.int t0]) := by
    intro v1 t0 st H locs ls hI hl hf
    unfold fh_X7_readValue_j18 at hf
    refine lv_istore_n (lv' := [(2, .int t0), (0, .ref h), (1, .int v1)]) hx hb dX7_readValue_18 rfl hl (by decide) rfl (fun ls hl => ?_)
    refine lv_iload_n hx hb dX7_readValue_19 rfl (lv_at hl 0 rfl) ?_
    refine lv_if_ne (tgt := 46) hx hb dX7_readValue_20 (by decide) (fun c9 => ?_) (fun c9 => ?_)
    · replace hf := ifn c9 hf
      exact B_46 v1 t0 st H locs ls hI (lv_sub hl [1, 2, 0] rfl) hf
    · replace hf := ifp c9 hf
      refine lv_iload_n hx hb dX7_readValue_23 rfl (lv_at hl 2 rfl) ?_
      refine lv_sipush (v := 270) hx hb dX7_readValue_24 (by decide) ?_
      refine lv_icmp_lt (tgt := 37) hx hb dX7_readValue_27 (by decide) (fun c61 => ?_) (fun c61 => ?_)
      · replace hf := ifp c61 hf
        refine lv_aload_n hx hb dX7_readValue_37 rfl (lv_at hl 1 rfl) ?_
        obtain ⟨k62, hf⟩ := chk_b hf
        refine hg_7_0 hx hb hts hin_X7 hown kl_26 hI (isk_k k62) dX7_readValue_38 ?_
        refine lv_iconst (v := 0) hx hb dX7_readValue_41 (by decide) ?_
        obtain ⟨b63, hd64, hf⟩ := bnd_b hf
        obtain ⟨hq65, hk66⟩ := dr_e hd64
        refine W.eq (g2 := F0 m 42 ls [.int (0 : Int32), .ref b63]) (by rw [hq65]; rfl) ?_
        obtain ⟨x67, hc68, hf⟩ := bnd_b hf
        refine hcall_Vv (ex2 := True) (As := [.int (0 : Int32)]) (rest := []) (n := 1) (by rw [hk66]; decide) (hC_11 hk66) rfl ⟨hx, hb, hml, hown, hts⟩ (ch_X10_fail l D cy b63 (0 : Int32) st x67 hc68) (cwV 1 hts gX7_readValue_X10_fail rfl rfl rfl ⟨rfl, nd_X10_fail⟩ ⟨Nat.le_of_ble_eq_true rfl, Nat.le_of_ble_eq_true rfl⟩) hI (fun h => h.elim) (fun _ => ⟨trivial, trivial⟩) rfl hl.1 (Nat.le_of_ble_eq_true rfl) dX7_readValue_42 ⟨Nat.le_of_ble_eq_true rfl, Nat.le_of_ble_eq_true rfl⟩ (fun H locs hI => ?_)
        exact hret_v hx hb hr hlocks hI (by decide) (by decide) (fun _ => ⟨trivial, rfl⟩) (ret_e hK0 hf) dX7_readValue_45
      · replace hf := ifn c61 hf
        refine lv_iload_n hx hb dX7_readValue_30 rfl (lv_at hl 2 rfl) ?_
        refine lv_sipush (v := 278) hx hb dX7_readValue_31 (by decide) ?_
        refine lv_icmp_le (tgt := 46) hx hb dX7_readValue_34 (by decide) (fun c69 => ?_) (fun c69 => ?_)
        · replace hf := ifp c69 hf
          exact B_46 v1 t0 st H locs ls hI (lv_sub hl [1, 2, 0] rfl) hf
        · replace hf := ifn c69 hf
          refine lv_aload_n hx hb dX7_readValue_37 rfl (lv_at hl 1 rfl) ?_
          obtain ⟨k70, hf⟩ := chk_b hf
          refine hg_7_0 hx hb hts hin_X7 hown kl_26 hI (isk_k k70) dX7_readValue_38 ?_
          refine lv_iconst (v := 0) hx hb dX7_readValue_41 (by decide) ?_
          obtain ⟨b71, hd72, hf⟩ := bnd_b hf
          obtain ⟨hq73, hk74⟩ := dr_e hd72
          refine W.eq (g2 := F0 m 42 ls [.int (0 : Int32), .ref b71]) (by rw [hq73]; rfl) ?_
          obtain ⟨x75, hc76, hf⟩ := bnd_b hf
          refine hcall_Vv (ex2 := True) (As := [.int (0 : Int32)]) (rest := []) (n := 1) (by rw [hk74]; decide) (hC_11 hk74) rfl ⟨hx, hb, hml, hown, hts⟩ (ch_X10_fail l D cy b71 (0 : Int32) st x75 hc76) (cwV 1 hts gX7_readValue_X10_fail rfl rfl rfl ⟨rfl, nd_X10_fail⟩ ⟨Nat.le_of_ble_eq_true rfl, Nat.le_of_ble_eq_true rfl⟩) hI (fun h => h.elim) (fun _ => ⟨trivial, trivial⟩) rfl hl.1 (Nat.le_of_ble_eq_true rfl) dX7_readValue_42 ⟨Nat.le_of_ble_eq_true rfl, Nat.le_of_ble_eq_true rfl⟩ (fun H locs hI => ?_)
          exact hret_v hx hb hr hlocks hI (by decide) (by decide) (fun _ => ⟨trivial, rfl⟩) (ret_e hK0 hf) dX7_readValue_45
  unfold fh_X7_readValue at hf
  refine lv_aload_n hx hb dX7_readValue_0 rfl (lv_at hl 0 rfl) ?_
  obtain ⟨k1, hf⟩ := chk_b hf
  refine hg_7_0 hx hb hts hin_X7 hown kl_26 hI (isk_k k1) dX7_readValue_1 ?_
  obtain ⟨b2, hd3, hf⟩ := bnd_b hf
  obtain ⟨hq4, hk5⟩ := dr_e hd3
  refine W.eq (g2 := F0 m 4 ls [.ref b2]) (by rw [hq4]; rfl) ?_
  obtain ⟨x6, hc7, hf⟩ := bnd_b hf
  refine hcall_Vi (ex2 := True) (As := []) (rest := []) (n := 0) (by rw [hk5]; decide) (hC_11 hk5) rfl ⟨hx, hb, hml, hown, hts⟩ (ch_X10_kind l D cy b2 s0 x6 hc7) (cwV 0 hts gX7_readValue_X10_kind rfl rfl rfl ⟨rfl, nd_X10_kind⟩ ⟨Nat.le_of_ble_eq_true rfl, Nat.le_of_ble_eq_true rfl⟩) hI (fun h => h.elim) (fun _ => ⟨trivial, trivial⟩) rfl hl.1 (Nat.le_of_ble_eq_true rfl) dX7_readValue_4 ⟨Nat.le_of_ble_eq_true rfl, Nat.le_of_ble_eq_true rfl⟩ (fun H locs hI => ?_)
  refine lv_istore_n (lv' := [(1, .int x6.2), (0, .ref h)]) hx hb dX7_readValue_7 rfl hl (by decide) rfl (fun ls hl => ?_)
  refine lv_iload_n hx hb dX7_readValue_8 rfl (lv_at hl 0 rfl) ?_
  refine lv_iconst (v := 2) hx hb dX7_readValue_9 (by decide) ?_
  refine lv_icmp_ne (tgt := 17) hx hb dX7_readValue_10 (by decide) (fun c8 => ?_) (fun c8 => ?_)
  · replace hf := ifn c8 hf
    refine lv_iconst (v := 0) hx hb dX7_readValue_17 (by decide) ?_
    exact B_18_0 x6.2 (0 : Int32) x6.1 H locs ls hI (lv_sub hl [1, 0] rfl) hf
  · replace hf := ifp c8 hf
    refine lv_iconst (v := 1) hx hb dX7_readValue_13 (by decide) ?_
    refine lv_goto (tgt := 18) hx hb dX7_readValue_14 (by decide) ?_
    exact B_18_0 x6.2 (1 : Int32) x6.1 H locs ls hI (lv_sub hl [1, 0] rfl) hf

theorem nd_X7_readSum : yX7_readSum.cls ≠ "java/lang/invoke/MethodHandle" ∧ yX7_readSum.cls ≠ "java/lang/invoke/VarHandle" ∧ (parseMethodDescriptor yX7_readSum.desc).map (fun d => d.parameters.length) = some 0 := by decide +kernel
set_option maxHeartbeats 4000000 in
set_option maxRecDepth 100000 in
theorem ch_X7_readSum (l : Launch) (D : va_G) (cy : Nat → ClassId) (h : Nat)  (s0 : HSt) (out : HSt) (hf : fh_X7_readSum h s0 = some out) : CHv l D cy yX7_readSum wsX7_readSum { frames := 2, cells := 0, slots := 0, locals := 43 } 0 0 False True [.ref h] s0 out := by
  refine Met.ofW (cc := cX7_readSum) (maxL := 5) (ret := none) (by decide) rfl ?_
  intro p e s m args below meth c s₁ B hml hv
  obtain ⟨rfl, hP, hK, hD0, hkx, hsz, hal⟩ := hv
  have hx := B.exec
  have hb := B.bytes
  have hr := B.returns
  have hts := atoms_spec (ws := wsX7_readSum) B.pre
  have hown : s.vm.findClass RX7 = some m.cls := findClass_of_methodNamed B.named
  have hlocks := B.notSynchronized
  have hI : HI D cy s s0 s0 s.heap [] 0 False True := ⟨hK, hP, hD0.weaken (fun k q hk _ => Or.inl (pl_mem hk)), va_S.rf, hsz.1, hkx, ⟨hsz, hal⟩, fun _ => rfl, Nat.le_refl _⟩
  have hin_X7 : ∀ w ∈ u_ws RX7 TX7 7, w ∈ wsX7_readSum := fun w hw => List.mem_cons_of_mem _ (List.mem_append_left _ (List.mem_append_right _ hw))
  have kl_26 : Cond.fieldLink RX7 26 "HalfBridge$RuleReader" "tokens" "LHalfBridge$Tokens;" ∈ wsX7_readSum := by decide +kernel
  have hl := lv_entry ([.ref h]) (n := 5) (Nat.le_of_ble_eq_true rfl)
  rw [lg_entry_eq]
  generalize (lg_sl ([.ref h]) ++ List.replicate (5 - (lg_sl ([.ref h])).length) Slot.unset).toArray = ls at hl ⊢
  have hl : lv_has ls 5 [(0, .ref h)] := hl
  obtain ⟨K0, hK0, hf⟩ := top_e hf
  have B_125 : ∀   (st : HSt) (H : Heap) (locs : List Loc) (ls : Array Slot), HI D cy s s0 st H locs 0 False True → lv_has ls 5 [] → (fh_X7_readSum_j125 h st).bind K0 = some out → W p l e (headSpec wsX7_readSum { frames := 2, cells := 0, slots := 0, locals := 43 }).room s m (([.ref h] : List Value).toArray) below meth c H locs 0 0 (MQ below (HQv D cy s0 0 True out) ([.ref h] : List Value).toArray s 0 0 (hF s0)) (F0 m 125 ls []) := by
    intro st H locs ls hI hl hf
    unfold fh_X7_readSum_j125 at hf
    exact hret_v hx hb hr hlocks hI (by decide) (by decide) (fun _ => ⟨trivial, rfl⟩) (ret_e hK0 hf) dX7_readSum_125
  have L_4 : ∀  (n : Nat) (v1 : Int32) (v2 : Int32) (st : HSt) (H : Heap) (locs : List Loc) (ls : Array Slot), HI D cy s s0 st H locs 0 False True → lv_has ls 5 [(0, .ref h), (1, .int v1), (2, .int v2)] → (iter (fun x : (Int32 × Int32 × HSt) => fh_X7_readSum_s4 h x.1 x.2.1 x.2.2) n (v1, v2, st)).bind (fun x => ((Sum.elim (fun o : HSt => (some o : Option (HSt))) (fun x : (Int32 × Int32 × HSt) => fh_X7_readSum_j125 h x.2.2)) x).bind K0) = some out → W p l e (headSpec wsX7_readSum { frames := 2, cells := 0, slots := 0, locals := 43 }).room s m (([.ref h] : List Value).toArray) below meth c H locs 0 0 (MQ below (HQv D cy s0 0 True out) ([.ref h] : List Value).toArray s 0 0 (hF s0)) (F0 m 4 ls []) := by
    intro n
    induction n with
    | zero => intro v1 v2 st H locs ls hI hl hf; exact (iter_0 hf).elim
    | succ n ih =>
      intro v1 v2 st H locs ls hI hl hf
      obtain ⟨K1, hK1, hf⟩ := iter_e hf
      replace hf : (fh_X7_readSum_s4 h v1 v2 st).bind K1 = some out := hf
      have B_4_91 : ∀ (v2 : Int32)  (st : HSt) (H : Heap) (locs : List Loc) (ls : Array Slot), HI D cy s s0 st H locs 0 False True → lv_has ls 5 [(0, .ref h), (2, .int v2)] → (fh_X7_readSum_j91 h v2 st).bind K1 = some out → W p l e (headSpec wsX7_readSum { frames := 2, cells := 0, slots := 0, locals := 43 }).room s m (([.ref h] : List Value).toArray) below meth c H locs 0 0 (MQ below (HQv D cy s0 0 True out) ([.ref h] : List Value).toArray s 0 0 (hF s0)) (F0 m 91 ls []) := by
        intro v2 st H locs ls hI hl hf
        unfold fh_X7_readSum_j91 at hf
        refine lv_aload_n hx hb dX7_readSum_91 rfl (lv_at hl 0 rfl) ?_
        obtain ⟨k6, hf⟩ := chk_b hf
        refine hg_7_0 hx hb hts hin_X7 hown kl_26 hI (isk_k k6) dX7_readSum_92 ?_
        obtain ⟨b7, hd8, hf⟩ := bnd_b hf
        obtain ⟨hq9, hk10⟩ := dr_e hd8
        refine W.eq (g2 := F0 m 95 ls [.ref b7]) (by rw [hq9]; rfl) ?_
        obtain ⟨x11, hc12, hf⟩ := bnd_b hf
        refine hcall_Vi (ex2 := True) (As := []) (rest := []) (n := 0) (by rw [hk10]; decide) (hC_11 hk10) rfl ⟨hx, hb, hml, hown, hts⟩ (ch_X10_kind l D cy b7 st x11 hc12) (cwV 0 hts gX7_readSum_X10_kind rfl rfl rfl ⟨rfl, nd_X10_kind⟩ ⟨Nat.le_of_ble_eq_true rfl, Nat.le_of_ble_eq_true rfl⟩) hI (fun h => h.elim) (fun _ => ⟨trivial, trivial⟩) rfl hl.1 (Nat.le_of_ble_eq_true rfl) dX7_readSum_95 ⟨Nat.le_of_ble_eq_true rfl, Nat.le_of_ble_eq_true rfl⟩ (fun H locs hI => ?_)
        refine lv_istore_n (lv' := [(1, .int x11.2), (0, .ref h), (2, .int v2)]) hx hb dX7_readSum_98 rfl hl (by decide) rfl (fun ls hl => ?_)
        refine lv_iload_n hx hb dX7_readSum_99 rfl (lv_at hl 0 rfl) ?_
        refine lv_bipush (v := 43) hx hb dX7_readSum_100 (by decide) ?_
        refine lv_icmp_eq (tgt := 112) hx hb dX7_readSum_102 (by decide) (fun c13 => ?_) (fun c13 => ?_)
        · replace hf := ifp c13 hf
          refine lv_aload_n hx hb dX7_readSum_112 rfl (lv_at hl 1 rfl) ?_
          obtain ⟨k14, hf⟩ := chk_b hf
          refine hg_7_0 hx hb hts hin_X7 hown kl_26 hI (isk_k k14) dX7_readSum_113 ?_
          obtain ⟨b15, hd16, hf⟩ := bnd_b hf
          obtain ⟨hq17, hk18⟩ := dr_e hd16
          refine W.eq (g2 := F0 m 116 ls [.ref b15]) (by rw [hq17]; rfl) ?_
          obtain ⟨x19, hc20, hf⟩ := bnd_b hf
          refine hcall_Vv (ex2 := True) (As := []) (rest := []) (n := 0) (by rw [hk18]; decide) (hC_11 hk18) rfl ⟨hx, hb, hml, hown, hts⟩ (ch_X10_next l D cy b15 x11.1 x19 hc20) (cwV 0 hts gX7_readSum_X10_next rfl rfl rfl ⟨rfl, nd_X10_next⟩ ⟨Nat.le_of_ble_eq_true rfl, Nat.le_of_ble_eq_true rfl⟩) hI (fun h => h.elim) (fun _ => ⟨trivial, trivial⟩) rfl hl.1 (Nat.le_of_ble_eq_true rfl) dX7_readSum_116 ⟨Nat.le_of_ble_eq_true rfl, Nat.le_of_ble_eq_true rfl⟩ (fun H locs hI => ?_)
          refine lv_iinc (v := (v2 + 1)) (lv' := [(2, .int (v2 + 1)), (1, .int x11.2), (0, .ref h)]) hx hb dX7_readSum_119 hl (k := 2) rfl (ci_ _ (by decide)) (by decide) rfl (fun ls hl => ?_)
          refine lv_goto (tgt := 4) hx hb dX7_readSum_122 (by decide) ?_
          replace hf := cont_b hK1 hf
          exact ih x11.2 (v2 + 1) x19 H locs ls hI (lv_sub hl [2, 1, 0] rfl) hf
        · replace hf := ifn c13 hf
          refine lv_iload_n hx hb dX7_readSum_105 rfl (lv_at hl 0 rfl) ?_
          refine lv_bipush (v := 45) hx hb dX7_readSum_106 (by decide) ?_
          refine lv_icmp_eq (tgt := 112) hx hb dX7_readSum_108 (by decide) (fun c21 => ?_) (fun c21 => ?_)
          · replace hf := ifp c21 hf
            refine lv_aload_n hx hb dX7_readSum_112 rfl (lv_at hl 1 rfl) ?_
            obtain ⟨k22, hf⟩ := chk_b hf
            refine hg_7_0 hx hb hts hin_X7 hown kl_26 hI (isk_k k22) dX7_readSum_113 ?_
            obtain ⟨b23, hd24, hf⟩ := bnd_b hf
            obtain ⟨hq25, hk26⟩ := dr_e hd24
            refine W.eq (g2 := F0 m 116 ls [.ref b23]) (by rw [hq25]; rfl) ?_
            obtain ⟨x27, hc28, hf⟩ := bnd_b hf
            refine hcall_Vv (ex2 := True) (As := []) (rest := []) (n := 0) (by rw [hk26]; decide) (hC_11 hk26) rfl ⟨hx, hb, hml, hown, hts⟩ (ch_X10_next l D cy b23 x11.1 x27 hc28) (cwV 0 hts gX7_readSum_X10_next rfl rfl rfl ⟨rfl, nd_X10_next⟩ ⟨Nat.le_of_ble_eq_true rfl, Nat.le_of_ble_eq_true rfl⟩) hI (fun h => h.elim) (fun _ => ⟨trivial, trivial⟩) rfl hl.1 (Nat.le_of_ble_eq_true rfl) dX7_readSum_116 ⟨Nat.le_of_ble_eq_true rfl, Nat.le_of_ble_eq_true rfl⟩ (fun H locs hI => ?_)
            refine lv_iinc (v := (v2 + 1)) (lv' := [(2, .int (v2 + 1)), (1, .int x11.2), (0, .ref h)]) hx hb dX7_readSum_119 hl (k := 2) rfl (ci_ _ (by decide)) (by decide) rfl (fun ls hl => ?_)
            refine lv_goto (tgt := 4) hx hb dX7_readSum_122 (by decide) ?_
            replace hf := cont_b hK1 hf
            exact ih x11.2 (v2 + 1) x27 H locs ls hI (lv_sub hl [2, 1, 0] rfl) hf
          · replace hf := ifn c21 hf
            replace hf := inl_b hK1 hf
            replace hf : Option.bind (some x11.1) K0 = some out := hf
            exact hret_v hx hb hr hlocks hI (by decide) (by decide) (fun _ => ⟨trivial, rfl⟩) (ret_e hK0 hf) dX7_readSum_111
      have B_4_81 : ∀ (v1 : Int32) (v2 : Int32)  (st : HSt) (H : Heap) (locs : List Loc) (ls : Array Slot), HI D cy s s0 st H locs 0 False True → lv_has ls 5 [(0, .ref h), (1, .int v1), (2, .int v2)] → (fh_X7_readSum_j81 h v1 v2 st).bind K1 = some out → W p l e (headSpec wsX7_readSum { frames := 2, cells := 0, slots := 0, locals := 43 }).room s m (([.ref h] : List Value).toArray) below meth c H locs 0 0 (MQ below (HQv D cy s0 0 True out) ([.ref h] : List Value).toArray s 0 0 (hF s0)) (F0 m 81 ls []) := by
        intro v1 v2 st H locs ls hI hl hf
        unfold fh_X7_readSum_j81 at hf
        refine lv_iload_n hx hb dX7_readSum_81 rfl (lv_at hl 2 rfl) ?_
        refine lv_if_le (tgt := 91) hx hb dX7_readSum_82 (by decide) (fun c5 => ?_) (fun c5 => ?_)
        · replace hf := ifp c5 hf
          exact B_4_91 v2 st H locs ls hI (lv_sub hl [0, 2] rfl) hf
        · replace hf := ifn c5 hf
          refine lv_aload_n hx hb dX7_readSum_85 rfl (lv_at hl 0 rfl) ?_
          refine lv_iload_n hx hb dX7_readSum_86 rfl (lv_at hl 1 rfl) ?_
          refine lv_ineg hx hb dX7_readSum_87 ?_
          obtain ⟨k29, hf⟩ := chk_b hf
          obtain ⟨x30, hc31, hf⟩ := bnd_b hf
          refine hcall_Vv (ex2 := True) (As := [.int (-v1)]) (rest := []) (n := 1) (by rw [(isk_k k29)]; decide) (hC_8 (isk_k k29)) rfl ⟨hx, hb, hml, hown, hts⟩ (ch_X7_put l D cy h (-v1) st x30 hc31) (cwV 1 hts gX7_readSum_X7_put rfl rfl rfl ⟨rfl, nd_X7_put⟩ ⟨Nat.le_of_ble_eq_true rfl, Nat.le_of_ble_eq_true rfl⟩) hI (fun h => h.elim) (fun _ => ⟨trivial, trivial⟩) rfl hl.1 (Nat.le_of_ble_eq_true rfl) dX7_readSum_88 ⟨Nat.le_of_ble_eq_true rfl, Nat.le_of_ble_eq_true rfl⟩ (fun H locs hI => ?_)
          exact B_4_91 v2 x30 H locs ls hI (lv_sub hl [0, 2] rfl) hf
      have L_4_17 : ∀ (v1 : Int32) (v2 : Int32) (n : Nat) (v3 : Int32) (st : HSt) (H : Heap) (locs : List Loc) (ls : Array Slot), HI D cy s s0 st H locs 0 False True → lv_has ls 5 [(0, .ref h), (1, .int v1), (2, .int v2), (3, .int v3)] → (iter (fun x : (Int32 × HSt) => fh_X7_readSum_s17 h v1 v2 x.1 x.2) n (v3, st)).bind (fun x => ((Sum.elim (fun o : HSt => (some (.inl o) : Option ((HSt) ⊕ ((Int32 × Int32 × HSt) ⊕ (Int32 × Int32 × HSt))))) (fun x : (Int32 × HSt) => fh_X7_readSum_j81 h v1 v2 x.2)) x).bind K1) = some out → W p l e (headSpec wsX7_readSum { frames := 2, cells := 0, slots := 0, locals := 43 }).room s m (([.ref h] : List Value).toArray) below meth c H locs 0 0 (MQ below (HQv D cy s0 0 True out) ([.ref h] : List Value).toArray s 0 0 (hF s0)) (F0 m 17 ls []) := by
        intro v1 v2 n
        induction n with
        | zero => intro v3 st H locs ls hI hl hf; exact (iter_0 hf).elim
        | succ n ih =>
          intro v3 st H locs ls hI hl hf
          obtain ⟨K2, hK2, hf⟩ := iter_e hf
          replace hf : (fh_X7_readSum_s17 h v1 v2 v3 st).bind K2 = some out := hf
          have B_4_17_48 : ∀ (v3 : Int32)  (st : HSt) (H : Heap) (locs : List Loc) (ls : Array Slot), HI D cy s s0 st H locs 0 False True → lv_has ls 5 [(0, .ref h), (1, .int v1), (2, .int v2), (3, .int v3)] → (fh_X7_readSum_j48 h v1 v2 v3 st).bind K2 = some out → W p l e (headSpec wsX7_readSum { frames := 2, cells := 0, slots := 0, locals := 43 }).room s m (([.ref h] : List Value).toArray) below meth c H locs 0 0 (MQ below (HQv D cy s0 0 True out) ([.ref h] : List Value).toArray s 0 0 (hF s0)) (F0 m 48 ls []) := by
            intro v3 st H locs ls hI hl hf
            unfold fh_X7_readSum_j48 at hf
            refine lv_aload_n hx hb dX7_readSum_48 rfl (lv_at hl 0 rfl) ?_
            obtain ⟨k41, hf⟩ := chk_b hf
            refine hg_7_0 hx hb hts hin_X7 hown kl_26 hI (isk_k k41) dX7_readSum_49 ?_
            obtain ⟨b42, hd43, hf⟩ := bnd_b hf
            obtain ⟨hq44, hk45⟩ := dr_e hd43
            refine W.eq (g2 := F0 m 52 ls [.ref b42]) (by rw [hq44]; rfl) ?_
            obtain ⟨x46, hc47, hf⟩ := bnd_b hf
            refine hcall_Vi (ex2 := True) (As := []) (rest := []) (n := 0) (by rw [hk45]; decide) (hC_11 hk45) rfl ⟨hx, hb, hml, hown, hts⟩ (ch_X10_kind l D cy b42 st x46 hc47) (cwV 0 hts gX7_readSum_X10_kind rfl rfl rfl ⟨rfl, nd_X10_kind⟩ ⟨Nat.le_of_ble_eq_true rfl, Nat.le_of_ble_eq_true rfl⟩) hI (fun h => h.elim) (fun _ => ⟨trivial, trivial⟩) rfl hl.1 (Nat.le_of_ble_eq_true rfl) dX7_readSum_52 ⟨Nat.le_of_ble_eq_true rfl, Nat.le_of_ble_eq_true rfl⟩ (fun H locs hI => ?_)
            refine lv_istore (lv' := [(4, .int x46.2), (0, .ref h), (1, .int v1), (2, .int v2), (3, .int v3)]) hx hb dX7_readSum_55 hl (by decide) rfl (fun ls hl => ?_)
            refine lv_aload_n hx hb dX7_readSum_57 rfl (lv_at hl 1 rfl) ?_
            obtain ⟨k48, hf⟩ := chk_b hf
            refine hg_7_0 hx hb hts hin_X7 hown kl_26 hI (isk_k k48) dX7_readSum_58 ?_
            obtain ⟨b49, hd50, hf⟩ := bnd_b hf
            obtain ⟨hq51, hk52⟩ := dr_e hd50
            refine W.eq (g2 := F0 m 61 ls [.ref b49]) (by rw [hq51]; rfl) ?_
            obtain ⟨x53, hc54, hf⟩ := bnd_b hf
            refine hcall_Vv (ex2 := True) (As := []) (rest := []) (n := 0) (by rw [hk52]; decide) (hC_11 hk52) rfl ⟨hx, hb, hml, hown, hts⟩ (ch_X10_next l D cy b49 x46.1 x53 hc54) (cwV 0 hts gX7_readSum_X10_next rfl rfl rfl ⟨rfl, nd_X10_next⟩ ⟨Nat.le_of_ble_eq_true rfl, Nat.le_of_ble_eq_true rfl⟩) hI (fun h => h.elim) (fun _ => ⟨trivial, trivial⟩) rfl hl.1 (Nat.le_of_ble_eq_true rfl) dX7_readSum_61 ⟨Nat.le_of_ble_eq_true rfl, Nat.le_of_ble_eq_true rfl⟩ (fun H locs hI => ?_)
            refine lv_aload_n hx hb dX7_readSum_64 rfl (lv_at hl 1 rfl) ?_
            obtain ⟨k55, hf⟩ := chk_b hf
            obtain ⟨x56, hc57, hf⟩ := bnd_b hf
            refine hcall_Vv (ex2 := True) (As := []) (rest := []) (n := 0) (by rw [(isk_k k55)]; decide) (hC_8 (isk_k k55)) rfl ⟨hx, hb, hml, hown, hts⟩ (ch_X7_readValue l D cy h x53 x56 hc57) (cwV 0 hts gX7_readSum_X7_readValue rfl rfl rfl ⟨rfl, nd_X7_readValue⟩ ⟨Nat.le_of_ble_eq_true rfl, Nat.le_of_ble_eq_true rfl⟩) hI (fun h => h.elim) (fun _ => ⟨trivial, trivial⟩) rfl hl.1 (Nat.le_of_ble_eq_true rfl) dX7_readSum_65 ⟨Nat.le_of_ble_eq_true rfl, Nat.le_of_ble_eq_true rfl⟩ (fun H locs hI => ?_)
            refine lv_aload_n hx hb dX7_readSum_68 rfl (lv_at hl 1 rfl) ?_
            refine lv_iload hx hb dX7_readSum_69 (lv_at hl 0 rfl) ?_
            refine lv_ineg hx hb dX7_readSum_71 ?_
            obtain ⟨k58, hf⟩ := chk_b hf
            obtain ⟨x59, hc60, hf⟩ := bnd_b hf
            refine hcall_Vv (ex2 := True) (As := [.int (-x46.2)]) (rest := []) (n := 1) (by rw [(isk_k k58)]; decide) (hC_8 (isk_k k58)) rfl ⟨hx, hb, hml, hown, hts⟩ (ch_X7_put l D cy h (-x46.2) x56 x59 hc60) (cwV 1 hts gX7_readSum_X7_put rfl rfl rfl ⟨rfl, nd_X7_put⟩ ⟨Nat.le_of_ble_eq_true rfl, Nat.le_of_ble_eq_true rfl⟩) hI (fun h => h.elim) (fun _ => ⟨trivial, trivial⟩) rfl hl.1 (Nat.le_of_ble_eq_true rfl) dX7_readSum_72 ⟨Nat.le_of_ble_eq_true rfl, Nat.le_of_ble_eq_true rfl⟩ (fun H locs hI => ?_)
            refine lv_iinc (v := (v3 + 1)) (lv' := [(3, .int (v3 + 1)), (4, .int x46.2), (0, .ref h), (1, .int v1), (2, .int v2)]) hx hb dX7_readSum_75 hl (k := 4) rfl (ci_ _ (by decide)) (by decide) rfl (fun ls hl => ?_)
            refine lv_goto (tgt := 17) hx hb dX7_readSum_78 (by decide) ?_
            replace hf := cont_b hK2 hf
            exact ih (v3 + 1) x59 H locs ls hI (lv_sub hl [2, 3, 4, 0] rfl) hf
          unfold fh_X7_readSum_s17 at hf
          refine lv_iload_n hx hb dX7_readSum_17 rfl (lv_at hl 3 rfl) ?_
          refine lv_sipush (v := 400) hx hb dX7_readSum_18 (by decide) ?_
          refine lv_icmp_ge (tgt := 81) hx hb dX7_readSum_21 (by decide) (fun c32 => ?_) (fun c32 => ?_)
          · replace hf := ifp c32 hf
            replace hf := exit_b hK2 hf
            exact B_4_81 v1 v2 st H locs ls hI (lv_sub hl [0, 1, 2] rfl) hf
          · replace hf := ifn c32 hf
            refine lv_aload_n hx hb dX7_readSum_24 rfl (lv_at hl 0 rfl) ?_
            obtain ⟨k33, hf⟩ := chk_b hf
            refine hg_7_0 hx hb hts hin_X7 hown kl_26 hI (isk_k k33) dX7_readSum_25 ?_
            obtain ⟨b34, hd35, hf⟩ := bnd_b hf
            obtain ⟨hq36, hk37⟩ := dr_e hd35
            refine W.eq (g2 := F0 m 28 ls [.ref b34]) (by rw [hq36]; rfl) ?_
            obtain ⟨x38, hc39, hf⟩ := bnd_b hf
            refine hcall_Vi (ex2 := True) (As := []) (rest := []) (n := 0) (by rw [hk37]; decide) (hC_11 hk37) rfl ⟨hx, hb, hml, hown, hts⟩ (ch_X10_kind l D cy b34 st x38 hc39) (cwV 0 hts gX7_readSum_X10_kind rfl rfl rfl ⟨rfl, nd_X10_kind⟩ ⟨Nat.le_of_ble_eq_true rfl, Nat.le_of_ble_eq_true rfl⟩) hI (fun h => h.elim) (fun _ => ⟨trivial, trivial⟩) rfl hl.1 (Nat.le_of_ble_eq_true rfl) dX7_readSum_28 ⟨Nat.le_of_ble_eq_true rfl, Nat.le_of_ble_eq_true rfl⟩ (fun H locs hI => ?_)
            refine lv_bipush (v := 42) hx hb dX7_readSum_31 (by decide) ?_
            refine lv_icmp_eq (tgt := 48) hx hb dX7_readSum_33 (by decide) (fun c40 => ?_) (fun c40 => ?_)
            · replace hf := ifp c40 hf
              exact B_4_17_48 v3 x38.1 H locs ls hI (lv_sub hl [0, 1, 2, 3] rfl) hf
            · replace hf := ifn c40 hf
              refine lv_aload_n hx hb dX7_readSum_36 rfl (lv_at hl 0 rfl) ?_
              obtain ⟨k61, hf⟩ := chk_b hf
              refine hg_7_0 hx hb hts hin_X7 hown kl_26 hI (isk_k k61) dX7_readSum_37 ?_
              obtain ⟨b62, hd63, hf⟩ := bnd_b hf
              obtain ⟨hq64, hk65⟩ := dr_e hd63
              refine W.eq (g2 := F0 m 40 ls [.ref b62]) (by rw [hq64]; rfl) ?_
              obtain ⟨x66, hc67, hf⟩ := bnd_b hf
              refine hcall_Vi (ex2 := True) (As := []) (rest := []) (n := 0) (by rw [hk65]; decide) (hC_11 hk65) rfl ⟨hx, hb, hml, hown, hts⟩ (ch_X10_kind l D cy b62 x38.1 x66 hc67) (cwV 0 hts gX7_readSum_X10_kind rfl rfl rfl ⟨rfl, nd_X10_kind⟩ ⟨Nat.le_of_ble_eq_true rfl, Nat.le_of_ble_eq_true rfl⟩) hI (fun h => h.elim) (fun _ => ⟨trivial, trivial⟩) rfl hl.1 (Nat.le_of_ble_eq_true rfl) dX7_readSum_40 ⟨Nat.le_of_ble_eq_true rfl, Nat.le_of_ble_eq_true rfl⟩ (fun H locs hI => ?_)
              refine lv_bipush (v := 47) hx hb dX7_readSum_43 (by decide) ?_
              refine lv_icmp_ne (tgt := 81) hx hb dX7_readSum_45 (by decide) (fun c68 => ?_) (fun c68 => ?_)
              · replace hf := ifn c68 hf
                replace hf := exit_b hK2 hf
                exact B_4_81 v1 v2 x66.1 H locs ls hI (lv_sub hl [0, 1, 2] rfl) hf
              · replace hf := ifp c68 hf
                exact B_4_17_48 v3 x66.1 H locs ls hI (lv_sub hl [0, 1, 2, 3] rfl) hf
      unfold fh_X7_readSum_s4 at hf
      refine lv_iload_n hx hb dX7_readSum_4 rfl (lv_at hl 2 rfl) ?_
      refine lv_sipush (v := 400) hx hb dX7_readSum_5 (by decide) ?_
      refine lv_icmp_ge (tgt := 125) hx hb dX7_readSum_8 (by decide) (fun c1 => ?_) (fun c1 => ?_)
      · replace hf := ifp c1 hf
        replace hf := exit_b hK1 hf
        exact B_125  st H locs ls hI (lv_sub hl [] rfl) hf
      · replace hf := ifn c1 hf
        refine lv_aload_n hx hb dX7_readSum_11 rfl (lv_at hl 0 rfl) ?_
        obtain ⟨k2, hf⟩ := chk_b hf
        obtain ⟨x3, hc4, hf⟩ := bnd_b hf
        refine hcall_Vv (ex2 := True) (As := []) (rest := []) (n := 0) (by rw [(isk_k k2)]; decide) (hC_8 (isk_k k2)) rfl ⟨hx, hb, hml, hown, hts⟩ (ch_X7_readValue l D cy h st x3 hc4) (cwV 0 hts gX7_readSum_X7_readValue rfl rfl rfl ⟨rfl, nd_X7_readValue⟩ ⟨Nat.le_of_ble_eq_true rfl, Nat.le_of_ble_eq_true rfl⟩) hI (fun h => h.elim) (fun _ => ⟨trivial, trivial⟩) rfl hl.1 (Nat.le_of_ble_eq_true rfl) dX7_readSum_12 ⟨Nat.le_of_ble_eq_true rfl, Nat.le_of_ble_eq_true rfl⟩ (fun H locs hI => ?_)
        refine lv_iconst (v := 0) hx hb dX7_readSum_15 (by decide) ?_
        refine lv_istore_n (lv' := [(3, .int (0 : Int32)), (0, .ref h), (1, .int v1), (2, .int v2)]) hx hb dX7_readSum_16 rfl hl (by decide) rfl (fun ls hl => ?_)
        exact L_4_17 v1 v2 mFuel (0 : Int32) x3 H locs ls hI (lv_sub hl [1, 2, 3, 0] rfl) (asc_b hf)
  unfold fh_X7_readSum at hf
  refine lv_iconst (v := 0) hx hb dX7_readSum_0 (by decide) ?_
  refine lv_istore_n (lv' := [(1, .int (0 : Int32)), (0, .ref h)]) hx hb dX7_readSum_1 rfl hl (by decide) rfl (fun ls hl => ?_)
  refine lv_iconst (v := 0) hx hb dX7_readSum_2 (by decide) ?_
  refine lv_istore_n (lv' := [(2, .int (0 : Int32)), (1, .int (0 : Int32)), (0, .ref h)]) hx hb dX7_readSum_3 rfl hl (by decide) rfl (fun ls hl => ?_)
  exact L_4  mFuel (0 : Int32) (0 : Int32) s0 s.heap [] ls hI (lv_sub hl [2, 1, 0] rfl) (asc_b hf)

theorem nd_X7_takeSign : yX7_takeSign.cls ≠ "java/lang/invoke/MethodHandle" ∧ yX7_takeSign.cls ≠ "java/lang/invoke/VarHandle" ∧ (parseMethodDescriptor yX7_takeSign.desc).map (fun d => d.parameters.length) = some 1 := by decide +kernel
set_option maxHeartbeats 4000000 in
set_option maxRecDepth 100000 in
theorem ch_X7_takeSign (l : Launch) (D : va_G) (cy : Nat → ClassId) (h : Nat) (a1 : Int32) (s0 : HSt) (out : HSt) (hf : fh_X7_takeSign h a1 s0 = some out) : CHv l D cy yX7_takeSign wsX7_takeSign { frames := 1, cells := 0, slots := 0, locals := 21 } 0 0 False True [.ref h, .int a1] s0 out := by
  refine Met.ofW (cc := cX7_takeSign) (maxL := 2) (ret := none) (by decide) rfl ?_
  intro p e s m args below meth c s₁ B hml hv
  obtain ⟨rfl, hP, hK, hD0, hkx, hsz, hal⟩ := hv
  have hx := B.exec
  have hb := B.bytes
  have hr := B.returns
  have hts := atoms_spec (ws := wsX7_takeSign) B.pre
  have hown : s.vm.findClass RX7 = some m.cls := findClass_of_methodNamed B.named
  have hlocks := B.notSynchronized
  have hI : HI D cy s s0 s0 s.heap [] 0 False True := ⟨hK, hP, hD0.weaken (fun k q hk _ => Or.inl (pl_mem hk)), va_S.rf, hsz.1, hkx, ⟨hsz, hal⟩, fun _ => rfl, Nat.le_refl _⟩
  have hin_X7 : ∀ w ∈ u_ws RX7 TX7 7, w ∈ wsX7_takeSign := fun w hw => List.mem_cons_of_mem _ (List.mem_append_left _ (List.mem_append_right _ hw))
  have kl_26 : Cond.fieldLink RX7 26 "HalfBridge$RuleReader" "tokens" "LHalfBridge$Tokens;" ∈ wsX7_takeSign := by decide +kernel
  have hl := lv_entry ([.ref h, .int a1]) (n := 2) (Nat.le_of_ble_eq_true rfl)
  rw [lg_entry_eq]
  generalize (lg_sl ([.ref h, .int a1]) ++ List.replicate (2 - (lg_sl ([.ref h, .int a1])).length) Slot.unset).toArray = ls at hl ⊢
  have hl : lv_has ls 2 [(0, .ref h), (1, .int a1)] := hl
  obtain ⟨K0, hK0, hf⟩ := top_e hf
  unfold fh_X7_takeSign at hf
  refine lv_iload_n hx hb dX7_takeSign_0 rfl (lv_at hl 1 rfl) ?_
  refine lv_if_ne (tgt := 12) hx hb dX7_takeSign_1 (by decide) (fun c1 => ?_) (fun c1 => ?_)
  · replace hf := ifn c1 hf
    refine lv_aload_n hx hb dX7_takeSign_12 rfl (lv_at hl 0 rfl) ?_
    obtain ⟨k2, hf⟩ := chk_b hf
    refine hg_7_0 hx hb hts hin_X7 hown kl_26 hI (isk_k k2) dX7_takeSign_13 ?_
    obtain ⟨b3, hd4, hf⟩ := bnd_b hf
    obtain ⟨hq5, hk6⟩ := dr_e hd4
    refine W.eq (g2 := F0 m 16 ls [.ref b3]) (by rw [hq5]; rfl) ?_
    obtain ⟨x7, hc8, hf⟩ := bnd_b hf
    refine hcall_Vv (ex2 := True) (As := []) (rest := []) (n := 0) (by rw [hk6]; decide) (hC_11 hk6) rfl ⟨hx, hb, hml, hown, hts⟩ (ch_X10_next l D cy b3 s0 x7 hc8) (cwV 0 hts gX7_takeSign_X10_next rfl rfl rfl ⟨rfl, nd_X10_next⟩ ⟨Nat.le_of_ble_eq_true rfl, Nat.le_of_ble_eq_true rfl⟩) hI (fun h => h.elim) (fun _ => ⟨trivial, trivial⟩) rfl hl.1 (Nat.le_of_ble_eq_true rfl) dX7_takeSign_16 ⟨Nat.le_of_ble_eq_true rfl, Nat.le_of_ble_eq_true rfl⟩ (fun H locs hI => ?_)
    exact hret_v hx hb hr hlocks hI (by decide) (by decide) (fun _ => ⟨trivial, rfl⟩) (ret_e hK0 hf) dX7_takeSign_19
  · replace hf := ifp c1 hf
    refine lv_aload_n hx hb dX7_takeSign_4 rfl (lv_at hl 0 rfl) ?_
    obtain ⟨k9, hf⟩ := chk_b hf
    refine hg_7_0 hx hb hts hin_X7 hown kl_26 hI (isk_k k9) dX7_takeSign_5 ?_
    refine lv_iconst (v := 0) hx hb dX7_takeSign_8 (by decide) ?_
    obtain ⟨b10, hd11, hf⟩ := bnd_b hf
    obtain ⟨hq12, hk13⟩ := dr_e hd11
    refine W.eq (g2 := F0 m 9 ls [.int (0 : Int32), .ref b10]) (by rw [hq12]; rfl) ?_
    obtain ⟨x14, hc15, hf⟩ := bnd_b hf
    refine hcall_Vv (ex2 := True) (As := [.int (0 : Int32)]) (rest := []) (n := 1) (by rw [hk13]; decide) (hC_11 hk13) rfl ⟨hx, hb, hml, hown, hts⟩ (ch_X10_fail l D cy b10 (0 : Int32) s0 x14 hc15) (cwV 1 hts gX7_takeSign_X10_fail rfl rfl rfl ⟨rfl, nd_X10_fail⟩ ⟨Nat.le_of_ble_eq_true rfl, Nat.le_of_ble_eq_true rfl⟩) hI (fun h => h.elim) (fun _ => ⟨trivial, trivial⟩) rfl hl.1 (Nat.le_of_ble_eq_true rfl) dX7_takeSign_9 ⟨Nat.le_of_ble_eq_true rfl, Nat.le_of_ble_eq_true rfl⟩ (fun H locs hI => ?_)
    refine lv_aload_n hx hb dX7_takeSign_12 rfl (lv_at hl 0 rfl) ?_
    obtain ⟨k16, hf⟩ := chk_b hf
    refine hg_7_0 hx hb hts hin_X7 hown kl_26 hI (isk_k k16) dX7_takeSign_13 ?_
    obtain ⟨b17, hd18, hf⟩ := bnd_b hf
    obtain ⟨hq19, hk20⟩ := dr_e hd18
    refine W.eq (g2 := F0 m 16 ls [.ref b17]) (by rw [hq19]; rfl) ?_
    obtain ⟨x21, hc22, hf⟩ := bnd_b hf
    refine hcall_Vv (ex2 := True) (As := []) (rest := []) (n := 0) (by rw [hk20]; decide) (hC_11 hk20) rfl ⟨hx, hb, hml, hown, hts⟩ (ch_X10_next l D cy b17 x14 x21 hc22) (cwV 0 hts gX7_takeSign_X10_next rfl rfl rfl ⟨rfl, nd_X10_next⟩ ⟨Nat.le_of_ble_eq_true rfl, Nat.le_of_ble_eq_true rfl⟩) hI (fun h => h.elim) (fun _ => ⟨trivial, trivial⟩) rfl hl.1 (Nat.le_of_ble_eq_true rfl) dX7_takeSign_16 ⟨Nat.le_of_ble_eq_true rfl, Nat.le_of_ble_eq_true rfl⟩ (fun H locs hI => ?_)
    exact hret_v hx hb hr hlocks hI (by decide) (by decide) (fun _ => ⟨trivial, rfl⟩) (ret_e hK0 hf) dX7_takeSign_19
