theorem nd_X11_hasRiver : yX11_hasRiver.cls ≠ "java/lang/invoke/MethodHandle" ∧ yX11_hasRiver.cls ≠ "java/lang/invoke/VarHandle" ∧ (parseMethodDescriptor yX11_hasRiver.desc).map (fun d => d.parameters.length) = some 0 := by decide +kernel
set_option maxHeartbeats 4000000 in
set_option maxRecDepth 100000 in
theorem ch_X11_hasRiver (l : Launch) (D : va_G) (cy : Nat → ClassId) (h : Nat)  (s0 : HSt) (out : HSt × Int32) (hf : fh_X11_hasRiver h s0 = some out) : CHi l D cy yX11_hasRiver wsX11_hasRiver { frames := 0, cells := 0, slots := 0, locals := 0 } 0 0 False True [.ref h] s0 out := by
  refine Met.ofW (cc := cX11_hasRiver) (maxL := 1) (ret := (some .boolean)) (by decide) rfl ?_
  intro p e s m args below meth c s₁ B hml hv
  obtain ⟨rfl, hP, hK, hD0, hkx, hsz, hal⟩ := hv
  have hx := B.exec
  have hb := B.bytes
  have hr := B.returns
  have hts := atoms_spec (ws := wsX11_hasRiver) B.pre
  have hown : s.vm.findClass RX11 = some m.cls := findClass_of_methodNamed B.named
  have hlocks := B.notSynchronized
  have hI : HI D cy s s0 s0 s.heap [] 0 False True := ⟨hK, hP, hD0.weaken (fun k q hk _ => Or.inl (pl_mem hk)), va_S.rf, hsz.1, hkx, ⟨hsz, hal⟩, fun _ => rfl, Nat.le_refl _⟩
  have hin_X11 : ∀ w ∈ u_ws RX11 TX11 10, w ∈ wsX11_hasRiver := fun w hw => List.mem_cons_of_mem _ (List.mem_append_left _ (List.mem_append_left _ (List.mem_append_left _ (List.mem_append_right _ hw))))
  have hin_X4 : ∀ w ∈ u_ws RX4 TX4 9, w ∈ wsX11_hasRiver := fun w hw => List.mem_cons_of_mem _ (List.mem_append_right _ hw)
  have hin_X8 : ∀ w ∈ u_ws RX8 TX8 5, w ∈ wsX11_hasRiver := fun w hw => List.mem_cons_of_mem _ (List.mem_append_left _ (List.mem_append_left _ (List.mem_append_right _ hw)))
  have hin_X9 : ∀ w ∈ u_ws RX9 TX9 5, w ∈ wsX11_hasRiver := fun w hw => List.mem_cons_of_mem _ (List.mem_append_left _ (List.mem_append_right _ hw))
  have kl_22 : Cond.fieldLink RX11 22 "HalfBridge" "site" "LHalfBridge$Site;" ∈ wsX11_hasRiver := by decide +kernel
  have kl_82 : Cond.fieldLink RX11 82 "HalfBridge$River" "wide" "I" ∈ wsX11_hasRiver := by decide +kernel
  have kl_93 : Cond.fieldLink RX11 93 "HalfBridge$Site" "span" "LHalfBridge$Span;" ∈ wsX11_hasRiver := by decide +kernel
  have kl_140 : Cond.fieldLink RX11 140 "HalfBridge$Span" "river" "LHalfBridge$River;" ∈ wsX11_hasRiver := by decide +kernel
  have hl := lv_entry ([.ref h]) (n := 1) (Nat.le_of_ble_eq_true rfl)
  rw [lg_entry_eq]
  generalize (lg_sl ([.ref h]) ++ List.replicate (1 - (lg_sl ([.ref h])).length) Slot.unset).toArray = ls at hl ⊢
  have hl : lv_has ls 1 [(0, .ref h)] := hl
  obtain ⟨K0, hK0, hf⟩ := top_e hf
  unfold fh_X11_hasRiver at hf
  refine lv_aload_n hx hb dX11_hasRiver_0 rfl (lv_at hl 0 rfl) ?_
  obtain ⟨k1, hf⟩ := chk_b hf
  refine hg_11_4 hx hb hts hin_X11 hown kl_22 hI (isk_k k1) dX11_hasRiver_1 ?_
  obtain ⟨b2, hd3, hf⟩ := bnd_b hf
  obtain ⟨hq4, hk5⟩ := dr_e hd3
  refine W.eq (g2 := F0 m 4 ls [.ref b2]) (by rw [hq4]; rfl) ?_
  refine hg_8_0 hx hb hts hin_X8 hown kl_93 hI hk5 dX11_hasRiver_4 ?_
  obtain ⟨b6, hd7, hf⟩ := bnd_b hf
  obtain ⟨hq8, hk9⟩ := dr_e hd7
  refine W.eq (g2 := F0 m 7 ls [.ref b6]) (by rw [hq8]; rfl) ?_
  refine hg_9_0 hx hb hts hin_X9 hown kl_140 hI hk9 dX11_hasRiver_7 ?_
  obtain ⟨b10, hd11, hf⟩ := bnd_b hf
  obtain ⟨hq12, hk13⟩ := dr_e hd11
  refine W.eq (g2 := F0 m 10 ls [.ref b10]) (by rw [hq12]; rfl) ?_
  refine hg_4_0 hx hb hts hin_X4 hown kl_82 hI hk13 dX11_hasRiver_10 ?_
  refine lv_if_le (tgt := 20) hx hb dX11_hasRiver_13 (by decide) (fun c14 => ?_) (fun c14 => ?_)
  · replace hf := ifp c14 hf
    refine lv_iconst (v := 0) hx hb dX11_hasRiver_20 (by decide) ?_
    exact hret_z hx hb hr (by decide) hlocks hI (by decide) (by decide) (fun _ => ⟨trivial, rfl⟩) (ret_e hK0 hf) dX11_hasRiver_21
  · replace hf := ifn c14 hf
    refine lv_iconst (v := 1) hx hb dX11_hasRiver_16 (by decide) ?_
    refine lv_goto (tgt := 21) hx hb dX11_hasRiver_17 (by decide) ?_
    exact hret_z hx hb hr (by decide) hlocks hI (by decide) (by decide) (fun _ => ⟨trivial, rfl⟩) (ret_e hK0 hf) dX11_hasRiver_21

theorem nd_X11_isRule : yX11_isRule.cls ≠ "java/lang/invoke/MethodHandle" ∧ yX11_isRule.cls ≠ "java/lang/invoke/VarHandle" ∧ (parseMethodDescriptor yX11_isRule.desc).map (fun d => d.parameters.length) = some 1 := by decide +kernel
set_option maxHeartbeats 4000000 in
set_option maxRecDepth 100000 in
theorem ch_X11_isRule (l : Launch) (D : va_G) (cy : Nat → ClassId) (h : Nat) (a1 : Int32) (s0 : HSt) (out : HSt × Int32) (hf : fh_X11_isRule h a1 s0 = some out) : CHi l D cy yX11_isRule wsX11_isRule { frames := 0, cells := 0, slots := 0, locals := 0 } 0 0 False True [.ref h, .int a1] s0 out := by
  refine Met.ofW (cc := cX11_isRule) (maxL := 2) (ret := (some .boolean)) (by decide) rfl ?_
  intro p e s m args below meth c s₁ B hml hv
  obtain ⟨rfl, hP, hK, hD0, hkx, hsz, hal⟩ := hv
  have hx := B.exec
  have hb := B.bytes
  have hr := B.returns
  have hts := atoms_spec (ws := wsX11_isRule) B.pre
  have hown : s.vm.findClass RX11 = some m.cls := findClass_of_methodNamed B.named
  have hlocks := B.notSynchronized
  have hI : HI D cy s s0 s0 s.heap [] 0 False True := ⟨hK, hP, hD0.weaken (fun k q hk _ => Or.inl (pl_mem hk)), va_S.rf, hsz.1, hkx, ⟨hsz, hal⟩, fun _ => rfl, Nat.le_refl _⟩
  have hin_X11 : ∀ w ∈ u_ws RX11 TX11 10, w ∈ wsX11_isRule := fun w hw => List.mem_cons_of_mem _ (List.mem_append_right _ hw)
  have kl_87 : Cond.fieldLink RX11 87 "HalfBridge" "ruleCount" "I" ∈ wsX11_isRule := by decide +kernel
  have hl := lv_entry ([.ref h, .int a1]) (n := 2) (Nat.le_of_ble_eq_true rfl)
  rw [lg_entry_eq]
  generalize (lg_sl ([.ref h, .int a1]) ++ List.replicate (2 - (lg_sl ([.ref h, .int a1])).length) Slot.unset).toArray = ls at hl ⊢
  have hl : lv_has ls 2 [(0, .ref h), (1, .int a1)] := hl
  obtain ⟨K0, hK0, hf⟩ := top_e hf
  unfold fh_X11_isRule at hf
  refine lv_iload_n hx hb dX11_isRule_0 rfl (lv_at hl 1 rfl) ?_
  refine lv_iconst (v := -1) hx hb dX11_isRule_1 (by decide) ?_
  refine lv_icmp_lt (tgt := 17) hx hb dX11_isRule_2 (by decide) (fun c1 => ?_) (fun c1 => ?_)
  · replace hf := ifp c1 hf
    refine lv_iconst (v := 0) hx hb dX11_isRule_17 (by decide) ?_
    exact hret_z hx hb hr (by decide) hlocks hI (by decide) (by decide) (fun _ => ⟨trivial, rfl⟩) (ret_e hK0 hf) dX11_isRule_18
  · replace hf := ifn c1 hf
    refine lv_iload_n hx hb dX11_isRule_5 rfl (lv_at hl 1 rfl) ?_
    refine lv_aload_n hx hb dX11_isRule_6 rfl (lv_at hl 0 rfl) ?_
    obtain ⟨k2, hf⟩ := chk_b hf
    refine hg_11_3 hx hb hts hin_X11 hown kl_87 hI (isk_k k2) dX11_isRule_7 ?_
    refine lv_icmp_ge (tgt := 17) hx hb dX11_isRule_10 (by decide) (fun c3 => ?_) (fun c3 => ?_)
    · replace hf := ifp c3 hf
      refine lv_iconst (v := 0) hx hb dX11_isRule_17 (by decide) ?_
      exact hret_z hx hb hr (by decide) hlocks hI (by decide) (by decide) (fun _ => ⟨trivial, rfl⟩) (ret_e hK0 hf) dX11_isRule_18
    · replace hf := ifn c3 hf
      refine lv_iconst (v := 1) hx hb dX11_isRule_13 (by decide) ?_
      refine lv_goto (tgt := 18) hx hb dX11_isRule_14 (by decide) ?_
      exact hret_z hx hb hr (by decide) hlocks hI (by decide) (by decide) (fun _ => ⟨trivial, rfl⟩) (ret_e hK0 hf) dX11_isRule_18

theorem nd_X11_areRulesAtRiver : yX11_areRulesAtRiver.cls ≠ "java/lang/invoke/MethodHandle" ∧ yX11_areRulesAtRiver.cls ≠ "java/lang/invoke/VarHandle" ∧ (parseMethodDescriptor yX11_areRulesAtRiver.desc).map (fun d => d.parameters.length) = some 2 := by decide +kernel
set_option maxHeartbeats 4000000 in
set_option maxRecDepth 100000 in
theorem ch_X11_areRulesAtRiver (l : Launch) (D : va_G) (cy : Nat → ClassId) (h : Nat) (a1 : Int32) (a2 : Int32) (s0 : HSt) (out : HSt × Int32) (hf : fh_X11_areRulesAtRiver h a1 a2 s0 = some out) : CHi l D cy yX11_areRulesAtRiver wsX11_areRulesAtRiver { frames := 1, cells := 0, slots := 0, locals := 21 } 0 0 False True [.ref h, .int a1, .int a2] s0 out := by
  refine Met.ofW (cc := cX11_areRulesAtRiver) (maxL := 3) (ret := (some .boolean)) (by decide) rfl ?_
  intro p e s m args below meth c s₁ B hml hv
  obtain ⟨rfl, hP, hK, hD0, hkx, hsz, hal⟩ := hv
  have hx := B.exec
  have hb := B.bytes
  have hr := B.returns
  have hts := atoms_spec (ws := wsX11_areRulesAtRiver) B.pre
  have hown : s.vm.findClass RX11 = some m.cls := findClass_of_methodNamed B.named
  have hlocks := B.notSynchronized
  have hI : HI D cy s s0 s0 s.heap [] 0 False True := ⟨hK, hP, hD0.weaken (fun k q hk _ => Or.inl (pl_mem hk)), va_S.rf, hsz.1, hkx, ⟨hsz, hal⟩, fun _ => rfl, Nat.le_refl _⟩
  have hl := lv_entry ([.ref h, .int a1, .int a2]) (n := 3) (Nat.le_of_ble_eq_true rfl)
  rw [lg_entry_eq]
  generalize (lg_sl ([.ref h, .int a1, .int a2]) ++ List.replicate (3 - (lg_sl ([.ref h, .int a1, .int a2])).length) Slot.unset).toArray = ls at hl ⊢
  have hl : lv_has ls 3 [(0, .ref h), (1, .int a1), (2, .int a2)] := hl
  obtain ⟨K0, hK0, hf⟩ := top_e hf
  unfold fh_X11_areRulesAtRiver at hf
  refine lv_aload_n hx hb dX11_areRulesAtRiver_0 rfl (lv_at hl 0 rfl) ?_
  obtain ⟨k1, hf⟩ := chk_b hf
  obtain ⟨x2, hc3, hf⟩ := bnd_b hf
  refine hcall_Vi (ex2 := True) (As := []) (rest := []) (n := 0) (by rw [(isk_k k1)]; decide) (hC_12 (isk_k k1)) rfl ⟨hx, hb, hml, hown, hts⟩ (ch_X11_hasRiver l D cy h s0 x2 hc3) (cwV 0 hts gX11_areRulesAtRiver_X11_hasRiver rfl rfl rfl ⟨rfl, nd_X11_hasRiver⟩ ⟨Nat.le_of_ble_eq_true rfl, Nat.le_of_ble_eq_true rfl⟩) hI (fun h => h.elim) (fun _ => ⟨trivial, trivial⟩) rfl hl.1 (Nat.le_of_ble_eq_true rfl) dX11_areRulesAtRiver_1 ⟨Nat.le_of_ble_eq_true rfl, Nat.le_of_ble_eq_true rfl⟩ (fun H locs hI => ?_)
  refine lv_if_eq (tgt := 27) hx hb dX11_areRulesAtRiver_4 (by decide) (fun c4 => ?_) (fun c4 => ?_)
  · replace hf := ifp c4 hf
    refine lv_iconst (v := 0) hx hb dX11_areRulesAtRiver_27 (by decide) ?_
    exact hret_z hx hb hr (by decide) hlocks hI (by decide) (by decide) (fun _ => ⟨trivial, rfl⟩) (ret_e hK0 hf) dX11_areRulesAtRiver_28
  · replace hf := ifn c4 hf
    refine lv_aload_n hx hb dX11_areRulesAtRiver_7 rfl (lv_at hl 0 rfl) ?_
    refine lv_iload_n hx hb dX11_areRulesAtRiver_8 rfl (lv_at hl 1 rfl) ?_
    obtain ⟨k5, hf⟩ := chk_b hf
    obtain ⟨x6, hc7, hf⟩ := bnd_b hf
    refine hcall_Vi (ex2 := True) (As := [.int a1]) (rest := []) (n := 1) (by rw [(isk_k k5)]; decide) (hC_12 (isk_k k5)) rfl ⟨hx, hb, hml, hown, hts⟩ (ch_X11_isRule l D cy h a1 x2.1 x6 hc7) (cwV 1 hts gX11_areRulesAtRiver_X11_isRule rfl rfl rfl ⟨rfl, nd_X11_isRule⟩ ⟨Nat.le_of_ble_eq_true rfl, Nat.le_of_ble_eq_true rfl⟩) hI (fun h => h.elim) (fun _ => ⟨trivial, trivial⟩) rfl hl.1 (Nat.le_of_ble_eq_true rfl) dX11_areRulesAtRiver_9 ⟨Nat.le_of_ble_eq_true rfl, Nat.le_of_ble_eq_true rfl⟩ (fun H locs hI => ?_)
    refine lv_if_eq (tgt := 27) hx hb dX11_areRulesAtRiver_12 (by decide) (fun c8 => ?_) (fun c8 => ?_)
    · replace hf := ifp c8 hf
      refine lv_iconst (v := 0) hx hb dX11_areRulesAtRiver_27 (by decide) ?_
      exact hret_z hx hb hr (by decide) hlocks hI (by decide) (by decide) (fun _ => ⟨trivial, rfl⟩) (ret_e hK0 hf) dX11_areRulesAtRiver_28
    · replace hf := ifn c8 hf
      refine lv_aload_n hx hb dX11_areRulesAtRiver_15 rfl (lv_at hl 0 rfl) ?_
      refine lv_iload_n hx hb dX11_areRulesAtRiver_16 rfl (lv_at hl 2 rfl) ?_
      obtain ⟨k9, hf⟩ := chk_b hf
      obtain ⟨x10, hc11, hf⟩ := bnd_b hf
      refine hcall_Vi (ex2 := True) (As := [.int a2]) (rest := []) (n := 1) (by rw [(isk_k k9)]; decide) (hC_12 (isk_k k9)) rfl ⟨hx, hb, hml, hown, hts⟩ (ch_X11_isRule l D cy h a2 x6.1 x10 hc11) (cwV 1 hts gX11_areRulesAtRiver_X11_isRule rfl rfl rfl ⟨rfl, nd_X11_isRule⟩ ⟨Nat.le_of_ble_eq_true rfl, Nat.le_of_ble_eq_true rfl⟩) hI (fun h => h.elim) (fun _ => ⟨trivial, trivial⟩) rfl hl.1 (Nat.le_of_ble_eq_true rfl) dX11_areRulesAtRiver_17 ⟨Nat.le_of_ble_eq_true rfl, Nat.le_of_ble_eq_true rfl⟩ (fun H locs hI => ?_)
      refine lv_if_eq (tgt := 27) hx hb dX11_areRulesAtRiver_20 (by decide) (fun c12 => ?_) (fun c12 => ?_)
      · replace hf := ifp c12 hf
        refine lv_iconst (v := 0) hx hb dX11_areRulesAtRiver_27 (by decide) ?_
        exact hret_z hx hb hr (by decide) hlocks hI (by decide) (by decide) (fun _ => ⟨trivial, rfl⟩) (ret_e hK0 hf) dX11_areRulesAtRiver_28
      · replace hf := ifn c12 hf
        refine lv_iconst (v := 1) hx hb dX11_areRulesAtRiver_23 (by decide) ?_
        refine lv_goto (tgt := 28) hx hb dX11_areRulesAtRiver_24 (by decide) ?_
        exact hret_z hx hb hr (by decide) hlocks hI (by decide) (by decide) (fun _ => ⟨trivial, rfl⟩) (ret_e hK0 hf) dX11_areRulesAtRiver_28

theorem nd_X11_isWithin : yX11_isWithin.cls ≠ "java/lang/invoke/MethodHandle" ∧ yX11_isWithin.cls ≠ "java/lang/invoke/VarHandle" ∧ (parseMethodDescriptor yX11_isWithin.desc).map (fun d => d.parameters.length) = some 3 := by decide +kernel
set_option maxHeartbeats 4000000 in
set_option maxRecDepth 100000 in
theorem ch_X11_isWithin (l : Launch) (D : va_G) (cy : Nat → ClassId) (a0 : Int32) (a1 : Int32) (a2 : Int32) (s0 : HSt) (out : HSt × Int32) (hf : fh_X11_isWithin a0 a1 a2 s0 = some out) : CHi l D cy yX11_isWithin wsX11_isWithin { frames := 0, cells := 0, slots := 0, locals := 0 } 0 0 False True [.int a0, .int a1, .int a2] s0 out := by
  refine Met.ofW (cc := cX11_isWithin) (maxL := 3) (ret := (some .boolean)) (by decide) rfl ?_
  intro p e s m args below meth c s₁ B hml hv
  obtain ⟨rfl, hP, hK, hD0, hkx, hsz, hal⟩ := hv
  have hx := B.exec
  have hb := B.bytes
  have hr := B.returns
  have hts := atoms_spec (ws := wsX11_isWithin) B.pre
  have hown : s.vm.findClass RX11 = some m.cls := findClass_of_methodNamed B.named
  have hlocks := B.notSynchronized
  have hI : HI D cy s s0 s0 s.heap [] 0 False True := ⟨hK, hP, hD0.weaken (fun k q hk _ => Or.inl (pl_mem hk)), va_S.rf, hsz.1, hkx, ⟨hsz, hal⟩, fun _ => rfl, Nat.le_refl _⟩
  have hl := lv_entry ([.int a0, .int a1, .int a2]) (n := 3) (Nat.le_of_ble_eq_true rfl)
  rw [lg_entry_eq]
  generalize (lg_sl ([.int a0, .int a1, .int a2]) ++ List.replicate (3 - (lg_sl ([.int a0, .int a1, .int a2])).length) Slot.unset).toArray = ls at hl ⊢
  have hl : lv_has ls 3 [(0, .int a0), (1, .int a1), (2, .int a2)] := hl
  obtain ⟨K0, hK0, hf⟩ := top_e hf
  unfold fh_X11_isWithin at hf
  refine lv_iload_n hx hb dX11_isWithin_0 rfl (lv_at hl 0 rfl) ?_
  refine lv_iload_n hx hb dX11_isWithin_1 rfl (lv_at hl 1 rfl) ?_
  refine lv_icmp_lt (tgt := 14) hx hb dX11_isWithin_2 (by decide) (fun c1 => ?_) (fun c1 => ?_)
  · replace hf := ifp c1 hf
    refine lv_iconst (v := 0) hx hb dX11_isWithin_14 (by decide) ?_
    exact hret_z hx hb hr (by decide) hlocks hI (by decide) (by decide) (fun _ => ⟨trivial, rfl⟩) (ret_e hK0 hf) dX11_isWithin_15
  · replace hf := ifn c1 hf
    refine lv_iload_n hx hb dX11_isWithin_5 rfl (lv_at hl 0 rfl) ?_
    refine lv_iload_n hx hb dX11_isWithin_6 rfl (lv_at hl 2 rfl) ?_
    refine lv_icmp_gt (tgt := 14) hx hb dX11_isWithin_7 (by decide) (fun c2 => ?_) (fun c2 => ?_)
    · replace hf := ifp c2 hf
      refine lv_iconst (v := 0) hx hb dX11_isWithin_14 (by decide) ?_
      exact hret_z hx hb hr (by decide) hlocks hI (by decide) (by decide) (fun _ => ⟨trivial, rfl⟩) (ret_e hK0 hf) dX11_isWithin_15
    · replace hf := ifn c2 hf
      refine lv_iconst (v := 1) hx hb dX11_isWithin_10 (by decide) ?_
      refine lv_goto (tgt := 15) hx hb dX11_isWithin_11 (by decide) ?_
      exact hret_z hx hb hr (by decide) hlocks hI (by decide) (by decide) (fun _ => ⟨trivial, rfl⟩) (ret_e hK0 hf) dX11_isWithin_15

theorem nd_X11_ruleOf : yX11_ruleOf.cls ≠ "java/lang/invoke/MethodHandle" ∧ yX11_ruleOf.cls ≠ "java/lang/invoke/VarHandle" ∧ (parseMethodDescriptor yX11_ruleOf.desc).map (fun d => d.parameters.length) = some 1 := by decide +kernel
set_option maxHeartbeats 4000000 in
set_option maxRecDepth 100000 in
theorem ch_X11_ruleOf (l : Launch) (D : va_G) (cy : Nat → ClassId) (h : Nat) (a1 : Int32) (s0 : HSt) (out : HSt × Option Nat) (hf : fh_X11_ruleOf h a1 s0 = some out) : CHq l D cy yX11_ruleOf wsX11_ruleOf { frames := 0, cells := 0, slots := 0, locals := 0 } 0 0 False True [.ref h, .int a1] s0 out := by
  refine Met.ofW (cc := cX11_ruleOf) (maxL := 2) (ret := (some (.object "HalfBridge$Rule"))) (by decide) rfl ?_
  intro p e s m args below meth c s₁ B hml hv
  obtain ⟨rfl, hP, hK, hD0, hkx, hsz, hal⟩ := hv
  have hx := B.exec
  have hb := B.bytes
  have hr := B.returns
  have hts := atoms_spec (ws := wsX11_ruleOf) B.pre
  have hown : s.vm.findClass RX11 = some m.cls := findClass_of_methodNamed B.named
  have hlocks := B.notSynchronized
  have hI : HI D cy s s0 s0 s.heap [] 0 False True := ⟨hK, hP, hD0.weaken (fun k q hk _ => Or.inl (pl_mem hk)), va_S.rf, hsz.1, hkx, ⟨hsz, hal⟩, fun _ => rfl, Nat.le_refl _⟩
  have hin_X11 : ∀ w ∈ u_ws RX11 TX11 10, w ∈ wsX11_ruleOf := fun w hw => List.mem_cons_of_mem _ (List.mem_append_right _ hw)
  have kl_15 : Cond.fieldLink RX11 15 "HalfBridge" "rules" "[LHalfBridge$Rule;" ∈ wsX11_ruleOf := by decide +kernel
  have kl_87 : Cond.fieldLink RX11 87 "HalfBridge" "ruleCount" "I" ∈ wsX11_ruleOf := by decide +kernel
  have hl := lv_entry ([.ref h, .int a1]) (n := 2) (Nat.le_of_ble_eq_true rfl)
  rw [lg_entry_eq]
  generalize (lg_sl ([.ref h, .int a1]) ++ List.replicate (2 - (lg_sl ([.ref h, .int a1])).length) Slot.unset).toArray = ls at hl ⊢
  have hl : lv_has ls 2 [(0, .ref h), (1, .int a1)] := hl
  obtain ⟨K0, hK0, hf⟩ := top_e hf
  unfold fh_X11_ruleOf at hf
  refine lv_iload_n hx hb dX11_ruleOf_0 rfl (lv_at hl 1 rfl) ?_
  refine lv_if_lt (tgt := 21) hx hb dX11_ruleOf_1 (by decide) (fun c1 => ?_) (fun c1 => ?_)
  · replace hf := ifp c1 hf
    refine lv_null hx hb dX11_ruleOf_21 ?_
    exact hret_q hx hb hr (by first | exact Or.inl ⟨_, rfl⟩ | exact Or.inr ⟨_, rfl⟩) hlocks hI (by decide) (by decide) (fun _ => ⟨trivial, rfl⟩) (ret_e hK0 hf) dX11_ruleOf_22
  · replace hf := ifn c1 hf
    refine lv_iload_n hx hb dX11_ruleOf_4 rfl (lv_at hl 1 rfl) ?_
    refine lv_aload_n hx hb dX11_ruleOf_5 rfl (lv_at hl 0 rfl) ?_
    obtain ⟨k2, hf⟩ := chk_b hf
    refine hg_11_3 hx hb hts hin_X11 hown kl_87 hI (isk_k k2) dX11_ruleOf_6 ?_
    refine lv_icmp_ge (tgt := 21) hx hb dX11_ruleOf_9 (by decide) (fun c3 => ?_) (fun c3 => ?_)
    · replace hf := ifp c3 hf
      refine lv_null hx hb dX11_ruleOf_21 ?_
      exact hret_q hx hb hr (by first | exact Or.inl ⟨_, rfl⟩ | exact Or.inr ⟨_, rfl⟩) hlocks hI (by decide) (by decide) (fun _ => ⟨trivial, rfl⟩) (ret_e hK0 hf) dX11_ruleOf_22
    · replace hf := ifn c3 hf
      refine lv_aload_n hx hb dX11_ruleOf_12 rfl (lv_at hl 0 rfl) ?_
      refine hg_11_2 hx hb hts hin_X11 hown kl_15 hI (isk_k k2) dX11_ruleOf_13 ?_
      refine lv_iload_n hx hb dX11_ruleOf_16 rfl (lv_at hl 1 rfl) ?_
      obtain ⟨b4, hd5, hf⟩ := bnd_b hf
      obtain ⟨hq6, hk7⟩ := dr_e hd5
      refine W.eq (g2 := F0 m 17 ls [.int a1, .ref b4]) (by rw [hq6]; rfl) ?_
      obtain ⟨k8, hf⟩ := chk_b hf
      refine hl_Rule hx hb hI hk7 k8 dX11_ruleOf_17 ?_
      refine lv_goto (tgt := 22) hx hb dX11_ruleOf_18 (by decide) ?_
      exact hret_q hx hb hr (by first | exact Or.inl ⟨_, rfl⟩ | exact Or.inr ⟨_, rfl⟩) hlocks hI (by decide) (by decide) (fun _ => ⟨trivial, rfl⟩) (ret_e hK0 hf) dX11_ruleOf_22

theorem nd_X11_ahead : yX11_ahead.cls ≠ "java/lang/invoke/MethodHandle" ∧ yX11_ahead.cls ≠ "java/lang/invoke/VarHandle" ∧ (parseMethodDescriptor yX11_ahead.desc).map (fun d => d.parameters.length) = some 4 := by decide +kernel
set_option maxHeartbeats 4000000 in
set_option maxRecDepth 100000 in
theorem ch_X11_ahead (l : Launch) (D : va_G) (cy : Nat → ClassId) (h : Nat) (a1 : Int32) (a2 : Int32) (a3 : Int32) (a4 : Int32) (s0 : HSt) (out : HSt × Int32) (hf : fh_X11_ahead h a1 a2 a3 a4 s0 = some out) : CHi l D cy yX11_ahead wsX11_ahead { frames := 7, cells := 0, slots := 0, locals := 195 } 0 0 False True [.ref h, .int a1, .int a2, .int a3, .int a4] s0 out := by
  refine Met.ofW (cc := cX11_ahead) (maxL := 6) (ret := (some .int)) (by decide) rfl ?_
  intro p e s m args below meth c s₁ B hml hv
  obtain ⟨rfl, hP, hK, hD0, hkx, hsz, hal⟩ := hv
  have hx := B.exec
  have hb := B.bytes
  have hr := B.returns
  have hts := atoms_spec (ws := wsX11_ahead) B.pre
  have hown : s.vm.findClass RX11 = some m.cls := findClass_of_methodNamed B.named
  have hlocks := B.notSynchronized
  have hI : HI D cy s s0 s0 s.heap [] 0 False True := ⟨hK, hP, hD0.weaken (fun k q hk _ => Or.inl (pl_mem hk)), va_S.rf, hsz.1, hkx, ⟨hsz, hal⟩, fun _ => rfl, Nat.le_refl _⟩
  have hin_X11 : ∀ w ∈ u_ws RX11 TX11 10, w ∈ wsX11_ahead := fun w hw => List.mem_cons_of_mem _ (List.mem_append_left _ (List.mem_append_left _ (List.mem_append_left _ (List.mem_append_left _ (List.mem_append_left _ (List.mem_append_left _ (List.mem_append_right _ hw)))))))
  have hin_X9 : ∀ w ∈ u_ws RX9 TX9 5, w ∈ wsX11_ahead := fun w hw => List.mem_cons_of_mem _ (List.mem_append_left _ (List.mem_append_left _ (List.mem_append_left _ (List.mem_append_left _ (List.mem_append_left _ (List.mem_append_right _ hw))))))
  have kl_22 : Cond.fieldLink RX11 22 "HalfBridge" "site" "LHalfBridge$Site;" ∈ wsX11_ahead := by decide +kernel
  have kl_56 : Cond.fieldLink RX11 56 "HalfBridge" "foresight" "LHalfBridge$Foresight;" ∈ wsX11_ahead := by decide +kernel
  have kl_119 : Cond.fieldLink RX11 119 "HalfBridge$Span" "day" "I" ∈ wsX11_ahead := by decide +kernel
  have hl := lv_entry ([.ref h, .int a1, .int a2, .int a3, .int a4]) (n := 6) (Nat.le_of_ble_eq_true rfl)
  rw [lg_entry_eq]
  generalize (lg_sl ([.ref h, .int a1, .int a2, .int a3, .int a4]) ++ List.replicate (6 - (lg_sl ([.ref h, .int a1, .int a2, .int a3, .int a4])).length) Slot.unset).toArray = ls at hl ⊢
  have hl : lv_has ls 6 [(0, .ref h), (1, .int a1), (2, .int a2), (3, .int a3), (4, .int a4)] := hl
  obtain ⟨K0, hK0, hf⟩ := top_e hf
  unfold fh_X11_ahead at hf
  refine lv_aload_n hx hb dX11_ahead_0 rfl (lv_at hl 0 rfl) ?_
  refine lv_iload_n hx hb dX11_ahead_1 rfl (lv_at hl 1 rfl) ?_
  refine lv_iload_n hx hb dX11_ahead_2 rfl (lv_at hl 2 rfl) ?_
  obtain ⟨k1, hf⟩ := chk_b hf
  obtain ⟨x2, hc3, hf⟩ := bnd_b hf
  refine hcall_Vi (ex2 := True) (As := [.int a1, .int a2]) (rest := []) (n := 2) (by rw [(isk_k k1)]; decide) (hC_12 (isk_k k1)) rfl ⟨hx, hb, hml, hown, hts⟩ (ch_X11_areRulesAtRiver l D cy h a1 a2 s0 x2 hc3) (cwV 2 hts gX11_ahead_X11_areRulesAtRiver rfl rfl rfl ⟨rfl, nd_X11_areRulesAtRiver⟩ ⟨Nat.le_of_ble_eq_true rfl, Nat.le_of_ble_eq_true rfl⟩) hI (fun h => h.elim) (fun _ => ⟨trivial, trivial⟩) rfl hl.1 (Nat.le_of_ble_eq_true rfl) dX11_ahead_3 ⟨Nat.le_of_ble_eq_true rfl, Nat.le_of_ble_eq_true rfl⟩ (fun H locs hI => ?_)
  refine lv_if_eq (tgt := 30) hx hb dX11_ahead_6 (by decide) (fun c4 => ?_) (fun c4 => ?_)
  · replace hf := ifp c4 hf
    refine lv_iconst (v := -1) hx hb dX11_ahead_30 (by decide) ?_
    exact hret_i hx hb hr hlocks hI (by decide) (by decide) (fun _ => ⟨trivial, rfl⟩) (ret_e hK0 hf) dX11_ahead_31
  · replace hf := ifn c4 hf
    refine lv_iload_n hx hb dX11_ahead_9 rfl (lv_at hl 3 rfl) ?_
    refine lv_iconst (v := 0) hx hb dX11_ahead_10 (by decide) ?_
    refine lv_sipush (v := 400) hx hb dX11_ahead_11 (by decide) ?_
    obtain ⟨x5, hc6, hf⟩ := bnd_b hf
    refine hcall_Si (ex2 := True) (As := [.int a3, .int (0 : Int32), .int (400 : Int32)]) (rest := []) (n := 3) ⟨hx, hb, hml, hown, hts⟩ (ch_X11_isWithin l D cy a3 (0 : Int32) (400 : Int32) x2.1 x5 hc6) (va_cwS 3 hts gX11_ahead_X11_isWithin rfl rfl rfl nd_X11_isWithin ⟨Nat.le_of_ble_eq_true rfl, Nat.le_of_ble_eq_true rfl⟩) hI (fun h => h.elim) (fun _ => ⟨trivial, trivial⟩) rfl hl.1 (Nat.le_of_ble_eq_true rfl) dX11_ahead_14 ⟨Nat.le_of_ble_eq_true rfl, Nat.le_of_ble_eq_true rfl⟩ (fun H locs hI => ?_)
    refine lv_if_eq (tgt := 30) hx hb dX11_ahead_17 (by decide) (fun c7 => ?_) (fun c7 => ?_)
    · replace hf := ifp c7 hf
      refine lv_iconst (v := -1) hx hb dX11_ahead_30 (by decide) ?_
      exact hret_i hx hb hr hlocks hI (by decide) (by decide) (fun _ => ⟨trivial, rfl⟩) (ret_e hK0 hf) dX11_ahead_31
    · replace hf := ifn c7 hf
      refine lv_iload hx hb dX11_ahead_20 (lv_at hl 4 rfl) ?_
      refine lv_iconst (v := 0) hx hb dX11_ahead_22 (by decide) ?_
      refine lv_iconst (v := 5) hx hb dX11_ahead_23 (by decide) ?_
      obtain ⟨x8, hc9, hf⟩ := bnd_b hf
      refine hcall_Si (ex2 := True) (As := [.int a4, .int (0 : Int32), .int (5 : Int32)]) (rest := []) (n := 3) ⟨hx, hb, hml, hown, hts⟩ (ch_X11_isWithin l D cy a4 (0 : Int32) (5 : Int32) x5.1 x8 hc9) (va_cwS 3 hts gX11_ahead_X11_isWithin rfl rfl rfl nd_X11_isWithin ⟨Nat.le_of_ble_eq_true rfl, Nat.le_of_ble_eq_true rfl⟩) hI (fun h => h.elim) (fun _ => ⟨trivial, trivial⟩) rfl hl.1 (Nat.le_of_ble_eq_true rfl) dX11_ahead_24 ⟨Nat.le_of_ble_eq_true rfl, Nat.le_of_ble_eq_true rfl⟩ (fun H locs hI => ?_)
      refine lv_if_ne (tgt := 32) hx hb dX11_ahead_27 (by decide) (fun c10 => ?_) (fun c10 => ?_)
      · replace hf := ifn c10 hf
        refine lv_aload_n hx hb dX11_ahead_32 rfl (lv_at hl 0 rfl) ?_
        obtain ⟨k11, hf⟩ := chk_b hf
        refine hg_11_9 hx hb hts hin_X11 hown kl_56 hI (isk_k k11) dX11_ahead_33 ?_
        refine lv_aload_n hx hb dX11_ahead_36 rfl (lv_at hl 0 rfl) ?_
        refine hg_11_4 hx hb hts hin_X11 hown kl_22 hI (isk_k k11) dX11_ahead_37 ?_
        refine lv_aload_n hx hb dX11_ahead_40 rfl (lv_at hl 0 rfl) ?_
        refine lv_iload_n hx hb dX11_ahead_41 rfl (lv_at hl 1 rfl) ?_
        obtain ⟨x12, hc13, hf⟩ := bnd_b hf
        refine hcall_Vq (ex2 := True) (As := [.int a1]) (rest := [va_rf (gR x8.1 1104 h), va_rf (gR x8.1 1109 h)]) (n := 1) (by rw [(isk_k k11)]; decide) (hC_12 (isk_k k11)) rfl ⟨hx, hb, hml, hown, hts⟩ (ch_X11_ruleOf l D cy h a1 x8.1 x12 hc13) (cwV 1 hts gX11_ahead_X11_ruleOf rfl rfl rfl ⟨rfl, nd_X11_ruleOf⟩ ⟨Nat.le_of_ble_eq_true rfl, Nat.le_of_ble_eq_true rfl⟩) hI (fun h => h.elim) (fun _ => ⟨trivial, trivial⟩) rfl hl.1 (by simp [cat_rf, cat_i, cat_l, cat_r]) dX11_ahead_42 ⟨Nat.le_of_ble_eq_true rfl, Nat.le_of_ble_eq_true rfl⟩ (fun H locs hI => ?_)
        refine lv_aload_n hx hb dX11_ahead_45 rfl (lv_at hl 0 rfl) ?_
        refine lv_iload_n hx hb dX11_ahead_46 rfl (lv_at hl 2 rfl) ?_
        obtain ⟨k14, hf⟩ := chk_b hf
        obtain ⟨x15, hc16, hf⟩ := bnd_b hf
        refine hcall_Vq (ex2 := True) (As := [.int a2]) (rest := [va_rf x12.2, va_rf (gR x8.1 1104 h), va_rf (gR x8.1 1109 h)]) (n := 1) (by rw [(isk_k k14)]; decide) (hC_12 (isk_k k14)) rfl ⟨hx, hb, hml, hown, hts⟩ (ch_X11_ruleOf l D cy h a2 x12.1 x15 hc16) (cwV 1 hts gX11_ahead_X11_ruleOf rfl rfl rfl ⟨rfl, nd_X11_ruleOf⟩ ⟨Nat.le_of_ble_eq_true rfl, Nat.le_of_ble_eq_true rfl⟩) hI (fun h => h.elim) (fun _ => ⟨trivial, trivial⟩) rfl hl.1 (by simp [cat_rf, cat_i, cat_l, cat_r]) dX11_ahead_47 ⟨Nat.le_of_ble_eq_true rfl, Nat.le_of_ble_eq_true rfl⟩ (fun H locs hI => ?_)
        refine lv_iload_n hx hb dX11_ahead_50 rfl (lv_at hl 3 rfl) ?_
        obtain ⟨b17, hd18, hf⟩ := bnd_b hf
        obtain ⟨hq19, hk20⟩ := dr_e hd18
        refine W.eq (g2 := F0 m 51 ls [.int a3, va_rf x15.2, va_rf x12.2, va_rf (gR x8.1 1104 h), .ref b17]) (by rw [hq19]; rfl) ?_
        obtain ⟨x21, hc22, hf⟩ := bnd_b hf
        refine hcall_Vq (ex2 := True) (As := [va_rf (gR x8.1 1104 h), va_rf x12.2, va_rf x15.2, .int a3]) (rest := []) (n := 4) (by rw [hk20]; decide) (hC_1 hk20) rfl ⟨hx, hb, hml, hown, hts⟩ (ch_X0_spanAfter l D cy b17 (gR x8.1 1104 h) x12.2 x15.2 a3 x15.1 x21 hc22) (cwV 4 hts gX11_ahead_X0_spanAfter rfl rfl rfl ⟨rfl, nd_X0_spanAfter⟩ ⟨Nat.le_of_ble_eq_true rfl, Nat.le_of_ble_eq_true rfl⟩) hI (fun h => h.elim) (fun _ => ⟨trivial, trivial⟩) rfl hl.1 (Nat.le_of_ble_eq_true rfl) dX11_ahead_51 ⟨Nat.le_of_ble_eq_true rfl, Nat.le_of_ble_eq_true rfl⟩ (fun H locs hI => ?_)
        refine hq_astore (lv' := [(5, va_rf x21.2), (0, .ref h), (1, .int a1), (2, .int a2), (3, .int a3), (4, .int a4)]) hx hb dX11_ahead_54 hl (by decide) (by first | rfl | (simp [cat_rf, cat_i, cat_l, cat_r]; done) | (simp [cat_rf, cat_i, cat_l, cat_r]; decide)) (fun ls hl => ?_)
        refine lv_iload hx hb dX11_ahead_56 (lv_at hl 5 rfl) ?_
        by_cases c23 : a4 = 0
        · replace hf := ifp c23 hf
          refine lv_tableIn (off := 34) (tgt := 92) hx hb dX11_ahead_58 (by rw [c23]; decide) (by rw [c23]; decide) (by rw [c23]; rfl) (by decide) ?_
          refine hq_aload hx hb dX11_ahead_92 (lv_at hl 0 rfl) ?_
          obtain ⟨b28, hd29, hf⟩ := bnd_b hf
          obtain ⟨hq30, hk31⟩ := dr_e hd29
          refine W.eq (g2 := F0 m 94 ls [.ref b28]) (by rw [hq30]; rfl) ?_
          obtain ⟨x32, hc33, hf⟩ := bnd_b hf
          refine hcall_Vi (ex2 := True) (As := []) (rest := []) (n := 0) (by rw [hk31]; decide) (hC_10 hk31) rfl ⟨hx, hb, hml, hown, hts⟩ (ch_X9_isMet l D cy b28 x21.1 x32 hc33) (cwV 0 hts gX11_ahead_X9_isMet rfl rfl rfl ⟨rfl, nd_X9_isMet⟩ ⟨Nat.le_of_ble_eq_true rfl, Nat.le_of_ble_eq_true rfl⟩) hI (fun h => h.elim) (fun _ => ⟨trivial, trivial⟩) rfl hl.1 (Nat.le_of_ble_eq_true rfl) dX11_ahead_94 ⟨Nat.le_of_ble_eq_true rfl, Nat.le_of_ble_eq_true rfl⟩ (fun H locs hI => ?_)
          refine lv_if_eq (tgt := 108) hx hb dX11_ahead_97 (by decide) (fun c34 => ?_) (fun c34 => ?_)
          · replace hf := ifp c34 hf
            refine lv_bipush (v := -2) hx hb dX11_ahead_108 (by decide) ?_
            exact hret_i hx hb hr hlocks hI (by decide) (by decide) (fun _ => ⟨trivial, rfl⟩) (ret_e hK0 hf) dX11_ahead_110
          · replace hf := ifn c34 hf
            refine hq_aload hx hb dX11_ahead_100 (lv_at hl 0 rfl) ?_
            refine W.eq (g2 := F0 m 102 ls [.ref b28]) (by rw [hq30]; rfl) ?_
            obtain ⟨k35, hf⟩ := chk_b hf
            refine hg_9_1 hx hb hts hin_X9 hown kl_119 hI (isk_k k35) dX11_ahead_102 ?_
            refine lv_goto (tgt := 110) hx hb dX11_ahead_105 (by decide) ?_
            exact hret_i hx hb hr hlocks hI (by decide) (by decide) (fun _ => ⟨trivial, rfl⟩) (ret_e hK0 hf) dX11_ahead_110
        replace hf := ifn c23 hf
        by_cases c24 : a4 = 1
        · replace hf := ifp c24 hf
          refine lv_tableIn (off := 53) (tgt := 111) hx hb dX11_ahead_58 (by rw [c24]; decide) (by rw [c24]; decide) (by rw [c24]; rfl) (by decide) ?_
          refine hq_aload hx hb dX11_ahead_111 (lv_at hl 0 rfl) ?_
          obtain ⟨b36, hd37, hf⟩ := bnd_b hf
          obtain ⟨hq38, hk39⟩ := dr_e hd37
          refine W.eq (g2 := F0 m 113 ls [.ref b36]) (by rw [hq38]; rfl) ?_
          obtain ⟨x40, hc41, hf⟩ := bnd_b hf
          refine hcall_Vi (ex2 := True) (As := []) (rest := []) (n := 0) (by rw [hk39]; decide) (hC_10 hk39) rfl ⟨hx, hb, hml, hown, hts⟩ (ch_X9_missOfLines l D cy b36 x21.1 x40 hc41) (cwV 0 hts gX11_ahead_X9_missOfLines rfl rfl rfl ⟨rfl, nd_X9_missOfLines⟩ ⟨Nat.le_of_ble_eq_true rfl, Nat.le_of_ble_eq_true rfl⟩) hI (fun h => h.elim) (fun _ => ⟨trivial, trivial⟩) rfl hl.1 (Nat.le_of_ble_eq_true rfl) dX11_ahead_113 ⟨Nat.le_of_ble_eq_true rfl, Nat.le_of_ble_eq_true rfl⟩ (fun H locs hI => ?_)
          exact hret_i hx hb hr hlocks hI (by decide) (by decide) (fun _ => ⟨trivial, rfl⟩) (ret_e hK0 hf) dX11_ahead_116
        replace hf := ifn c24 hf
        by_cases c25 : a4 = 2
        · replace hf := ifp c25 hf
          refine lv_tableIn (off := 59) (tgt := 117) hx hb dX11_ahead_58 (by rw [c25]; decide) (by rw [c25]; decide) (by rw [c25]; rfl) (by decide) ?_
          refine hq_aload hx hb dX11_ahead_117 (lv_at hl 0 rfl) ?_
          obtain ⟨b42, hd43, hf⟩ := bnd_b hf
          obtain ⟨hq44, hk45⟩ := dr_e hd43
          refine W.eq (g2 := F0 m 119 ls [.ref b42]) (by rw [hq44]; rfl) ?_
          obtain ⟨x46, hc47, hf⟩ := bnd_b hf
          refine hcall_Vi (ex2 := True) (As := []) (rest := []) (n := 0) (by rw [hk45]; decide) (hC_10 hk45) rfl ⟨hx, hb, hml, hown, hts⟩ (ch_X9_missOfHeights l D cy b42 x21.1 x46 hc47) (cwV 0 hts gX11_ahead_X9_missOfHeights rfl rfl rfl ⟨rfl, nd_X9_missOfHeights⟩ ⟨Nat.le_of_ble_eq_true rfl, Nat.le_of_ble_eq_true rfl⟩) hI (fun h => h.elim) (fun _ => ⟨trivial, trivial⟩) rfl hl.1 (Nat.le_of_ble_eq_true rfl) dX11_ahead_119 ⟨Nat.le_of_ble_eq_true rfl, Nat.le_of_ble_eq_true rfl⟩ (fun H locs hI => ?_)
          exact hret_i hx hb hr hlocks hI (by decide) (by decide) (fun _ => ⟨trivial, rfl⟩) (ret_e hK0 hf) dX11_ahead_122
        replace hf := ifn c25 hf
        by_cases c26 : a4 = 3
        · replace hf := ifp c26 hf
          refine lv_tableIn (off := 65) (tgt := 123) hx hb dX11_ahead_58 (by rw [c26]; decide) (by rw [c26]; decide) (by rw [c26]; rfl) (by decide) ?_
          refine hq_aload hx hb dX11_ahead_123 (lv_at hl 0 rfl) ?_
          refine lv_iconst (v := 0) hx hb dX11_ahead_125 (by decide) ?_
          obtain ⟨b48, hd49, hf⟩ := bnd_b hf
          obtain ⟨hq50, hk51⟩ := dr_e hd49
          refine W.eq (g2 := F0 m 126 ls [.int (0 : Int32), .ref b48]) (by rw [hq50]; rfl) ?_
          obtain ⟨x52, hc53, hf⟩ := bnd_b hf
          refine hcall_Vi (ex2 := True) (As := [.int (0 : Int32)]) (rest := []) (n := 1) (by rw [hk51]; decide) (hC_10 hk51) rfl ⟨hx, hb, hml, hown, hts⟩ (ch_X9_crookedness l D cy b48 (0 : Int32) x21.1 x52 hc53) (cwV 1 hts gX11_ahead_X9_crookedness rfl rfl rfl ⟨rfl, nd_X9_crookedness⟩ ⟨Nat.le_of_ble_eq_true rfl, Nat.le_of_ble_eq_true rfl⟩) hI (fun h => h.elim) (fun _ => ⟨trivial, trivial⟩) rfl hl.1 (Nat.le_of_ble_eq_true rfl) dX11_ahead_126 ⟨Nat.le_of_ble_eq_true rfl, Nat.le_of_ble_eq_true rfl⟩ (fun H locs hI => ?_)
          exact hret_i hx hb hr hlocks hI (by decide) (by decide) (fun _ => ⟨trivial, rfl⟩) (ret_e hK0 hf) dX11_ahead_129
        replace hf := ifn c26 hf
        by_cases c27 : a4 = 4
        · replace hf := ifp c27 hf
          refine lv_tableIn (off := 72) (tgt := 130) hx hb dX11_ahead_58 (by rw [c27]; decide) (by rw [c27]; decide) (by rw [c27]; rfl) (by decide) ?_
          refine hq_aload hx hb dX11_ahead_130 (lv_at hl 0 rfl) ?_
          refine lv_iconst (v := 1) hx hb dX11_ahead_132 (by decide) ?_
          obtain ⟨b54, hd55, hf⟩ := bnd_b hf
          obtain ⟨hq56, hk57⟩ := dr_e hd55
          refine W.eq (g2 := F0 m 133 ls [.int (1 : Int32), .ref b54]) (by rw [hq56]; rfl) ?_
          obtain ⟨x58, hc59, hf⟩ := bnd_b hf
          refine hcall_Vi (ex2 := True) (As := [.int (1 : Int32)]) (rest := []) (n := 1) (by rw [hk57]; decide) (hC_10 hk57) rfl ⟨hx, hb, hml, hown, hts⟩ (ch_X9_crookedness l D cy b54 (1 : Int32) x21.1 x58 hc59) (cwV 1 hts gX11_ahead_X9_crookedness rfl rfl rfl ⟨rfl, nd_X9_crookedness⟩ ⟨Nat.le_of_ble_eq_true rfl, Nat.le_of_ble_eq_true rfl⟩) hI (fun h => h.elim) (fun _ => ⟨trivial, trivial⟩) rfl hl.1 (Nat.le_of_ble_eq_true rfl) dX11_ahead_133 ⟨Nat.le_of_ble_eq_true rfl, Nat.le_of_ble_eq_true rfl⟩ (fun H locs hI => ?_)
          exact hret_i hx hb hr hlocks hI (by decide) (by decide) (fun _ => ⟨trivial, rfl⟩) (ret_e hK0 hf) dX11_ahead_136
        replace hf := ifn c27 hf
        refine lv_tableOut (tgt := 137) hx hb dX11_ahead_58 (tsw_out (fun k k1 k2 => ?_)) (by decide) ?_
        · rcases (show k = 0 ∨ k = 1 ∨ k = 2 ∨ k = 3 ∨ k = 4 by omega) with rfl | rfl | rfl | rfl | rfl
          · exact c23
          · exact c24
          · exact c25
          · exact c26
          · exact c27
        · refine hq_aload hx hb dX11_ahead_137 (lv_at hl 0 rfl) ?_
          obtain ⟨b60, hd61, hf⟩ := bnd_b hf
          obtain ⟨hq62, hk63⟩ := dr_e hd61
          refine W.eq (g2 := F0 m 139 ls [.ref b60]) (by rw [hq62]; rfl) ?_
          obtain ⟨x64, hc65, hf⟩ := bnd_b hf
          refine hcall_Vi (ex2 := True) (As := []) (rest := []) (n := 0) (by rw [hk63]; decide) (hC_10 hk63) rfl ⟨hx, hb, hml, hown, hts⟩ (ch_X9_isInTime l D cy b60 x21.1 x64 hc65) (cwV 0 hts gX11_ahead_X9_isInTime rfl rfl rfl ⟨rfl, nd_X9_isInTime⟩ ⟨Nat.le_of_ble_eq_true rfl, Nat.le_of_ble_eq_true rfl⟩) hI (fun h => h.elim) (fun _ => ⟨trivial, trivial⟩) rfl hl.1 (Nat.le_of_ble_eq_true rfl) dX11_ahead_139 ⟨Nat.le_of_ble_eq_true rfl, Nat.le_of_ble_eq_true rfl⟩ (fun H locs hI => ?_)
          refine lv_if_eq (tgt := 149) hx hb dX11_ahead_142 (by decide) (fun c66 => ?_) (fun c66 => ?_)
          · replace hf := ifp c66 hf
            refine lv_iconst (v := 0) hx hb dX11_ahead_149 (by decide) ?_
            exact hret_i hx hb hr hlocks hI (by decide) (by decide) (fun _ => ⟨trivial, rfl⟩) (ret_e hK0 hf) dX11_ahead_150
          · replace hf := ifn c66 hf
            refine lv_iconst (v := 1) hx hb dX11_ahead_145 (by decide) ?_
            refine lv_goto (tgt := 150) hx hb dX11_ahead_146 (by decide) ?_
            exact hret_i hx hb hr hlocks hI (by decide) (by decide) (fun _ => ⟨trivial, rfl⟩) (ret_e hK0 hf) dX11_ahead_150
      · replace hf := ifp c10 hf
        refine lv_iconst (v := -1) hx hb dX11_ahead_30 (by decide) ?_
        exact hret_i hx hb hr hlocks hI (by decide) (by decide) (fun _ => ⟨trivial, rfl⟩) (ret_e hK0 hf) dX11_ahead_31

theorem nd_X8_become : yX8_become.cls ≠ "java/lang/invoke/MethodHandle" ∧ yX8_become.cls ≠ "java/lang/invoke/VarHandle" ∧ (parseMethodDescriptor yX8_become.desc).map (fun d => d.parameters.length) = some 1 := by decide +kernel
set_option maxHeartbeats 4000000 in
set_option maxRecDepth 100000 in
theorem ch_X8_become (l : Launch) (D : va_G) (cy : Nat → ClassId) (h : Nat) (a1 : Option Nat) (s0 : HSt) (out : HSt) (hf : fh_X8_become h a1 s0 = some out) : CHv l D cy yX8_become wsX8_become { frames := 2, cells := 0, slots := 0, locals := 82 } 0 0 False True [.ref h, va_rf a1] s0 out := by
  refine Met.ofW (cc := cX8_become) (maxL := 2) (ret := none) (by decide) rfl ?_
  intro p e s m args below meth c s₁ B hml hv
  obtain ⟨rfl, hP, hK, hD0, hkx, hsz, hal⟩ := hv
  have hx := B.exec
  have hb := B.bytes
  have hr := B.returns
  have hts := atoms_spec (ws := wsX8_become) B.pre
  have hown : s.vm.findClass RX8 = some m.cls := findClass_of_methodNamed B.named
  have hlocks := B.notSynchronized
  have hI : HI D cy s s0 s0 s.heap [] 0 False True := ⟨hK, hP, hD0.weaken (fun k q hk _ => Or.inl (pl_mem hk)), va_S.rf, hsz.1, hkx, ⟨hsz, hal⟩, fun _ => rfl, Nat.le_refl _⟩
  have hin_X8 : ∀ w ∈ u_ws RX8 TX8 5, w ∈ wsX8_become := fun w hw => List.mem_cons_of_mem _ (List.mem_append_left _ (List.mem_append_right _ hw))
  have kl_10 : Cond.fieldLink RX8 10 "HalfBridge$Site" "span" "LHalfBridge$Span;" ∈ wsX8_become := by decide +kernel
  have kl_16 : Cond.fieldLink RX8 16 "HalfBridge$Site" "errors" "[I" ∈ wsX8_become := by decide +kernel
  have kl_20 : Cond.fieldLink RX8 20 "HalfBridge$Site" "ruins" "[I" ∈ wsX8_become := by decide +kernel
  have kl_34 : Cond.fieldLink RX8 34 "HalfBridge$Site" "x" "I" ∈ wsX8_become := by decide +kernel
  have kl_38 : Cond.fieldLink RX8 38 "HalfBridge$Site" "ruinsTold" "I" ∈ wsX8_become := by decide +kernel
  have hl := lv_entry ([.ref h, va_rf a1]) (n := 2) (by simp [lg_sl, cat_rf, cat_i, cat_l, cat_r])
  rw [lg_entry_eq]
  generalize (lg_sl ([.ref h, va_rf a1]) ++ List.replicate (2 - (lg_sl ([.ref h, va_rf a1])).length) Slot.unset).toArray = ls at hl ⊢
  have hl : lv_has ls 2 [(0, .ref h), (1, va_rf a1)] := (by simpa [lv_args, cat_rf, cat_i, cat_l, cat_r] using hl)
  obtain ⟨K0, hK0, hf⟩ := top_e hf
  unfold fh_X8_become at hf
  refine lv_aload_n hx hb dX8_become_0 rfl (lv_at hl 0 rfl) ?_
  obtain ⟨k1, hf⟩ := chk_b hf
  refine hg_8_0 hx hb hts hin_X8 hown kl_10 hI (isk_k k1) dX8_become_1 ?_
  refine hq_aload_n hx hb dX8_become_4 rfl (lv_at hl 1 rfl) ?_
  obtain ⟨b2, hd3, hf⟩ := bnd_b hf
  obtain ⟨hq4, hk5⟩ := dr_e hd3
  refine W.eq (g2 := F0 m 5 ls [.ref b2, va_rf (gR s0 800 h)]) (by rw [hq4]; rfl) ?_
  refine hg_8_0 hx hb hts hin_X8 hown kl_10 hI hk5 dX8_become_5 ?_
  obtain ⟨b6, hd7, hf⟩ := bnd_b hf
  obtain ⟨hq8, hk9⟩ := dr_e hd7
  refine W.eq (g2 := F0 m 8 ls [va_rf (gR s0 800 b2), .ref b6]) (by rw [hq8]; rfl) ?_
  obtain ⟨x10, hc11, hf⟩ := bnd_b hf
  refine hcall_Vv (ex2 := True) (As := [va_rf (gR s0 800 b2)]) (rest := []) (n := 1) (by rw [hk9]; decide) (hC_10 hk9) rfl ⟨hx, hb, hml, hown, hts⟩ (ch_X9_become l D cy b6 (gR s0 800 b2) s0 x10 hc11) (cwV 1 hts gX8_become_X9_become rfl rfl rfl ⟨rfl, nd_X9_become⟩ ⟨Nat.le_of_ble_eq_true rfl, Nat.le_of_ble_eq_true rfl⟩) hI (fun h => h.elim) (fun _ => ⟨trivial, trivial⟩) rfl hl.1 (Nat.le_of_ble_eq_true rfl) dX8_become_8 ⟨Nat.le_of_ble_eq_true rfl, Nat.le_of_ble_eq_true rfl⟩ (fun H locs hI => ?_)
  refine lv_aload_n hx hb dX8_become_11 rfl (lv_at hl 0 rfl) ?_
  refine hq_aload_n hx hb dX8_become_12 rfl (lv_at hl 1 rfl) ?_
  refine W.eq (g2 := F0 m 13 ls [.ref b2, .ref h]) (by rw [hq4]; rfl) ?_
  obtain ⟨k12, hf⟩ := chk_b hf
  refine hg_8_1 hx hb hts hin_X8 hown kl_34 hI (isk_k k12) dX8_become_13 ?_
  obtain ⟨k13, hf⟩ := chk_b hf
  refine hp_8_1 hx hb hts hin_X8 hown kl_34 hI (isk_k k13) dX8_become_16 (fun H locs hI => ?_)
  refine lv_aload_n hx hb dX8_become_19 rfl (lv_at hl 0 rfl) ?_
  refine hq_aload_n hx hb dX8_become_20 rfl (lv_at hl 1 rfl) ?_
  refine W.eq (g2 := F0 m 21 ls [.ref b2, .ref h]) (by rw [hq4]; rfl) ?_
  refine hg_8_2 hx hb hts hin_X8 hown kl_38 hI (gK_sI.trans (isk_k k12)) dX8_become_21 ?_
  refine hp_8_2 hx hb hts hin_X8 hown kl_38 hI (gK_sI.trans (isk_k k13)) dX8_become_24 (fun H locs hI => ?_)
  obtain ⟨x14, hx14, hf⟩ := bnd_b hf
  replace hx14 := Option.some.inj hx14
  rw [hx14] at hI
  have hk15 : gK x14 b2 = 9 := by rw [← hx14]; exact (gK_sI.trans (gK_sI.trans (isk_k k12)))
  have hk16 : gK x14 h = 9 := by rw [← hx14]; exact (gK_sI.trans (gK_sI.trans (isk_k k13)))
  refine hq_aload_n hx hb dX8_become_27 rfl (lv_at hl 1 rfl) ?_
  refine W.eq (g2 := F0 m 28 ls [.ref b2]) (by rw [hq4]; rfl) ?_
  refine hg_8_3 hx hb hts hin_X8 hown kl_16 hI hk15 dX8_become_28 ?_
  refine lv_iconst (v := 0) hx hb dX8_become_31 (by decide) ?_
  refine lv_aload_n hx hb dX8_become_32 rfl (lv_at hl 0 rfl) ?_
  refine hg_8_3 hx hb hts hin_X8 hown kl_16 hI hk16 dX8_become_33 ?_
  refine lv_iconst (v := 0) hx hb dX8_become_36 (by decide) ?_
  refine lv_aload_n hx hb dX8_become_37 rfl (lv_at hl 0 rfl) ?_
  refine hg_8_3 hx hb hts hin_X8 hown kl_16 hI hk16 dX8_become_38 ?_
  obtain ⟨b17, hd18, hf⟩ := bnd_b hf
  obtain ⟨hq19, hk20⟩ := dr_e hd18
  refine W.eq (g2 := F0 m 41 ls [.ref b17, .int (0 : Int32), va_rf (gR x14 803 h), .int (0 : Int32), va_rf (gR x14 803 b2)]) (by rw [hq19]; rfl) ?_
  refine ha_22 hx hb hI hk20 dX8_become_41 ?_
  obtain ⟨b21, hd22, hf⟩ := bnd_b hf
  obtain ⟨hq23, hk24⟩ := dr_e hd22
  refine W.eq (g2 := F0 m 42 ls [.int (nI (gL x14 b17)), .int (0 : Int32), va_rf (gR x14 803 h), .int (0 : Int32), .ref b21]) (by rw [hq23]; rfl) ?_
  refine W.eq (g2 := F0 m 42 ls [.int (nI (gL x14 b17)), .int (0 : Int32), .ref b17, .int (0 : Int32), .ref b21]) (by rw [hq19]; rfl) ?_
  obtain ⟨k25, hf⟩ := chk_b hf
  refine h_copy hx hb (hml.trans hl.1.symm) hown (hts (.methodLink RX8 41 arraycopyName) (by decide +kernel)) (hts (.native arraycopyName) (by decide +kernel)) (hts (.static arraycopyName) (by decide +kernel)) (hts (.initialized "java/lang/System") (by decide +kernel)) hI hk24 hk20 k25 (Nat.le_of_ble_eq_true rfl) (Nat.le_of_ble_eq_true rfl) dX8_become_42 (fun H locs hI => ?_)
  obtain ⟨x26, hx26, hf⟩ := bnd_b hf
  replace hx26 := Option.some.inj hx26
  rw [hx26] at hI
  have hk27 : gK x26 b2 = 9 := by rw [← hx26]; exact (gK_sAf.trans hk15)
  have hk28 : gK x26 h = 9 := by rw [← hx26]; exact (gK_sAf.trans hk16)
  have hk29 : gK x26 b17 = 22 := by rw [← hx26]; exact (gK_sAf.trans hk20)
  have hk30 : gK x26 b21 = 22 := by rw [← hx26]; exact (gK_sAf.trans hk24)
  refine hq_aload_n hx hb dX8_become_45 rfl (lv_at hl 1 rfl) ?_
  refine W.eq (g2 := F0 m 46 ls [.ref b2]) (by rw [hq4]; rfl) ?_
  refine hg_8_4 hx hb hts hin_X8 hown kl_20 hI hk27 dX8_become_46 ?_
  refine lv_iconst (v := 0) hx hb dX8_become_49 (by decide) ?_
  refine lv_aload_n hx hb dX8_become_50 rfl (lv_at hl 0 rfl) ?_
  refine hg_8_4 hx hb hts hin_X8 hown kl_20 hI hk28 dX8_become_51 ?_
  refine lv_iconst (v := 0) hx hb dX8_become_54 (by decide) ?_
  refine lv_aload_n hx hb dX8_become_55 rfl (lv_at hl 0 rfl) ?_
  refine hg_8_4 hx hb hts hin_X8 hown kl_20 hI hk28 dX8_become_56 ?_
  obtain ⟨b31, hd32, hf⟩ := bnd_b hf
  obtain ⟨hq33, hk34⟩ := dr_e hd32
  refine W.eq (g2 := F0 m 59 ls [.ref b31, .int (0 : Int32), va_rf (gR x26 804 h), .int (0 : Int32), va_rf (gR x26 804 b2)]) (by rw [hq33]; rfl) ?_
  refine ha_22 hx hb hI hk34 dX8_become_59 ?_
  obtain ⟨b35, hd36, hf⟩ := bnd_b hf
  obtain ⟨hq37, hk38⟩ := dr_e hd36
  refine W.eq (g2 := F0 m 60 ls [.int (nI (gL x26 b31)), .int (0 : Int32), va_rf (gR x26 804 h), .int (0 : Int32), .ref b35]) (by rw [hq37]; rfl) ?_
  refine W.eq (g2 := F0 m 60 ls [.int (nI (gL x26 b31)), .int (0 : Int32), .ref b31, .int (0 : Int32), .ref b35]) (by rw [hq33]; rfl) ?_
  obtain ⟨k39, hf⟩ := chk_b hf
  refine h_copy hx hb (hml.trans hl.1.symm) hown (hts (.methodLink RX8 41 arraycopyName) (by decide +kernel)) (hts (.native arraycopyName) (by decide +kernel)) (hts (.static arraycopyName) (by decide +kernel)) (hts (.initialized "java/lang/System") (by decide +kernel)) hI hk38 hk34 k39 (Nat.le_of_ble_eq_true rfl) (Nat.le_of_ble_eq_true rfl) dX8_become_60 (fun H locs hI => ?_)
  obtain ⟨x40, hx40, hf⟩ := bnd_b hf
  replace hx40 := Option.some.inj hx40
  rw [hx40] at hI
  have hk41 : gK x40 b2 = 9 := by rw [← hx40]; exact (gK_sAf.trans hk27)
  have hk42 : gK x40 h = 9 := by rw [← hx40]; exact (gK_sAf.trans hk28)
  have hk43 : gK x40 b17 = 22 := by rw [← hx40]; exact (gK_sAf.trans hk29)
  have hk44 : gK x40 b21 = 22 := by rw [← hx40]; exact (gK_sAf.trans hk30)
  have hk45 : gK x40 b31 = 22 := by rw [← hx40]; exact (gK_sAf.trans hk34)
  have hk46 : gK x40 b35 = 22 := by rw [← hx40]; exact (gK_sAf.trans hk38)
  exact hret_v hx hb hr hlocks hI (by decide) (by decide) (fun _ => ⟨trivial, rfl⟩) (ret_e hK0 hf) dX8_become_63

theorem nd_X11_back : yX11_back.cls ≠ "java/lang/invoke/MethodHandle" ∧ yX11_back.cls ≠ "java/lang/invoke/VarHandle" ∧ (parseMethodDescriptor yX11_back.desc).map (fun d => d.parameters.length) = some 1 := by decide +kernel
set_option maxHeartbeats 4000000 in
set_option maxRecDepth 100000 in
theorem ch_X11_back (l : Launch) (D : va_G) (cy : Nat → ClassId) (h : Nat) (a1 : Int32) (s0 : HSt) (out : HSt × Int32) (hf : fh_X11_back h a1 s0 = some out) : CHi l D cy yX11_back wsX11_back { frames := 3, cells := 0, slots := 0, locals := 103 } 0 0 False True [.ref h, .int a1] s0 out := by
  refine Met.ofW (cc := cX11_back) (maxL := 2) (ret := (some .int)) (by decide) rfl ?_
  intro p e s m args below meth c s₁ B hml hv
  obtain ⟨rfl, hP, hK, hD0, hkx, hsz, hal⟩ := hv
  have hx := B.exec
  have hb := B.bytes
  have hr := B.returns
  have hts := atoms_spec (ws := wsX11_back) B.pre
  have hown : s.vm.findClass RX11 = some m.cls := findClass_of_methodNamed B.named
  have hlocks := B.notSynchronized
  have hI : HI D cy s s0 s0 s.heap [] 0 False True := ⟨hK, hP, hD0.weaken (fun k q hk _ => Or.inl (pl_mem hk)), va_S.rf, hsz.1, hkx, ⟨hsz, hal⟩, fun _ => rfl, Nat.le_refl _⟩
  have hin_X11 : ∀ w ∈ u_ws RX11 TX11 10, w ∈ wsX11_back := fun w hw => List.mem_cons_of_mem _ (List.mem_append_left _ (List.mem_append_left _ (List.mem_append_right _ hw)))
  have hin_X8 : ∀ w ∈ u_ws RX8 TX8 5, w ∈ wsX11_back := fun w hw => List.mem_cons_of_mem _ (List.mem_append_left _ (List.mem_append_right _ hw))
  have hin_X9 : ∀ w ∈ u_ws RX9 TX9 5, w ∈ wsX11_back := fun w hw => List.mem_cons_of_mem _ (List.mem_append_right _ hw)
  have kl_22 : Cond.fieldLink RX11 22 "HalfBridge" "site" "LHalfBridge$Site;" ∈ wsX11_back := by decide +kernel
  have kl_26 : Cond.fieldLink RX11 26 "HalfBridge" "images" "[LHalfBridge$Site;" ∈ wsX11_back := by decide +kernel
  have kl_93 : Cond.fieldLink RX11 93 "HalfBridge$Site" "span" "LHalfBridge$Span;" ∈ wsX11_back := by decide +kernel
  have kl_119 : Cond.fieldLink RX11 119 "HalfBridge$Span" "day" "I" ∈ wsX11_back := by decide +kernel
  have hl := lv_entry ([.ref h, .int a1]) (n := 2) (Nat.le_of_ble_eq_true rfl)
  rw [lg_entry_eq]
  generalize (lg_sl ([.ref h, .int a1]) ++ List.replicate (2 - (lg_sl ([.ref h, .int a1])).length) Slot.unset).toArray = ls at hl ⊢
  have hl : lv_has ls 2 [(0, .ref h), (1, .int a1)] := hl
  obtain ⟨K0, hK0, hf⟩ := top_e hf
  unfold fh_X11_back at hf
  refine lv_iload_n hx hb dX11_back_0 rfl (lv_at hl 1 rfl) ?_
  refine lv_iconst (v := 0) hx hb dX11_back_1 (by decide) ?_
  refine lv_iconst (v := 3) hx hb dX11_back_2 (by decide) ?_
  obtain ⟨x1, hc2, hf⟩ := bnd_b hf
  refine hcall_Si (ex2 := True) (As := [.int a1, .int (0 : Int32), .int (3 : Int32)]) (rest := []) (n := 3) ⟨hx, hb, hml, hown, hts⟩ (ch_X11_isWithin l D cy a1 (0 : Int32) (3 : Int32) s0 x1 hc2) (va_cwS 3 hts gX11_back_X11_isWithin rfl rfl rfl nd_X11_isWithin ⟨Nat.le_of_ble_eq_true rfl, Nat.le_of_ble_eq_true rfl⟩) hI (fun h => h.elim) (fun _ => ⟨trivial, trivial⟩) rfl hl.1 (Nat.le_of_ble_eq_true rfl) dX11_back_3 ⟨Nat.le_of_ble_eq_true rfl, Nat.le_of_ble_eq_true rfl⟩ (fun H locs hI => ?_)
  refine lv_if_eq (tgt := 18) hx hb dX11_back_6 (by decide) (fun c3 => ?_) (fun c3 => ?_)
  · replace hf := ifp c3 hf
    refine lv_iconst (v := -1) hx hb dX11_back_18 (by decide) ?_
    exact hret_i hx hb hr hlocks hI (by decide) (by decide) (fun _ => ⟨trivial, rfl⟩) (ret_e hK0 hf) dX11_back_19
  · replace hf := ifn c3 hf
    refine lv_aload_n hx hb dX11_back_9 rfl (lv_at hl 0 rfl) ?_
    obtain ⟨k4, hf⟩ := chk_b hf
    refine hg_11_5 hx hb hts hin_X11 hown kl_26 hI (isk_k k4) dX11_back_10 ?_
    refine lv_iload_n hx hb dX11_back_13 rfl (lv_at hl 1 rfl) ?_
    obtain ⟨b5, hd6, hf⟩ := bnd_b hf
    obtain ⟨hq7, hk8⟩ := dr_e hd6
    refine W.eq (g2 := F0 m 14 ls [.int a1, .ref b5]) (by rw [hq7]; rfl) ?_
    obtain ⟨k9, hf⟩ := chk_b hf
    refine hl_Site hx hb hI hk8 k9 dX11_back_14 ?_
    by_cases c10 : (gQ x1.1 b5 a1.toNatClampNeg) = none
    · replace hf := ifp c10 hf
      refine W.eq (g2 := F0 m 15 ls [.null]) (by rw [c10]; rfl) ?_
      refine lv_ifnonnullN hx hb dX11_back_15 ?_
      refine lv_iconst (v := -1) hx hb dX11_back_18 (by decide) ?_
      exact hret_i hx hb hr hlocks hI (by decide) (by decide) (fun _ => ⟨trivial, rfl⟩) (ret_e hK0 hf) dX11_back_19
    · replace hf := ifn c10 hf
      obtain ⟨b11, hq12, hf⟩ := bnd_b hf
      refine W.eq (g2 := F0 m 15 ls [.ref b11]) (by rw [hq12]; rfl) ?_
      refine lv_ifnonnull (tgt := 20) hx hb dX11_back_15 (by decide) ?_
      refine lv_aload_n hx hb dX11_back_20 rfl (lv_at hl 0 rfl) ?_
      refine hg_11_4 hx hb hts hin_X11 hown kl_22 hI (isk_k k4) dX11_back_21 ?_
      refine lv_aload_n hx hb dX11_back_24 rfl (lv_at hl 0 rfl) ?_
      refine hg_11_5 hx hb hts hin_X11 hown kl_26 hI (isk_k k4) dX11_back_25 ?_
      refine lv_iload_n hx hb dX11_back_28 rfl (lv_at hl 1 rfl) ?_
      refine W.eq (g2 := F0 m 29 ls [.int a1, .ref b5, va_rf (gR x1.1 1104 h)]) (by rw [hq7]; rfl) ?_
      obtain ⟨k13, hf⟩ := chk_b hf
      refine hl_Site hx hb hI hk8 k13 dX11_back_29 ?_
      obtain ⟨b14, hd15, hf⟩ := bnd_b hf
      obtain ⟨hq16, hk17⟩ := dr_e hd15
      refine W.eq (g2 := F0 m 30 ls [va_rf (gQ x1.1 b5 a1.toNatClampNeg), .ref b14]) (by rw [hq16]; rfl) ?_
      obtain ⟨x18, hc19, hf⟩ := bnd_b hf
      refine hcall_Vv (ex2 := True) (As := [va_rf (gQ x1.1 b5 a1.toNatClampNeg)]) (rest := []) (n := 1) (by rw [hk17]; decide) (hC_9 hk17) rfl ⟨hx, hb, hml, hown, hts⟩ (ch_X8_become l D cy b14 (gQ x1.1 b5 a1.toNatClampNeg) x1.1 x18 hc19) (cwV 1 hts gX11_back_X8_become rfl rfl rfl ⟨rfl, nd_X8_become⟩ ⟨Nat.le_of_ble_eq_true rfl, Nat.le_of_ble_eq_true rfl⟩) hI (fun h => h.elim) (fun _ => ⟨trivial, trivial⟩) rfl hl.1 (Nat.le_of_ble_eq_true rfl) dX11_back_30 ⟨Nat.le_of_ble_eq_true rfl, Nat.le_of_ble_eq_true rfl⟩ (fun H locs hI => ?_)
      refine lv_aload_n hx hb dX11_back_33 rfl (lv_at hl 0 rfl) ?_
      obtain ⟨k20, hf⟩ := chk_b hf
      refine hg_11_4 hx hb hts hin_X11 hown kl_22 hI (isk_k k20) dX11_back_34 ?_
      obtain ⟨b21, hd22, hf⟩ := bnd_b hf
      obtain ⟨hq23, hk24⟩ := dr_e hd22
      refine W.eq (g2 := F0 m 37 ls [.ref b21]) (by rw [hq23]; rfl) ?_
      refine hg_8_0 hx hb hts hin_X8 hown kl_93 hI hk24 dX11_back_37 ?_
      obtain ⟨b25, hd26, hf⟩ := bnd_b hf
      obtain ⟨hq27, hk28⟩ := dr_e hd26
      refine W.eq (g2 := F0 m 40 ls [.ref b25]) (by rw [hq27]; rfl) ?_
      refine hg_9_1 hx hb hts hin_X9 hown kl_119 hI hk28 dX11_back_40 ?_
      exact hret_i hx hb hr hlocks hI (by decide) (by decide) (fun _ => ⟨trivial, rfl⟩) (ret_e hK0 hf) dX11_back_43

theorem nd_X11_isSide : yX11_isSide.cls ≠ "java/lang/invoke/MethodHandle" ∧ yX11_isSide.cls ≠ "java/lang/invoke/VarHandle" ∧ (parseMethodDescriptor yX11_isSide.desc).map (fun d => d.parameters.length) = some 1 := by decide +kernel
set_option maxHeartbeats 4000000 in
set_option maxRecDepth 100000 in
theorem ch_X11_isSide (l : Launch) (D : va_G) (cy : Nat → ClassId) (a0 : Int32) (s0 : HSt) (out : HSt × Int32) (hf : fh_X11_isSide a0 s0 = some out) : CHi l D cy yX11_isSide wsX11_isSide { frames := 0, cells := 0, slots := 0, locals := 0 } 0 0 False True [.int a0] s0 out := by
  refine Met.ofW (cc := cX11_isSide) (maxL := 1) (ret := (some .boolean)) (by decide) rfl ?_
  intro p e s m args below meth c s₁ B hml hv
  obtain ⟨rfl, hP, hK, hD0, hkx, hsz, hal⟩ := hv
  have hx := B.exec
  have hb := B.bytes
  have hr := B.returns
  have hts := atoms_spec (ws := wsX11_isSide) B.pre
  have hown : s.vm.findClass RX11 = some m.cls := findClass_of_methodNamed B.named
  have hlocks := B.notSynchronized
  have hI : HI D cy s s0 s0 s.heap [] 0 False True := ⟨hK, hP, hD0.weaken (fun k q hk _ => Or.inl (pl_mem hk)), va_S.rf, hsz.1, hkx, ⟨hsz, hal⟩, fun _ => rfl, Nat.le_refl _⟩
  have hl := lv_entry ([.int a0]) (n := 1) (Nat.le_of_ble_eq_true rfl)
  rw [lg_entry_eq]
  generalize (lg_sl ([.int a0]) ++ List.replicate (1 - (lg_sl ([.int a0])).length) Slot.unset).toArray = ls at hl ⊢
  have hl : lv_has ls 1 [(0, .int a0)] := hl
  obtain ⟨K0, hK0, hf⟩ := top_e hf
  unfold fh_X11_isSide at hf
  refine lv_iload_n hx hb dX11_isSide_0 rfl (lv_at hl 0 rfl) ?_
  refine lv_if_eq (tgt := 9) hx hb dX11_isSide_1 (by decide) (fun c1 => ?_) (fun c1 => ?_)
  · replace hf := ifp c1 hf
    refine lv_iconst (v := 1) hx hb dX11_isSide_9 (by decide) ?_
    refine lv_goto (tgt := 14) hx hb dX11_isSide_10 (by decide) ?_
    exact hret_z hx hb hr (by decide) hlocks hI (by decide) (by decide) (fun _ => ⟨trivial, rfl⟩) (ret_e hK0 hf) dX11_isSide_14
  · replace hf := ifn c1 hf
    refine lv_iload_n hx hb dX11_isSide_4 rfl (lv_at hl 0 rfl) ?_
    refine lv_iconst (v := 1) hx hb dX11_isSide_5 (by decide) ?_
    refine lv_icmp_ne (tgt := 13) hx hb dX11_isSide_6 (by decide) (fun c2 => ?_) (fun c2 => ?_)
    · replace hf := ifn c2 hf
      refine lv_iconst (v := 0) hx hb dX11_isSide_13 (by decide) ?_
      exact hret_z hx hb hr (by decide) hlocks hI (by decide) (by decide) (fun _ => ⟨trivial, rfl⟩) (ret_e hK0 hf) dX11_isSide_14
    · replace hf := ifp c2 hf
      refine lv_iconst (v := 1) hx hb dX11_isSide_9 (by decide) ?_
      refine lv_goto (tgt := 14) hx hb dX11_isSide_10 (by decide) ?_
      exact hret_z hx hb hr (by decide) hlocks hI (by decide) (by decide) (fun _ => ⟨trivial, rfl⟩) (ret_e hK0 hf) dX11_isSide_14
