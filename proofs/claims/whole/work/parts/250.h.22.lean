theorem nd_X11_spite : yX11_spite.cls ≠ "java/lang/invoke/MethodHandle" ∧ yX11_spite.cls ≠ "java/lang/invoke/VarHandle" ∧ (parseMethodDescriptor yX11_spite.desc).map (fun d => d.parameters.length) = some 4 := by decide +kernel
set_option maxHeartbeats 4000000 in
set_option maxRecDepth 100000 in
theorem ch_X11_spite (l : Launch) (D : va_G) (cy : Nat → ClassId) (h : Nat) (a1 : Int32) (a2 : Int32) (a3 : Int32) (a4 : Int32) (s0 : HSt) (out : HSt × Int32) (hf : fh_X11_spite h a1 a2 a3 a4 s0 = some out) : CHi l D cy yX11_spite wsX11_spite { frames := 70, cells := 0, slots := 0, locals := 2852 } 0 0 False True [.ref h, .int a1, .int a2, .int a3, .int a4] s0 out := by
  refine Met.ofW (cc := cX11_spite) (maxL := 6) (ret := (some .int)) (by decide) rfl ?_
  intro p e s m args below meth c s₁ B hml hv
  obtain ⟨rfl, hP, hK, hD0, hkx, hsz, hal⟩ := hv
  have hx := B.exec
  have hb := B.bytes
  have hr := B.returns
  have hts := atoms_spec (ws := wsX11_spite) B.pre
  have hown : s.vm.findClass RX11 = some m.cls := findClass_of_methodNamed B.named
  have hlocks := B.notSynchronized
  have hI : HI D cy s s0 s0 s.heap [] 0 False True := ⟨hK, hP, hD0.weaken (fun k q hk _ => Or.inl (pl_mem hk)), va_S.rf, hsz.1, hkx, ⟨hsz, hal⟩, fun _ => rfl, Nat.le_refl _⟩
  have hin_X0 : ∀ w ∈ u_ws RX0 TX0 11, w ∈ wsX11_spite := fun w hw => List.mem_cons_of_mem _ (List.mem_append_left _ (List.mem_append_left _ (List.mem_append_left _ (List.mem_append_left _ (List.mem_append_left _ (List.mem_append_left _ (List.mem_append_right _ hw)))))))
  have hin_X1 : ∀ w ∈ u_ws RX1 TX1 12, w ∈ wsX11_spite := fun w hw => List.mem_cons_of_mem _ (List.mem_append_left _ (List.mem_append_left _ (List.mem_append_left _ (List.mem_append_left _ (List.mem_append_left _ (List.mem_append_right _ hw))))))
  have hin_X11 : ∀ w ∈ u_ws RX11 TX11 10, w ∈ wsX11_spite := fun w hw => List.mem_cons_of_mem _ (List.mem_append_left _ (List.mem_append_left _ (List.mem_append_left _ (List.mem_append_left _ (List.mem_append_left _ (List.mem_append_left _ (List.mem_append_left _ (List.mem_append_right _ hw))))))))
  have kl_22 : Cond.fieldLink RX11 22 "HalfBridge" "site" "LHalfBridge$Site;" ∈ wsX11_spite := by decide +kernel
  have kl_56 : Cond.fieldLink RX11 56 "HalfBridge" "foresight" "LHalfBridge$Foresight;" ∈ wsX11_spite := by decide +kernel
  have kl_217 : Cond.fieldLink RX11 217 "HalfBridge$Foresight" "hand" "LHalfBridge$FreeHand;" ∈ wsX11_spite := by decide +kernel
  have kl_229 : Cond.fieldLink RX11 229 "HalfBridge$FreeHand" "best" "I" ∈ wsX11_spite := by decide +kernel
  have hl := lv_entry ([.ref h, .int a1, .int a2, .int a3, .int a4]) (n := 6) (Nat.le_of_ble_eq_true rfl)
  rw [lg_entry_eq]
  generalize (lg_sl ([.ref h, .int a1, .int a2, .int a3, .int a4]) ++ List.replicate (6 - (lg_sl ([.ref h, .int a1, .int a2, .int a3, .int a4])).length) Slot.unset).toArray = ls at hl ⊢
  have hl : lv_has ls 6 [(0, .ref h), (1, .int a1), (2, .int a2), (3, .int a3), (4, .int a4)] := hl
  obtain ⟨K0, hK0, hf⟩ := top_e hf
  unfold fh_X11_spite at hf
  refine lv_aload_n hx hb dX11_spite_0 rfl (lv_at hl 0 rfl) ?_
  refine lv_iload_n hx hb dX11_spite_1 rfl (lv_at hl 1 rfl) ?_
  refine lv_iload_n hx hb dX11_spite_2 rfl (lv_at hl 2 rfl) ?_
  obtain ⟨k1, hf⟩ := chk_b hf
  obtain ⟨x2, hc3, hf⟩ := bnd_b hf
  refine hcall_Vi (ex2 := True) (As := [.int a1, .int a2]) (rest := []) (n := 2) (by rw [(isk_k k1)]; decide) (hC_12 (isk_k k1)) rfl ⟨hx, hb, hml, hown, hts⟩ (ch_X11_isFreeHand l D cy h a1 a2 s0 x2 hc3) (cwV 2 hts gX11_spite_X11_isFreeHand rfl rfl rfl ⟨rfl, nd_X11_isFreeHand⟩ ⟨Nat.le_of_ble_eq_true rfl, Nat.le_of_ble_eq_true rfl⟩) hI (fun h => h.elim) (fun _ => ⟨trivial, trivial⟩) rfl hl.1 (Nat.le_of_ble_eq_true rfl) dX11_spite_3 ⟨Nat.le_of_ble_eq_true rfl, Nat.le_of_ble_eq_true rfl⟩ (fun H locs hI => ?_)
  refine lv_if_eq (tgt := 29) hx hb dX11_spite_6 (by decide) (fun c4 => ?_) (fun c4 => ?_)
  · replace hf := ifp c4 hf
    refine lv_ldc (v := -100000) hx hb hown (hts (.constant RX11 107 (-100000)) (by decide +kernel)) dX11_spite_29 ?_
    exact hret_i hx hb hr hlocks hI (by decide) (by decide) (fun _ => ⟨trivial, rfl⟩) (ret_e hK0 hf) dX11_spite_31
  · replace hf := ifn c4 hf
    refine lv_iload_n hx hb dX11_spite_9 rfl (lv_at hl 3 rfl) ?_
    refine lv_iconst (v := 0) hx hb dX11_spite_10 (by decide) ?_
    refine lv_bipush (v := 8) hx hb dX11_spite_11 (by decide) ?_
    obtain ⟨x5, hc6, hf⟩ := bnd_b hf
    refine hcall_Si (ex2 := True) (As := [.int a3, .int (0 : Int32), .int (8 : Int32)]) (rest := []) (n := 3) ⟨hx, hb, hml, hown, hts⟩ (ch_X11_isWithin l D cy a3 (0 : Int32) (8 : Int32) x2.1 x5 hc6) (va_cwS 3 hts gX11_spite_X11_isWithin rfl rfl rfl nd_X11_isWithin ⟨Nat.le_of_ble_eq_true rfl, Nat.le_of_ble_eq_true rfl⟩) hI (fun h => h.elim) (fun _ => ⟨trivial, trivial⟩) rfl hl.1 (Nat.le_of_ble_eq_true rfl) dX11_spite_13 ⟨Nat.le_of_ble_eq_true rfl, Nat.le_of_ble_eq_true rfl⟩ (fun H locs hI => ?_)
    refine lv_if_eq (tgt := 29) hx hb dX11_spite_16 (by decide) (fun c7 => ?_) (fun c7 => ?_)
    · replace hf := ifp c7 hf
      refine lv_ldc (v := -100000) hx hb hown (hts (.constant RX11 107 (-100000)) (by decide +kernel)) dX11_spite_29 ?_
      exact hret_i hx hb hr hlocks hI (by decide) (by decide) (fun _ => ⟨trivial, rfl⟩) (ret_e hK0 hf) dX11_spite_31
    · replace hf := ifn c7 hf
      refine lv_iload hx hb dX11_spite_19 (lv_at hl 4 rfl) ?_
      refine lv_iconst (v := 0) hx hb dX11_spite_21 (by decide) ?_
      refine lv_iconst (v := 4) hx hb dX11_spite_22 (by decide) ?_
      obtain ⟨x8, hc9, hf⟩ := bnd_b hf
      refine hcall_Si (ex2 := True) (As := [.int a4, .int (0 : Int32), .int (4 : Int32)]) (rest := []) (n := 3) ⟨hx, hb, hml, hown, hts⟩ (ch_X11_isWithin l D cy a4 (0 : Int32) (4 : Int32) x5.1 x8 hc9) (va_cwS 3 hts gX11_spite_X11_isWithin rfl rfl rfl nd_X11_isWithin ⟨Nat.le_of_ble_eq_true rfl, Nat.le_of_ble_eq_true rfl⟩) hI (fun h => h.elim) (fun _ => ⟨trivial, trivial⟩) rfl hl.1 (Nat.le_of_ble_eq_true rfl) dX11_spite_23 ⟨Nat.le_of_ble_eq_true rfl, Nat.le_of_ble_eq_true rfl⟩ (fun H locs hI => ?_)
      refine lv_if_ne (tgt := 32) hx hb dX11_spite_26 (by decide) (fun c10 => ?_) (fun c10 => ?_)
      · replace hf := ifn c10 hf
        refine lv_aload_n hx hb dX11_spite_32 rfl (lv_at hl 0 rfl) ?_
        obtain ⟨k11, hf⟩ := chk_b hf
        refine hg_11_9 hx hb hts hin_X11 hown kl_56 hI (isk_k k11) dX11_spite_33 ?_
        obtain ⟨b12, hd13, hf⟩ := bnd_b hf
        obtain ⟨hq14, hk15⟩ := dr_e hd13
        refine W.eq (g2 := F0 m 36 ls [.ref b12]) (by rw [hq14]; rfl) ?_
        refine hg_0_1 hx hb hts hin_X0 hown kl_217 hI hk15 dX11_spite_36 ?_
        refine hq_astore (lv' := [(5, va_rf (gR x8.1 1 b12)), (0, .ref h), (1, .int a1), (2, .int a2), (3, .int a3), (4, .int a4)]) hx hb dX11_spite_39 hl (by decide) (by first | rfl | (simp [cat_rf, cat_i, cat_l, cat_r]; done) | (simp [cat_rf, cat_i, cat_l, cat_r]; decide)) (fun ls hl => ?_)
        refine hq_aload hx hb dX11_spite_41 (lv_at hl 0 rfl) ?_
        refine lv_aload_n hx hb dX11_spite_43 rfl (lv_at hl 1 rfl) ?_
        refine hg_11_4 hx hb hts hin_X11 hown kl_22 hI (isk_k k11) dX11_spite_44 ?_
        refine lv_iload_n hx hb dX11_spite_47 rfl (lv_at hl 2 rfl) ?_
        refine lv_aload_n hx hb dX11_spite_48 rfl (lv_at hl 1 rfl) ?_
        refine lv_iload_n hx hb dX11_spite_49 rfl (lv_at hl 3 rfl) ?_
        obtain ⟨x16, hc17, hf⟩ := bnd_b hf
        refine hcall_Vq (ex2 := True) (As := [.int a2]) (rest := [.int a1, va_rf (gR x8.1 1104 h), va_rf (gR x8.1 1 b12)]) (n := 1) (by rw [(isk_k k11)]; decide) (hC_12 (isk_k k11)) rfl ⟨hx, hb, hml, hown, hts⟩ (ch_X11_ruleOf l D cy h a2 x8.1 x16 hc17) (cwV 1 hts gX11_spite_X11_ruleOf rfl rfl rfl ⟨rfl, nd_X11_ruleOf⟩ ⟨Nat.le_of_ble_eq_true rfl, Nat.le_of_ble_eq_true rfl⟩) hI (fun h => h.elim) (fun _ => ⟨trivial, trivial⟩) rfl hl.1 (by simp [cat_rf, cat_i, cat_l, cat_r]) dX11_spite_50 ⟨Nat.le_of_ble_eq_true rfl, Nat.le_of_ble_eq_true rfl⟩ (fun H locs hI => ?_)
        refine lv_iload_n hx hb dX11_spite_53 rfl (lv_at hl 4 rfl) ?_
        obtain ⟨b18, hd19, hf⟩ := bnd_b hf
        obtain ⟨hq20, hk21⟩ := dr_e hd19
        refine W.eq (g2 := F0 m 54 ls [.int a3, va_rf x16.2, .int a1, va_rf (gR x8.1 1104 h), .ref b18]) (by rw [hq20]; rfl) ?_
        obtain ⟨x22, hc23, hf⟩ := bnd_b hf
        refine hcall_Vv (ex2 := True) (As := [va_rf (gR x8.1 1104 h), .int a1, va_rf x16.2, .int a3]) (rest := []) (n := 4) (by rw [hk21]; decide) (hC_2 hk21) rfl ⟨hx, hb, hml, hown, hts⟩ (ch_X1_goSpiteful l D cy b18 (gR x8.1 1104 h) a1 x16.2 a3 x16.1 x22 hc23) (cwV 4 hts gX11_spite_X1_goSpiteful rfl rfl rfl ⟨rfl, nd_X1_goSpiteful⟩ ⟨Nat.le_of_ble_eq_true rfl, Nat.le_of_ble_eq_true rfl⟩) hI (fun h => h.elim) (fun _ => ⟨trivial, trivial⟩) rfl hl.1 (Nat.le_of_ble_eq_true rfl) dX11_spite_54 ⟨Nat.le_of_ble_eq_true rfl, Nat.le_of_ble_eq_true rfl⟩ (fun H locs hI => ?_)
        refine lv_iload hx hb dX11_spite_57 (lv_at hl 5 rfl) ?_
        refine lv_if_ne (tgt := 70) hx hb dX11_spite_59 (by decide) (fun c24 => ?_) (fun c24 => ?_)
        · replace hf := ifn c24 hf
          refine hq_aload hx hb dX11_spite_70 (lv_at hl 0 rfl) ?_
          refine lv_iload hx hb dX11_spite_72 (lv_at hl 5 rfl) ?_
          refine lv_iconst (v := 1) hx hb dX11_spite_74 (by decide) ?_
          refine lv_isub hx hb dX11_spite_75 ?_
          refine W.eq (g2 := F0 m 76 ls [.int (a4 - (1 : Int32)), .ref b18]) (by rw [hq20]; rfl) ?_
          obtain ⟨k25, hf⟩ := chk_b hf
          obtain ⟨x26, hc27, hf⟩ := bnd_b hf
          refine hcall_Vi (ex2 := True) (As := [.int (a4 - (1 : Int32))]) (rest := []) (n := 1) (by rw [(isk_k k25)]; decide) (hC_2 (isk_k k25)) rfl ⟨hx, hb, hml, hown, hts⟩ (ch_X1_bestTurnOn l D cy b18 (a4 - (1 : Int32)) x22 x26 hc27) (cwV 1 hts gX11_spite_X1_bestTurnOn rfl rfl rfl ⟨rfl, nd_X1_bestTurnOn⟩ ⟨Nat.le_of_ble_eq_true rfl, Nat.le_of_ble_eq_true rfl⟩) hI (fun h => h.elim) (fun _ => ⟨trivial, trivial⟩) rfl hl.1 (Nat.le_of_ble_eq_true rfl) dX11_spite_76 ⟨Nat.le_of_ble_eq_true rfl, Nat.le_of_ble_eq_true rfl⟩ (fun H locs hI => ?_)
          exact hret_i hx hb hr hlocks hI (by decide) (by decide) (fun _ => ⟨trivial, rfl⟩) (ret_e hK0 hf) dX11_spite_79
        · replace hf := ifp c24 hf
          refine hq_aload hx hb dX11_spite_62 (lv_at hl 0 rfl) ?_
          refine W.eq (g2 := F0 m 64 ls [.ref b18]) (by rw [hq20]; rfl) ?_
          obtain ⟨k28, hf⟩ := chk_b hf
          refine hg_1_1 hx hb hts hin_X1 hown kl_229 hI (isk_k k28) dX11_spite_64 ?_
          refine lv_goto (tgt := 79) hx hb dX11_spite_67 (by decide) ?_
          exact hret_i hx hb hr hlocks hI (by decide) (by decide) (fun _ => ⟨trivial, rfl⟩) (ret_e hK0 hf) dX11_spite_79
      · replace hf := ifp c10 hf
        refine lv_ldc (v := -100000) hx hb hown (hts (.constant RX11 107 (-100000)) (by decide +kernel)) dX11_spite_29 ?_
        exact hret_i hx hb hr hlocks hI (by decide) (by decide) (fun _ => ⟨trivial, rfl⟩) (ret_e hK0 hf) dX11_spite_31

theorem nd_X11_spring : yX11_spring.cls ≠ "java/lang/invoke/MethodHandle" ∧ yX11_spring.cls ≠ "java/lang/invoke/VarHandle" ∧ (parseMethodDescriptor yX11_spring.desc).map (fun d => d.parameters.length) = some 3 := by decide +kernel
set_option maxHeartbeats 4000000 in
set_option maxRecDepth 100000 in
theorem ch_X11_spring (l : Launch) (D : va_G) (cy : Nat → ClassId) (h : Nat) (a1 : Int32) (a2 : Int32) (a3 : Int32) (s0 : HSt) (out : HSt × Int32) (hf : fh_X11_spring h a1 a2 a3 s0 = some out) : CHi l D cy yX11_spring wsX11_spring { frames := 6, cells := 0, slots := 0, locals := 170 } 0 0 False True [.ref h, .int a1, .int a2, .int a3] s0 out := by
  refine Met.ofW (cc := cX11_spring) (maxL := 4) (ret := (some .int)) (by decide) rfl ?_
  intro p e s m args below meth c s₁ B hml hv
  obtain ⟨rfl, hP, hK, hD0, hkx, hsz, hal⟩ := hv
  have hx := B.exec
  have hb := B.bytes
  have hr := B.returns
  have hts := atoms_spec (ws := wsX11_spring) B.pre
  have hown : s.vm.findClass RX11 = some m.cls := findClass_of_methodNamed B.named
  have hlocks := B.notSynchronized
  have hI : HI D cy s s0 s0 s.heap [] 0 False True := ⟨hK, hP, hD0.weaken (fun k q hk _ => Or.inl (pl_mem hk)), va_S.rf, hsz.1, hkx, ⟨hsz, hal⟩, fun _ => rfl, Nat.le_refl _⟩
  have hin_X11 : ∀ w ∈ u_ws RX11 TX11 10, w ∈ wsX11_spring := fun w hw => List.mem_cons_of_mem _ (List.mem_append_left _ (List.mem_append_left _ (List.mem_append_left _ (List.mem_append_left _ (List.mem_append_left _ (List.mem_append_left _ (List.mem_append_right _ hw)))))))
  have hin_X8 : ∀ w ∈ u_ws RX8 TX8 5, w ∈ wsX11_spring := fun w hw => List.mem_cons_of_mem _ (List.mem_append_left _ (List.mem_append_left _ (List.mem_append_left _ (List.mem_append_left _ (List.mem_append_left _ (List.mem_append_right _ hw))))))
  have hin_X9 : ∀ w ∈ u_ws RX9 TX9 5, w ∈ wsX11_spring := fun w hw => List.mem_cons_of_mem _ (List.mem_append_left _ (List.mem_append_left _ (List.mem_append_left _ (List.mem_append_left _ (List.mem_append_right _ hw)))))
  have kl_22 : Cond.fieldLink RX11 22 "HalfBridge" "site" "LHalfBridge$Site;" ∈ wsX11_spring := by decide +kernel
  have kl_56 : Cond.fieldLink RX11 56 "HalfBridge" "foresight" "LHalfBridge$Foresight;" ∈ wsX11_spring := by decide +kernel
  have kl_93 : Cond.fieldLink RX11 93 "HalfBridge$Site" "span" "LHalfBridge$Span;" ∈ wsX11_spring := by decide +kernel
  have kl_119 : Cond.fieldLink RX11 119 "HalfBridge$Span" "day" "I" ∈ wsX11_spring := by decide +kernel
  have hl := lv_entry ([.ref h, .int a1, .int a2, .int a3]) (n := 4) (Nat.le_of_ble_eq_true rfl)
  rw [lg_entry_eq]
  generalize (lg_sl ([.ref h, .int a1, .int a2, .int a3]) ++ List.replicate (4 - (lg_sl ([.ref h, .int a1, .int a2, .int a3])).length) Slot.unset).toArray = ls at hl ⊢
  have hl : lv_has ls 4 [(0, .ref h), (1, .int a1), (2, .int a2), (3, .int a3)] := hl
  obtain ⟨K0, hK0, hf⟩ := top_e hf
  unfold fh_X11_spring at hf
  refine lv_aload_n hx hb dX11_spring_0 rfl (lv_at hl 0 rfl) ?_
  refine lv_iload_n hx hb dX11_spring_1 rfl (lv_at hl 1 rfl) ?_
  refine lv_iload_n hx hb dX11_spring_2 rfl (lv_at hl 2 rfl) ?_
  obtain ⟨k1, hf⟩ := chk_b hf
  obtain ⟨x2, hc3, hf⟩ := bnd_b hf
  refine hcall_Vi (ex2 := True) (As := [.int a1, .int a2]) (rest := []) (n := 2) (by rw [(isk_k k1)]; decide) (hC_12 (isk_k k1)) rfl ⟨hx, hb, hml, hown, hts⟩ (ch_X11_areRulesAtRiver l D cy h a1 a2 s0 x2 hc3) (cwV 2 hts gX11_spring_X11_areRulesAtRiver rfl rfl rfl ⟨rfl, nd_X11_areRulesAtRiver⟩ ⟨Nat.le_of_ble_eq_true rfl, Nat.le_of_ble_eq_true rfl⟩) hI (fun h => h.elim) (fun _ => ⟨trivial, trivial⟩) rfl hl.1 (Nat.le_of_ble_eq_true rfl) dX11_spring_3 ⟨Nat.le_of_ble_eq_true rfl, Nat.le_of_ble_eq_true rfl⟩ (fun H locs hI => ?_)
  refine lv_if_eq (tgt := 38) hx hb dX11_spring_6 (by decide) (fun c4 => ?_) (fun c4 => ?_)
  · replace hf := ifp c4 hf
    refine lv_iconst (v := -1) hx hb dX11_spring_38 (by decide) ?_
    exact hret_i hx hb hr hlocks hI (by decide) (by decide) (fun _ => ⟨trivial, rfl⟩) (ret_e hK0 hf) dX11_spring_39
  · replace hf := ifn c4 hf
    refine lv_iload_n hx hb dX11_spring_9 rfl (lv_at hl 3 rfl) ?_
    refine lv_iconst (v := 1) hx hb dX11_spring_10 (by decide) ?_
    refine lv_sipush (v := 200) hx hb dX11_spring_11 (by decide) ?_
    obtain ⟨x5, hc6, hf⟩ := bnd_b hf
    refine hcall_Si (ex2 := True) (As := [.int a3, .int (1 : Int32), .int (200 : Int32)]) (rest := []) (n := 3) ⟨hx, hb, hml, hown, hts⟩ (ch_X11_isWithin l D cy a3 (1 : Int32) (200 : Int32) x2.1 x5 hc6) (va_cwS 3 hts gX11_spring_X11_isWithin rfl rfl rfl nd_X11_isWithin ⟨Nat.le_of_ble_eq_true rfl, Nat.le_of_ble_eq_true rfl⟩) hI (fun h => h.elim) (fun _ => ⟨trivial, trivial⟩) rfl hl.1 (Nat.le_of_ble_eq_true rfl) dX11_spring_14 ⟨Nat.le_of_ble_eq_true rfl, Nat.le_of_ble_eq_true rfl⟩ (fun H locs hI => ?_)
    refine lv_if_eq (tgt := 38) hx hb dX11_spring_17 (by decide) (fun c7 => ?_) (fun c7 => ?_)
    · replace hf := ifp c7 hf
      refine lv_iconst (v := -1) hx hb dX11_spring_38 (by decide) ?_
      exact hret_i hx hb hr hlocks hI (by decide) (by decide) (fun _ => ⟨trivial, rfl⟩) (ret_e hK0 hf) dX11_spring_39
    · replace hf := ifn c7 hf
      refine lv_aload_n hx hb dX11_spring_20 rfl (lv_at hl 0 rfl) ?_
      obtain ⟨k8, hf⟩ := chk_b hf
      refine hg_11_4 hx hb hts hin_X11 hown kl_22 hI (isk_k k8) dX11_spring_21 ?_
      obtain ⟨b9, hd10, hf⟩ := bnd_b hf
      obtain ⟨hq11, hk12⟩ := dr_e hd10
      refine W.eq (g2 := F0 m 24 ls [.ref b9]) (by rw [hq11]; rfl) ?_
      refine hg_8_0 hx hb hts hin_X8 hown kl_93 hI hk12 dX11_spring_24 ?_
      obtain ⟨b13, hd14, hf⟩ := bnd_b hf
      obtain ⟨hq15, hk16⟩ := dr_e hd14
      refine W.eq (g2 := F0 m 27 ls [.ref b13]) (by rw [hq15]; rfl) ?_
      refine hg_9_1 hx hb hts hin_X9 hown kl_119 hI hk16 dX11_spring_27 ?_
      refine lv_iload_n hx hb dX11_spring_30 rfl (lv_at hl 3 rfl) ?_
      refine lv_iadd hx hb dX11_spring_31 ?_
      refine lv_sipush (v := 9999) hx hb dX11_spring_32 (by decide) ?_
      refine lv_icmp_le (tgt := 40) hx hb dX11_spring_35 (by decide) (fun c17 => ?_) (fun c17 => ?_)
      · replace hf := ifp c17 hf
        refine lv_aload_n hx hb dX11_spring_40 rfl (lv_at hl 0 rfl) ?_
        refine hg_11_9 hx hb hts hin_X11 hown kl_56 hI (isk_k k8) dX11_spring_41 ?_
        refine lv_aload_n hx hb dX11_spring_44 rfl (lv_at hl 0 rfl) ?_
        refine hg_11_4 hx hb hts hin_X11 hown kl_22 hI (isk_k k8) dX11_spring_45 ?_
        refine W.eq (g2 := F0 m 48 ls [.ref b9, va_rf (gR x5.1 1109 h)]) (by rw [hq11]; rfl) ?_
        refine hg_8_0 hx hb hts hin_X8 hown kl_93 hI hk12 dX11_spring_48 ?_
        refine lv_aload_n hx hb dX11_spring_51 rfl (lv_at hl 0 rfl) ?_
        refine hg_11_4 hx hb hts hin_X11 hown kl_22 hI (isk_k k8) dX11_spring_52 ?_
        refine lv_aload_n hx hb dX11_spring_55 rfl (lv_at hl 0 rfl) ?_
        refine lv_iload_n hx hb dX11_spring_56 rfl (lv_at hl 1 rfl) ?_
        obtain ⟨x18, hc19, hf⟩ := bnd_b hf
        refine hcall_Vq (ex2 := True) (As := [.int a1]) (rest := [va_rf (gR x5.1 1104 h), va_rf (gR x5.1 800 b9), va_rf (gR x5.1 1109 h)]) (n := 1) (by rw [(isk_k k8)]; decide) (hC_12 (isk_k k8)) rfl ⟨hx, hb, hml, hown, hts⟩ (ch_X11_ruleOf l D cy h a1 x5.1 x18 hc19) (cwV 1 hts gX11_spring_X11_ruleOf rfl rfl rfl ⟨rfl, nd_X11_ruleOf⟩ ⟨Nat.le_of_ble_eq_true rfl, Nat.le_of_ble_eq_true rfl⟩) hI (fun h => h.elim) (fun _ => ⟨trivial, trivial⟩) rfl hl.1 (by simp [cat_rf, cat_i, cat_l, cat_r]) dX11_spring_57 ⟨Nat.le_of_ble_eq_true rfl, Nat.le_of_ble_eq_true rfl⟩ (fun H locs hI => ?_)
        refine lv_aload_n hx hb dX11_spring_60 rfl (lv_at hl 0 rfl) ?_
        refine lv_iload_n hx hb dX11_spring_61 rfl (lv_at hl 2 rfl) ?_
        obtain ⟨k20, hf⟩ := chk_b hf
        obtain ⟨x21, hc22, hf⟩ := bnd_b hf
        refine hcall_Vq (ex2 := True) (As := [.int a2]) (rest := [va_rf x18.2, va_rf (gR x5.1 1104 h), va_rf (gR x5.1 800 b9), va_rf (gR x5.1 1109 h)]) (n := 1) (by rw [(isk_k k20)]; decide) (hC_12 (isk_k k20)) rfl ⟨hx, hb, hml, hown, hts⟩ (ch_X11_ruleOf l D cy h a2 x18.1 x21 hc22) (cwV 1 hts gX11_spring_X11_ruleOf rfl rfl rfl ⟨rfl, nd_X11_ruleOf⟩ ⟨Nat.le_of_ble_eq_true rfl, Nat.le_of_ble_eq_true rfl⟩) hI (fun h => h.elim) (fun _ => ⟨trivial, trivial⟩) rfl hl.1 (by simp [cat_rf, cat_i, cat_l, cat_r]) dX11_spring_62 ⟨Nat.le_of_ble_eq_true rfl, Nat.le_of_ble_eq_true rfl⟩ (fun H locs hI => ?_)
        refine lv_iload_n hx hb dX11_spring_65 rfl (lv_at hl 3 rfl) ?_
        obtain ⟨b23, hd24, hf⟩ := bnd_b hf
        obtain ⟨hq25, hk26⟩ := dr_e hd24
        refine W.eq (g2 := F0 m 66 ls [.int a3, va_rf x21.2, va_rf x18.2, va_rf (gR x5.1 1104 h), va_rf (gR x5.1 800 b9), .ref b23]) (by rw [hq25]; rfl) ?_
        obtain ⟨x27, hc28, hf⟩ := bnd_b hf
        refine hcall_Vv (ex2 := True) (As := [va_rf (gR x5.1 800 b9), va_rf (gR x5.1 1104 h), va_rf x18.2, va_rf x21.2, .int a3]) (rest := []) (n := 5) (by rw [hk26]; decide) (hC_1 hk26) rfl ⟨hx, hb, hml, hown, hts⟩ (ch_X0_go l D cy b23 (gR x5.1 800 b9) (gR x5.1 1104 h) x18.2 x21.2 a3 x21.1 x27 hc28) (cwV 5 hts gX11_spring_X0_go rfl rfl rfl ⟨rfl, nd_X0_go⟩ ⟨Nat.le_of_ble_eq_true rfl, Nat.le_of_ble_eq_true rfl⟩) hI (fun h => h.elim) (fun _ => ⟨trivial, trivial⟩) rfl hl.1 (Nat.le_of_ble_eq_true rfl) dX11_spring_66 ⟨Nat.le_of_ble_eq_true rfl, Nat.le_of_ble_eq_true rfl⟩ (fun H locs hI => ?_)
        refine lv_aload_n hx hb dX11_spring_69 rfl (lv_at hl 0 rfl) ?_
        obtain ⟨k29, hf⟩ := chk_b hf
        refine hg_11_4 hx hb hts hin_X11 hown kl_22 hI (isk_k k29) dX11_spring_70 ?_
        obtain ⟨b30, hd31, hf⟩ := bnd_b hf
        obtain ⟨hq32, hk33⟩ := dr_e hd31
        refine W.eq (g2 := F0 m 73 ls [.ref b30]) (by rw [hq32]; rfl) ?_
        refine hg_8_0 hx hb hts hin_X8 hown kl_93 hI hk33 dX11_spring_73 ?_
        obtain ⟨b34, hd35, hf⟩ := bnd_b hf
        obtain ⟨hq36, hk37⟩ := dr_e hd35
        refine W.eq (g2 := F0 m 76 ls [.ref b34]) (by rw [hq36]; rfl) ?_
        refine hg_9_1 hx hb hts hin_X9 hown kl_119 hI hk37 dX11_spring_76 ?_
        exact hret_i hx hb hr hlocks hI (by decide) (by decide) (fun _ => ⟨trivial, rfl⟩) (ret_e hK0 hf) dX11_spring_79
      · replace hf := ifn c17 hf
        refine lv_iconst (v := -1) hx hb dX11_spring_38 (by decide) ?_
        exact hret_i hx hb hr hlocks hI (by decide) (by decide) (fun _ => ⟨trivial, rfl⟩) (ret_e hK0 hf) dX11_spring_39

theorem nd_X11_straight : yX11_straight.cls ≠ "java/lang/invoke/MethodHandle" ∧ yX11_straight.cls ≠ "java/lang/invoke/VarHandle" ∧ (parseMethodDescriptor yX11_straight.desc).map (fun d => d.parameters.length) = some 3 := by decide +kernel
set_option maxHeartbeats 4000000 in
set_option maxRecDepth 100000 in
theorem ch_X11_straight (l : Launch) (D : va_G) (cy : Nat → ClassId) (h : Nat) (a1 : Int32) (a2 : Int32) (a3 : Int32) (s0 : HSt) (out : HSt × Int32) (hf : fh_X11_straight h a1 a2 a3 s0 = some out) : CHi l D cy yX11_straight wsX11_straight { frames := 70, cells := 0, slots := 0, locals := 2851 } 0 0 False True [.ref h, .int a1, .int a2, .int a3] s0 out := by
  refine Met.ofW (cc := cX11_straight) (maxL := 5) (ret := (some .int)) (by decide) rfl ?_
  intro p e s m args below meth c s₁ B hml hv
  obtain ⟨rfl, hP, hK, hD0, hkx, hsz, hal⟩ := hv
  have hx := B.exec
  have hb := B.bytes
  have hr := B.returns
  have hts := atoms_spec (ws := wsX11_straight) B.pre
  have hown : s.vm.findClass RX11 = some m.cls := findClass_of_methodNamed B.named
  have hlocks := B.notSynchronized
  have hI : HI D cy s s0 s0 s.heap [] 0 False True := ⟨hK, hP, hD0.weaken (fun k q hk _ => Or.inl (pl_mem hk)), va_S.rf, hsz.1, hkx, ⟨hsz, hal⟩, fun _ => rfl, Nat.le_refl _⟩
  have hin_X0 : ∀ w ∈ u_ws RX0 TX0 11, w ∈ wsX11_straight := fun w hw => List.mem_cons_of_mem _ (List.mem_append_left _ (List.mem_append_left _ (List.mem_append_left _ (List.mem_append_left _ (List.mem_append_left _ (List.mem_append_left _ (List.mem_append_right _ hw)))))))
  have hin_X1 : ∀ w ∈ u_ws RX1 TX1 12, w ∈ wsX11_straight := fun w hw => List.mem_cons_of_mem _ (List.mem_append_left _ (List.mem_append_left _ (List.mem_append_left _ (List.mem_append_left _ (List.mem_append_left _ (List.mem_append_right _ hw))))))
  have hin_X11 : ∀ w ∈ u_ws RX11 TX11 10, w ∈ wsX11_straight := fun w hw => List.mem_cons_of_mem _ (List.mem_append_left _ (List.mem_append_left _ (List.mem_append_left _ (List.mem_append_left _ (List.mem_append_left _ (List.mem_append_left _ (List.mem_append_left _ (List.mem_append_right _ hw))))))))
  have kl_22 : Cond.fieldLink RX11 22 "HalfBridge" "site" "LHalfBridge$Site;" ∈ wsX11_straight := by decide +kernel
  have kl_56 : Cond.fieldLink RX11 56 "HalfBridge" "foresight" "LHalfBridge$Foresight;" ∈ wsX11_straight := by decide +kernel
  have kl_217 : Cond.fieldLink RX11 217 "HalfBridge$Foresight" "hand" "LHalfBridge$FreeHand;" ∈ wsX11_straight := by decide +kernel
  have kl_225 : Cond.fieldLink RX11 225 "HalfBridge$FreeHand" "found" "Z" ∈ wsX11_straight := by decide +kernel
  have kl_229 : Cond.fieldLink RX11 229 "HalfBridge$FreeHand" "best" "I" ∈ wsX11_straight := by decide +kernel
  have hl := lv_entry ([.ref h, .int a1, .int a2, .int a3]) (n := 5) (Nat.le_of_ble_eq_true rfl)
  rw [lg_entry_eq]
  generalize (lg_sl ([.ref h, .int a1, .int a2, .int a3]) ++ List.replicate (5 - (lg_sl ([.ref h, .int a1, .int a2, .int a3])).length) Slot.unset).toArray = ls at hl ⊢
  have hl : lv_has ls 5 [(0, .ref h), (1, .int a1), (2, .int a2), (3, .int a3)] := hl
  obtain ⟨K0, hK0, hf⟩ := top_e hf
  unfold fh_X11_straight at hf
  refine lv_aload_n hx hb dX11_straight_0 rfl (lv_at hl 0 rfl) ?_
  refine lv_iload_n hx hb dX11_straight_1 rfl (lv_at hl 1 rfl) ?_
  refine lv_iload_n hx hb dX11_straight_2 rfl (lv_at hl 2 rfl) ?_
  obtain ⟨k1, hf⟩ := chk_b hf
  obtain ⟨x2, hc3, hf⟩ := bnd_b hf
  refine hcall_Vi (ex2 := True) (As := [.int a1, .int a2]) (rest := []) (n := 2) (by rw [(isk_k k1)]; decide) (hC_12 (isk_k k1)) rfl ⟨hx, hb, hml, hown, hts⟩ (ch_X11_isFreeHand l D cy h a1 a2 s0 x2 hc3) (cwV 2 hts gX11_straight_X11_isFreeHand rfl rfl rfl ⟨rfl, nd_X11_isFreeHand⟩ ⟨Nat.le_of_ble_eq_true rfl, Nat.le_of_ble_eq_true rfl⟩) hI (fun h => h.elim) (fun _ => ⟨trivial, trivial⟩) rfl hl.1 (Nat.le_of_ble_eq_true rfl) dX11_straight_3 ⟨Nat.le_of_ble_eq_true rfl, Nat.le_of_ble_eq_true rfl⟩ (fun H locs hI => ?_)
  refine lv_if_eq (tgt := 19) hx hb dX11_straight_6 (by decide) (fun c4 => ?_) (fun c4 => ?_)
  · replace hf := ifp c4 hf
    refine lv_ldc (v := -100000) hx hb hown (hts (.constant RX11 107 (-100000)) (by decide +kernel)) dX11_straight_19 ?_
    exact hret_i hx hb hr hlocks hI (by decide) (by decide) (fun _ => ⟨trivial, rfl⟩) (ret_e hK0 hf) dX11_straight_21
  · replace hf := ifn c4 hf
    refine lv_iload_n hx hb dX11_straight_9 rfl (lv_at hl 3 rfl) ?_
    refine lv_iconst (v := 0) hx hb dX11_straight_10 (by decide) ?_
    refine lv_bipush (v := 6) hx hb dX11_straight_11 (by decide) ?_
    obtain ⟨x5, hc6, hf⟩ := bnd_b hf
    refine hcall_Si (ex2 := True) (As := [.int a3, .int (0 : Int32), .int (6 : Int32)]) (rest := []) (n := 3) ⟨hx, hb, hml, hown, hts⟩ (ch_X11_isWithin l D cy a3 (0 : Int32) (6 : Int32) x2.1 x5 hc6) (va_cwS 3 hts gX11_straight_X11_isWithin rfl rfl rfl nd_X11_isWithin ⟨Nat.le_of_ble_eq_true rfl, Nat.le_of_ble_eq_true rfl⟩) hI (fun h => h.elim) (fun _ => ⟨trivial, trivial⟩) rfl hl.1 (Nat.le_of_ble_eq_true rfl) dX11_straight_13 ⟨Nat.le_of_ble_eq_true rfl, Nat.le_of_ble_eq_true rfl⟩ (fun H locs hI => ?_)
    refine lv_if_ne (tgt := 22) hx hb dX11_straight_16 (by decide) (fun c7 => ?_) (fun c7 => ?_)
    · replace hf := ifn c7 hf
      refine lv_aload_n hx hb dX11_straight_22 rfl (lv_at hl 0 rfl) ?_
      obtain ⟨k8, hf⟩ := chk_b hf
      refine hg_11_9 hx hb hts hin_X11 hown kl_56 hI (isk_k k8) dX11_straight_23 ?_
      obtain ⟨b9, hd10, hf⟩ := bnd_b hf
      obtain ⟨hq11, hk12⟩ := dr_e hd10
      refine W.eq (g2 := F0 m 26 ls [.ref b9]) (by rw [hq11]; rfl) ?_
      refine hg_0_1 hx hb hts hin_X0 hown kl_217 hI hk12 dX11_straight_26 ?_
      refine hq_astore (lv' := [(4, va_rf (gR x5.1 1 b9)), (0, .ref h), (1, .int a1), (2, .int a2), (3, .int a3)]) hx hb dX11_straight_29 hl (by decide) (by first | rfl | (simp [cat_rf, cat_i, cat_l, cat_r]; done) | (simp [cat_rf, cat_i, cat_l, cat_r]; decide)) (fun ls hl => ?_)
      refine hq_aload hx hb dX11_straight_31 (lv_at hl 0 rfl) ?_
      refine lv_aload_n hx hb dX11_straight_33 rfl (lv_at hl 1 rfl) ?_
      refine hg_11_4 hx hb hts hin_X11 hown kl_22 hI (isk_k k8) dX11_straight_34 ?_
      refine lv_iload_n hx hb dX11_straight_37 rfl (lv_at hl 2 rfl) ?_
      refine lv_aload_n hx hb dX11_straight_38 rfl (lv_at hl 1 rfl) ?_
      refine lv_iload_n hx hb dX11_straight_39 rfl (lv_at hl 3 rfl) ?_
      obtain ⟨x13, hc14, hf⟩ := bnd_b hf
      refine hcall_Vq (ex2 := True) (As := [.int a2]) (rest := [.int a1, va_rf (gR x5.1 1104 h), va_rf (gR x5.1 1 b9)]) (n := 1) (by rw [(isk_k k8)]; decide) (hC_12 (isk_k k8)) rfl ⟨hx, hb, hml, hown, hts⟩ (ch_X11_ruleOf l D cy h a2 x5.1 x13 hc14) (cwV 1 hts gX11_straight_X11_ruleOf rfl rfl rfl ⟨rfl, nd_X11_ruleOf⟩ ⟨Nat.le_of_ble_eq_true rfl, Nat.le_of_ble_eq_true rfl⟩) hI (fun h => h.elim) (fun _ => ⟨trivial, trivial⟩) rfl hl.1 (by simp [cat_rf, cat_i, cat_l, cat_r]) dX11_straight_40 ⟨Nat.le_of_ble_eq_true rfl, Nat.le_of_ble_eq_true rfl⟩ (fun H locs hI => ?_)
      obtain ⟨b15, hd16, hf⟩ := bnd_b hf
      obtain ⟨hq17, hk18⟩ := dr_e hd16
      refine W.eq (g2 := F0 m 43 ls [va_rf x13.2, .int a1, va_rf (gR x5.1 1104 h), .ref b15]) (by rw [hq17]; rfl) ?_
      obtain ⟨x19, hc20, hf⟩ := bnd_b hf
      refine hcall_Vv (ex2 := True) (As := [va_rf (gR x5.1 1104 h), .int a1, va_rf x13.2]) (rest := []) (n := 3) (by rw [hk18]; decide) (hC_2 hk18) rfl ⟨hx, hb, hml, hown, hts⟩ (ch_X1_goStraight l D cy b15 (gR x5.1 1104 h) a1 x13.2 x13.1 x19 hc20) (cwV 3 hts gX11_straight_X1_goStraight rfl rfl rfl ⟨rfl, nd_X1_goStraight⟩ ⟨Nat.le_of_ble_eq_true rfl, Nat.le_of_ble_eq_true rfl⟩) hI (fun h => h.elim) (fun _ => ⟨trivial, trivial⟩) rfl hl.1 (Nat.le_of_ble_eq_true rfl) dX11_straight_43 ⟨Nat.le_of_ble_eq_true rfl, Nat.le_of_ble_eq_true rfl⟩ (fun H locs hI => ?_)
      refine hq_aload hx hb dX11_straight_46 (lv_at hl 0 rfl) ?_
      refine W.eq (g2 := F0 m 48 ls [.ref b15]) (by rw [hq17]; rfl) ?_
      obtain ⟨k21, hf⟩ := chk_b hf
      refine hg_1_0 hx hb hts hin_X1 hown kl_225 hI (isk_k k21) dX11_straight_48 ?_
      refine lv_if_ne (tgt := 57) hx hb dX11_straight_51 (by decide) (fun c22 => ?_) (fun c22 => ?_)
      · replace hf := ifn c22 hf
        refine lv_iload_n hx hb dX11_straight_57 rfl (lv_at hl 4 rfl) ?_
        refine lv_if_ne (tgt := 69) hx hb dX11_straight_58 (by decide) (fun c23 => ?_) (fun c23 => ?_)
        · replace hf := ifn c23 hf
          refine hq_aload hx hb dX11_straight_69 (lv_at hl 0 rfl) ?_
          refine lv_iload_n hx hb dX11_straight_71 rfl (lv_at hl 4 rfl) ?_
          refine lv_iconst (v := 1) hx hb dX11_straight_72 (by decide) ?_
          refine lv_isub hx hb dX11_straight_73 ?_
          refine W.eq (g2 := F0 m 74 ls [.int (a3 - (1 : Int32)), .ref b15]) (by rw [hq17]; rfl) ?_
          obtain ⟨x24, hc25, hf⟩ := bnd_b hf
          refine hcall_Vi (ex2 := True) (As := [.int (a3 - (1 : Int32))]) (rest := []) (n := 1) (by rw [(isk_k k21)]; decide) (hC_2 (isk_k k21)) rfl ⟨hx, hb, hml, hown, hts⟩ (ch_X1_bestTurnOn l D cy b15 (a3 - (1 : Int32)) x19 x24 hc25) (cwV 1 hts gX11_straight_X1_bestTurnOn rfl rfl rfl ⟨rfl, nd_X1_bestTurnOn⟩ ⟨Nat.le_of_ble_eq_true rfl, Nat.le_of_ble_eq_true rfl⟩) hI (fun h => h.elim) (fun _ => ⟨trivial, trivial⟩) rfl hl.1 (Nat.le_of_ble_eq_true rfl) dX11_straight_74 ⟨Nat.le_of_ble_eq_true rfl, Nat.le_of_ble_eq_true rfl⟩ (fun H locs hI => ?_)
          exact hret_i hx hb hr hlocks hI (by decide) (by decide) (fun _ => ⟨trivial, rfl⟩) (ret_e hK0 hf) dX11_straight_77
        · replace hf := ifp c23 hf
          refine hq_aload hx hb dX11_straight_61 (lv_at hl 0 rfl) ?_
          refine W.eq (g2 := F0 m 63 ls [.ref b15]) (by rw [hq17]; rfl) ?_
          refine hg_1_1 hx hb hts hin_X1 hown kl_229 hI (isk_k k21) dX11_straight_63 ?_
          refine lv_goto (tgt := 77) hx hb dX11_straight_66 (by decide) ?_
          exact hret_i hx hb hr hlocks hI (by decide) (by decide) (fun _ => ⟨trivial, rfl⟩) (ret_e hK0 hf) dX11_straight_77
      · replace hf := ifp c22 hf
        refine lv_bipush (v := -2) hx hb dX11_straight_54 (by decide) ?_
        exact hret_i hx hb hr hlocks hI (by decide) (by decide) (fun _ => ⟨trivial, rfl⟩) (ret_e hK0 hf) dX11_straight_56
    · replace hf := ifp c7 hf
      refine lv_ldc (v := -100000) hx hb hown (hts (.constant RX11 107 (-100000)) (by decide +kernel)) dX11_straight_19 ?_
      exact hret_i hx hb hr hlocks hI (by decide) (by decide) (fun _ => ⟨trivial, rfl⟩) (ret_e hK0 hf) dX11_straight_21

theorem nd_X11_tip : yX11_tip.cls ≠ "java/lang/invoke/MethodHandle" ∧ yX11_tip.cls ≠ "java/lang/invoke/VarHandle" ∧ (parseMethodDescriptor yX11_tip.desc).map (fun d => d.parameters.length) = some 2 := by decide +kernel
set_option maxHeartbeats 4000000 in
set_option maxRecDepth 100000 in
theorem ch_X11_tip (l : Launch) (D : va_G) (cy : Nat → ClassId) (h : Nat) (a1 : Int32) (a2 : Int32) (s0 : HSt) (out : HSt × Int32) (hf : fh_X11_tip h a1 a2 s0 = some out) : CHi l D cy yX11_tip wsX11_tip { frames := 2, cells := 0, slots := 0, locals := 63 } 0 0 False True [.ref h, .int a1, .int a2] s0 out := by
  refine Met.ofW (cc := cX11_tip) (maxL := 5) (ret := (some .int)) (by decide) rfl ?_
  intro p e s m args below meth c s₁ B hml hv
  obtain ⟨rfl, hP, hK, hD0, hkx, hsz, hal⟩ := hv
  have hx := B.exec
  have hb := B.bytes
  have hr := B.returns
  have hts := atoms_spec (ws := wsX11_tip) B.pre
  have hown : s.vm.findClass RX11 = some m.cls := findClass_of_methodNamed B.named
  have hlocks := B.notSynchronized
  have hI : HI D cy s s0 s0 s.heap [] 0 False True := ⟨hK, hP, hD0.weaken (fun k q hk _ => Or.inl (pl_mem hk)), va_S.rf, hsz.1, hkx, ⟨hsz, hal⟩, fun _ => rfl, Nat.le_refl _⟩
  have hin_X11 : ∀ w ∈ u_ws RX11 TX11 10, w ∈ wsX11_tip := fun w hw => List.mem_cons_of_mem _ (List.mem_append_left _ (List.mem_append_left _ (List.mem_append_left _ (List.mem_append_right _ hw))))
  have hin_X4 : ∀ w ∈ u_ws RX4 TX4 9, w ∈ wsX11_tip := fun w hw => List.mem_cons_of_mem _ (List.mem_append_right _ hw)
  have hin_X8 : ∀ w ∈ u_ws RX8 TX8 5, w ∈ wsX11_tip := fun w hw => List.mem_cons_of_mem _ (List.mem_append_left _ (List.mem_append_left _ (List.mem_append_right _ hw)))
  have hin_X9 : ∀ w ∈ u_ws RX9 TX9 5, w ∈ wsX11_tip := fun w hw => List.mem_cons_of_mem _ (List.mem_append_left _ (List.mem_append_right _ hw))
  have kl_22 : Cond.fieldLink RX11 22 "HalfBridge" "site" "LHalfBridge$Site;" ∈ wsX11_tip := by decide +kernel
  have kl_93 : Cond.fieldLink RX11 93 "HalfBridge$Site" "span" "LHalfBridge$Span;" ∈ wsX11_tip := by decide +kernel
  have kl_119 : Cond.fieldLink RX11 119 "HalfBridge$Span" "day" "I" ∈ wsX11_tip := by decide +kernel
  have kl_140 : Cond.fieldLink RX11 140 "HalfBridge$Span" "river" "LHalfBridge$River;" ∈ wsX11_tip := by decide +kernel
  have kl_144 : Cond.fieldLink RX11 144 "HalfBridge$River" "eyes" "[I" ∈ wsX11_tip := by decide +kernel
  have hl := lv_entry ([.ref h, .int a1, .int a2]) (n := 5) (Nat.le_of_ble_eq_true rfl)
  rw [lg_entry_eq]
  generalize (lg_sl ([.ref h, .int a1, .int a2]) ++ List.replicate (5 - (lg_sl ([.ref h, .int a1, .int a2])).length) Slot.unset).toArray = ls at hl ⊢
  have hl : lv_has ls 5 [(0, .ref h), (1, .int a1), (2, .int a2)] := hl
  obtain ⟨K0, hK0, hf⟩ := top_e hf
  unfold fh_X11_tip at hf
  refine lv_aload_n hx hb dX11_tip_0 rfl (lv_at hl 0 rfl) ?_
  obtain ⟨k1, hf⟩ := chk_b hf
  obtain ⟨x2, hc3, hf⟩ := bnd_b hf
  refine hcall_Vi (ex2 := True) (As := []) (rest := []) (n := 0) (by rw [(isk_k k1)]; decide) (hC_12 (isk_k k1)) rfl ⟨hx, hb, hml, hown, hts⟩ (ch_X11_hasRiver l D cy h s0 x2 hc3) (cwV 0 hts gX11_tip_X11_hasRiver rfl rfl rfl ⟨rfl, nd_X11_hasRiver⟩ ⟨Nat.le_of_ble_eq_true rfl, Nat.le_of_ble_eq_true rfl⟩) hI (fun h => h.elim) (fun _ => ⟨trivial, trivial⟩) rfl hl.1 (Nat.le_of_ble_eq_true rfl) dX11_tip_1 ⟨Nat.le_of_ble_eq_true rfl, Nat.le_of_ble_eq_true rfl⟩ (fun H locs hI => ?_)
  refine lv_if_eq (tgt := 14) hx hb dX11_tip_4 (by decide) (fun c4 => ?_) (fun c4 => ?_)
  · replace hf := ifp c4 hf
    refine lv_ldc (v := -100000) hx hb hown (hts (.constant RX11 107 (-100000)) (by decide +kernel)) dX11_tip_14 ?_
    exact hret_i hx hb hr hlocks hI (by decide) (by decide) (fun _ => ⟨trivial, rfl⟩) (ret_e hK0 hf) dX11_tip_16
  · replace hf := ifn c4 hf
    refine lv_iload_n hx hb dX11_tip_7 rfl (lv_at hl 1 rfl) ?_
    obtain ⟨x5, hc6, hf⟩ := bnd_b hf
    refine hcall_Si (ex2 := True) (As := [.int a1]) (rest := []) (n := 1) ⟨hx, hb, hml, hown, hts⟩ (ch_X11_isSide l D cy a1 x2.1 x5 hc6) (va_cwS 1 hts gX11_tip_X11_isSide rfl rfl rfl nd_X11_isSide ⟨Nat.le_of_ble_eq_true rfl, Nat.le_of_ble_eq_true rfl⟩) hI (fun h => h.elim) (fun _ => ⟨trivial, trivial⟩) rfl hl.1 (Nat.le_of_ble_eq_true rfl) dX11_tip_8 ⟨Nat.le_of_ble_eq_true rfl, Nat.le_of_ble_eq_true rfl⟩ (fun H locs hI => ?_)
    refine lv_if_ne (tgt := 17) hx hb dX11_tip_11 (by decide) (fun c7 => ?_) (fun c7 => ?_)
    · replace hf := ifn c7 hf
      refine lv_aload_n hx hb dX11_tip_17 rfl (lv_at hl 0 rfl) ?_
      obtain ⟨k8, hf⟩ := chk_b hf
      refine hg_11_4 hx hb hts hin_X11 hown kl_22 hI (isk_k k8) dX11_tip_18 ?_
      obtain ⟨b9, hd10, hf⟩ := bnd_b hf
      obtain ⟨hq11, hk12⟩ := dr_e hd10
      refine W.eq (g2 := F0 m 21 ls [.ref b9]) (by rw [hq11]; rfl) ?_
      refine hg_8_0 hx hb hts hin_X8 hown kl_93 hI hk12 dX11_tip_21 ?_
      refine hq_astore_n (lv' := [(3, va_rf (gR x5.1 800 b9)), (0, .ref h), (1, .int a1), (2, .int a2)]) hx hb dX11_tip_24 rfl hl (by decide) (by first | rfl | (simp [cat_rf, cat_i, cat_l, cat_r]; done) | (simp [cat_rf, cat_i, cat_l, cat_r]; decide)) (fun ls hl => ?_)
      refine lv_aload_n hx hb dX11_tip_25 rfl (lv_at hl 1 rfl) ?_
      refine hg_11_4 hx hb hts hin_X11 hown kl_22 hI (isk_k k8) dX11_tip_26 ?_
      refine lv_iload_n hx hb dX11_tip_29 rfl (lv_at hl 2 rfl) ?_
      refine hq_aload_n hx hb dX11_tip_30 rfl (lv_at hl 0 rfl) ?_
      obtain ⟨b13, hd14, hf⟩ := bnd_b hf
      obtain ⟨hq15, hk16⟩ := dr_e hd14
      refine W.eq (g2 := F0 m 31 ls [.ref b13, .int a1, va_rf (gR x5.1 1104 h)]) (by rw [hq15]; rfl) ?_
      refine hg_9_1 hx hb hts hin_X9 hown kl_119 hI hk16 dX11_tip_31 ?_
      refine W.eq (g2 := F0 m 34 ls [.int (gI x5.1 901 b13), .int a1, .ref b9]) (by rw [hq11]; rfl) ?_
      obtain ⟨x17, hc18, hf⟩ := bnd_b hf
      refine hcall_Vi (ex2 := True) (As := [.int a1, .int (gI x5.1 901 b13)]) (rest := []) (n := 2) (by rw [hk12]; decide) (hC_9 hk12) rfl ⟨hx, hb, hml, hown, hts⟩ (ch_X8_errorOn l D cy b9 a1 (gI x5.1 901 b13) x5.1 x17 hc18) (cwV 2 hts gX11_tip_X8_errorOn rfl rfl rfl ⟨rfl, nd_X8_errorOn⟩ ⟨Nat.le_of_ble_eq_true rfl, Nat.le_of_ble_eq_true rfl⟩) hI (fun h => h.elim) (fun _ => ⟨trivial, trivial⟩) rfl hl.1 (Nat.le_of_ble_eq_true rfl) dX11_tip_34 ⟨Nat.le_of_ble_eq_true rfl, Nat.le_of_ble_eq_true rfl⟩ (fun H locs hI => ?_)
      refine lv_istore (lv' := [(4, .int x17.2), (3, va_rf (gR x5.1 800 b9)), (0, .ref h), (1, .int a1), (2, .int a2)]) hx hb dX11_tip_37 hl (by decide) (by first | rfl | (simp [cat_rf, cat_i, cat_l, cat_r]; done) | (simp [cat_rf, cat_i, cat_l, cat_r]; decide)) (fun ls hl => ?_)
      refine lv_iload_n hx hb dX11_tip_39 rfl (lv_at hl 4 rfl) ?_
      by_cases c19 : a2 = 0
      · replace hf := ifp c19 hf
        refine lv_tableIn (off := 44) (tgt := 84) hx hb dX11_tip_40 (by rw [c19]; decide) (by rw [c19]; decide) (by rw [c19]; rfl) (by decide) ?_
        refine hq_aload_n hx hb dX11_tip_84 rfl (lv_at hl 1 rfl) ?_
        refine lv_iload_n hx hb dX11_tip_85 rfl (lv_at hl 3 rfl) ?_
        refine W.eq (g2 := F0 m 86 ls [.int a1, .ref b13]) (by rw [hq15]; rfl) ?_
        obtain ⟨k26, hf⟩ := chk_b hf
        obtain ⟨x27, hc28, hf⟩ := bnd_b hf
        refine hcall_Vi (ex2 := True) (As := [.int a1]) (rest := []) (n := 1) (by rw [(isk_k k26)]; decide) (hC_10 (isk_k k26)) rfl ⟨hx, hb, hml, hown, hts⟩ (ch_X9_yardsOf l D cy b13 a1 x17.1 x27 hc28) (cwV 1 hts gX11_tip_X9_yardsOf rfl rfl rfl ⟨rfl, nd_X9_yardsOf⟩ ⟨Nat.le_of_ble_eq_true rfl, Nat.le_of_ble_eq_true rfl⟩) hI (fun h => h.elim) (fun _ => ⟨trivial, trivial⟩) rfl hl.1 (Nat.le_of_ble_eq_true rfl) dX11_tip_86 ⟨Nat.le_of_ble_eq_true rfl, Nat.le_of_ble_eq_true rfl⟩ (fun H locs hI => ?_)
        exact hret_i hx hb hr hlocks hI (by decide) (by decide) (fun _ => ⟨trivial, rfl⟩) (ret_e hK0 hf) dX11_tip_89
      replace hf := ifn c19 hf
      by_cases c20 : a2 = 1
      · replace hf := ifp c20 hf
        refine lv_tableIn (off := 50) (tgt := 90) hx hb dX11_tip_40 (by rw [c20]; decide) (by rw [c20]; decide) (by rw [c20]; rfl) (by decide) ?_
        refine hq_aload_n hx hb dX11_tip_90 rfl (lv_at hl 1 rfl) ?_
        refine lv_iload_n hx hb dX11_tip_91 rfl (lv_at hl 3 rfl) ?_
        refine W.eq (g2 := F0 m 92 ls [.int a1, .ref b13]) (by rw [hq15]; rfl) ?_
        obtain ⟨k29, hf⟩ := chk_b hf
        obtain ⟨x30, hc31, hf⟩ := bnd_b hf
        refine hcall_Vi (ex2 := True) (As := [.int a1]) (rest := []) (n := 1) (by rw [(isk_k k29)]; decide) (hC_10 (isk_k k29)) rfl ⟨hx, hb, hml, hown, hts⟩ (ch_X9_tipLine l D cy b13 a1 x17.1 x30 hc31) (cwV 1 hts gX11_tip_X9_tipLine rfl rfl rfl ⟨rfl, nd_X9_tipLine⟩ ⟨Nat.le_of_ble_eq_true rfl, Nat.le_of_ble_eq_true rfl⟩) hI (fun h => h.elim) (fun _ => ⟨trivial, trivial⟩) rfl hl.1 (Nat.le_of_ble_eq_true rfl) dX11_tip_92 ⟨Nat.le_of_ble_eq_true rfl, Nat.le_of_ble_eq_true rfl⟩ (fun H locs hI => ?_)
        exact hret_i hx hb hr hlocks hI (by decide) (by decide) (fun _ => ⟨trivial, rfl⟩) (ret_e hK0 hf) dX11_tip_95
      replace hf := ifn c20 hf
      by_cases c21 : a2 = 2
      · replace hf := ifp c21 hf
        refine lv_tableIn (off := 56) (tgt := 96) hx hb dX11_tip_40 (by rw [c21]; decide) (by rw [c21]; decide) (by rw [c21]; rfl) (by decide) ?_
        refine hq_aload_n hx hb dX11_tip_96 rfl (lv_at hl 1 rfl) ?_
        refine lv_iload_n hx hb dX11_tip_97 rfl (lv_at hl 3 rfl) ?_
        refine W.eq (g2 := F0 m 98 ls [.int a1, .ref b13]) (by rw [hq15]; rfl) ?_
        obtain ⟨k32, hf⟩ := chk_b hf
        obtain ⟨x33, hc34, hf⟩ := bnd_b hf
        refine hcall_Vi (ex2 := True) (As := [.int a1]) (rest := []) (n := 1) (by rw [(isk_k k32)]; decide) (hC_10 (isk_k k32)) rfl ⟨hx, hb, hml, hown, hts⟩ (ch_X9_tipHeight l D cy b13 a1 x17.1 x33 hc34) (cwV 1 hts gX11_tip_X9_tipHeight rfl rfl rfl ⟨rfl, nd_X9_tipHeight⟩ ⟨Nat.le_of_ble_eq_true rfl, Nat.le_of_ble_eq_true rfl⟩) hI (fun h => h.elim) (fun _ => ⟨trivial, trivial⟩) rfl hl.1 (Nat.le_of_ble_eq_true rfl) dX11_tip_98 ⟨Nat.le_of_ble_eq_true rfl, Nat.le_of_ble_eq_true rfl⟩ (fun H locs hI => ?_)
        exact hret_i hx hb hr hlocks hI (by decide) (by decide) (fun _ => ⟨trivial, rfl⟩) (ret_e hK0 hf) dX11_tip_101
      replace hf := ifn c21 hf
      by_cases c22 : a2 = 3
      · replace hf := ifp c22 hf
        refine lv_tableIn (off := 62) (tgt := 102) hx hb dX11_tip_40 (by rw [c22]; decide) (by rw [c22]; decide) (by rw [c22]; rfl) (by decide) ?_
        refine hq_aload_n hx hb dX11_tip_102 rfl (lv_at hl 1 rfl) ?_
        refine lv_iload_n hx hb dX11_tip_103 rfl (lv_at hl 3 rfl) ?_
        refine W.eq (g2 := F0 m 104 ls [.int a1, .ref b13]) (by rw [hq15]; rfl) ?_
        obtain ⟨k35, hf⟩ := chk_b hf
        obtain ⟨x36, hc37, hf⟩ := bnd_b hf
        refine hcall_Vi (ex2 := True) (As := [.int a1]) (rest := []) (n := 1) (by rw [(isk_k k35)]; decide) (hC_10 (isk_k k35)) rfl ⟨hx, hb, hml, hown, hts⟩ (ch_X9_crookedness l D cy b13 a1 x17.1 x36 hc37) (cwV 1 hts gX11_tip_X9_crookedness rfl rfl rfl ⟨rfl, nd_X9_crookedness⟩ ⟨Nat.le_of_ble_eq_true rfl, Nat.le_of_ble_eq_true rfl⟩) hI (fun h => h.elim) (fun _ => ⟨trivial, trivial⟩) rfl hl.1 (Nat.le_of_ble_eq_true rfl) dX11_tip_104 ⟨Nat.le_of_ble_eq_true rfl, Nat.le_of_ble_eq_true rfl⟩ (fun H locs hI => ?_)
        exact hret_i hx hb hr hlocks hI (by decide) (by decide) (fun _ => ⟨trivial, rfl⟩) (ret_e hK0 hf) dX11_tip_107
      replace hf := ifn c22 hf
      by_cases c23 : a2 = 4
      · replace hf := ifp c23 hf
        refine lv_tableIn (off := 68) (tgt := 108) hx hb dX11_tip_40 (by rw [c23]; decide) (by rw [c23]; decide) (by rw [c23]; rfl) (by decide) ?_
        refine hq_aload_n hx hb dX11_tip_108 rfl (lv_at hl 1 rfl) ?_
        refine lv_iload_n hx hb dX11_tip_109 rfl (lv_at hl 3 rfl) ?_
        refine lv_iload hx hb dX11_tip_110 (lv_at hl 0 rfl) ?_
        refine W.eq (g2 := F0 m 112 ls [.int x17.2, .int a1, .ref b13]) (by rw [hq15]; rfl) ?_
        obtain ⟨k38, hf⟩ := chk_b hf
        obtain ⟨x39, hc40, hf⟩ := bnd_b hf
        refine hcall_Vi (ex2 := True) (As := [.int a1, .int x17.2]) (rest := []) (n := 2) (by rw [(isk_k k38)]; decide) (hC_10 (isk_k k38)) rfl ⟨hx, hb, hml, hown, hts⟩ (ch_X9_seenLine l D cy b13 a1 x17.2 x17.1 x39 hc40) (cwV 2 hts gX11_tip_X9_seenLine rfl rfl rfl ⟨rfl, nd_X9_seenLine⟩ ⟨Nat.le_of_ble_eq_true rfl, Nat.le_of_ble_eq_true rfl⟩) hI (fun h => h.elim) (fun _ => ⟨trivial, trivial⟩) rfl hl.1 (Nat.le_of_ble_eq_true rfl) dX11_tip_112 ⟨Nat.le_of_ble_eq_true rfl, Nat.le_of_ble_eq_true rfl⟩ (fun H locs hI => ?_)
        exact hret_i hx hb hr hlocks hI (by decide) (by decide) (fun _ => ⟨trivial, rfl⟩) (ret_e hK0 hf) dX11_tip_115
      replace hf := ifn c23 hf
      by_cases c24 : a2 = 5
      · replace hf := ifp c24 hf
        refine lv_tableIn (off := 76) (tgt := 116) hx hb dX11_tip_40 (by rw [c24]; decide) (by rw [c24]; decide) (by rw [c24]; rfl) (by decide) ?_
        refine hq_aload_n hx hb dX11_tip_116 rfl (lv_at hl 1 rfl) ?_
        refine lv_iload_n hx hb dX11_tip_117 rfl (lv_at hl 3 rfl) ?_
        refine lv_iload hx hb dX11_tip_118 (lv_at hl 0 rfl) ?_
        refine W.eq (g2 := F0 m 120 ls [.int x17.2, .int a1, .ref b13]) (by rw [hq15]; rfl) ?_
        obtain ⟨k41, hf⟩ := chk_b hf
        obtain ⟨x42, hc43, hf⟩ := bnd_b hf
        refine hcall_Vi (ex2 := True) (As := [.int a1, .int x17.2]) (rest := []) (n := 2) (by rw [(isk_k k41)]; decide) (hC_10 (isk_k k41)) rfl ⟨hx, hb, hml, hown, hts⟩ (ch_X9_seenHeight l D cy b13 a1 x17.2 x17.1 x42 hc43) (cwV 2 hts gX11_tip_X9_seenHeight rfl rfl rfl ⟨rfl, nd_X9_seenHeight⟩ ⟨Nat.le_of_ble_eq_true rfl, Nat.le_of_ble_eq_true rfl⟩) hI (fun h => h.elim) (fun _ => ⟨trivial, trivial⟩) rfl hl.1 (Nat.le_of_ble_eq_true rfl) dX11_tip_120 ⟨Nat.le_of_ble_eq_true rfl, Nat.le_of_ble_eq_true rfl⟩ (fun H locs hI => ?_)
        exact hret_i hx hb hr hlocks hI (by decide) (by decide) (fun _ => ⟨trivial, rfl⟩) (ret_e hK0 hf) dX11_tip_123
      replace hf := ifn c24 hf
      by_cases c25 : a2 = 6
      · replace hf := ifp c25 hf
        refine lv_tableIn (off := 84) (tgt := 124) hx hb dX11_tip_40 (by rw [c25]; decide) (by rw [c25]; decide) (by rw [c25]; rfl) (by decide) ?_
        refine hq_aload_n hx hb dX11_tip_124 rfl (lv_at hl 1 rfl) ?_
        refine W.eq (g2 := F0 m 125 ls [.ref b13]) (by rw [hq15]; rfl) ?_
        obtain ⟨k44, hf⟩ := chk_b hf
        refine hg_9_0 hx hb hts hin_X9 hown kl_140 hI (isk_k k44) dX11_tip_125 ?_
        obtain ⟨b45, hd46, hf⟩ := bnd_b hf
        obtain ⟨hq47, hk48⟩ := dr_e hd46
        refine W.eq (g2 := F0 m 128 ls [.ref b45]) (by rw [hq47]; rfl) ?_
        refine hg_4_6 hx hb hts hin_X4 hown kl_144 hI hk48 dX11_tip_128 ?_
        refine lv_iload_n hx hb dX11_tip_131 rfl (lv_at hl 3 rfl) ?_
        obtain ⟨b49, hd50, hf⟩ := bnd_b hf
        obtain ⟨hq51, hk52⟩ := dr_e hd50
        refine W.eq (g2 := F0 m 132 ls [.int a1, .ref b49]) (by rw [hq51]; rfl) ?_
        obtain ⟨k53, hf⟩ := chk_b hf
        refine hl_I hx hb hI hk52 k53 dX11_tip_132 ?_
        exact hret_i hx hb hr hlocks hI (by decide) (by decide) (fun _ => ⟨trivial, rfl⟩) (ret_e hK0 hf) dX11_tip_133
      replace hf := ifn c25 hf
      refine lv_tableOut (tgt := 134) hx hb dX11_tip_40 (tsw_out (fun k k1 k2 => ?_)) (by decide) ?_
      · rcases (show k = 0 ∨ k = 1 ∨ k = 2 ∨ k = 3 ∨ k = 4 ∨ k = 5 ∨ k = 6 by omega) with rfl | rfl | rfl | rfl | rfl | rfl | rfl
        · exact c19
        · exact c20
        · exact c21
        · exact c22
        · exact c23
        · exact c24
        · exact c25
      · refine lv_ldc (v := -100000) hx hb hown (hts (.constant RX11 107 (-100000)) (by decide +kernel)) dX11_tip_134 ?_
        exact hret_i hx hb hr hlocks hI (by decide) (by decide) (fun _ => ⟨trivial, rfl⟩) (ret_e hK0 hf) dX11_tip_136
    · replace hf := ifp c7 hf
      refine lv_ldc (v := -100000) hx hb hown (hts (.constant RX11 107 (-100000)) (by decide +kernel)) dX11_tip_14 ?_
      exact hret_i hx hb hr hlocks hI (by decide) (by decide) (fun _ => ⟨trivial, rfl⟩) (ret_e hK0 hf) dX11_tip_16
