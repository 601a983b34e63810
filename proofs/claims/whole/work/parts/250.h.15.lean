theorem nd_X11_erred : yX11_erred.cls ≠ "java/lang/invoke/MethodHandle" ∧ yX11_erred.cls ≠ "java/lang/invoke/VarHandle" ∧ (parseMethodDescriptor yX11_erred.desc).map (fun d => d.parameters.length) = some 5 := by decide +kernel
set_option maxHeartbeats 4000000 in
set_option maxRecDepth 100000 in
theorem ch_X11_erred (l : Launch) (D : va_G) (cy : Nat → ClassId) (h : Nat) (a1 : Int32) (a2 : Int32) (a3 : Int32) (a4 : Int32) (a5 : Int32) (s0 : HSt) (out : HSt × Int32) (hf : fh_X11_erred h a1 a2 a3 a4 a5 s0 = some out) : CHi l D cy yX11_erred wsX11_erred { frames := 58, cells := 0, slots := 0, locals := 2250 } 0 0 False True [.ref h, .int a1, .int a2, .int a3, .int a4, .int a5] s0 out := by
  refine Met.ofW (cc := cX11_erred) (maxL := 7) (ret := (some .int)) (by decide) rfl ?_
  intro p e s m args below meth c s₁ B hml hv
  obtain ⟨rfl, hP, hK, hD0, hkx, hsz, hal⟩ := hv
  have hx := B.exec
  have hb := B.bytes
  have hr := B.returns
  have hts := atoms_spec (ws := wsX11_erred) B.pre
  have hown : s.vm.findClass RX11 = some m.cls := findClass_of_methodNamed B.named
  have hlocks := B.notSynchronized
  have hI : HI D cy s s0 s0 s.heap [] 0 False True := ⟨hK, hP, hD0.weaken (fun k q hk _ => Or.inl (pl_mem hk)), va_S.rf, hsz.1, hkx, ⟨hsz, hal⟩, fun _ => rfl, Nat.le_refl _⟩
  have hin_X0 : ∀ w ∈ u_ws RX0 TX0 11, w ∈ wsX11_erred := fun w hw => List.mem_cons_of_mem _ (List.mem_append_left _ (List.mem_append_left _ (List.mem_append_left _ (List.mem_append_left _ (List.mem_append_left _ (List.mem_append_left _ (List.mem_append_right _ hw)))))))
  have hin_X11 : ∀ w ∈ u_ws RX11 TX11 10, w ∈ wsX11_erred := fun w hw => List.mem_cons_of_mem _ (List.mem_append_left _ (List.mem_append_left _ (List.mem_append_left _ (List.mem_append_left _ (List.mem_append_left _ (List.mem_append_left _ (List.mem_append_left _ (List.mem_append_right _ hw))))))))
  have hin_X2 : ∀ w ∈ u_ws RX2 TX2 11, w ∈ wsX11_erred := fun w hw => List.mem_cons_of_mem _ (List.mem_append_left _ (List.mem_append_left _ (List.mem_append_left _ (List.mem_append_left _ (List.mem_append_left _ (List.mem_append_right _ hw))))))
  have kl_22 : Cond.fieldLink RX11 22 "HalfBridge" "site" "LHalfBridge$Site;" ∈ wsX11_erred := by decide +kernel
  have kl_56 : Cond.fieldLink RX11 56 "HalfBridge" "foresight" "LHalfBridge$Foresight;" ∈ wsX11_erred := by decide +kernel
  have kl_251 : Cond.fieldLink RX11 251 "HalfBridge$Foresight" "inquest" "LHalfBridge$Inquest;" ∈ wsX11_erred := by decide +kernel
  have kl_259 : Cond.fieldLink RX11 259 "HalfBridge$Inquest" "rows" "I" ∈ wsX11_erred := by decide +kernel
  have hl := lv_entry ([.ref h, .int a1, .int a2, .int a3, .int a4, .int a5]) (n := 7) (Nat.le_of_ble_eq_true rfl)
  rw [lg_entry_eq]
  generalize (lg_sl ([.ref h, .int a1, .int a2, .int a3, .int a4, .int a5]) ++ List.replicate (7 - (lg_sl ([.ref h, .int a1, .int a2, .int a3, .int a4, .int a5])).length) Slot.unset).toArray = ls at hl ⊢
  have hl : lv_has ls 7 [(0, .ref h), (1, .int a1), (2, .int a2), (3, .int a3), (4, .int a4), (5, .int a5)] := hl
  obtain ⟨K0, hK0, hf⟩ := top_e hf
  unfold fh_X11_erred at hf
  refine lv_aload_n hx hb dX11_erred_0 rfl (lv_at hl 0 rfl) ?_
  refine lv_iload_n hx hb dX11_erred_1 rfl (lv_at hl 1 rfl) ?_
  refine lv_iload_n hx hb dX11_erred_2 rfl (lv_at hl 2 rfl) ?_
  obtain ⟨k1, hf⟩ := chk_b hf
  obtain ⟨x2, hc3, hf⟩ := bnd_b hf
  refine hcall_Vi (ex2 := True) (As := [.int a1, .int a2]) (rest := []) (n := 2) (by rw [(isk_k k1)]; decide) (hC_12 (isk_k k1)) rfl ⟨hx, hb, hml, hown, hts⟩ (ch_X11_areRulesAtRiver l D cy h a1 a2 s0 x2 hc3) (cwV 2 hts gX11_erred_X11_areRulesAtRiver rfl rfl rfl ⟨rfl, nd_X11_areRulesAtRiver⟩ ⟨Nat.le_of_ble_eq_true rfl, Nat.le_of_ble_eq_true rfl⟩) hI (fun h => h.elim) (fun _ => ⟨trivial, trivial⟩) rfl hl.1 (Nat.le_of_ble_eq_true rfl) dX11_erred_3 ⟨Nat.le_of_ble_eq_true rfl, Nat.le_of_ble_eq_true rfl⟩ (fun H locs hI => ?_)
  refine lv_if_eq (tgt := 41) hx hb dX11_erred_6 (by decide) (fun c4 => ?_) (fun c4 => ?_)
  · replace hf := ifp c4 hf
    refine lv_iconst (v := -1) hx hb dX11_erred_41 (by decide) ?_
    exact hret_i hx hb hr hlocks hI (by decide) (by decide) (fun _ => ⟨trivial, rfl⟩) (ret_e hK0 hf) dX11_erred_42
  · replace hf := ifn c4 hf
    refine lv_iload_n hx hb dX11_erred_9 rfl (lv_at hl 3 rfl) ?_
    refine lv_iconst (v := 1) hx hb dX11_erred_10 (by decide) ?_
    refine lv_iconst (v := 4) hx hb dX11_erred_11 (by decide) ?_
    obtain ⟨x5, hc6, hf⟩ := bnd_b hf
    refine hcall_Si (ex2 := True) (As := [.int a3, .int (1 : Int32), .int (4 : Int32)]) (rest := []) (n := 3) ⟨hx, hb, hml, hown, hts⟩ (ch_X11_isWithin l D cy a3 (1 : Int32) (4 : Int32) x2.1 x5 hc6) (va_cwS 3 hts gX11_erred_X11_isWithin rfl rfl rfl nd_X11_isWithin ⟨Nat.le_of_ble_eq_true rfl, Nat.le_of_ble_eq_true rfl⟩) hI (fun h => h.elim) (fun _ => ⟨trivial, trivial⟩) rfl hl.1 (Nat.le_of_ble_eq_true rfl) dX11_erred_12 ⟨Nat.le_of_ble_eq_true rfl, Nat.le_of_ble_eq_true rfl⟩ (fun H locs hI => ?_)
    refine lv_if_eq (tgt := 41) hx hb dX11_erred_15 (by decide) (fun c7 => ?_) (fun c7 => ?_)
    · replace hf := ifp c7 hf
      refine lv_iconst (v := -1) hx hb dX11_erred_41 (by decide) ?_
      exact hret_i hx hb hr hlocks hI (by decide) (by decide) (fun _ => ⟨trivial, rfl⟩) (ret_e hK0 hf) dX11_erred_42
    · replace hf := ifn c7 hf
      refine lv_iload hx hb dX11_erred_18 (lv_at hl 4 rfl) ?_
      refine lv_iconst (v := 1) hx hb dX11_erred_20 (by decide) ?_
      refine lv_bipush (v := 9) hx hb dX11_erred_21 (by decide) ?_
      obtain ⟨x8, hc9, hf⟩ := bnd_b hf
      refine hcall_Si (ex2 := True) (As := [.int a4, .int (1 : Int32), .int (9 : Int32)]) (rest := []) (n := 3) ⟨hx, hb, hml, hown, hts⟩ (ch_X11_isWithin l D cy a4 (1 : Int32) (9 : Int32) x5.1 x8 hc9) (va_cwS 3 hts gX11_erred_X11_isWithin rfl rfl rfl nd_X11_isWithin ⟨Nat.le_of_ble_eq_true rfl, Nat.le_of_ble_eq_true rfl⟩) hI (fun h => h.elim) (fun _ => ⟨trivial, trivial⟩) rfl hl.1 (Nat.le_of_ble_eq_true rfl) dX11_erred_23 ⟨Nat.le_of_ble_eq_true rfl, Nat.le_of_ble_eq_true rfl⟩ (fun H locs hI => ?_)
      refine lv_if_eq (tgt := 41) hx hb dX11_erred_26 (by decide) (fun c10 => ?_) (fun c10 => ?_)
      · replace hf := ifp c10 hf
        refine lv_iconst (v := -1) hx hb dX11_erred_41 (by decide) ?_
        exact hret_i hx hb hr hlocks hI (by decide) (by decide) (fun _ => ⟨trivial, rfl⟩) (ret_e hK0 hf) dX11_erred_42
      · replace hf := ifn c10 hf
        refine lv_iload hx hb dX11_erred_29 (lv_at hl 5 rfl) ?_
        refine lv_iconst (v := 0) hx hb dX11_erred_31 (by decide) ?_
        refine lv_iconst (v := 2) hx hb dX11_erred_32 (by decide) ?_
        refine lv_iload_n hx hb dX11_erred_33 rfl (lv_at hl 3 rfl) ?_
        refine lv_imul hx hb dX11_erred_34 ?_
        obtain ⟨x11, hc12, hf⟩ := bnd_b hf
        refine hcall_Si (ex2 := True) (As := [.int a5, .int (0 : Int32), .int ((2 : Int32) * a3)]) (rest := []) (n := 3) ⟨hx, hb, hml, hown, hts⟩ (ch_X11_isWithin l D cy a5 (0 : Int32) ((2 : Int32) * a3) x8.1 x11 hc12) (va_cwS 3 hts gX11_erred_X11_isWithin rfl rfl rfl nd_X11_isWithin ⟨Nat.le_of_ble_eq_true rfl, Nat.le_of_ble_eq_true rfl⟩) hI (fun h => h.elim) (fun _ => ⟨trivial, trivial⟩) rfl hl.1 (Nat.le_of_ble_eq_true rfl) dX11_erred_35 ⟨Nat.le_of_ble_eq_true rfl, Nat.le_of_ble_eq_true rfl⟩ (fun H locs hI => ?_)
        refine lv_if_ne (tgt := 43) hx hb dX11_erred_38 (by decide) (fun c13 => ?_) (fun c13 => ?_)
        · replace hf := ifn c13 hf
          refine lv_aload_n hx hb dX11_erred_43 rfl (lv_at hl 0 rfl) ?_
          obtain ⟨k14, hf⟩ := chk_b hf
          refine hg_11_9 hx hb hts hin_X11 hown kl_56 hI (isk_k k14) dX11_erred_44 ?_
          obtain ⟨b15, hd16, hf⟩ := bnd_b hf
          obtain ⟨hq17, hk18⟩ := dr_e hd16
          refine W.eq (g2 := F0 m 47 ls [.ref b15]) (by rw [hq17]; rfl) ?_
          refine hg_0_2 hx hb hts hin_X0 hown kl_251 hI hk18 dX11_erred_47 ?_
          refine hq_astore (lv' := [(6, va_rf (gR x11.1 2 b15)), (0, .ref h), (1, .int a1), (2, .int a2), (3, .int a3), (4, .int a4), (5, .int a5)]) hx hb dX11_erred_50 hl (by decide) (by first | rfl | (simp [cat_rf, cat_i, cat_l, cat_r]; done) | (simp [cat_rf, cat_i, cat_l, cat_r]; decide)) (fun ls hl => ?_)
          refine hq_aload hx hb dX11_erred_52 (lv_at hl 0 rfl) ?_
          refine lv_aload_n hx hb dX11_erred_54 rfl (lv_at hl 1 rfl) ?_
          refine hg_11_4 hx hb hts hin_X11 hown kl_22 hI (isk_k k14) dX11_erred_55 ?_
          refine lv_aload_n hx hb dX11_erred_58 rfl (lv_at hl 1 rfl) ?_
          refine lv_iload_n hx hb dX11_erred_59 rfl (lv_at hl 2 rfl) ?_
          obtain ⟨x19, hc20, hf⟩ := bnd_b hf
          refine hcall_Vq (ex2 := True) (As := [.int a1]) (rest := [va_rf (gR x11.1 1104 h), va_rf (gR x11.1 2 b15)]) (n := 1) (by rw [(isk_k k14)]; decide) (hC_12 (isk_k k14)) rfl ⟨hx, hb, hml, hown, hts⟩ (ch_X11_ruleOf l D cy h a1 x11.1 x19 hc20) (cwV 1 hts gX11_erred_X11_ruleOf rfl rfl rfl ⟨rfl, nd_X11_ruleOf⟩ ⟨Nat.le_of_ble_eq_true rfl, Nat.le_of_ble_eq_true rfl⟩) hI (fun h => h.elim) (fun _ => ⟨trivial, trivial⟩) rfl hl.1 (by simp [cat_rf, cat_i, cat_l, cat_r]) dX11_erred_60 ⟨Nat.le_of_ble_eq_true rfl, Nat.le_of_ble_eq_true rfl⟩ (fun H locs hI => ?_)
          refine lv_aload_n hx hb dX11_erred_63 rfl (lv_at hl 1 rfl) ?_
          refine lv_iload_n hx hb dX11_erred_64 rfl (lv_at hl 3 rfl) ?_
          obtain ⟨k21, hf⟩ := chk_b hf
          obtain ⟨x22, hc23, hf⟩ := bnd_b hf
          refine hcall_Vq (ex2 := True) (As := [.int a2]) (rest := [va_rf x19.2, va_rf (gR x11.1 1104 h), va_rf (gR x11.1 2 b15)]) (n := 1) (by rw [(isk_k k21)]; decide) (hC_12 (isk_k k21)) rfl ⟨hx, hb, hml, hown, hts⟩ (ch_X11_ruleOf l D cy h a2 x19.1 x22 hc23) (cwV 1 hts gX11_erred_X11_ruleOf rfl rfl rfl ⟨rfl, nd_X11_ruleOf⟩ ⟨Nat.le_of_ble_eq_true rfl, Nat.le_of_ble_eq_true rfl⟩) hI (fun h => h.elim) (fun _ => ⟨trivial, trivial⟩) rfl hl.1 (by simp [cat_rf, cat_i, cat_l, cat_r]) dX11_erred_65 ⟨Nat.le_of_ble_eq_true rfl, Nat.le_of_ble_eq_true rfl⟩ (fun H locs hI => ?_)
          refine lv_iload_n hx hb dX11_erred_68 rfl (lv_at hl 4 rfl) ?_
          refine lv_iload hx hb dX11_erred_69 (lv_at hl 5 rfl) ?_
          obtain ⟨b24, hd25, hf⟩ := bnd_b hf
          obtain ⟨hq26, hk27⟩ := dr_e hd25
          refine W.eq (g2 := F0 m 71 ls [.int a4, .int a3, va_rf x22.2, va_rf x19.2, va_rf (gR x11.1 1104 h), .ref b24]) (by rw [hq26]; rfl) ?_
          obtain ⟨x28, hc29, hf⟩ := bnd_b hf
          refine hcall_Vv (ex2 := True) (As := [va_rf (gR x11.1 1104 h), va_rf x19.2, va_rf x22.2, .int a3, .int a4]) (rest := []) (n := 5) (by rw [hk27]; decide) (hC_3 hk27) rfl ⟨hx, hb, hml, hown, hts⟩ (ch_X2_hold l D cy b24 (gR x11.1 1104 h) x19.2 x22.2 a3 a4 x22.1 x28 hc29) (cwV 5 hts gX11_erred_X2_hold rfl rfl rfl ⟨rfl, nd_X2_hold⟩ ⟨Nat.le_of_ble_eq_true rfl, Nat.le_of_ble_eq_true rfl⟩) hI (fun h => h.elim) (fun _ => ⟨trivial, trivial⟩) rfl hl.1 (Nat.le_of_ble_eq_true rfl) dX11_erred_71 ⟨Nat.le_of_ble_eq_true rfl, Nat.le_of_ble_eq_true rfl⟩ (fun H locs hI => ?_)
          refine lv_iload hx hb dX11_erred_74 (lv_at hl 6 rfl) ?_
          refine lv_if_ne (tgt := 87) hx hb dX11_erred_76 (by decide) (fun c30 => ?_) (fun c30 => ?_)
          · replace hf := ifn c30 hf
            refine hq_aload hx hb dX11_erred_87 (lv_at hl 0 rfl) ?_
            refine lv_iload hx hb dX11_erred_89 (lv_at hl 6 rfl) ?_
            refine lv_iconst (v := 1) hx hb dX11_erred_91 (by decide) ?_
            refine lv_isub hx hb dX11_erred_92 ?_
            refine W.eq (g2 := F0 m 93 ls [.int (a5 - (1 : Int32)), .ref b24]) (by rw [hq26]; rfl) ?_
            obtain ⟨k31, hf⟩ := chk_b hf
            obtain ⟨x32, hc33, hf⟩ := bnd_b hf
            refine hcall_Vi (ex2 := True) (As := [.int (a5 - (1 : Int32))]) (rest := []) (n := 1) (by rw [(isk_k k31)]; decide) (hC_3 (isk_k k31)) rfl ⟨hx, hb, hml, hown, hts⟩ (ch_X2_verdict l D cy b24 (a5 - (1 : Int32)) x28 x32 hc33) (cwV 1 hts gX11_erred_X2_verdict rfl rfl rfl ⟨rfl, nd_X2_verdict⟩ ⟨Nat.le_of_ble_eq_true rfl, Nat.le_of_ble_eq_true rfl⟩) hI (fun h => h.elim) (fun _ => ⟨trivial, trivial⟩) rfl hl.1 (Nat.le_of_ble_eq_true rfl) dX11_erred_93 ⟨Nat.le_of_ble_eq_true rfl, Nat.le_of_ble_eq_true rfl⟩ (fun H locs hI => ?_)
            exact hret_i hx hb hr hlocks hI (by decide) (by decide) (fun _ => ⟨trivial, rfl⟩) (ret_e hK0 hf) dX11_erred_96
          · replace hf := ifp c30 hf
            refine hq_aload hx hb dX11_erred_79 (lv_at hl 0 rfl) ?_
            refine W.eq (g2 := F0 m 81 ls [.ref b24]) (by rw [hq26]; rfl) ?_
            obtain ⟨k34, hf⟩ := chk_b hf
            refine hg_2_0 hx hb hts hin_X2 hown kl_259 hI (isk_k k34) dX11_erred_81 ?_
            refine lv_goto (tgt := 96) hx hb dX11_erred_84 (by decide) ?_
            exact hret_i hx hb hr hlocks hI (by decide) (by decide) (fun _ => ⟨trivial, rfl⟩) (ret_e hK0 hf) dX11_erred_96
        · replace hf := ifp c13 hf
          refine lv_iconst (v := -1) hx hb dX11_erred_41 (by decide) ?_
          exact hret_i hx hb hr hlocks hI (by decide) (by decide) (fun _ => ⟨trivial, rfl⟩) (ret_e hK0 hf) dX11_erred_42

theorem nd_X11_putOnTape : yX11_putOnTape.cls ≠ "java/lang/invoke/MethodHandle" ∧ yX11_putOnTape.cls ≠ "java/lang/invoke/VarHandle" ∧ (parseMethodDescriptor yX11_putOnTape.desc).map (fun d => d.parameters.length) = some 1 := by decide +kernel
set_option maxHeartbeats 4000000 in
set_option maxRecDepth 100000 in
theorem ch_X11_putOnTape (l : Launch) (D : va_G) (cy : Nat → ClassId) (h : Nat) (a1 : Int32) (s0 : HSt) (out : HSt) (hf : fh_X11_putOnTape h a1 s0 = some out) : CHv l D cy yX11_putOnTape wsX11_putOnTape { frames := 0, cells := 0, slots := 0, locals := 0 } 0 0 False True [.ref h, .int a1] s0 out := by
  refine Met.ofW (cc := cX11_putOnTape) (maxL := 3) (ret := none) (by decide) rfl ?_
  intro p e s m args below meth c s₁ B hml hv
  obtain ⟨rfl, hP, hK, hD0, hkx, hsz, hal⟩ := hv
  have hx := B.exec
  have hb := B.bytes
  have hr := B.returns
  have hts := atoms_spec (ws := wsX11_putOnTape) B.pre
  have hown : s.vm.findClass RX11 = some m.cls := findClass_of_methodNamed B.named
  have hlocks := B.notSynchronized
  have hI : HI D cy s s0 s0 s.heap [] 0 False True := ⟨hK, hP, hD0.weaken (fun k q hk _ => Or.inl (pl_mem hk)), va_S.rf, hsz.1, hkx, ⟨hsz, hal⟩, fun _ => rfl, Nat.le_refl _⟩
  have hin_X11 : ∀ w ∈ u_ws RX11 TX11 10, w ∈ wsX11_putOnTape := fun w hw => List.mem_cons_of_mem _ (List.mem_append_right _ hw)
  have kl_9 : Cond.fieldLink RX11 9 "HalfBridge" "tape" "[B" ∈ wsX11_putOnTape := by decide +kernel
  have kl_60 : Cond.fieldLink RX11 60 "HalfBridge" "tapeSize" "I" ∈ wsX11_putOnTape := by decide +kernel
  have hl := lv_entry ([.ref h, .int a1]) (n := 3) (Nat.le_of_ble_eq_true rfl)
  rw [lg_entry_eq]
  generalize (lg_sl ([.ref h, .int a1]) ++ List.replicate (3 - (lg_sl ([.ref h, .int a1])).length) Slot.unset).toArray = ls at hl ⊢
  have hl : lv_has ls 3 [(0, .ref h), (1, .int a1)] := hl
  obtain ⟨K0, hK0, hf⟩ := top_e hf
  have B_46 : ∀   (st : HSt) (H : Heap) (locs : List Loc) (ls : Array Slot), HI D cy s s0 st H locs 0 False True → lv_has ls 3 [] → (fh_X11_putOnTape_j46 h st).bind K0 = some out → W p l e (headSpec wsX11_putOnTape { frames := 0, cells := 0, slots := 0, locals := 0 }).room s m (([.ref h, .int a1] : List Value).toArray) below meth c H locs 0 0 (MQ below (HQv D cy s0 0 True out) ([.ref h, .int a1] : List Value).toArray s 0 0 (hF s0)) (F0 m 46 ls []) := by
    intro st H locs ls hI hl hf
    unfold fh_X11_putOnTape_j46 at hf
    exact hret_v hx hb hr hlocks hI (by decide) (by decide) (fun _ => ⟨trivial, rfl⟩) (ret_e hK0 hf) dX11_putOnTape_46
  have L_3 : ∀ (v1 : Int32) (n : Nat) (v2 : Int32) (st : HSt) (H : Heap) (locs : List Loc) (ls : Array Slot), HI D cy s s0 st H locs 0 False True → lv_has ls 3 [(0, .ref h), (1, .int v1), (2, .int v2)] → (iter (fun x : (Int32 × HSt) => fh_X11_putOnTape_s3 h v1 x.1 x.2) n (v2, st)).bind (fun x => ((Sum.elim (fun o : HSt => (some o : Option (HSt))) (fun x : (Int32 × HSt) => fh_X11_putOnTape_j46 h x.2)) x).bind K0) = some out → W p l e (headSpec wsX11_putOnTape { frames := 0, cells := 0, slots := 0, locals := 0 }).room s m (([.ref h, .int a1] : List Value).toArray) below meth c H locs 0 0 (MQ below (HQv D cy s0 0 True out) ([.ref h, .int a1] : List Value).toArray s 0 0 (hF s0)) (F0 m 3 ls []) := by
    intro v1 n
    induction n with
    | zero => intro v2 st H locs ls hI hl hf; exact (iter_0 hf).elim
    | succ n ih =>
      intro v2 st H locs ls hI hl hf
      obtain ⟨K1, hK1, hf⟩ := iter_e hf
      replace hf : (fh_X11_putOnTape_s3 h v1 v2 st).bind K1 = some out := hf
      unfold fh_X11_putOnTape_s3 at hf
      refine lv_iload_n hx hb dX11_putOnTape_3 rfl (lv_at hl 2 rfl) ?_
      refine lv_if_lt (tgt := 46) hx hb dX11_putOnTape_4 (by decide) (fun c1 => ?_) (fun c1 => ?_)
      · replace hf := ifp c1 hf
        replace hf := exit_b hK1 hf
        exact B_46  st H locs ls hI (lv_sub hl [] rfl) hf
      · replace hf := ifn c1 hf
        refine lv_aload_n hx hb dX11_putOnTape_7 rfl (lv_at hl 0 rfl) ?_
        obtain ⟨k2, hf⟩ := chk_b hf
        refine hg_11_1 hx hb hts hin_X11 hown kl_60 hI (isk_k k2) dX11_putOnTape_8 ?_
        refine lv_sipush (v := 400) hx hb dX11_putOnTape_11 (by decide) ?_
        refine lv_icmp_ge (tgt := 46) hx hb dX11_putOnTape_14 (by decide) (fun c3 => ?_) (fun c3 => ?_)
        · replace hf := ifp c3 hf
          replace hf := exit_b hK1 hf
          exact B_46  st H locs ls hI (lv_sub hl [] rfl) hf
        · replace hf := ifn c3 hf
          refine lv_aload_n hx hb dX11_putOnTape_17 rfl (lv_at hl 0 rfl) ?_
          refine hg_11_0 hx hb hts hin_X11 hown kl_9 hI (isk_k k2) dX11_putOnTape_18 ?_
          refine lv_aload_n hx hb dX11_putOnTape_21 rfl (lv_at hl 0 rfl) ?_
          refine hg_11_1 hx hb hts hin_X11 hown kl_60 hI (isk_k k2) dX11_putOnTape_22 ?_
          refine lv_iload_n hx hb dX11_putOnTape_25 rfl (lv_at hl 1 rfl) ?_
          refine lv_iload_n hx hb dX11_putOnTape_26 rfl (lv_at hl 2 rfl) ?_
          refine lv_ishr hx hb dX11_putOnTape_27 ?_
          refine lv_i2b (v := ((v1 >>> (v2 &&& 31)).toInt8.toInt32)) hx hb dX11_putOnTape_28 rfl ?_
          obtain ⟨b4, hd5, hf⟩ := bnd_b hf
          obtain ⟨hq6, hk7⟩ := dr_e hd5
          refine W.eq (g2 := F0 m 29 ls [.int ((v1 >>> (v2 &&& 31)).toInt8.toInt32), .int (gI st 1101 h), .ref b4]) (by rw [hq6]; rfl) ?_
          obtain ⟨k8, hf⟩ := chk_b hf
          refine hs_B hx hb hI hk7 k8 dX11_putOnTape_29 (fun H locs hI => ?_)
          obtain ⟨x9, hx9, hf⟩ := bnd_b hf
          replace hx9 := Option.some.inj hx9
          rw [hx9] at hI
          have hk10 : gK x9 h = 12 := by rw [← hx9]; exact (gK_sA.trans (isk_k k2))
          have hk11 : gK x9 b4 = 21 := by rw [← hx9]; exact (gK_sA.trans hk7)
          refine lv_aload_n hx hb dX11_putOnTape_30 rfl (lv_at hl 0 rfl) ?_
          refine lv_dup hx hb dX11_putOnTape_31 rfl ?_
          refine hg_11_1 hx hb hts hin_X11 hown kl_60 hI hk10 dX11_putOnTape_32 ?_
          refine lv_iconst (v := 1) hx hb dX11_putOnTape_35 (by decide) ?_
          refine lv_iadd hx hb dX11_putOnTape_36 ?_
          refine hp_11_1 hx hb hts hin_X11 hown kl_60 hI hk10 dX11_putOnTape_37 (fun H locs hI => ?_)
          refine lv_iinc (v := (v2 + -8)) (lv' := [(2, .int (v2 + -8)), (0, .ref h), (1, .int v1)]) hx hb dX11_putOnTape_40 hl (k := 2) rfl (ci_ _ (by decide)) (by decide) rfl (fun ls hl => ?_)
          refine lv_goto (tgt := 3) hx hb dX11_putOnTape_43 (by decide) ?_
          replace hf := cont_b hK1 hf
          exact ih (v2 + -8) (sI x9 1101 h ((gI x9 1101 h) + (1 : Int32))) H locs ls hI (lv_sub hl [1, 2, 0] rfl) hf
  unfold fh_X11_putOnTape at hf
  refine lv_bipush (v := 24) hx hb dX11_putOnTape_0 (by decide) ?_
  refine lv_istore_n (lv' := [(2, .int (24 : Int32)), (0, .ref h), (1, .int a1)]) hx hb dX11_putOnTape_2 rfl hl (by decide) rfl (fun ls hl => ?_)
  exact L_3 a1 mFuel (24 : Int32) s0 s.heap [] ls hI (lv_sub hl [1, 2, 0] rfl) (asc_b hf)

theorem nd_X11_feed : yX11_feed.cls ≠ "java/lang/invoke/MethodHandle" ∧ yX11_feed.cls ≠ "java/lang/invoke/VarHandle" ∧ (parseMethodDescriptor yX11_feed.desc).map (fun d => d.parameters.length) = some 5 := by decide +kernel
set_option maxHeartbeats 4000000 in
set_option maxRecDepth 100000 in
theorem ch_X11_feed (l : Launch) (D : va_G) (cy : Nat → ClassId) (h : Nat) (a1 : Int32) (a2 : Int32) (a3 : Int32) (a4 : Int32) (a5 : Int32) (s0 : HSt) (out : HSt × Int32) (hf : fh_X11_feed h a1 a2 a3 a4 a5 s0 = some out) : CHi l D cy yX11_feed wsX11_feed { frames := 1, cells := 0, slots := 0, locals := 22 } 0 0 False True [.ref h, .int a1, .int a2, .int a3, .int a4, .int a5] s0 out := by
  refine Met.ofW (cc := cX11_feed) (maxL := 6) (ret := (some .int)) (by decide) rfl ?_
  intro p e s m args below meth c s₁ B hml hv
  obtain ⟨rfl, hP, hK, hD0, hkx, hsz, hal⟩ := hv
  have hx := B.exec
  have hb := B.bytes
  have hr := B.returns
  have hts := atoms_spec (ws := wsX11_feed) B.pre
  have hown : s.vm.findClass RX11 = some m.cls := findClass_of_methodNamed B.named
  have hlocks := B.notSynchronized
  have hI : HI D cy s s0 s0 s.heap [] 0 False True := ⟨hK, hP, hD0.weaken (fun k q hk _ => Or.inl (pl_mem hk)), va_S.rf, hsz.1, hkx, ⟨hsz, hal⟩, fun _ => rfl, Nat.le_refl _⟩
  have hin_X11 : ∀ w ∈ u_ws RX11 TX11 10, w ∈ wsX11_feed := fun w hw => List.mem_cons_of_mem _ (List.mem_append_right _ hw)
  have kl_60 : Cond.fieldLink RX11 60 "HalfBridge" "tapeSize" "I" ∈ wsX11_feed := by decide +kernel
  have hl := lv_entry ([.ref h, .int a1, .int a2, .int a3, .int a4, .int a5]) (n := 6) (Nat.le_of_ble_eq_true rfl)
  rw [lg_entry_eq]
  generalize (lg_sl ([.ref h, .int a1, .int a2, .int a3, .int a4, .int a5]) ++ List.replicate (6 - (lg_sl ([.ref h, .int a1, .int a2, .int a3, .int a4, .int a5])).length) Slot.unset).toArray = ls at hl ⊢
  have hl : lv_has ls 6 [(0, .ref h), (1, .int a1), (2, .int a2), (3, .int a3), (4, .int a4), (5, .int a5)] := hl
  obtain ⟨K0, hK0, hf⟩ := top_e hf
  unfold fh_X11_feed at hf
  refine lv_aload_n hx hb dX11_feed_0 rfl (lv_at hl 0 rfl) ?_
  obtain ⟨k1, hf⟩ := chk_b hf
  refine hg_11_1 hx hb hts hin_X11 hown kl_60 hI (isk_k k1) dX11_feed_1 ?_
  refine lv_bipush (v := 20) hx hb dX11_feed_4 (by decide) ?_
  refine lv_iadd hx hb dX11_feed_6 ?_
  refine lv_sipush (v := 400) hx hb dX11_feed_7 (by decide) ?_
  refine lv_icmp_le (tgt := 15) hx hb dX11_feed_10 (by decide) (fun c2 => ?_) (fun c2 => ?_)
  · replace hf := ifp c2 hf
    refine lv_aload_n hx hb dX11_feed_15 rfl (lv_at hl 0 rfl) ?_
    refine lv_iload_n hx hb dX11_feed_16 rfl (lv_at hl 1 rfl) ?_
    obtain ⟨x3, hc4, hf⟩ := bnd_b hf
    refine hcall_Vv (ex2 := True) (As := [.int a1]) (rest := []) (n := 1) (by rw [(isk_k k1)]; decide) (hC_12 (isk_k k1)) rfl ⟨hx, hb, hml, hown, hts⟩ (ch_X11_putOnTape l D cy h a1 s0 x3 hc4) (cwV 1 hts gX11_feed_X11_putOnTape rfl rfl rfl ⟨rfl, nd_X11_putOnTape⟩ ⟨Nat.le_of_ble_eq_true rfl, Nat.le_of_ble_eq_true rfl⟩) hI (fun h => h.elim) (fun _ => ⟨trivial, trivial⟩) rfl hl.1 (Nat.le_of_ble_eq_true rfl) dX11_feed_17 ⟨Nat.le_of_ble_eq_true rfl, Nat.le_of_ble_eq_true rfl⟩ (fun H locs hI => ?_)
    refine lv_aload_n hx hb dX11_feed_20 rfl (lv_at hl 0 rfl) ?_
    refine lv_iload_n hx hb dX11_feed_21 rfl (lv_at hl 2 rfl) ?_
    obtain ⟨k5, hf⟩ := chk_b hf
    obtain ⟨x6, hc7, hf⟩ := bnd_b hf
    refine hcall_Vv (ex2 := True) (As := [.int a2]) (rest := []) (n := 1) (by rw [(isk_k k5)]; decide) (hC_12 (isk_k k5)) rfl ⟨hx, hb, hml, hown, hts⟩ (ch_X11_putOnTape l D cy h a2 x3 x6 hc7) (cwV 1 hts gX11_feed_X11_putOnTape rfl rfl rfl ⟨rfl, nd_X11_putOnTape⟩ ⟨Nat.le_of_ble_eq_true rfl, Nat.le_of_ble_eq_true rfl⟩) hI (fun h => h.elim) (fun _ => ⟨trivial, trivial⟩) rfl hl.1 (Nat.le_of_ble_eq_true rfl) dX11_feed_22 ⟨Nat.le_of_ble_eq_true rfl, Nat.le_of_ble_eq_true rfl⟩ (fun H locs hI => ?_)
    refine lv_aload_n hx hb dX11_feed_25 rfl (lv_at hl 0 rfl) ?_
    refine lv_iload_n hx hb dX11_feed_26 rfl (lv_at hl 3 rfl) ?_
    obtain ⟨k8, hf⟩ := chk_b hf
    obtain ⟨x9, hc10, hf⟩ := bnd_b hf
    refine hcall_Vv (ex2 := True) (As := [.int a3]) (rest := []) (n := 1) (by rw [(isk_k k8)]; decide) (hC_12 (isk_k k8)) rfl ⟨hx, hb, hml, hown, hts⟩ (ch_X11_putOnTape l D cy h a3 x6 x9 hc10) (cwV 1 hts gX11_feed_X11_putOnTape rfl rfl rfl ⟨rfl, nd_X11_putOnTape⟩ ⟨Nat.le_of_ble_eq_true rfl, Nat.le_of_ble_eq_true rfl⟩) hI (fun h => h.elim) (fun _ => ⟨trivial, trivial⟩) rfl hl.1 (Nat.le_of_ble_eq_true rfl) dX11_feed_27 ⟨Nat.le_of_ble_eq_true rfl, Nat.le_of_ble_eq_true rfl⟩ (fun H locs hI => ?_)
    refine lv_aload_n hx hb dX11_feed_30 rfl (lv_at hl 0 rfl) ?_
    refine lv_iload hx hb dX11_feed_31 (lv_at hl 4 rfl) ?_
    obtain ⟨k11, hf⟩ := chk_b hf
    obtain ⟨x12, hc13, hf⟩ := bnd_b hf
    refine hcall_Vv (ex2 := True) (As := [.int a4]) (rest := []) (n := 1) (by rw [(isk_k k11)]; decide) (hC_12 (isk_k k11)) rfl ⟨hx, hb, hml, hown, hts⟩ (ch_X11_putOnTape l D cy h a4 x9 x12 hc13) (cwV 1 hts gX11_feed_X11_putOnTape rfl rfl rfl ⟨rfl, nd_X11_putOnTape⟩ ⟨Nat.le_of_ble_eq_true rfl, Nat.le_of_ble_eq_true rfl⟩) hI (fun h => h.elim) (fun _ => ⟨trivial, trivial⟩) rfl hl.1 (Nat.le_of_ble_eq_true rfl) dX11_feed_33 ⟨Nat.le_of_ble_eq_true rfl, Nat.le_of_ble_eq_true rfl⟩ (fun H locs hI => ?_)
    refine lv_aload_n hx hb dX11_feed_36 rfl (lv_at hl 0 rfl) ?_
    refine lv_iload hx hb dX11_feed_37 (lv_at hl 5 rfl) ?_
    obtain ⟨k14, hf⟩ := chk_b hf
    obtain ⟨x15, hc16, hf⟩ := bnd_b hf
    refine hcall_Vv (ex2 := True) (As := [.int a5]) (rest := []) (n := 1) (by rw [(isk_k k14)]; decide) (hC_12 (isk_k k14)) rfl ⟨hx, hb, hml, hown, hts⟩ (ch_X11_putOnTape l D cy h a5 x12 x15 hc16) (cwV 1 hts gX11_feed_X11_putOnTape rfl rfl rfl ⟨rfl, nd_X11_putOnTape⟩ ⟨Nat.le_of_ble_eq_true rfl, Nat.le_of_ble_eq_true rfl⟩) hI (fun h => h.elim) (fun _ => ⟨trivial, trivial⟩) rfl hl.1 (Nat.le_of_ble_eq_true rfl) dX11_feed_39 ⟨Nat.le_of_ble_eq_true rfl, Nat.le_of_ble_eq_true rfl⟩ (fun H locs hI => ?_)
    refine lv_aload_n hx hb dX11_feed_42 rfl (lv_at hl 0 rfl) ?_
    obtain ⟨k17, hf⟩ := chk_b hf
    refine hg_11_1 hx hb hts hin_X11 hown kl_60 hI (isk_k k17) dX11_feed_43 ?_
    exact hret_i hx hb hr hlocks hI (by decide) (by decide) (fun _ => ⟨trivial, rfl⟩) (ret_e hK0 hf) dX11_feed_46
  · replace hf := ifn c2 hf
    refine lv_iconst (v := -1) hx hb dX11_feed_13 (by decide) ?_
    exact hret_i hx hb hr hlocks hI (by decide) (by decide) (fun _ => ⟨trivial, rfl⟩) (ret_e hK0 hf) dX11_feed_14

theorem nd_X8_init : yX8_init.cls ≠ "java/lang/invoke/MethodHandle" ∧ yX8_init.cls ≠ "java/lang/invoke/VarHandle" ∧ (parseMethodDescriptor yX8_init.desc).map (fun d => d.parameters.length) = some 0 := by decide +kernel
set_option maxHeartbeats 4000000 in
set_option maxRecDepth 100000 in
theorem ch_X8_init (l : Launch) (D : va_G) (cy : Nat → ClassId) (h : Nat)  (s0 : HSt) (out : HSt) (hf : fh_X8_init h s0 = some out) : CHv l D cy yX8_init wsX8_init { frames := 3, cells := 12, slots := 294, locals := 70 } 12 294 True True [.ref h] s0 out := by
  refine Met.ofW (cc := cX8_init) (maxL := 1) (ret := none) (by decide) rfl ?_
  intro p e s m args below meth c s₁ B hml hv
  obtain ⟨rfl, hP, hK, hD0, hkx, hsz, hal⟩ := hv
  have hx := B.exec
  have hb := B.bytes
  have hr := B.returns
  have hts := atoms_spec (ws := wsX8_init) B.pre
  have hown : s.vm.findClass RX8 = some m.cls := findClass_of_methodNamed B.named
  have hlocks := B.notSynchronized
  have hin0 : meth.name = "<init>" := (name_of_methodNamed B.named B.method).1
  have hI : HI D cy s s0 s0 s.heap [] 0 True True := ⟨hK, hP, hD0.weaken (fun k q hk _ => Or.inl (pl_mem hk)), va_S.rf, hsz.1, hkx, ⟨hsz, hal⟩, fun _ => rfl, Nat.le_refl _⟩
  have hin_X8 : ∀ w ∈ u_ws RX8 TX8 5, w ∈ wsX8_init := fun w hw => List.mem_cons_of_mem _ (List.mem_append_left _ (List.mem_append_right _ hw))
  have hin_X9 : ∀ w ∈ u_ws RX9 TX9 5, w ∈ wsX8_init := fun w hw => List.mem_cons_of_mem _ (List.mem_append_left _ (List.mem_append_left _ (List.mem_append_right _ hw)))
  have kl_10 : Cond.fieldLink RX8 10 "HalfBridge$Site" "span" "LHalfBridge$Span;" ∈ wsX8_init := by decide +kernel
  have kl_16 : Cond.fieldLink RX8 16 "HalfBridge$Site" "errors" "[I" ∈ wsX8_init := by decide +kernel
  have kl_20 : Cond.fieldLink RX8 20 "HalfBridge$Site" "ruins" "[I" ∈ wsX8_init := by decide +kernel
  have hl := lv_entry ([.ref h]) (n := 1) (Nat.le_of_ble_eq_true rfl)
  rw [lg_entry_eq]
  generalize (lg_sl ([.ref h]) ++ List.replicate (1 - (lg_sl ([.ref h])).length) Slot.unset).toArray = ls at hl ⊢
  have hl : lv_has ls 1 [(0, .ref h)] := hl
  obtain ⟨K0, hK0, hf⟩ := top_e hf
  unfold fh_X8_init at hf
  refine lv_aload_n hx hb dX8_init_0 rfl (lv_at hl 0 rfl) ?_
  refine W.objInit hx hb hown (hts (.methodLink RX8 1 objectInit) (by decide +kernel)) (hts (.instanceMethod objectInit) (by decide +kernel)) (hts (.code objectInit ⟨#[0xb1]⟩ 1 none) (by decide +kernel)) rfl (by rw [hml]; exact hl.1) rfl dX8_init_1 (Nat.le_of_ble_eq_true rfl) (Nat.le_of_ble_eq_true rfl) ?_
  refine W.eq (g2 := F0 m 4 ls []) rfl ?_
  refine lv_aload_n hx hb dX8_init_4 rfl (lv_at hl 0 rfl) ?_
  refine hn_9 hx hb hts hin_X9 hown (by decide +kernel) (by decide +kernel) (by decide +kernel) hI trivial trivial (Nat.le_of_ble_eq_true rfl) (Nat.le_of_ble_eq_true rfl) dX8_init_5 (fun H hI => ?_)
  refine W.widen (k := 1) (n := 5) (by decide) (by decide) ?_
  obtain ⟨x1, hx1, hf⟩ := bnd_b hf
  replace hx1 := Option.some.inj hx1
  rw [hx1] at hI
  have hk2 : gK x1 (gN s0) = 10 := by rw [← hx1]; exact nO_K
  refine lv_dup hx hb dX8_init_8 rfl ?_
  obtain ⟨x3, hc4, hf⟩ := bnd_b hf
  refine hcall_Iv (ex2 := True) (As := []) (rest := [.ref (gN s0), .ref h]) (n := 0) ⟨hx, hb, hml, hown, hts⟩ (ch_X9_init l D cy (gN s0) x1 x3 hc4) (cwI 0 hts gX8_init_X9_init rfl rfl rfl (hts (.initialized RX9) (by decide +kernel)) (hts (.methodLink RX8 9 yX9_init) (by decide +kernel)) (hts (.instanceMethod yX9_init) (by decide +kernel)) rfl nd_X9_init ⟨Nat.le_of_ble_eq_true rfl, Nat.le_of_ble_eq_true rfl⟩) hI (fun h => ⟨trivial, trivial⟩) (fun _ => ⟨trivial, trivial⟩) rfl hl.1 (Nat.le_of_ble_eq_true rfl) dX8_init_9 ⟨Nat.le_of_ble_eq_true rfl, Nat.le_of_ble_eq_true rfl⟩ (fun H locs hI => ?_)
  obtain ⟨k5, hf⟩ := chk_b hf
  refine hp_8_0 (x := (some (gN s0))) hx hb hts hin_X8 hown kl_10 hI (isk_k k5) hin0 rfl dX8_init_12 (fun H locs hI => ?_)
  refine lv_aload_n hx hb dX8_init_15 rfl (lv_at hl 0 rfl) ?_
  refine lv_bipush (v := 16) hx hb dX8_init_16 (by decide) ?_
  refine hn_I (N := 16) hx hb hts (by decide +kernel) hI trivial trivial (by decide) rfl (by decide) (Nat.le_of_ble_eq_true rfl) (Nat.le_of_ble_eq_true rfl) dX8_init_18 (fun H hI => ?_)
  refine W.widen (k := 11) (n := 214) (by decide) (by decide) ?_
  obtain ⟨x6, hx6, hf⟩ := bnd_b hf
  replace hx6 := Option.some.inj hx6
  rw [hx6] at hI
  have hk7 : gK x6 (gN (sR x3 800 h (some (gN s0)))) = 22 := by rw [← hx6]; exact nO_K
  obtain ⟨k8, hf⟩ := chk_b hf
  refine hp_8_3 (x := (some (gN (sR x3 800 h (some (gN s0)))))) hx hb hts hin_X8 hown kl_16 hI (isk_k k8) hin0 rfl dX8_init_20 (fun H locs hI => ?_)
  refine lv_aload_n hx hb dX8_init_23 rfl (lv_at hl 0 rfl) ?_
  refine lv_bipush (v := 80) hx hb dX8_init_24 (by decide) ?_
  refine hn_I (N := 80) hx hb hts (by decide +kernel) hI trivial trivial (by decide) rfl (by decide) (Nat.le_of_ble_eq_true rfl) (Nat.le_of_ble_eq_true rfl) dX8_init_26 (fun H hI => ?_)
  refine W.widen (k := 12) (n := 294) (by decide) (by decide) ?_
  obtain ⟨x9, hx9, hf⟩ := bnd_b hf
  replace hx9 := Option.some.inj hx9
  rw [hx9] at hI
  have hk10 : gK x9 (gN (sR x6 803 h (some (gN (sR x3 800 h (some (gN s0))))))) = 22 := by rw [← hx9]; exact nO_K
  obtain ⟨k11, hf⟩ := chk_b hf
  refine hp_8_4 (x := (some (gN (sR x6 803 h (some (gN (sR x3 800 h (some (gN s0))))))))) hx hb hts hin_X8 hown kl_20 hI (isk_k k11) hin0 rfl dX8_init_28 (fun H locs hI => ?_)
  obtain ⟨x12, hx12, hf⟩ := bnd_b hf
  replace hx12 := Option.some.inj hx12
  rw [hx12] at hI
  have hk13 : gK x12 (gN (sR x6 803 h (some (gN (sR x3 800 h (some (gN s0))))))) = 22 := by rw [← hx12]; exact (gK_sR.trans hk10)
  have hk14 : gK x12 h = 9 := by rw [← hx12]; exact (gK_sR.trans (isk_k k11))
  refine lv_aload_n hx hb dX8_init_31 rfl (lv_at hl 0 rfl) ?_
  refine hg_8_4 hx hb hts hin_X8 hown kl_20 hI hk14 dX8_init_32 ?_
  refine lv_ldc (v := 100000) hx hb hown (hts (.constant RX8 23 (100000)) (by decide +kernel)) dX8_init_35 ?_
  obtain ⟨x15, hc16, hf⟩ := bnd_b hf
  refine hcall_Sv (ex2 := True) (As := [va_rf (gR x12 804 h), .int (100000 : Int32)]) (rest := []) (n := 2) ⟨hx, hb, hml, hown, hts⟩ (ch_J7_fill_53178 l D cy (gR x12 804 h) (100000 : Int32) x12 x15 hc16) (va_cwS 2 hts gX8_init_J7_fill_53178 rfl rfl rfl nd_J7_fill_53178 ⟨Nat.le_of_ble_eq_true rfl, Nat.le_of_ble_eq_true rfl⟩) hI (fun h => h.elim) (fun _ => ⟨trivial, trivial⟩) rfl hl.1 (Nat.le_of_ble_eq_true rfl) dX8_init_37 ⟨Nat.le_of_ble_eq_true rfl, Nat.le_of_ble_eq_true rfl⟩ (fun H locs hI => ?_)
  exact hret_v hx hb hr hlocks hI (by decide) (by decide) (fun _ => ⟨trivial, rfl⟩) (ret_e hK0 hf) dX8_init_40

theorem nd_X11_image : yX11_image.cls ≠ "java/lang/invoke/MethodHandle" ∧ yX11_image.cls ≠ "java/lang/invoke/VarHandle" ∧ (parseMethodDescriptor yX11_image.desc).map (fun d => d.parameters.length) = some 1 := by decide +kernel
set_option maxHeartbeats 4000000 in
set_option maxRecDepth 100000 in
theorem ch_X11_image (l : Launch) (D : va_G) (cy : Nat → ClassId) (h : Nat) (a1 : Int32) (s0 : HSt) (out : HSt × Int32) (hf : fh_X11_image h a1 s0 = some out) : CHi l D cy yX11_image wsX11_image { frames := 4, cells := 13, slots := 299, locals := 103 } 13 299 True False [.ref h, .int a1] s0 out := by
  refine Met.ofW (cc := cX11_image) (maxL := 2) (ret := (some .int)) (by decide) rfl ?_
  intro p e s m args below meth c s₁ B hml hv
  obtain ⟨rfl, hP, hK, hD0, hkx, hsz, hal⟩ := hv
  have hx := B.exec
  have hb := B.bytes
  have hr := B.returns
  have hts := atoms_spec (ws := wsX11_image) B.pre
  have hown : s.vm.findClass RX11 = some m.cls := findClass_of_methodNamed B.named
  have hlocks := B.notSynchronized
  have hI : HI D cy s s0 s0 s.heap [] 0 True True := ⟨hK, hP, hD0.weaken (fun k q hk _ => Or.inl (pl_mem hk)), va_S.rf, hsz.1, hkx, ⟨hsz, hal⟩, fun _ => rfl, Nat.le_refl _⟩
  have hin_X11 : ∀ w ∈ u_ws RX11 TX11 10, w ∈ wsX11_image := fun w hw => List.mem_cons_of_mem _ (List.mem_append_left _ (List.mem_append_left _ (List.mem_append_left _ (List.mem_append_right _ hw))))
  have hin_X8 : ∀ w ∈ u_ws RX8 TX8 5, w ∈ wsX11_image := fun w hw => List.mem_cons_of_mem _ (List.mem_append_left _ (List.mem_append_left _ (List.mem_append_right _ hw)))
  have hin_X9 : ∀ w ∈ u_ws RX9 TX9 5, w ∈ wsX11_image := fun w hw => List.mem_cons_of_mem _ (List.mem_append_left _ (List.mem_append_right _ hw))
  have kl_22 : Cond.fieldLink RX11 22 "HalfBridge" "site" "LHalfBridge$Site;" ∈ wsX11_image := by decide +kernel
  have kl_26 : Cond.fieldLink RX11 26 "HalfBridge" "images" "[LHalfBridge$Site;" ∈ wsX11_image := by decide +kernel
  have kl_93 : Cond.fieldLink RX11 93 "HalfBridge$Site" "span" "LHalfBridge$Span;" ∈ wsX11_image := by decide +kernel
  have kl_119 : Cond.fieldLink RX11 119 "HalfBridge$Span" "day" "I" ∈ wsX11_image := by decide +kernel
  have hl := lv_entry ([.ref h, .int a1]) (n := 2) (Nat.le_of_ble_eq_true rfl)
  rw [lg_entry_eq]
  generalize (lg_sl ([.ref h, .int a1]) ++ List.replicate (2 - (lg_sl ([.ref h, .int a1])).length) Slot.unset).toArray = ls at hl ⊢
  have hl : lv_has ls 2 [(0, .ref h), (1, .int a1)] := hl
  obtain ⟨K0, hK0, hf⟩ := top_e hf
  have B_33 : ∀ (v1 : Int32)  (st : HSt) (H : Heap) (locs : List Loc) (ls : Array Slot), HI D cy s s0 st H locs 13 True False → lv_has ls 2 [(0, .ref h), (1, .int v1)] → (fh_X11_image_j33 h v1 st).bind K0 = some out → W p l e (headSpec wsX11_image { frames := 4, cells := 13, slots := 299, locals := 103 }).room s m (([.ref h, .int a1] : List Value).toArray) below meth c H locs 13 299 (MQ below (HQi D cy s0 13 False out) ([.ref h, .int a1] : List Value).toArray s 13 299 (hF s0)) (F0 m 33 ls []) := by
    intro v1 st H locs ls hI hl hf
    unfold fh_X11_image_j33 at hf
    refine lv_aload_n hx hb dX11_image_33 rfl (lv_at hl 0 rfl) ?_
    obtain ⟨k20, hf⟩ := chk_b hf
    refine hg_11_5 hx hb hts hin_X11 hown kl_26 hI (isk_k k20) dX11_image_34 ?_
    refine lv_iload_n hx hb dX11_image_37 rfl (lv_at hl 1 rfl) ?_
    obtain ⟨b21, hd22, hf⟩ := bnd_b hf
    obtain ⟨hq23, hk24⟩ := dr_e hd22
    refine W.eq (g2 := F0 m 38 ls [.int v1, .ref b21]) (by rw [hq23]; rfl) ?_
    obtain ⟨k25, hf⟩ := chk_b hf
    refine hl_Site hx hb hI hk24 k25 dX11_image_38 ?_
    refine lv_aload_n hx hb dX11_image_39 rfl (lv_at hl 0 rfl) ?_
    refine hg_11_4 hx hb hts hin_X11 hown kl_22 hI (isk_k k20) dX11_image_40 ?_
    obtain ⟨b26, hd27, hf⟩ := bnd_b hf
    obtain ⟨hq28, hk29⟩ := dr_e hd27
    refine W.eq (g2 := F0 m 43 ls [va_rf (gR st 1104 h), .ref b26]) (by rw [hq28]; rfl) ?_
    obtain ⟨x30, hc31, hf⟩ := bnd_b hf
    refine hcall_Vv (ex2 := False) (As := [va_rf (gR st 1104 h)]) (rest := []) (n := 1) (by rw [hk29]; decide) (hC_9 hk29) rfl ⟨hx, hb, hml, hown, hts⟩ (ch_X8_become l D cy b26 (gR st 1104 h) st x30 hc31) (cwV 1 hts gX11_image_X8_become rfl rfl rfl ⟨rfl, nd_X8_become⟩ ⟨Nat.le_of_ble_eq_true rfl, Nat.le_of_ble_eq_true rfl⟩) hI (fun h => h.elim) (fun h => h.elim) rfl hl.1 (Nat.le_of_ble_eq_true rfl) dX11_image_43 ⟨Nat.le_of_ble_eq_true rfl, Nat.le_of_ble_eq_true rfl⟩ (fun H locs hI => ?_)
    refine lv_aload_n hx hb dX11_image_46 rfl (lv_at hl 0 rfl) ?_
    obtain ⟨k32, hf⟩ := chk_b hf
    refine hg_11_4 hx hb hts hin_X11 hown kl_22 hI (isk_k k32) dX11_image_47 ?_
    obtain ⟨b33, hd34, hf⟩ := bnd_b hf
    obtain ⟨hq35, hk36⟩ := dr_e hd34
    refine W.eq (g2 := F0 m 50 ls [.ref b33]) (by rw [hq35]; rfl) ?_
    refine hg_8_0 hx hb hts hin_X8 hown kl_93 hI hk36 dX11_image_50 ?_
    obtain ⟨b37, hd38, hf⟩ := bnd_b hf
    obtain ⟨hq39, hk40⟩ := dr_e hd38
    refine W.eq (g2 := F0 m 53 ls [.ref b37]) (by rw [hq39]; rfl) ?_
    refine hg_9_1 hx hb hts hin_X9 hown kl_119 hI hk40 dX11_image_53 ?_
    exact hret_i hx hb hr hlocks hI (by decide) (by decide) (fun h => h.elim) (ret_e hK0 hf) dX11_image_56
  unfold fh_X11_image at hf
  refine lv_iload_n hx hb dX11_image_0 rfl (lv_at hl 1 rfl) ?_
  refine lv_iconst (v := 0) hx hb dX11_image_1 (by decide) ?_
  refine lv_iconst (v := 3) hx hb dX11_image_2 (by decide) ?_
  obtain ⟨x1, hc2, hf⟩ := bnd_b hf
  refine hcall_Si (ex2 := True) (As := [.int a1, .int (0 : Int32), .int (3 : Int32)]) (rest := []) (n := 3) ⟨hx, hb, hml, hown, hts⟩ (ch_X11_isWithin l D cy a1 (0 : Int32) (3 : Int32) s0 x1 hc2) (va_cwS 3 hts gX11_image_X11_isWithin rfl rfl rfl nd_X11_isWithin ⟨Nat.le_of_ble_eq_true rfl, Nat.le_of_ble_eq_true rfl⟩) hI (fun h => h.elim) (fun _ => ⟨trivial, trivial⟩) rfl hl.1 (Nat.le_of_ble_eq_true rfl) dX11_image_3 ⟨Nat.le_of_ble_eq_true rfl, Nat.le_of_ble_eq_true rfl⟩ (fun H locs hI => ?_)
  refine lv_if_ne (tgt := 11) hx hb dX11_image_6 (by decide) (fun c3 => ?_) (fun c3 => ?_)
  · replace hf := ifn c3 hf
    refine lv_aload_n hx hb dX11_image_11 rfl (lv_at hl 0 rfl) ?_
    obtain ⟨k4, hf⟩ := chk_b hf
    refine hg_11_5 hx hb hts hin_X11 hown kl_26 hI (isk_k k4) dX11_image_12 ?_
    refine lv_iload_n hx hb dX11_image_15 rfl (lv_at hl 1 rfl) ?_
    obtain ⟨b5, hd6, hf⟩ := bnd_b hf
    obtain ⟨hq7, hk8⟩ := dr_e hd6
    refine W.eq (g2 := F0 m 16 ls [.int a1, .ref b5]) (by rw [hq7]; rfl) ?_
    obtain ⟨k9, hf⟩ := chk_b hf
    refine hl_Site hx hb hI hk8 k9 dX11_image_16 ?_
    by_cases c10 : (gQ x1.1 b5 a1.toNatClampNeg) = none
    · replace hf := ifp c10 hf
      refine W.eq (g2 := F0 m 17 ls [.null]) (by rw [c10]; rfl) ?_
      refine lv_ifnonnullN hx hb dX11_image_17 ?_
      refine lv_aload_n hx hb dX11_image_20 rfl (lv_at hl 0 rfl) ?_
      refine hg_11_5 hx hb hts hin_X11 hown kl_26 hI (isk_k k4) dX11_image_21 ?_
      refine lv_iload_n hx hb dX11_image_24 rfl (lv_at hl 1 rfl) ?_
      refine hn_8 hx hb hts hin_X8 hown (by decide +kernel) (by decide +kernel) (by decide +kernel) hI trivial trivial (Nat.le_of_ble_eq_true rfl) (Nat.le_of_ble_eq_true rfl) dX11_image_25 (fun H hI => ?_)
      refine W.widen (k := 1) (n := 5) (by decide) (by decide) ?_
      obtain ⟨x13, hx13, hf⟩ := bnd_b hf
      replace hx13 := Option.some.inj hx13
      rw [hx13] at hI
      have hk14 : gK x13 (gN x1.1) = 9 := by rw [← hx13]; exact nO_K
      refine lv_dup hx hb dX11_image_28 rfl ?_
      obtain ⟨x15, hc16, hf⟩ := bnd_b hf
      refine hcall_Iv (ex2 := True) (As := []) (rest := [.ref (gN x1.1), .int a1, va_rf (gR x1.1 1105 h)]) (n := 0) ⟨hx, hb, hml, hown, hts⟩ (ch_X8_init l D cy (gN x1.1) x13 x15 hc16) (cwI 0 hts gX11_image_X8_init rfl rfl rfl (hts (.initialized RX8) (by decide +kernel)) (hts (.methodLink RX11 21 yX8_init) (by decide +kernel)) (hts (.instanceMethod yX8_init) (by decide +kernel)) rfl nd_X8_init ⟨Nat.le_of_ble_eq_true rfl, Nat.le_of_ble_eq_true rfl⟩) hI (fun h => ⟨trivial, trivial⟩) (fun _ => ⟨trivial, trivial⟩) rfl hl.1 (by simp [cat_rf, cat_i, cat_l, cat_r]) dX11_image_29 ⟨Nat.le_of_ble_eq_true rfl, Nat.le_of_ble_eq_true rfl⟩ (fun H locs hI => ?_)
      obtain ⟨k17, hf⟩ := chk_b hf
      refine W.eq (g2 := F0 m 32 ls [.ref (gN x1.1), .int a1, .ref b5]) (by rw [hq7]; rfl) ?_
      obtain ⟨k18, hf⟩ := chk_b hf
      obtain ⟨k19, hf⟩ := chk_b hf
      refine hs_Site hx hb hI (isk_k k18) k19 (isk_k k17) dX11_image_32 (fun H locs hI => ?_)
      replace hI := h_weak (cells2 := 13) hI
      exact B_33 a1 (sQ x15 b5 a1.toNatClampNeg (some (gN x1.1))) H locs ls hI (lv_sub hl [0, 1] rfl) hf
    · replace hf := ifn c10 hf
      obtain ⟨b11, hq12, hf⟩ := bnd_b hf
      refine W.eq (g2 := F0 m 17 ls [.ref b11]) (by rw [hq12]; rfl) ?_
      refine lv_ifnonnull (tgt := 33) hx hb dX11_image_17 (by decide) ?_
      refine W.widen (k := 13) (n := 299) (by decide) (by decide) ?_
      replace hI := h_weak (cells2 := 13) hI
      exact B_33 a1 x1.1 H locs ls hI (lv_sub hl [0, 1] rfl) hf
  · replace hf := ifp c3 hf
    refine lv_iconst (v := -1) hx hb dX11_image_9 (by decide) ?_
    exact hret_i hx hb hr hlocks hI (by decide) (by decide) (fun h => h.elim) (ret_e hK0 hf) dX11_image_10

theorem nd_X5_init : yX5_init.cls ≠ "java/lang/invoke/MethodHandle" ∧ yX5_init.cls ≠ "java/lang/invoke/VarHandle" ∧ (parseMethodDescriptor yX5_init.desc).map (fun d => d.parameters.length) = some 1 := by decide +kernel
set_option maxHeartbeats 4000000 in
set_option maxRecDepth 100000 in
theorem ch_X5_init (l : Launch) (D : va_G) (cy : Nat → ClassId) (h : Nat) (a1 : Option Nat) (s0 : HSt) (out : HSt) (hf : fh_X5_init h a1 s0 = some out) : CHv l D cy yX5_init wsX5_init { frames := 1, cells := 0, slots := 0, locals := 30 } 0 0 False True [.ref h, va_rf a1] s0 out := by
  refine Met.ofW (cc := cX5_init) (maxL := 2) (ret := none) (by decide) rfl ?_
  intro p e s m args below meth c s₁ B hml hv
  obtain ⟨rfl, hP, hK, hD0, hkx, hsz, hal⟩ := hv
  have hx := B.exec
  have hb := B.bytes
  have hr := B.returns
  have hts := atoms_spec (ws := wsX5_init) B.pre
  have hown : s.vm.findClass RX5 = some m.cls := findClass_of_methodNamed B.named
  have hlocks := B.notSynchronized
  have hin0 : meth.name = "<init>" := (name_of_methodNamed B.named B.method).1
  have hI : HI D cy s s0 s0 s.heap [] 0 False True := ⟨hK, hP, hD0.weaken (fun k q hk _ => Or.inl (pl_mem hk)), va_S.rf, hsz.1, hkx, ⟨hsz, hal⟩, fun _ => rfl, Nat.le_refl _⟩
  have hin_X5 : ∀ w ∈ u_ws RX5 TX5 3, w ∈ wsX5_init := fun w hw => List.mem_cons_of_mem _ (List.mem_append_right _ hw)
  have kl_7 : Cond.fieldLink RX5 7 "HalfBridge$RiverReader" "tokens" "LHalfBridge$Tokens;" ∈ wsX5_init := by decide +kernel
  have hl := lv_entry ([.ref h, va_rf a1]) (n := 2) (by simp [lg_sl, cat_rf, cat_i, cat_l, cat_r])
  rw [lg_entry_eq]
  generalize (lg_sl ([.ref h, va_rf a1]) ++ List.replicate (2 - (lg_sl ([.ref h, va_rf a1])).length) Slot.unset).toArray = ls at hl ⊢
  have hl : lv_has ls 2 [(0, .ref h), (1, va_rf a1)] := (by simpa [lv_args, cat_rf, cat_i, cat_l, cat_r] using hl)
  obtain ⟨K0, hK0, hf⟩ := top_e hf
  unfold fh_X5_init at hf
  refine lv_aload_n hx hb dX5_init_0 rfl (lv_at hl 0 rfl) ?_
  refine W.objInit hx hb hown (hts (.methodLink RX5 1 objectInit) (by decide +kernel)) (hts (.instanceMethod objectInit) (by decide +kernel)) (hts (.code objectInit ⟨#[0xb1]⟩ 1 none) (by decide +kernel)) rfl (by rw [hml]; exact hl.1) rfl dX5_init_1 (Nat.le_of_ble_eq_true rfl) (Nat.le_of_ble_eq_true rfl) ?_
  refine W.eq (g2 := F0 m 4 ls []) rfl ?_
  refine lv_aload_n hx hb dX5_init_4 rfl (lv_at hl 0 rfl) ?_
  refine hq_aload_n hx hb dX5_init_5 rfl (lv_at hl 1 rfl) ?_
  obtain ⟨k1, hf⟩ := chk_b hf
  refine hp_5_0 (x := a1) hx hb hts hin_X5 hown kl_7 hI (isk_k k1) hin0 rfl dX5_init_6 (fun H locs hI => ?_)
  exact hret_v hx hb hr hlocks hI (by decide) (by decide) (fun _ => ⟨trivial, rfl⟩) (ret_e hK0 hf) dX5_init_9

theorem nd_X7_init : yX7_init.cls ≠ "java/lang/invoke/MethodHandle" ∧ yX7_init.cls ≠ "java/lang/invoke/VarHandle" ∧ (parseMethodDescriptor yX7_init.desc).map (fun d => d.parameters.length) = some 1 := by decide +kernel
set_option maxHeartbeats 4000000 in
set_option maxRecDepth 100000 in
theorem ch_X7_init (l : Launch) (D : va_G) (cy : Nat → ClassId) (h : Nat) (a1 : Option Nat) (s0 : HSt) (out : HSt) (hf : fh_X7_init h a1 s0 = some out) : CHv l D cy yX7_init wsX7_init { frames := 1, cells := 4, slots := 437, locals := 30 } 4 437 True True [.ref h, va_rf a1] s0 out := by
  refine Met.ofW (cc := cX7_init) (maxL := 2) (ret := none) (by decide) rfl ?_
  intro p e s m args below meth c s₁ B hml hv
  obtain ⟨rfl, hP, hK, hD0, hkx, hsz, hal⟩ := hv
  have hx := B.exec
  have hb := B.bytes
  have hr := B.returns
  have hts := atoms_spec (ws := wsX7_init) B.pre
  have hown : s.vm.findClass RX7 = some m.cls := findClass_of_methodNamed B.named
  have hlocks := B.notSynchronized
  have hin0 : meth.name = "<init>" := (name_of_methodNamed B.named B.method).1
  have hI : HI D cy s s0 s0 s.heap [] 0 True True := ⟨hK, hP, hD0.weaken (fun k q hk _ => Or.inl (pl_mem hk)), va_S.rf, hsz.1, hkx, ⟨hsz, hal⟩, fun _ => rfl, Nat.le_refl _⟩
  have hin_X7 : ∀ w ∈ u_ws RX7 TX7 7, w ∈ wsX7_init := fun w hw => List.mem_cons_of_mem _ (List.mem_append_right _ hw)
  have kl_11 : Cond.fieldLink RX7 11 "HalfBridge$RuleReader" "kinds" "[I" ∈ wsX7_init := by decide +kernel
  have kl_17 : Cond.fieldLink RX7 17 "HalfBridge$RuleReader" "starts" "[I" ∈ wsX7_init := by decide +kernel
  have kl_20 : Cond.fieldLink RX7 20 "HalfBridge$RuleReader" "tests" "[I" ∈ wsX7_init := by decide +kernel
  have kl_23 : Cond.fieldLink RX7 23 "HalfBridge$RuleReader" "code" "[I" ∈ wsX7_init := by decide +kernel
  have kl_26 : Cond.fieldLink RX7 26 "HalfBridge$RuleReader" "tokens" "LHalfBridge$Tokens;" ∈ wsX7_init := by decide +kernel
  have hl := lv_entry ([.ref h, va_rf a1]) (n := 2) (by simp [lg_sl, cat_rf, cat_i, cat_l, cat_r])
  rw [lg_entry_eq]
  generalize (lg_sl ([.ref h, va_rf a1]) ++ List.replicate (2 - (lg_sl ([.ref h, va_rf a1])).length) Slot.unset).toArray = ls at hl ⊢
  have hl : lv_has ls 2 [(0, .ref h), (1, va_rf a1)] := (by simpa [lv_args, cat_rf, cat_i, cat_l, cat_r] using hl)
  obtain ⟨K0, hK0, hf⟩ := top_e hf
  unfold fh_X7_init at hf
  refine lv_aload_n hx hb dX7_init_0 rfl (lv_at hl 0 rfl) ?_
  refine W.objInit hx hb hown (hts (.methodLink RX7 3 objectInit) (by decide +kernel)) (hts (.instanceMethod objectInit) (by decide +kernel)) (hts (.code objectInit ⟨#[0xb1]⟩ 1 none) (by decide +kernel)) rfl (by rw [hml]; exact hl.1) rfl dX7_init_1 (Nat.le_of_ble_eq_true rfl) (Nat.le_of_ble_eq_true rfl) ?_
  refine W.eq (g2 := F0 m 4 ls []) rfl ?_
  refine lv_aload_n hx hb dX7_init_4 rfl (lv_at hl 0 rfl) ?_
  refine lv_bipush (v := 12) hx hb dX7_init_5 (by decide) ?_
  refine hn_I (N := 12) hx hb hts (by decide +kernel) hI trivial trivial (by decide) rfl (by decide) (Nat.le_of_ble_eq_true rfl) (Nat.le_of_ble_eq_true rfl) dX7_init_7 (fun H hI => ?_)
  refine W.widen (k := 1) (n := 12) (by decide) (by decide) ?_
  obtain ⟨x1, hx1, hf⟩ := bnd_b hf
  replace hx1 := Option.some.inj hx1
  rw [hx1] at hI
  have hk2 : gK x1 (gN s0) = 22 := by rw [← hx1]; exact nO_K
  obtain ⟨k3, hf⟩ := chk_b hf
  refine hp_7_1 (x := (some (gN s0))) hx hb hts hin_X7 hown kl_11 hI (isk_k k3) hin0 rfl dX7_init_9 (fun H locs hI => ?_)
  refine lv_aload_n hx hb dX7_init_12 rfl (lv_at hl 0 rfl) ?_
  refine lv_bipush (v := 13) hx hb dX7_init_13 (by decide) ?_
  refine hn_I (N := 13) hx hb hts (by decide +kernel) hI trivial trivial (by decide) rfl (by decide) (Nat.le_of_ble_eq_true rfl) (Nat.le_of_ble_eq_true rfl) dX7_init_15 (fun H hI => ?_)
  refine W.widen (k := 2) (n := 25) (by decide) (by decide) ?_
  obtain ⟨x4, hx4, hf⟩ := bnd_b hf
  replace hx4 := Option.some.inj hx4
  rw [hx4] at hI
  have hk5 : gK x4 (gN (sR x1 701 h (some (gN s0)))) = 22 := by rw [← hx4]; exact nO_K
  obtain ⟨k6, hf⟩ := chk_b hf
  refine hp_7_2 (x := (some (gN (sR x1 701 h (some (gN s0)))))) hx hb hts hin_X7 hown kl_17 hI (isk_k k6) hin0 rfl dX7_init_17 (fun H locs hI => ?_)
  refine lv_aload_n hx hb dX7_init_20 rfl (lv_at hl 0 rfl) ?_
  refine lv_bipush (v := 12) hx hb dX7_init_21 (by decide) ?_
  refine hn_I (N := 12) hx hb hts (by decide +kernel) hI trivial trivial (by decide) rfl (by decide) (Nat.le_of_ble_eq_true rfl) (Nat.le_of_ble_eq_true rfl) dX7_init_23 (fun H hI => ?_)
  refine W.widen (k := 3) (n := 37) (by decide) (by decide) ?_
  obtain ⟨x7, hx7, hf⟩ := bnd_b hf
  replace hx7 := Option.some.inj hx7
  rw [hx7] at hI
  have hk8 : gK x7 (gN (sR x4 702 h (some (gN (sR x1 701 h (some (gN s0))))))) = 22 := by rw [← hx7]; exact nO_K
  obtain ⟨k9, hf⟩ := chk_b hf
  refine hp_7_3 (x := (some (gN (sR x4 702 h (some (gN (sR x1 701 h (some (gN s0))))))))) hx hb hts hin_X7 hown kl_20 hI (isk_k k9) hin0 rfl dX7_init_25 (fun H locs hI => ?_)
  obtain ⟨x10, hx10, hf⟩ := bnd_b hf
  replace hx10 := Option.some.inj hx10
  rw [hx10] at hI
  have hk11 : gK x10 (gN (sR x4 702 h (some (gN (sR x1 701 h (some (gN s0))))))) = 22 := by rw [← hx10]; exact (gK_sR.trans hk8)
  have hk12 : gK x10 h = 8 := by rw [← hx10]; exact (gK_sR.trans (isk_k k9))
  refine lv_aload_n hx hb dX7_init_28 rfl (lv_at hl 0 rfl) ?_
  refine lv_sipush (v := 400) hx hb dX7_init_29 (by decide) ?_
  refine hn_I (N := 400) hx hb hts (by decide +kernel) hI trivial trivial (by decide) rfl (by decide) (Nat.le_of_ble_eq_true rfl) (Nat.le_of_ble_eq_true rfl) dX7_init_32 (fun H hI => ?_)
  refine W.widen (k := 4) (n := 437) (by decide) (by decide) ?_
  obtain ⟨x13, hx13, hf⟩ := bnd_b hf
  replace hx13 := Option.some.inj hx13
  rw [hx13] at hI
  have hk14 : gK x13 (gN x10) = 22 := by rw [← hx13]; exact nO_K
  obtain ⟨k15, hf⟩ := chk_b hf
  refine hp_7_4 (x := (some (gN x10))) hx hb hts hin_X7 hown kl_23 hI (isk_k k15) hin0 rfl dX7_init_34 (fun H locs hI => ?_)
  refine lv_aload_n hx hb dX7_init_37 rfl (lv_at hl 0 rfl) ?_
  refine hq_aload_n hx hb dX7_init_38 rfl (lv_at hl 1 rfl) ?_
  refine hp_7_0 (x := a1) hx hb hts hin_X7 hown kl_26 hI (gK_sR.trans (isk_k k15)) hin0 rfl dX7_init_39 (fun H locs hI => ?_)
  exact hret_v hx hb hr hlocks hI (by decide) (by decide) (fun _ => ⟨trivial, rfl⟩) (ret_e hK0 hf) dX7_init_42
