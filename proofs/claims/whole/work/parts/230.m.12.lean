theorem nd_tip : yX12_tip.cls ≠ "java/lang/invoke/MethodHandle" ∧ yX12_tip.cls ≠ "java/lang/invoke/VarHandle" ∧ (parseMethodDescriptor yX12_tip.desc).map (fun d => d.parameters.length) = some 2 := by decide +kernel
set_option maxHeartbeats 4000000 in
set_option maxRecDepth 100000 in
theorem cm_tip (l : Launch) (D : va_G) (h : Nat) (ad : Nat → Nat) (cy : Nat → ClassId) (a1 : Int32) (a2 : Int32) (s0 : MSt) (out : MSt × Int32) (hf : fm_tip a1 a2 s0 = some out) (sz : Nat) : CMi l D h ad cy yX12_tip wsX12_tip { frames := 3, cells := 0, slots := 0, locals := 69 } [.int a1, .int a2] s0 out sz := by
  refine Met.ofW (cc := cX12_tip) (maxL := 3) (ret := (some .int)) (by decide) rfl ?_
  intro p e s m args below meth c s₁ B hml hv
  obtain ⟨rfl, hsz, hP, hK, hD0⟩ := hv
  have hx := B.exec
  have hb := B.bytes
  have hr := B.returns
  have hts := atoms_spec (ws := wsX12_tip) B.pre
  have hown : s.vm.findClass RX12 = some m.cls := findClass_of_methodNamed B.named
  have hlocks := B.notSynchronized
  subst hsz
  have hI : MI D (MA h ad cy s0 s.heap.size) h ad cy s s.heap s0 s.heap [] := ⟨hK, hP, hD0.self, va_S.rf⟩
  have hA : ∀ q : Nat, s.heap.size ≤ q → MA h ad cy s0 s.heap.size q := fun q hq => Or.inr hq
  have hin : ∀ w ∈ u_ws RX12 TX12 42, w ∈ wsX12_tip := fun w hw => List.mem_cons_of_mem _ (List.mem_append_right _ hw)
  have k_said : Cond.fieldLink RX12 45 "HalfBridgeModel" "said" "[I" ∈ wsX12_tip := by decide +kernel
  have hl := lv_entry ([.ref h, .int a1, .int a2]) (n := 3) (Nat.le_of_ble_eq_true rfl)
  rw [lg_entry_eq]
  generalize (lg_sl ([.ref h, .int a1, .int a2]) ++ List.replicate (3 - (lg_sl ([.ref h, .int a1, .int a2])).length) Slot.unset).toArray = ls at hl ⊢
  have hl : lv_has ls 3 [(0, .ref h), (1, .int a1), (2, .int a2)] := hl
  obtain ⟨K0, hK0, hf⟩ := top_e hf
  unfold fm_tip at hf
  refine lv_aload_n hx hb dX12_tip_0 rfl (lv_at hl 0 rfl) ?_
  obtain ⟨x1, hc2, hf⟩ := bnd_b hf
  refine mcall_i (As := []) (rest := []) (n := 0) ⟨hx, hb, hml, hown, hts⟩ (cm_isRiver l D h ad cy  s0 x1 hc2 _) (cwV 0 hts gX12_tip_X12_isRiver rfl rfl rfl ⟨rfl, nd_isRiver⟩ ⟨Nat.le_of_ble_eq_true rfl, Nat.le_of_ble_eq_true rfl⟩) hI hA rfl hl.1 (Nat.le_of_ble_eq_true rfl) dX12_tip_1 ⟨Nat.zero_le _, Nat.zero_le _⟩ (fun H locs hI => ?_)
  refine lv_if_eq (tgt := 26) hx hb dX12_tip_4 (by decide) (fun c3 => ?_) (fun c3 => ?_)
  · replace hf := ifp c3 hf
    refine lv_ldcw (v := -100000) hx hb hown (hts (.constant RX12 339 (-100000)) (by decide +kernel)) dX12_tip_26 ?_
    exact mret_i hx hb hr hlocks hI (ret_e hK0 hf) dX12_tip_29
  · replace hf := ifn c3 hf
    refine lv_iload_n hx hb dX12_tip_7 rfl (lv_at hl 1 rfl) ?_
    obtain ⟨x4, hc5, hf⟩ := bnd_b hf
    refine mst_i (As := [.int a1]) (rest := []) (n := 1) ⟨hx, hb, hml, hown, hts⟩ (cs_isSide l a1 x4 hc5 _) (va_cwS 1 hts gX12_tip_X12_isSide rfl rfl rfl nd_isSide ⟨Nat.le_of_ble_eq_true rfl, Nat.le_of_ble_eq_true rfl⟩) hI hA rfl hl.1 (Nat.le_of_ble_eq_true rfl) dX12_tip_8 ⟨Nat.zero_le _, Nat.zero_le _⟩ (fun H locs hI => ?_)
    refine lv_if_eq (tgt := 26) hx hb dX12_tip_11 (by decide) (fun c6 => ?_) (fun c6 => ?_)
    · replace hf := ifp c6 hf
      refine lv_ldcw (v := -100000) hx hb hown (hts (.constant RX12 339 (-100000)) (by decide +kernel)) dX12_tip_26 ?_
      exact mret_i hx hb hr hlocks hI (ret_e hK0 hf) dX12_tip_29
    · replace hf := ifn c6 hf
      refine lv_iload_n hx hb dX12_tip_14 rfl (lv_at hl 2 rfl) ?_
      refine lv_i2l (v := (a2.toInt64)) hx hb dX12_tip_15 rfl ?_
      refine lv_lconst (v := 0) hx hb dX12_tip_16 (by decide) ?_
      refine lv_ldc2 (v := 6) hx hb hown (hts (.constantLong RX12 340 (6)) (by decide +kernel)) dX12_tip_17 ?_
      obtain ⟨x7, hc8, hf⟩ := bnd_b hf
      refine mst_i (As := [.long (a2.toInt64), .long (0 : Int64), .long (6 : Int64)]) (rest := []) (n := 3) ⟨hx, hb, hml, hown, hts⟩ (cs_in l (a2.toInt64) (0 : Int64) (6 : Int64) x7 hc8 _) (va_cwS 3 hts gX12_tip_X12_in rfl rfl rfl nd_in ⟨Nat.le_of_ble_eq_true rfl, Nat.le_of_ble_eq_true rfl⟩) hI hA rfl hl.1 (Nat.le_of_ble_eq_true rfl) dX12_tip_20 ⟨Nat.zero_le _, Nat.zero_le _⟩ (fun H locs hI => ?_)
      refine lv_if_ne (tgt := 30) hx hb dX12_tip_23 (by decide) (fun c9 => ?_) (fun c9 => ?_)
      · replace hf := ifn c9 hf
        refine lv_iload_n hx hb dX12_tip_30 rfl (lv_at hl 2 rfl) ?_
        refine lv_if_ne (tgt := 44) hx hb dX12_tip_31 (by decide) (fun c10 => ?_) (fun c10 => ?_)
        · replace hf := ifn c10 hf
          refine lv_iload_n hx hb dX12_tip_44 rfl (lv_at hl 2 rfl) ?_
          refine lv_iconst (v := 3) hx hb dX12_tip_45 (by decide) ?_
          refine lv_icmp_ge (tgt := 58) hx hb dX12_tip_46 (by decide) (fun c11 => ?_) (fun c11 => ?_)
          · replace hf := ifp c11 hf
            refine lv_iload_n hx hb dX12_tip_58 rfl (lv_at hl 2 rfl) ?_
            refine lv_iconst (v := 3) hx hb dX12_tip_59 (by decide) ?_
            refine lv_icmp_ne (tgt := 69) hx hb dX12_tip_60 (by decide) (fun c12 => ?_) (fun c12 => ?_)
            · replace hf := ifn c12 hf
              refine lv_aload_n hx hb dX12_tip_69 rfl (lv_at hl 0 rfl) ?_
              obtain ⟨x13, hc14, hf⟩ := bnd_b hf
              refine mcall_v (As := []) (rest := []) (n := 0) ⟨hx, hb, hml, hown, hts⟩ (cm_errsAsTold l D h ad cy  x1.1 x13 hc14 _) (cwV 0 hts gX12_tip_X12_errsAsTold rfl rfl rfl ⟨rfl, nd_errsAsTold⟩ ⟨Nat.le_of_ble_eq_true rfl, Nat.le_of_ble_eq_true rfl⟩) hI hA rfl hl.1 (Nat.le_of_ble_eq_true rfl) dX12_tip_70 ⟨Nat.zero_le _, Nat.zero_le _⟩ (fun H locs hI => ?_)
              refine lv_iload_n hx hb dX12_tip_73 rfl (lv_at hl 2 rfl) ?_
              refine lv_bipush (v := 6) hx hb dX12_tip_74 (by decide) ?_
              refine lv_icmp_ne (tgt := 91) hx hb dX12_tip_76 (by decide) (fun c15 => ?_) (fun c15 => ?_)
              · replace hf := ifn c15 hf
                refine lv_aload_n hx hb dX12_tip_91 rfl (lv_at hl 0 rfl) ?_
                refine lv_iload_n hx hb dX12_tip_92 rfl (lv_at hl 1 rfl) ?_
                refine lv_iload_n hx hb dX12_tip_93 rfl (lv_at hl 2 rfl) ?_
                refine lv_iconst (v := 4) hx hb dX12_tip_94 (by decide) ?_
                refine lv_isub hx hb dX12_tip_95 ?_
                obtain ⟨x16, hc17, hf⟩ := bnd_b hf
                refine mcall_i (As := [.int a1, .int (a2 - (4 : Int32))]) (rest := []) (n := 2) ⟨hx, hb, hml, hown, hts⟩ (cm_seen l D h ad cy a1 (a2 - (4 : Int32)) x13 x16 hc17 _) (cwV 2 hts gX12_tip_X12_seen rfl rfl rfl ⟨rfl, nd_seen⟩ ⟨Nat.le_of_ble_eq_true rfl, Nat.le_of_ble_eq_true rfl⟩) hI hA rfl hl.1 (Nat.le_of_ble_eq_true rfl) dX12_tip_96 ⟨Nat.zero_le _, Nat.zero_le _⟩ (fun H locs hI => ?_)
                exact mret_i hx hb hr hlocks hI (ret_e hK0 hf) dX12_tip_99
              · replace hf := ifp c15 hf
                refine lv_aload_n hx hb dX12_tip_79 rfl (lv_at hl 0 rfl) ?_
                refine mg_said hx hb hts hin hown k_said hI dX12_tip_80 ?_
                refine lv_bipush (v := 12) hx hb dX12_tip_83 (by decide) ?_
                refine lv_iload_n hx hb dX12_tip_85 rfl (lv_at hl 1 rfl) ?_
                refine lv_iadd hx hb dX12_tip_86 ?_
                obtain ⟨k18, hf⟩ := chk_b hf
                refine ml_said hx hb hI k18 dX12_tip_87 ?_
                refine lv_goto (tgt := 99) hx hb dX12_tip_88 (by decide) ?_
                exact mret_i hx hb hr hlocks hI (ret_e hK0 hf) dX12_tip_99
            · replace hf := ifp c12 hf
              refine lv_aload_n hx hb dX12_tip_63 rfl (lv_at hl 0 rfl) ?_
              refine lv_iload_n hx hb dX12_tip_64 rfl (lv_at hl 1 rfl) ?_
              obtain ⟨x19, hc20, hf⟩ := bnd_b hf
              refine mcall_i (As := [.int a1]) (rest := []) (n := 1) ⟨hx, hb, hml, hown, hts⟩ (cm_crooked l D h ad cy a1 x1.1 x19 hc20 _) (cwV 1 hts gX12_tip_X12_crooked rfl rfl rfl ⟨rfl, nd_crooked⟩ ⟨Nat.le_of_ble_eq_true rfl, Nat.le_of_ble_eq_true rfl⟩) hI hA rfl hl.1 (Nat.le_of_ble_eq_true rfl) dX12_tip_65 ⟨Nat.zero_le _, Nat.zero_le _⟩ (fun H locs hI => ?_)
              exact mret_i hx hb hr hlocks hI (ret_e hK0 hf) dX12_tip_68
          · replace hf := ifn c11 hf
            refine lv_aload_n hx hb dX12_tip_49 rfl (lv_at hl 0 rfl) ?_
            refine lv_iload_n hx hb dX12_tip_50 rfl (lv_at hl 1 rfl) ?_
            refine lv_iload_n hx hb dX12_tip_51 rfl (lv_at hl 2 rfl) ?_
            refine lv_iconst (v := 1) hx hb dX12_tip_52 (by decide) ?_
            refine lv_isub hx hb dX12_tip_53 ?_
            obtain ⟨x21, hc22, hf⟩ := bnd_b hf
            refine mcall_i (As := [.int a1, .int (a2 - (1 : Int32))]) (rest := []) (n := 2) ⟨hx, hb, hml, hown, hts⟩ (cm_tipOf l D h ad cy a1 (a2 - (1 : Int32)) x1.1 x21 hc22 _) (cwV 2 hts gX12_tip_X12_tipOf rfl rfl rfl ⟨rfl, nd_tipOf⟩ ⟨Nat.le_of_ble_eq_true rfl, Nat.le_of_ble_eq_true rfl⟩) hI hA rfl hl.1 (Nat.le_of_ble_eq_true rfl) dX12_tip_54 ⟨Nat.zero_le _, Nat.zero_le _⟩ (fun H locs hI => ?_)
            exact mret_i hx hb hr hlocks hI (ret_e hK0 hf) dX12_tip_57
        · replace hf := ifp c10 hf
          refine lv_aload_n hx hb dX12_tip_34 rfl (lv_at hl 0 rfl) ?_
          refine mg_said hx hb hts hin hown k_said hI dX12_tip_35 ?_
          refine lv_bipush (v := 6) hx hb dX12_tip_38 (by decide) ?_
          refine lv_iload_n hx hb dX12_tip_40 rfl (lv_at hl 1 rfl) ?_
          refine lv_iadd hx hb dX12_tip_41 ?_
          obtain ⟨k23, hf⟩ := chk_b hf
          refine ml_said hx hb hI k23 dX12_tip_42 ?_
          exact mret_i hx hb hr hlocks hI (ret_e hK0 hf) dX12_tip_43
      · replace hf := ifp c9 hf
        refine lv_ldcw (v := -100000) hx hb hown (hts (.constant RX12 339 (-100000)) (by decide +kernel)) dX12_tip_26 ?_
        exact mret_i hx hb hr hlocks hI (ret_e hK0 hf) dX12_tip_29

theorem nd_err : yX12_err.cls ≠ "java/lang/invoke/MethodHandle" ∧ yX12_err.cls ≠ "java/lang/invoke/VarHandle" ∧ (parseMethodDescriptor yX12_err.desc).map (fun d => d.parameters.length) = some 3 := by decide +kernel
set_option maxHeartbeats 4000000 in
set_option maxRecDepth 100000 in
theorem cm_err (l : Launch) (D : va_G) (h : Nat) (ad : Nat → Nat) (cy : Nat → ClassId) (a1 : Int32) (a2 : Int32) (a3 : Int32) (s0 : MSt) (out : MSt × Int32) (hf : fm_err a1 a2 a3 s0 = some out) (sz : Nat) : CMi l D h ad cy yX12_err wsX12_err { frames := 1, cells := 0, slots := 0, locals := 25 } [.int a1, .int a2, .int a3] s0 out sz := by
  refine Met.ofW (cc := cX12_err) (maxL := 5) (ret := (some .int)) (by decide) rfl ?_
  intro p e s m args below meth c s₁ B hml hv
  obtain ⟨rfl, hsz, hP, hK, hD0⟩ := hv
  have hx := B.exec
  have hb := B.bytes
  have hr := B.returns
  have hts := atoms_spec (ws := wsX12_err) B.pre
  have hown : s.vm.findClass RX12 = some m.cls := findClass_of_methodNamed B.named
  have hlocks := B.notSynchronized
  subst hsz
  have hI : MI D (MA h ad cy s0 s.heap.size) h ad cy s s.heap s0 s.heap [] := ⟨hK, hP, hD0.self, va_S.rf⟩
  have hA : ∀ q : Nat, s.heap.size ≤ q → MA h ad cy s0 s.heap.size q := fun q hq => Or.inr hq
  have hin : ∀ w ∈ u_ws RX12 TX12 42, w ∈ wsX12_err := fun w hw => List.mem_cons_of_mem _ (List.mem_append_right _ hw)
  have k_said : Cond.fieldLink RX12 45 "HalfBridgeModel" "said" "[I" ∈ wsX12_err := by decide +kernel
  have hl := lv_entry ([.ref h, .int a1, .int a2, .int a3]) (n := 5) (Nat.le_of_ble_eq_true rfl)
  rw [lg_entry_eq]
  generalize (lg_sl ([.ref h, .int a1, .int a2, .int a3]) ++ List.replicate (5 - (lg_sl ([.ref h, .int a1, .int a2, .int a3])).length) Slot.unset).toArray = ls at hl ⊢
  have hl : lv_has ls 5 [(0, .ref h), (1, .int a1), (2, .int a2), (3, .int a3)] := hl
  obtain ⟨K0, hK0, hf⟩ := top_e hf
  unfold fm_err at hf
  refine lv_aload_n hx hb dX12_err_0 rfl (lv_at hl 0 rfl) ?_
  obtain ⟨x1, hc2, hf⟩ := bnd_b hf
  refine mcall_i (As := []) (rest := []) (n := 0) ⟨hx, hb, hml, hown, hts⟩ (cm_isRiver l D h ad cy  s0 x1 hc2 _) (cwV 0 hts gX12_err_X12_isRiver rfl rfl rfl ⟨rfl, nd_isRiver⟩ ⟨Nat.le_of_ble_eq_true rfl, Nat.le_of_ble_eq_true rfl⟩) hI hA rfl hl.1 (Nat.le_of_ble_eq_true rfl) dX12_err_1 ⟨Nat.zero_le _, Nat.zero_le _⟩ (fun H locs hI => ?_)
  refine lv_if_eq (tgt := 40) hx hb dX12_err_4 (by decide) (fun c3 => ?_) (fun c3 => ?_)
  · replace hf := ifp c3 hf
    refine lv_ldcw (v := -100000) hx hb hown (hts (.constant RX12 339 (-100000)) (by decide +kernel)) dX12_err_40 ?_
    exact mret_i hx hb hr hlocks hI (ret_e hK0 hf) dX12_err_43
  · replace hf := ifn c3 hf
    refine lv_iload_n hx hb dX12_err_7 rfl (lv_at hl 1 rfl) ?_
    obtain ⟨x4, hc5, hf⟩ := bnd_b hf
    refine mst_i (As := [.int a1]) (rest := []) (n := 1) ⟨hx, hb, hml, hown, hts⟩ (cs_isSide l a1 x4 hc5 _) (va_cwS 1 hts gX12_err_X12_isSide rfl rfl rfl nd_isSide ⟨Nat.le_of_ble_eq_true rfl, Nat.le_of_ble_eq_true rfl⟩) hI hA rfl hl.1 (Nat.le_of_ble_eq_true rfl) dX12_err_8 ⟨Nat.zero_le _, Nat.zero_le _⟩ (fun H locs hI => ?_)
    refine lv_if_eq (tgt := 40) hx hb dX12_err_11 (by decide) (fun c6 => ?_) (fun c6 => ?_)
    · replace hf := ifp c6 hf
      refine lv_ldcw (v := -100000) hx hb hown (hts (.constant RX12 339 (-100000)) (by decide +kernel)) dX12_err_40 ?_
      exact mret_i hx hb hr hlocks hI (ret_e hK0 hf) dX12_err_43
    · replace hf := ifn c6 hf
      refine lv_iload_n hx hb dX12_err_14 rfl (lv_at hl 2 rfl) ?_
      refine lv_i2l (v := (a2.toInt64)) hx hb dX12_err_15 rfl ?_
      refine lv_lconst (v := 0) hx hb dX12_err_16 (by decide) ?_
      refine lv_ldc2 (v := 7) hx hb hown (hts (.constantLong RX12 351 (7)) (by decide +kernel)) dX12_err_17 ?_
      obtain ⟨x7, hc8, hf⟩ := bnd_b hf
      refine mst_i (As := [.long (a2.toInt64), .long (0 : Int64), .long (7 : Int64)]) (rest := []) (n := 3) ⟨hx, hb, hml, hown, hts⟩ (cs_in l (a2.toInt64) (0 : Int64) (7 : Int64) x7 hc8 _) (va_cwS 3 hts gX12_err_X12_in rfl rfl rfl nd_in ⟨Nat.le_of_ble_eq_true rfl, Nat.le_of_ble_eq_true rfl⟩) hI hA rfl hl.1 (Nat.le_of_ble_eq_true rfl) dX12_err_20 ⟨Nat.zero_le _, Nat.zero_le _⟩ (fun H locs hI => ?_)
      refine lv_if_eq (tgt := 40) hx hb dX12_err_23 (by decide) (fun c9 => ?_) (fun c9 => ?_)
      · replace hf := ifp c9 hf
        refine lv_ldcw (v := -100000) hx hb hown (hts (.constant RX12 339 (-100000)) (by decide +kernel)) dX12_err_40 ?_
        exact mret_i hx hb hr hlocks hI (ret_e hK0 hf) dX12_err_43
      · replace hf := ifn c9 hf
        refine lv_iload_n hx hb dX12_err_26 rfl (lv_at hl 3 rfl) ?_
        refine lv_i2l (v := (a3.toInt64)) hx hb dX12_err_27 rfl ?_
        refine lv_ldc2 (v := -9) hx hb hown (hts (.constantLong RX12 353 (-9)) (by decide +kernel)) dX12_err_28 ?_
        refine lv_ldc2 (v := 9) hx hb hown (hts (.constantLong RX12 355 (9)) (by decide +kernel)) dX12_err_31 ?_
        obtain ⟨x10, hc11, hf⟩ := bnd_b hf
        refine mst_i (As := [.long (a3.toInt64), .long (-9 : Int64), .long (9 : Int64)]) (rest := []) (n := 3) ⟨hx, hb, hml, hown, hts⟩ (cs_in l (a3.toInt64) (-9 : Int64) (9 : Int64) x10 hc11 _) (va_cwS 3 hts gX12_err_X12_in rfl rfl rfl nd_in ⟨Nat.le_of_ble_eq_true rfl, Nat.le_of_ble_eq_true rfl⟩) hI hA rfl hl.1 (Nat.le_of_ble_eq_true rfl) dX12_err_34 ⟨Nat.zero_le _, Nat.zero_le _⟩ (fun H locs hI => ?_)
        refine lv_if_ne (tgt := 44) hx hb dX12_err_37 (by decide) (fun c12 => ?_) (fun c12 => ?_)
        · replace hf := ifn c12 hf
          refine lv_aload_n hx hb dX12_err_44 rfl (lv_at hl 0 rfl) ?_
          refine mg_said hx hb hts hin hown k_said hI dX12_err_45 ?_
          refine lv_bipush (v := 30) hx hb dX12_err_48 (by decide) ?_
          refine lv_bipush (v := 8) hx hb dX12_err_50 (by decide) ?_
          refine lv_iload_n hx hb dX12_err_52 rfl (lv_at hl 1 rfl) ?_
          refine lv_imul hx hb dX12_err_53 ?_
          refine lv_iadd hx hb dX12_err_54 ?_
          refine lv_iload_n hx hb dX12_err_55 rfl (lv_at hl 2 rfl) ?_
          refine lv_iadd hx hb dX12_err_56 ?_
          obtain ⟨k13, hf⟩ := chk_b hf
          refine ml_said hx hb hI k13 dX12_err_57 ?_
          refine lv_istore (lv' := [(4, .int (x1.1.2.1 26 (((30 : Int32) + ((8 : Int32) * a1)) + a2).toNatClampNeg)), (0, .ref h), (1, .int a1), (2, .int a2), (3, .int a3)]) hx hb dX12_err_58 hl (by decide) rfl (fun ls hl => ?_)
          refine lv_aload_n hx hb dX12_err_60 rfl (lv_at hl 1 rfl) ?_
          refine mg_said hx hb hts hin hown k_said hI dX12_err_61 ?_
          refine lv_bipush (v := 30) hx hb dX12_err_64 (by decide) ?_
          refine lv_bipush (v := 8) hx hb dX12_err_66 (by decide) ?_
          refine lv_iload_n hx hb dX12_err_68 rfl (lv_at hl 2 rfl) ?_
          refine lv_imul hx hb dX12_err_69 ?_
          refine lv_iadd hx hb dX12_err_70 ?_
          refine lv_iload_n hx hb dX12_err_71 rfl (lv_at hl 3 rfl) ?_
          refine lv_iadd hx hb dX12_err_72 ?_
          refine lv_iload_n hx hb dX12_err_73 rfl (lv_at hl 4 rfl) ?_
          obtain ⟨k14, hf⟩ := chk_b hf
          refine ms_said hx hb hI k14 dX12_err_74 (fun H locs hI => ?_)
          refine lv_iload hx hb dX12_err_75 (lv_at hl 0 rfl) ?_
          exact mret_i hx hb hr hlocks hI (ret_e hK0 hf) dX12_err_77
        · replace hf := ifp c12 hf
          refine lv_ldcw (v := -100000) hx hb hown (hts (.constant RX12 339 (-100000)) (by decide +kernel)) dX12_err_40 ?_
          exact mret_i hx hb hr hlocks hI (ret_e hK0 hf) dX12_err_43

theorem nd_builds : yX12_builds.cls ≠ "java/lang/invoke/MethodHandle" ∧ yX12_builds.cls ≠ "java/lang/invoke/VarHandle" ∧ (parseMethodDescriptor yX12_builds.desc).map (fun d => d.parameters.length) = some 3 := by decide +kernel
set_option maxHeartbeats 4000000 in
set_option maxRecDepth 100000 in
theorem cm_builds (l : Launch) (D : va_G) (h : Nat) (ad : Nat → Nat) (cy : Nat → ClassId) (a1 : Int32) (a2 : Int32) (a3 : Int32) (s0 : MSt) (out : MSt) (hf : fm_builds a1 a2 a3 s0 = some out) (sz : Nat) : CMv l D h ad cy yX12_builds wsX12_builds { frames := 2, cells := 0, slots := 0, locals := 45 } [.int a1, .int a2, .int a3] s0 out sz := by
  refine Met.ofW (cc := cX12_builds) (maxL := 7) (ret := none) (by decide) rfl ?_
  intro p e s m args below meth c s₁ B hml hv
  obtain ⟨rfl, hsz, hP, hK, hD0⟩ := hv
  have hx := B.exec
  have hb := B.bytes
  have hr := B.returns
  have hts := atoms_spec (ws := wsX12_builds) B.pre
  have hown : s.vm.findClass RX12 = some m.cls := findClass_of_methodNamed B.named
  have hlocks := B.notSynchronized
  subst hsz
  have hI : MI D (MA h ad cy s0 s.heap.size) h ad cy s s.heap s0 s.heap [] := ⟨hK, hP, hD0.self, va_S.rf⟩
  have hA : ∀ q : Nat, s.heap.size ≤ q → MA h ad cy s0 s.heap.size q := fun q hq => Or.inr hq
  have hin : ∀ w ∈ u_ws RX12 TX12 42, w ∈ wsX12_builds := fun w hw => List.mem_cons_of_mem _ (List.mem_append_right _ hw)
  have k_said : Cond.fieldLink RX12 45 "HalfBridgeModel" "said" "[I" ∈ wsX12_builds := by decide +kernel
  have hl := lv_entry ([.ref h, .int a1, .int a2, .int a3]) (n := 7) (Nat.le_of_ble_eq_true rfl)
  rw [lg_entry_eq]
  generalize (lg_sl ([.ref h, .int a1, .int a2, .int a3]) ++ List.replicate (7 - (lg_sl ([.ref h, .int a1, .int a2, .int a3])).length) Slot.unset).toArray = ls at hl ⊢
  have hl : lv_has ls 7 [(0, .ref h), (1, .int a1), (2, .int a2), (3, .int a3)] := hl
  obtain ⟨K0, hK0, hf⟩ := top_e hf
  unfold fm_builds at hf
  refine lv_aload_n hx hb dX12_builds_0 rfl (lv_at hl 0 rfl) ?_
  refine mg_said hx hb hts hin hown k_said hI dX12_builds_1 ?_
  refine lv_bipush (v := 6) hx hb dX12_builds_4 (by decide) ?_
  refine lv_iload_n hx hb dX12_builds_6 rfl (lv_at hl 1 rfl) ?_
  refine lv_iadd hx hb dX12_builds_7 ?_
  obtain ⟨k1, hf⟩ := chk_b hf
  refine ml_said hx hb hI k1 dX12_builds_8 ?_
  refine lv_istore (lv' := [(4, .int (s0.2.1 26 ((6 : Int32) + a1).toNatClampNeg)), (0, .ref h), (1, .int a1), (2, .int a2), (3, .int a3)]) hx hb dX12_builds_9 hl (by decide) rfl (fun ls hl => ?_)
  refine lv_aload_n hx hb dX12_builds_11 rfl (lv_at hl 1 rfl) ?_
  refine lv_iload_n hx hb dX12_builds_12 rfl (lv_at hl 2 rfl) ?_
  refine lv_iconst (v := 0) hx hb dX12_builds_13 (by decide) ?_
  obtain ⟨x2, hc3, hf⟩ := bnd_b hf
  refine mcall_i (As := [.int a1, .int (0 : Int32)]) (rest := []) (n := 2) ⟨hx, hb, hml, hown, hts⟩ (cm_tipOf l D h ad cy a1 (0 : Int32) s0 x2 hc3 _) (cwV 2 hts gX12_builds_X12_tipOf rfl rfl rfl ⟨rfl, nd_tipOf⟩ ⟨Nat.le_of_ble_eq_true rfl, Nat.le_of_ble_eq_true rfl⟩) hI hA rfl hl.1 (Nat.le_of_ble_eq_true rfl) dX12_builds_14 ⟨Nat.zero_le _, Nat.zero_le _⟩ (fun H locs hI => ?_)
  refine lv_iload_n hx hb dX12_builds_17 rfl (lv_at hl 3 rfl) ?_
  refine lv_iadd hx hb dX12_builds_18 ?_
  refine lv_istore (lv' := [(5, .int (x2.2 + a2)), (4, .int (s0.2.1 26 ((6 : Int32) + a1).toNatClampNeg)), (0, .ref h), (1, .int a1), (2, .int a2), (3, .int a3)]) hx hb dX12_builds_19 hl (by decide) rfl (fun ls hl => ?_)
  refine lv_aload_n hx hb dX12_builds_21 rfl (lv_at hl 2 rfl) ?_
  refine lv_iload_n hx hb dX12_builds_22 rfl (lv_at hl 3 rfl) ?_
  refine lv_iconst (v := 1) hx hb dX12_builds_23 (by decide) ?_
  obtain ⟨x4, hc5, hf⟩ := bnd_b hf
  refine mcall_i (As := [.int a1, .int (1 : Int32)]) (rest := []) (n := 2) ⟨hx, hb, hml, hown, hts⟩ (cm_tipOf l D h ad cy a1 (1 : Int32) x2.1 x4 hc5 _) (cwV 2 hts gX12_builds_X12_tipOf rfl rfl rfl ⟨rfl, nd_tipOf⟩ ⟨Nat.le_of_ble_eq_true rfl, Nat.le_of_ble_eq_true rfl⟩) hI hA rfl hl.1 (Nat.le_of_ble_eq_true rfl) dX12_builds_24 ⟨Nat.zero_le _, Nat.zero_le _⟩ (fun H locs hI => ?_)
  refine lv_iload_n hx hb dX12_builds_27 rfl (lv_at hl 5 rfl) ?_
  refine lv_iadd hx hb dX12_builds_28 ?_
  refine lv_istore (lv' := [(6, .int (x4.2 + a3)), (5, .int (x2.2 + a2)), (4, .int (s0.2.1 26 ((6 : Int32) + a1).toNatClampNeg)), (0, .ref h), (1, .int a1), (2, .int a2), (3, .int a3)]) hx hb dX12_builds_29 hl (by decide) rfl (fun ls hl => ?_)
  refine lv_aload_n hx hb dX12_builds_31 rfl (lv_at hl 3 rfl) ?_
  refine mg_said hx hb hts hin hown k_said hI dX12_builds_32 ?_
  refine lv_bipush (v := 126) hx hb dX12_builds_35 (by decide) ?_
  refine lv_bipush (v := 40) hx hb dX12_builds_37 (by decide) ?_
  refine lv_iload_n hx hb dX12_builds_39 rfl (lv_at hl 4 rfl) ?_
  refine lv_imul hx hb dX12_builds_40 ?_
  refine lv_iadd hx hb dX12_builds_41 ?_
  refine lv_iload hx hb dX12_builds_42 (lv_at hl 2 rfl) ?_
  refine lv_iadd hx hb dX12_builds_44 ?_
  refine lv_iload hx hb dX12_builds_45 (lv_at hl 1 rfl) ?_
  obtain ⟨k6, hf⟩ := chk_b hf
  refine ms_said hx hb hI k6 dX12_builds_47 (fun H locs hI => ?_)
  refine lv_aload_n hx hb dX12_builds_48 rfl (lv_at hl 3 rfl) ?_
  refine mg_said hx hb hts hin hown k_said hI dX12_builds_49 ?_
  refine lv_sipush (v := 206) hx hb dX12_builds_52 (by decide) ?_
  refine lv_bipush (v := 40) hx hb dX12_builds_55 (by decide) ?_
  refine lv_iload_n hx hb dX12_builds_57 rfl (lv_at hl 4 rfl) ?_
  refine lv_imul hx hb dX12_builds_58 ?_
  refine lv_iadd hx hb dX12_builds_59 ?_
  refine lv_iload hx hb dX12_builds_60 (lv_at hl 2 rfl) ?_
  refine lv_iadd hx hb dX12_builds_62 ?_
  refine lv_iload hx hb dX12_builds_63 (lv_at hl 0 rfl) ?_
  obtain ⟨k7, hf⟩ := chk_b hf
  refine ms_said hx hb hI k7 dX12_builds_65 (fun H locs hI => ?_)
  refine lv_aload_n hx hb dX12_builds_66 rfl (lv_at hl 3 rfl) ?_
  refine mg_said hx hb hts hin hown k_said hI dX12_builds_67 ?_
  refine lv_bipush (v := 6) hx hb dX12_builds_70 (by decide) ?_
  refine lv_iload_n hx hb dX12_builds_72 rfl (lv_at hl 4 rfl) ?_
  refine lv_iadd hx hb dX12_builds_73 ?_
  refine lv_dup2_11 hx hb dX12_builds_74 rfl rfl ?_
  obtain ⟨k8, hf⟩ := chk_b hf
  refine ml_said hx hb hI k8 dX12_builds_75 ?_
  refine lv_iconst (v := 1) hx hb dX12_builds_76 (by decide) ?_
  refine lv_iadd hx hb dX12_builds_77 ?_
  obtain ⟨k9, hf⟩ := chk_b hf
  refine ms_said hx hb hI k9 dX12_builds_78 (fun H locs hI => ?_)
  exact mret_v hx hb hr hlocks hI (ret_e hK0 hf) dX12_builds_79

theorem nd_takesYards : yX12_takesYards.cls ≠ "java/lang/invoke/MethodHandle" ∧ yX12_takesYards.cls ≠ "java/lang/invoke/VarHandle" ∧ (parseMethodDescriptor yX12_takesYards.desc).map (fun d => d.parameters.length) = some 2 := by decide +kernel
set_option maxHeartbeats 4000000 in
set_option maxRecDepth 100000 in
theorem cm_takesYards (l : Launch) (D : va_G) (h : Nat) (ad : Nat → Nat) (cy : Nat → ClassId) (a1 : Int32) (a2 : Int32) (s0 : MSt) (out : MSt) (hf : fm_takesYards a1 a2 s0 = some out) (sz : Nat) : CMv l D h ad cy yX12_takesYards wsX12_takesYards { frames := 1, cells := 0, slots := 0, locals := 21 } [.int a1, .int a2] s0 out sz := by
  refine Met.ofW (cc := cX12_takesYards) (maxL := 3) (ret := none) (by decide) rfl ?_
  intro p e s m args below meth c s₁ B hml hv
  obtain ⟨rfl, hsz, hP, hK, hD0⟩ := hv
  have hx := B.exec
  have hb := B.bytes
  have hr := B.returns
  have hts := atoms_spec (ws := wsX12_takesYards) B.pre
  have hown : s.vm.findClass RX12 = some m.cls := findClass_of_methodNamed B.named
  have hlocks := B.notSynchronized
  subst hsz
  have hI : MI D (MA h ad cy s0 s.heap.size) h ad cy s s.heap s0 s.heap [] := ⟨hK, hP, hD0.self, va_S.rf⟩
  have hA : ∀ q : Nat, s.heap.size ≤ q → MA h ad cy s0 s.heap.size q := fun q hq => Or.inr hq
  have hin : ∀ w ∈ u_ws RX12 TX12 42, w ∈ wsX12_takesYards := fun w hw => List.mem_cons_of_mem _ (List.mem_append_right _ hw)
  have k_said : Cond.fieldLink RX12 45 "HalfBridgeModel" "said" "[I" ∈ wsX12_takesYards := by decide +kernel
  have hl := lv_entry ([.ref h, .int a1, .int a2]) (n := 3) (Nat.le_of_ble_eq_true rfl)
  rw [lg_entry_eq]
  generalize (lg_sl ([.ref h, .int a1, .int a2]) ++ List.replicate (3 - (lg_sl ([.ref h, .int a1, .int a2])).length) Slot.unset).toArray = ls at hl ⊢
  have hl : lv_has ls 3 [(0, .ref h), (1, .int a1), (2, .int a2)] := hl
  obtain ⟨K0, hK0, hf⟩ := top_e hf
  unfold fm_takesYards at hf
  refine lv_aload_n hx hb dX12_takesYards_0 rfl (lv_at hl 0 rfl) ?_
  refine mg_said hx hb hts hin hown k_said hI dX12_takesYards_1 ?_
  refine lv_bipush (v := 6) hx hb dX12_takesYards_4 (by decide) ?_
  refine lv_iload_n hx hb dX12_takesYards_6 rfl (lv_at hl 1 rfl) ?_
  refine lv_iadd hx hb dX12_takesYards_7 ?_
  refine lv_iconst (v := 0) hx hb dX12_takesYards_8 (by decide) ?_
  refine lv_aload_n hx hb dX12_takesYards_9 rfl (lv_at hl 0 rfl) ?_
  refine mg_said hx hb hts hin hown k_said hI dX12_takesYards_10 ?_
  refine lv_bipush (v := 6) hx hb dX12_takesYards_13 (by decide) ?_
  refine lv_iload_n hx hb dX12_takesYards_15 rfl (lv_at hl 1 rfl) ?_
  refine lv_iadd hx hb dX12_takesYards_16 ?_
  obtain ⟨k1, hf⟩ := chk_b hf
  refine ml_said hx hb hI k1 dX12_takesYards_17 ?_
  refine lv_iload_n hx hb dX12_takesYards_18 rfl (lv_at hl 2 rfl) ?_
  refine lv_isub hx hb dX12_takesYards_19 ?_
  obtain ⟨x2, hc3, hf⟩ := bnd_b hf
  refine mst_i (As := [.int (0 : Int32), .int ((s0.2.1 26 ((6 : Int32) + a1).toNatClampNeg) - a2)]) (rest := [.int ((6 : Int32) + a1), .ref (ad 26)]) (n := 2) ⟨hx, hb, hml, hown, hts⟩ (cs_greater l (0 : Int32) ((s0.2.1 26 ((6 : Int32) + a1).toNatClampNeg) - a2) x2 hc3 _) (va_cwS 2 hts gX12_takesYards_X12_greater rfl rfl rfl nd_greater ⟨Nat.le_of_ble_eq_true rfl, Nat.le_of_ble_eq_true rfl⟩) hI hA rfl hl.1 (Nat.le_of_ble_eq_true rfl) dX12_takesYards_20 ⟨Nat.zero_le _, Nat.zero_le _⟩ (fun H locs hI => ?_)
  obtain ⟨k4, hf⟩ := chk_b hf
  refine ms_said hx hb hI k4 dX12_takesYards_23 (fun H locs hI => ?_)
  exact mret_v hx hb hr hlocks hI (ret_e hK0 hf) dX12_takesYards_24

theorem nd_build : yX12_build.cls ≠ "java/lang/invoke/MethodHandle" ∧ yX12_build.cls ≠ "java/lang/invoke/VarHandle" ∧ (parseMethodDescriptor yX12_build.desc).map (fun d => d.parameters.length) = some 3 := by decide +kernel
set_option maxHeartbeats 4000000 in
set_option maxRecDepth 100000 in
theorem cm_build (l : Launch) (D : va_G) (h : Nat) (ad : Nat → Nat) (cy : Nat → ClassId) (a1 : Int32) (a2 : Int32) (a3 : Int32) (s0 : MSt) (out : MSt × Int32) (hf : fm_build a1 a2 a3 s0 = some out) (sz : Nat) : CMi l D h ad cy yX12_build wsX12_build { frames := 3, cells := 0, slots := 0, locals := 71 } [.int a1, .int a2, .int a3] s0 out sz := by
  refine Met.ofW (cc := cX12_build) (maxL := 4) (ret := (some .boolean)) (by decide) rfl ?_
  intro p e s m args below meth c s₁ B hml hv
  obtain ⟨rfl, hsz, hP, hK, hD0⟩ := hv
  have hx := B.exec
  have hb := B.bytes
  have hr := B.returns
  have hts := atoms_spec (ws := wsX12_build) B.pre
  have hown : s.vm.findClass RX12 = some m.cls := findClass_of_methodNamed B.named
  have hlocks := B.notSynchronized
  subst hsz
  have hI : MI D (MA h ad cy s0 s.heap.size) h ad cy s s.heap s0 s.heap [] := ⟨hK, hP, hD0.self, va_S.rf⟩
  have hA : ∀ q : Nat, s.heap.size ≤ q → MA h ad cy s0 s.heap.size q := fun q hq => Or.inr hq
  have hin : ∀ w ∈ u_ws RX12 TX12 42, w ∈ wsX12_build := fun w hw => List.mem_cons_of_mem _ (List.mem_append_right _ hw)
  have k_said : Cond.fieldLink RX12 45 "HalfBridgeModel" "said" "[I" ∈ wsX12_build := by decide +kernel
  have hl := lv_entry ([.ref h, .int a1, .int a2, .int a3]) (n := 4) (Nat.le_of_ble_eq_true rfl)
  rw [lg_entry_eq]
  generalize (lg_sl ([.ref h, .int a1, .int a2, .int a3]) ++ List.replicate (4 - (lg_sl ([.ref h, .int a1, .int a2, .int a3])).length) Slot.unset).toArray = ls at hl ⊢
  have hl : lv_has ls 4 [(0, .ref h), (1, .int a1), (2, .int a2), (3, .int a3)] := hl
  obtain ⟨K0, hK0, hf⟩ := top_e hf
  unfold fm_build at hf
  refine lv_aload_n hx hb dX12_build_0 rfl (lv_at hl 0 rfl) ?_
  obtain ⟨x1, hc2, hf⟩ := bnd_b hf
  refine mcall_i (As := []) (rest := []) (n := 0) ⟨hx, hb, hml, hown, hts⟩ (cm_isRiver l D h ad cy  s0 x1 hc2 _) (cwV 0 hts gX12_build_X12_isRiver rfl rfl rfl ⟨rfl, nd_isRiver⟩ ⟨Nat.le_of_ble_eq_true rfl, Nat.le_of_ble_eq_true rfl⟩) hI hA rfl hl.1 (Nat.le_of_ble_eq_true rfl) dX12_build_1 ⟨Nat.zero_le _, Nat.zero_le _⟩ (fun H locs hI => ?_)
  refine lv_if_eq (tgt := 67) hx hb dX12_build_4 (by decide) (fun c3 => ?_) (fun c3 => ?_)
  · replace hf := ifp c3 hf
    refine lv_iconst (v := 0) hx hb dX12_build_67 (by decide) ?_
    exact mret_z hx hb hr (by decide) hlocks hI (ret_e hK0 hf) dX12_build_68
  · replace hf := ifn c3 hf
    refine lv_iload_n hx hb dX12_build_7 rfl (lv_at hl 1 rfl) ?_
    obtain ⟨x4, hc5, hf⟩ := bnd_b hf
    refine mst_i (As := [.int a1]) (rest := []) (n := 1) ⟨hx, hb, hml, hown, hts⟩ (cs_isSide l a1 x4 hc5 _) (va_cwS 1 hts gX12_build_X12_isSide rfl rfl rfl nd_isSide ⟨Nat.le_of_ble_eq_true rfl, Nat.le_of_ble_eq_true rfl⟩) hI hA rfl hl.1 (Nat.le_of_ble_eq_true rfl) dX12_build_8 ⟨Nat.zero_le _, Nat.zero_le _⟩ (fun H locs hI => ?_)
    refine lv_if_eq (tgt := 67) hx hb dX12_build_11 (by decide) (fun c6 => ?_) (fun c6 => ?_)
    · replace hf := ifp c6 hf
      refine lv_iconst (v := 0) hx hb dX12_build_67 (by decide) ?_
      exact mret_z hx hb hr (by decide) hlocks hI (ret_e hK0 hf) dX12_build_68
    · replace hf := ifn c6 hf
      refine lv_aload_n hx hb dX12_build_14 rfl (lv_at hl 0 rfl) ?_
      obtain ⟨x7, hc8, hf⟩ := bnd_b hf
      refine mcall_i (As := []) (rest := []) (n := 0) ⟨hx, hb, hml, hown, hts⟩ (cm_gap l D h ad cy  x1.1 x7 hc8 _) (cwV 0 hts gX12_build_X12_gap rfl rfl rfl ⟨rfl, nd_gap⟩ ⟨Nat.le_of_ble_eq_true rfl, Nat.le_of_ble_eq_true rfl⟩) hI hA rfl hl.1 (Nat.le_of_ble_eq_true rfl) dX12_build_15 ⟨Nat.zero_le _, Nat.zero_le _⟩ (fun H locs hI => ?_)
      refine lv_if_eq (tgt := 67) hx hb dX12_build_18 (by decide) (fun c9 => ?_) (fun c9 => ?_)
      · replace hf := ifp c9 hf
        refine lv_iconst (v := 0) hx hb dX12_build_67 (by decide) ?_
        exact mret_z hx hb hr (by decide) hlocks hI (ret_e hK0 hf) dX12_build_68
      · replace hf := ifn c9 hf
        refine lv_iload_n hx hb dX12_build_21 rfl (lv_at hl 2 rfl) ?_
        refine lv_i2l (v := (a2.toInt64)) hx hb dX12_build_22 rfl ?_
        refine lv_aload_n hx hb dX12_build_23 rfl (lv_at hl 0 rfl) ?_
        refine mg_said hx hb hts hin hown k_said hI dX12_build_24 ?_
        refine lv_iconst (v := 2) hx hb dX12_build_27 (by decide) ?_
        obtain ⟨k10, hf⟩ := chk_b hf
        refine ml_said hx hb hI k10 dX12_build_28 ?_
        refine lv_ineg hx hb dX12_build_29 ?_
        refine lv_i2l (v := ((-(x7.1.2.1 26 (2 : Int32).toNatClampNeg)).toInt64)) hx hb dX12_build_30 rfl ?_
        refine lv_aload_n hx hb dX12_build_31 rfl (lv_at hl 0 rfl) ?_
        refine mg_said hx hb hts hin hown k_said hI dX12_build_32 ?_
        refine lv_iconst (v := 2) hx hb dX12_build_35 (by decide) ?_
        obtain ⟨k11, hf⟩ := chk_b hf
        refine ml_said hx hb hI k11 dX12_build_36 ?_
        refine lv_i2l (v := ((x7.1.2.1 26 (2 : Int32).toNatClampNeg).toInt64)) hx hb dX12_build_37 rfl ?_
        obtain ⟨x12, hc13, hf⟩ := bnd_b hf
        refine mst_i (As := [.long (a2.toInt64), .long ((-(x7.1.2.1 26 (2 : Int32).toNatClampNeg)).toInt64), .long ((x7.1.2.1 26 (2 : Int32).toNatClampNeg).toInt64)]) (rest := []) (n := 3) ⟨hx, hb, hml, hown, hts⟩ (cs_in l (a2.toInt64) ((-(x7.1.2.1 26 (2 : Int32).toNatClampNeg)).toInt64) ((x7.1.2.1 26 (2 : Int32).toNatClampNeg).toInt64) x12 hc13 _) (va_cwS 3 hts gX12_build_X12_in rfl rfl rfl nd_in ⟨Nat.le_of_ble_eq_true rfl, Nat.le_of_ble_eq_true rfl⟩) hI hA rfl hl.1 (Nat.le_of_ble_eq_true rfl) dX12_build_38 ⟨Nat.zero_le _, Nat.zero_le _⟩ (fun H locs hI => ?_)
        refine lv_if_eq (tgt := 67) hx hb dX12_build_41 (by decide) (fun c14 => ?_) (fun c14 => ?_)
        · replace hf := ifp c14 hf
          refine lv_iconst (v := 0) hx hb dX12_build_67 (by decide) ?_
          exact mret_z hx hb hr (by decide) hlocks hI (ret_e hK0 hf) dX12_build_68
        · replace hf := ifn c14 hf
          refine lv_iload_n hx hb dX12_build_44 rfl (lv_at hl 3 rfl) ?_
          refine lv_i2l (v := (a3.toInt64)) hx hb dX12_build_45 rfl ?_
          refine lv_aload_n hx hb dX12_build_46 rfl (lv_at hl 0 rfl) ?_
          refine mg_said hx hb hts hin hown k_said hI dX12_build_47 ?_
          refine lv_iconst (v := 2) hx hb dX12_build_50 (by decide) ?_
          obtain ⟨k15, hf⟩ := chk_b hf
          refine ml_said hx hb hI k15 dX12_build_51 ?_
          refine lv_ineg hx hb dX12_build_52 ?_
          refine lv_i2l (v := ((-(x7.1.2.1 26 (2 : Int32).toNatClampNeg)).toInt64)) hx hb dX12_build_53 rfl ?_
          refine lv_aload_n hx hb dX12_build_54 rfl (lv_at hl 0 rfl) ?_
          refine mg_said hx hb hts hin hown k_said hI dX12_build_55 ?_
          refine lv_iconst (v := 2) hx hb dX12_build_58 (by decide) ?_
          obtain ⟨k16, hf⟩ := chk_b hf
          refine ml_said hx hb hI k16 dX12_build_59 ?_
          refine lv_i2l (v := ((x7.1.2.1 26 (2 : Int32).toNatClampNeg).toInt64)) hx hb dX12_build_60 rfl ?_
          obtain ⟨x17, hc18, hf⟩ := bnd_b hf
          refine mst_i (As := [.long (a3.toInt64), .long ((-(x7.1.2.1 26 (2 : Int32).toNatClampNeg)).toInt64), .long ((x7.1.2.1 26 (2 : Int32).toNatClampNeg).toInt64)]) (rest := []) (n := 3) ⟨hx, hb, hml, hown, hts⟩ (cs_in l (a3.toInt64) ((-(x7.1.2.1 26 (2 : Int32).toNatClampNeg)).toInt64) ((x7.1.2.1 26 (2 : Int32).toNatClampNeg).toInt64) x17 hc18 _) (va_cwS 3 hts gX12_build_X12_in rfl rfl rfl nd_in ⟨Nat.le_of_ble_eq_true rfl, Nat.le_of_ble_eq_true rfl⟩) hI hA rfl hl.1 (Nat.le_of_ble_eq_true rfl) dX12_build_61 ⟨Nat.zero_le _, Nat.zero_le _⟩ (fun H locs hI => ?_)
          refine lv_if_ne (tgt := 69) hx hb dX12_build_64 (by decide) (fun c19 => ?_) (fun c19 => ?_)
          · replace hf := ifn c19 hf
            refine lv_aload_n hx hb dX12_build_69 rfl (lv_at hl 0 rfl) ?_
            refine lv_iload_n hx hb dX12_build_70 rfl (lv_at hl 1 rfl) ?_
            refine lv_iload_n hx hb dX12_build_71 rfl (lv_at hl 2 rfl) ?_
            refine lv_iload_n hx hb dX12_build_72 rfl (lv_at hl 3 rfl) ?_
            obtain ⟨x20, hc21, hf⟩ := bnd_b hf
            refine mcall_v (As := [.int a1, .int a2, .int a3]) (rest := []) (n := 3) ⟨hx, hb, hml, hown, hts⟩ (cm_builds l D h ad cy a1 a2 a3 x7.1 x20 hc21 _) (cwV 3 hts gX12_build_X12_builds rfl rfl rfl ⟨rfl, nd_builds⟩ ⟨Nat.le_of_ble_eq_true rfl, Nat.le_of_ble_eq_true rfl⟩) hI hA rfl hl.1 (Nat.le_of_ble_eq_true rfl) dX12_build_73 ⟨Nat.zero_le _, Nat.zero_le _⟩ (fun H locs hI => ?_)
            refine lv_iconst (v := 1) hx hb dX12_build_76 (by decide) ?_
            exact mret_z hx hb hr (by decide) hlocks hI (ret_e hK0 hf) dX12_build_77
          · replace hf := ifp c19 hf
            refine lv_iconst (v := 0) hx hb dX12_build_67 (by decide) ?_
            exact mret_z hx hb hr (by decide) hlocks hI (ret_e hK0 hf) dX12_build_68
