noncomputable def fm_seen (a1 : Int32) (a2 : Int32) (s0 : MSt) : Option (MSt × Int32) :=
  chk (inb a1 2) (chk (inb ((12 : Int32) + a1) 286) ((fm_gap s0).bind fun x3 => (fm_tipOf ((1 : Int32) - a1) a2 x3.1).bind fun x5 => (if a2 = 0 then some (x5.1, (x5.2 + ((((s0.2.1 27 a1.toNatClampNeg) * (s0.2.1 26 ((12 : Int32) + a1).toNatClampNeg)) * x3.2) / (90 : Int32)))) else some (x5.1, (x5.2 + (-((((s0.2.1 27 a1.toNatClampNeg) * (s0.2.1 26 ((12 : Int32) + a1).toNatClampNeg)) * x3.2) / (90 : Int32))))))))
theorem nd_seen : yX12_seen.cls ≠ "java/lang/invoke/MethodHandle" ∧ yX12_seen.cls ≠ "java/lang/invoke/VarHandle" ∧ (parseMethodDescriptor yX12_seen.desc).map (fun d => d.parameters.length) = some 2 := by decide +kernel
set_option maxHeartbeats 4000000 in
set_option maxRecDepth 100000 in
theorem cm_seen (l : Launch) (D : va_G) (h : Nat) (ad : Nat → Nat) (cy : Nat → ClassId) (a1 : Int32) (a2 : Int32) (s0 : MSt) (out : MSt × Int32) (hf : fm_seen a1 a2 s0 = some out) (sz : Nat) : CMi l D h ad cy yX12_seen wsX12_seen { frames := 2, cells := 0, slots := 0, locals := 45 } [.int a1, .int a2] s0 out sz := by
  refine Met.ofW (cc := cX12_seen) (maxL := 4) (ret := (some .int)) (by decide) rfl ?_
  intro p e s m args below meth c s₁ B hml hv
  obtain ⟨rfl, hsz, hP, hK, hD0⟩ := hv
  have hx := B.exec
  have hb := B.bytes
  have hr := B.returns
  have hts := atoms_spec (ws := wsX12_seen) B.pre
  have hown : s.vm.findClass RX12 = some m.cls := findClass_of_methodNamed B.named
  have hlocks := B.notSynchronized
  subst hsz
  have hI : MI D (MA h ad cy s0 s.heap.size) h ad cy s s.heap s0 s.heap [] := ⟨hK, hP, hD0.self, va_S.rf⟩
  have hA : ∀ q : Nat, s.heap.size ≤ q → MA h ad cy s0 s.heap.size q := fun q hq => Or.inr hq
  have hin : ∀ w ∈ u_ws RX12 TX12 42, w ∈ wsX12_seen := fun w hw => List.mem_cons_of_mem _ (List.mem_append_right _ hw)
  have k_errNow : Cond.fieldLink RX12 48 "HalfBridgeModel" "errNow" "[I" ∈ wsX12_seen := by decide +kernel
  have k_said : Cond.fieldLink RX12 45 "HalfBridgeModel" "said" "[I" ∈ wsX12_seen := by decide +kernel
  have hl := lv_entry ([.ref h, .int a1, .int a2]) (n := 4) (Nat.le_of_ble_eq_true rfl)
  rw [lg_entry_eq]
  generalize (lg_sl ([.ref h, .int a1, .int a2]) ++ List.replicate (4 - (lg_sl ([.ref h, .int a1, .int a2])).length) Slot.unset).toArray = ls at hl ⊢
  have hl : lv_has ls 4 [(0, .ref h), (1, .int a1), (2, .int a2)] := hl
  obtain ⟨K0, hK0, hf⟩ := top_e hf
  unfold fm_seen at hf
  refine lv_aload_n hx hb dX12_seen_0 rfl (lv_at hl 0 rfl) ?_
  refine mg_errNow hx hb hts hin hown k_errNow hI dX12_seen_1 ?_
  refine lv_iload_n hx hb dX12_seen_4 rfl (lv_at hl 1 rfl) ?_
  obtain ⟨k1, hf⟩ := chk_b hf
  refine ml_errNow hx hb hI k1 dX12_seen_5 ?_
  refine lv_aload_n hx hb dX12_seen_6 rfl (lv_at hl 0 rfl) ?_
  refine mg_said hx hb hts hin hown k_said hI dX12_seen_7 ?_
  refine lv_bipush (v := 12) hx hb dX12_seen_10 (by decide) ?_
  refine lv_iload_n hx hb dX12_seen_12 rfl (lv_at hl 1 rfl) ?_
  refine lv_iadd hx hb dX12_seen_13 ?_
  obtain ⟨k2, hf⟩ := chk_b hf
  refine ml_said hx hb hI k2 dX12_seen_14 ?_
  refine lv_imul hx hb dX12_seen_15 ?_
  refine lv_aload_n hx hb dX12_seen_16 rfl (lv_at hl 0 rfl) ?_
  obtain ⟨x3, hc4, hf⟩ := bnd_b hf
  refine mcall_i (As := []) (rest := [.int ((s0.2.1 27 a1.toNatClampNeg) * (s0.2.1 26 ((12 : Int32) + a1).toNatClampNeg))]) (n := 0) ⟨hx, hb, hml, hown, hts⟩ (cm_gap l D h ad cy  s0 x3 hc4 _) (cwV 0 hts gX12_seen_X12_gap rfl rfl rfl ⟨rfl, nd_gap⟩ ⟨Nat.le_of_ble_eq_true rfl, Nat.le_of_ble_eq_true rfl⟩) hI hA rfl hl.1 (Nat.le_of_ble_eq_true rfl) dX12_seen_17 ⟨Nat.zero_le _, Nat.zero_le _⟩ (fun H locs hI => ?_)
  refine lv_imul hx hb dX12_seen_20 ?_
  refine lv_bipush (v := 90) hx hb dX12_seen_21 (by decide) ?_
  refine lv_idiv hx hb dX12_seen_23 (by decide) ?_
  refine lv_istore_n (lv' := [(3, .int ((((s0.2.1 27 a1.toNatClampNeg) * (s0.2.1 26 ((12 : Int32) + a1).toNatClampNeg)) * x3.2) / (90 : Int32))), (0, .ref h), (1, .int a1), (2, .int a2)]) hx hb dX12_seen_24 rfl hl (by decide) rfl (fun ls hl => ?_)
  refine lv_aload_n hx hb dX12_seen_25 rfl (lv_at hl 1 rfl) ?_
  refine lv_iconst (v := 1) hx hb dX12_seen_26 (by decide) ?_
  refine lv_iload_n hx hb dX12_seen_27 rfl (lv_at hl 2 rfl) ?_
  refine lv_isub hx hb dX12_seen_28 ?_
  refine lv_iload_n hx hb dX12_seen_29 rfl (lv_at hl 3 rfl) ?_
  obtain ⟨x5, hc6, hf⟩ := bnd_b hf
  refine mcall_i (As := [.int ((1 : Int32) - a1), .int a2]) (rest := []) (n := 2) ⟨hx, hb, hml, hown, hts⟩ (cm_tipOf l D h ad cy ((1 : Int32) - a1) a2 x3.1 x5 hc6 _) (cwV 2 hts gX12_seen_X12_tipOf rfl rfl rfl ⟨rfl, nd_tipOf⟩ ⟨Nat.le_of_ble_eq_true rfl, Nat.le_of_ble_eq_true rfl⟩) hI hA rfl hl.1 (Nat.le_of_ble_eq_true rfl) dX12_seen_30 ⟨Nat.zero_le _, Nat.zero_le _⟩ (fun H locs hI => ?_)
  refine lv_iload_n hx hb dX12_seen_33 rfl (lv_at hl 3 rfl) ?_
  refine lv_if_ne (tgt := 41) hx hb dX12_seen_34 (by decide) (fun c7 => ?_) (fun c7 => ?_)
  · replace hf := ifn c7 hf
    refine lv_iload_n hx hb dX12_seen_41 rfl (lv_at hl 0 rfl) ?_
    refine lv_ineg hx hb dX12_seen_42 ?_
    refine lv_iadd hx hb dX12_seen_43 ?_
    exact mret_i hx hb hr hlocks hI (ret_e hK0 hf) dX12_seen_44
  · replace hf := ifp c7 hf
    refine lv_iload_n hx hb dX12_seen_37 rfl (lv_at hl 0 rfl) ?_
    refine lv_goto (tgt := 43) hx hb dX12_seen_38 (by decide) ?_
    refine lv_iadd hx hb dX12_seen_43 ?_
    exact mret_i hx hb hr hlocks hI (ret_e hK0 hf) dX12_seen_44

noncomputable def fm_yard (a1 : Int32) (a2 : Int32) (a3 : Int32) (s0 : MSt) : Option (MSt × Int32) :=
  (fm_isRiver s0).bind fun x1 => (if x1.2 = 0 then some (x1.1, (-100000 : Int32)) else (fm_isSide a1).bind fun x4 => (if x4 = 0 then some (x1.1, (-100000 : Int32)) else (if a2 < 0 then some (x1.1, (-100000 : Int32)) else chk (inb ((6 : Int32) + a1) 286) ((if (x1.1.2.1 26 ((6 : Int32) + a1).toNatClampNeg) ≤ a2 then some (x1.1, (-100000 : Int32)) else (fm_in (a3.toInt64) (0 : Int64) (3 : Int64)).bind fun x10 => (if x10 = 0 then some (x1.1, (-100000 : Int32)) else (if (2 : Int32) ≤ a3 then (fm_moreOf a1 a2 (a3 - (2 : Int32)) x1.1).bind fun x14 => some (x14.1, x14.2) else (fm_yardOf a1 a2 a3 x1.1).bind fun x16 => some (x16.1, x16.2))))))))
theorem nd_yard : yX12_yard.cls ≠ "java/lang/invoke/MethodHandle" ∧ yX12_yard.cls ≠ "java/lang/invoke/VarHandle" ∧ (parseMethodDescriptor yX12_yard.desc).map (fun d => d.parameters.length) = some 3 := by decide +kernel
set_option maxHeartbeats 4000000 in
set_option maxRecDepth 100000 in
theorem cm_yard (l : Launch) (D : va_G) (h : Nat) (ad : Nat → Nat) (cy : Nat → ClassId) (a1 : Int32) (a2 : Int32) (a3 : Int32) (s0 : MSt) (out : MSt × Int32) (hf : fm_yard a1 a2 a3 s0 = some out) (sz : Nat) : CMi l D h ad cy yX12_yard wsX12_yard { frames := 2, cells := 0, slots := 0, locals := 46 } [.int a1, .int a2, .int a3] s0 out sz := by
  refine Met.ofW (cc := cX12_yard) (maxL := 4) (ret := (some .int)) (by decide) rfl ?_
  intro p e s m args below meth c s₁ B hml hv
  obtain ⟨rfl, hsz, hP, hK, hD0⟩ := hv
  have hx := B.exec
  have hb := B.bytes
  have hr := B.returns
  have hts := atoms_spec (ws := wsX12_yard) B.pre
  have hown : s.vm.findClass RX12 = some m.cls := findClass_of_methodNamed B.named
  have hlocks := B.notSynchronized
  subst hsz
  have hI : MI D (MA h ad cy s0 s.heap.size) h ad cy s s.heap s0 s.heap [] := ⟨hK, hP, hD0.self, va_S.rf⟩
  have hA : ∀ q : Nat, s.heap.size ≤ q → MA h ad cy s0 s.heap.size q := fun q hq => Or.inr hq
  have hin : ∀ w ∈ u_ws RX12 TX12 42, w ∈ wsX12_yard := fun w hw => List.mem_cons_of_mem _ (List.mem_append_right _ hw)
  have k_said : Cond.fieldLink RX12 45 "HalfBridgeModel" "said" "[I" ∈ wsX12_yard := by decide +kernel
  have hl := lv_entry ([.ref h, .int a1, .int a2, .int a3]) (n := 4) (Nat.le_of_ble_eq_true rfl)
  rw [lg_entry_eq]
  generalize (lg_sl ([.ref h, .int a1, .int a2, .int a3]) ++ List.replicate (4 - (lg_sl ([.ref h, .int a1, .int a2, .int a3])).length) Slot.unset).toArray = ls at hl ⊢
  have hl : lv_has ls 4 [(0, .ref h), (1, .int a1), (2, .int a2), (3, .int a3)] := hl
  obtain ⟨K0, hK0, hf⟩ := top_e hf
  unfold fm_yard at hf
  refine lv_aload_n hx hb dX12_yard_0 rfl (lv_at hl 0 rfl) ?_
  obtain ⟨x1, hc2, hf⟩ := bnd_b hf
  refine mcall_i (As := []) (rest := []) (n := 0) ⟨hx, hb, hml, hown, hts⟩ (cm_isRiver l D h ad cy  s0 x1 hc2 _) (cwV 0 hts gX12_yard_X12_isRiver rfl rfl rfl ⟨rfl, nd_isRiver⟩ ⟨Nat.le_of_ble_eq_true rfl, Nat.le_of_ble_eq_true rfl⟩) hI hA rfl hl.1 (Nat.le_of_ble_eq_true rfl) dX12_yard_1 ⟨Nat.zero_le _, Nat.zero_le _⟩ (fun H locs hI => ?_)
  refine lv_if_eq (tgt := 43) hx hb dX12_yard_4 (by decide) (fun c3 => ?_) (fun c3 => ?_)
  · replace hf := ifp c3 hf
    refine lv_ldcw (v := -100000) hx hb hown (hts (.constant RX12 339 (-100000)) (by decide +kernel)) dX12_yard_43 ?_
    exact mret_i hx hb hr hlocks hI (ret_e hK0 hf) dX12_yard_46
  · replace hf := ifn c3 hf
    refine lv_iload_n hx hb dX12_yard_7 rfl (lv_at hl 1 rfl) ?_
    obtain ⟨x4, hc5, hf⟩ := bnd_b hf
    refine mst_i (As := [.int a1]) (rest := []) (n := 1) ⟨hx, hb, hml, hown, hts⟩ (cs_isSide l a1 x4 hc5 _) (va_cwS 1 hts gX12_yard_X12_isSide rfl rfl rfl nd_isSide ⟨Nat.le_of_ble_eq_true rfl, Nat.le_of_ble_eq_true rfl⟩) hI hA rfl hl.1 (Nat.le_of_ble_eq_true rfl) dX12_yard_8 ⟨Nat.zero_le _, Nat.zero_le _⟩ (fun H locs hI => ?_)
    refine lv_if_eq (tgt := 43) hx hb dX12_yard_11 (by decide) (fun c6 => ?_) (fun c6 => ?_)
    · replace hf := ifp c6 hf
      refine lv_ldcw (v := -100000) hx hb hown (hts (.constant RX12 339 (-100000)) (by decide +kernel)) dX12_yard_43 ?_
      exact mret_i hx hb hr hlocks hI (ret_e hK0 hf) dX12_yard_46
    · replace hf := ifn c6 hf
      refine lv_iload_n hx hb dX12_yard_14 rfl (lv_at hl 2 rfl) ?_
      refine lv_if_lt (tgt := 43) hx hb dX12_yard_15 (by decide) (fun c7 => ?_) (fun c7 => ?_)
      · replace hf := ifp c7 hf
        refine lv_ldcw (v := -100000) hx hb hown (hts (.constant RX12 339 (-100000)) (by decide +kernel)) dX12_yard_43 ?_
        exact mret_i hx hb hr hlocks hI (ret_e hK0 hf) dX12_yard_46
      · replace hf := ifn c7 hf
        refine lv_iload_n hx hb dX12_yard_18 rfl (lv_at hl 2 rfl) ?_
        refine lv_aload_n hx hb dX12_yard_19 rfl (lv_at hl 0 rfl) ?_
        refine mg_said hx hb hts hin hown k_said hI dX12_yard_20 ?_
        refine lv_bipush (v := 6) hx hb dX12_yard_23 (by decide) ?_
        refine lv_iload_n hx hb dX12_yard_25 rfl (lv_at hl 1 rfl) ?_
        refine lv_iadd hx hb dX12_yard_26 ?_
        obtain ⟨k8, hf⟩ := chk_b hf
        refine ml_said hx hb hI k8 dX12_yard_27 ?_
        refine lv_icmp_ge (tgt := 43) hx hb dX12_yard_28 (by decide) (fun c9 => ?_) (fun c9 => ?_)
        · replace hf := ifp c9 hf
          refine lv_ldcw (v := -100000) hx hb hown (hts (.constant RX12 339 (-100000)) (by decide +kernel)) dX12_yard_43 ?_
          exact mret_i hx hb hr hlocks hI (ret_e hK0 hf) dX12_yard_46
        · replace hf := ifn c9 hf
          refine lv_iload_n hx hb dX12_yard_31 rfl (lv_at hl 3 rfl) ?_
          refine lv_i2l (v := (a3.toInt64)) hx hb dX12_yard_32 rfl ?_
          refine lv_lconst (v := 0) hx hb dX12_yard_33 (by decide) ?_
          refine lv_ldc2 (v := 3) hx hb hown (hts (.constantLong RX12 337 (3)) (by decide +kernel)) dX12_yard_34 ?_
          obtain ⟨x10, hc11, hf⟩ := bnd_b hf
          refine mst_i (As := [.long (a3.toInt64), .long (0 : Int64), .long (3 : Int64)]) (rest := []) (n := 3) ⟨hx, hb, hml, hown, hts⟩ (cs_in l (a3.toInt64) (0 : Int64) (3 : Int64) x10 hc11 _) (va_cwS 3 hts gX12_yard_X12_in rfl rfl rfl nd_in ⟨Nat.le_of_ble_eq_true rfl, Nat.le_of_ble_eq_true rfl⟩) hI hA rfl hl.1 (Nat.le_of_ble_eq_true rfl) dX12_yard_37 ⟨Nat.zero_le _, Nat.zero_le _⟩ (fun H locs hI => ?_)
          refine lv_if_ne (tgt := 47) hx hb dX12_yard_40 (by decide) (fun c12 => ?_) (fun c12 => ?_)
          · replace hf := ifn c12 hf
            refine lv_iload_n hx hb dX12_yard_47 rfl (lv_at hl 3 rfl) ?_
            refine lv_iconst (v := 2) hx hb dX12_yard_48 (by decide) ?_
            refine lv_icmp_ge (tgt := 62) hx hb dX12_yard_49 (by decide) (fun c13 => ?_) (fun c13 => ?_)
            · replace hf := ifp c13 hf
              refine lv_aload_n hx hb dX12_yard_62 rfl (lv_at hl 0 rfl) ?_
              refine lv_iload_n hx hb dX12_yard_63 rfl (lv_at hl 1 rfl) ?_
              refine lv_iload_n hx hb dX12_yard_64 rfl (lv_at hl 2 rfl) ?_
              refine lv_iload_n hx hb dX12_yard_65 rfl (lv_at hl 3 rfl) ?_
              refine lv_iconst (v := 2) hx hb dX12_yard_66 (by decide) ?_
              refine lv_isub hx hb dX12_yard_67 ?_
              obtain ⟨x14, hc15, hf⟩ := bnd_b hf
              refine mcall_i (As := [.int a1, .int a2, .int (a3 - (2 : Int32))]) (rest := []) (n := 3) ⟨hx, hb, hml, hown, hts⟩ (cm_moreOf l D h ad cy a1 a2 (a3 - (2 : Int32)) x1.1 x14 hc15 _) (cwV 3 hts gX12_yard_X12_moreOf rfl rfl rfl ⟨rfl, nd_moreOf⟩ ⟨Nat.le_of_ble_eq_true rfl, Nat.le_of_ble_eq_true rfl⟩) hI hA rfl hl.1 (Nat.le_of_ble_eq_true rfl) dX12_yard_68 ⟨Nat.zero_le _, Nat.zero_le _⟩ (fun H locs hI => ?_)
              exact mret_i hx hb hr hlocks hI (ret_e hK0 hf) dX12_yard_71
            · replace hf := ifn c13 hf
              refine lv_aload_n hx hb dX12_yard_52 rfl (lv_at hl 0 rfl) ?_
              refine lv_iload_n hx hb dX12_yard_53 rfl (lv_at hl 1 rfl) ?_
              refine lv_iload_n hx hb dX12_yard_54 rfl (lv_at hl 2 rfl) ?_
              refine lv_iload_n hx hb dX12_yard_55 rfl (lv_at hl 3 rfl) ?_
              obtain ⟨x16, hc17, hf⟩ := bnd_b hf
              refine mcall_i (As := [.int a1, .int a2, .int a3]) (rest := []) (n := 3) ⟨hx, hb, hml, hown, hts⟩ (cm_yardOf l D h ad cy a1 a2 a3 x1.1 x16 hc17 _) (cwV 3 hts gX12_yard_X12_yardOf rfl rfl rfl ⟨rfl, nd_yardOf⟩ ⟨Nat.le_of_ble_eq_true rfl, Nat.le_of_ble_eq_true rfl⟩) hI hA rfl hl.1 (Nat.le_of_ble_eq_true rfl) dX12_yard_56 ⟨Nat.zero_le _, Nat.zero_le _⟩ (fun H locs hI => ?_)
              refine lv_goto (tgt := 71) hx hb dX12_yard_59 (by decide) ?_
              exact mret_i hx hb hr hlocks hI (ret_e hK0 hf) dX12_yard_71
          · replace hf := ifp c12 hf
            refine lv_ldcw (v := -100000) hx hb hown (hts (.constant RX12 339 (-100000)) (by decide +kernel)) dX12_yard_43 ?_
            exact mret_i hx hb hr hlocks hI (ret_e hK0 hf) dX12_yard_46

noncomputable def fm_tip (a1 : Int32) (a2 : Int32) (s0 : MSt) : Option (MSt × Int32) :=
  (fm_isRiver s0).bind fun x1 => (if x1.2 = 0 then some (x1.1, (-100000 : Int32)) else (fm_isSide a1).bind fun x4 => (if x4 = 0 then some (x1.1, (-100000 : Int32)) else (fm_in (a2.toInt64) (0 : Int64) (6 : Int64)).bind fun x7 => (if x7 = 0 then some (x1.1, (-100000 : Int32)) else (if a2 = 0 then chk (inb ((6 : Int32) + a1) 286) (some (x1.1, (x1.1.2.1 26 ((6 : Int32) + a1).toNatClampNeg))) else (if (3 : Int32) ≤ a2 then (if a2 = (3 : Int32) then (fm_crooked a1 x1.1).bind fun x19 => some (x19.1, x19.2) else (fm_errsAsTold x1.1).bind fun x13 => (if a2 = (6 : Int32) then chk (inb ((12 : Int32) + a1) 286) (some (x13, (x13.2.1 26 ((12 : Int32) + a1).toNatClampNeg))) else (fm_seen a1 (a2 - (4 : Int32)) x13).bind fun x16 => some (x16.1, x16.2))) else (fm_tipOf a1 (a2 - (1 : Int32)) x1.1).bind fun x21 => some (x21.1, x21.2))))))
theorem nd_tip : yX12_tip.cls ≠ "java/lang/invoke/MethodHandle" ∧ yX12_tip.cls ≠ "java/lang/invoke/VarHandle" ∧ (parseMethodDescriptor yX12_tip.desc).map (fun d => d.parameters.length) = some 2 := by decide +kernel
set_option maxHeartbeats 4000000 in
set_option maxRecDepth 100000 in
theorem cm_tip (l : Launch) (D : va_G) (h : Nat) (ad : Nat → Nat) (cy : Nat → ClassId) (a1 : Int32) (a2 : Int32) (s0 : MSt) (out : MSt × Int32) (hf : fm_tip a1 a2 s0 = some out) (sz : Nat) : CMi l D h ad cy yX12_tip wsX12_tip { frames := 3, cells := 0, slots := 0, locals := 69 } [.int a1, .int a2] s0 out sz := by
  refine Met.ofW (cc := cX12_tip) (maxL := 3) (ret := (some .int)) (by decide) rfl ?_
  intro p e s m args below meth c s₁ B hml hv
  obtain ⟨rfl, hsz, hP, hK, hD0⟩ := hv
  have hx := B.exec
  have hb := B.bytes
  have hr := B.returns
  have hts := atoms_spec (ws := wsX12_tip) B.pre
  have hown : s.vm.findClass RX12 = some m.cls := findClass_of_methodNamed B.named
  have hlocks := B.notSynchronized
  subst hsz
  have hI : MI D (MA h ad cy s0 s.heap.size) h ad cy s s.heap s0 s.heap [] := ⟨hK, hP, hD0.self, va_S.rf⟩
  have hA : ∀ q : Nat, s.heap.size ≤ q → MA h ad cy s0 s.heap.size q := fun q hq => Or.inr hq
  have hin : ∀ w ∈ u_ws RX12 TX12 42, w ∈ wsX12_tip := fun w hw => List.mem_cons_of_mem _ (List.mem_append_right _ hw)
  have k_said : Cond.fieldLink RX12 45 "HalfBridgeModel" "said" "[I" ∈ wsX12_tip := by decide +kernel
  have hl := lv_entry ([.ref h, .int a1, .int a2]) (n := 3) (Nat.le_of_ble_eq_true rfl)
  rw [lg_entry_eq]
  generalize (lg_sl ([.ref h, .int a1, .int a2]) ++ List.replicate (3 - (lg_sl ([.ref h, .int a1, .int a2])).length) Slot.unset).toArray = ls at hl ⊢
  have hl : lv_has ls 3 [(0, .ref h), (1, .int a1), (2, .int a2)] := hl
  obtain ⟨K0, hK0, hf⟩ := top_e hf
  unfold fm_tip at hf
  refine lv_aload_n hx hb dX12_tip_0 rfl (lv_at hl 0 rfl) ?_
  obtain ⟨x1, hc2, hf⟩ := bnd_b hf
  refine mcall_i (As := []) (rest := []) (n := 0) ⟨hx, hb, hml, hown, hts⟩ (cm_isRiver l D h ad cy  s0 x1 hc2 _) (cwV 0 hts gX12_tip_X12_isRiver rfl rfl rfl ⟨rfl, nd_isRiver⟩ ⟨Nat.le_of_ble_eq_true rfl, Nat.le_of_ble_eq_true rfl⟩) hI hA rfl hl.1 (Nat.le_of_ble_eq_true rfl) dX12_tip_1 ⟨Nat.zero_le _, Nat.zero_le _⟩ (fun H locs hI => ?_)
  refine lv_if_eq (tgt := 26) hx hb dX12_tip_4 (by decide) (fun c3 => ?_) (fun c3 => ?_)
  · replace hf := ifp c3 hf
    refine lv_ldcw (v := -100000) hx hb hown (hts (.constant RX12 339 (-100000)) (by decide +kernel)) dX12_tip_26 ?_
    exact mret_i hx hb hr hlocks hI (ret_e hK0 hf) dX12_tip_29
  · replace hf := ifn c3 hf
    refine lv_iload_n hx hb dX12_tip_7 rfl (lv_at hl 1 rfl) ?_
    obtain ⟨x4, hc5, hf⟩ := bnd_b hf
    refine mst_i (As := [.int a1]) (rest := []) (n := 1) ⟨hx, hb, hml, hown, hts⟩ (cs_isSide l a1 x4 hc5 _) (va_cwS 1 hts gX12_tip_X12_isSide rfl rfl rfl nd_isSide ⟨Nat.le_of_ble_eq_true rfl, Nat.le_of_ble_eq_true rfl⟩) hI hA rfl hl.1 (Nat.le_of_ble_eq_true rfl) dX12_tip_8 ⟨Nat.zero_le _, Nat.zero_le _⟩ (fun H locs hI => ?_)
    refine lv_if_eq (tgt := 26) hx hb dX12_tip_11 (by decide) (fun c6 => ?_) (fun c6 => ?_)
    · replace hf := ifp c6 hf
      refine lv_ldcw (v := -100000) hx hb hown (hts (.constant RX12 339 (-100000)) (by decide +kernel)) dX12_tip_26 ?_
      exact mret_i hx hb hr hlocks hI (ret_e hK0 hf) dX12_tip_29
    · replace hf := ifn c6 hf
      refine lv_iload_n hx hb dX12_tip_14 rfl (lv_at hl 2 rfl) ?_
      refine lv_i2l (v := (a2.toInt64)) hx hb dX12_tip_15 rfl ?_
      refine lv_lconst (v := 0) hx hb dX12_tip_16 (by decide) ?_
      refine lv_ldc2 (v := 6) hx hb hown (hts (.constantLong RX12 340 (6)) (by decide +kernel)) dX12_tip_17 ?_
      obtain ⟨x7, hc8, hf⟩ := bnd_b hf
      refine mst_i (As := [.long (a2.toInt64), .long (0 : Int64), .long (6 : Int64)]) (rest := []) (n := 3) ⟨hx, hb, hml, hown, hts⟩ (cs_in l (a2.toInt64) (0 : Int64) (6 : Int64) x7 hc8 _) (va_cwS 3 hts gX12_tip_X12_in rfl rfl rfl nd_in ⟨Nat.le_of_ble_eq_true rfl, Nat.le_of_ble_eq_true rfl⟩) hI hA rfl hl.1 (Nat.le_of_ble_eq_true rfl) dX12_tip_20 ⟨Nat.zero_le _, Nat.zero_le _⟩ (fun H locs hI => ?_)
      refine lv_if_ne (tgt := 30) hx hb dX12_tip_23 (by decide) (fun c9 => ?_) (fun c9 => ?_)
      · replace hf := ifn c9 hf
        refine lv_iload_n hx hb dX12_tip_30 rfl (lv_at hl 2 rfl) ?_
        refine lv_if_ne (tgt := 44) hx hb dX12_tip_31 (by decide) (fun c10 => ?_) (fun c10 => ?_)
        · replace hf := ifn c10 hf
          refine lv_iload_n hx hb dX12_tip_44 rfl (lv_at hl 2 rfl) ?_
          refine lv_iconst (v := 3) hx hb dX12_tip_45 (by decide) ?_
          refine lv_icmp_ge (tgt := 58) hx hb dX12_tip_46 (by decide) (fun c11 => ?_) (fun c11 => ?_)
          · replace hf := ifp c11 hf
            refine lv_iload_n hx hb dX12_tip_58 rfl (lv_at hl 2 rfl) ?_
            refine lv_iconst (v := 3) hx hb dX12_tip_59 (by decide) ?_
            refine lv_icmp_ne (tgt := 69) hx hb dX12_tip_60 (by decide) (fun c12 => ?_) (fun c12 => ?_)
            · replace hf := ifn c12 hf
              refine lv_aload_n hx hb dX12_tip_69 rfl (lv_at hl 0 rfl) ?_
              obtain ⟨x13, hc14, hf⟩ := bnd_b hf
              refine mcall_v (As := []) (rest := []) (n := 0) ⟨hx, hb, hml, hown, hts⟩ (cm_errsAsTold l D h ad cy  x1.1 x13 hc14 _) (cwV 0 hts gX12_tip_X12_errsAsTold rfl rfl rfl ⟨rfl, nd_errsAsTold⟩ ⟨Nat.le_of_ble_eq_true rfl, Nat.le_of_ble_eq_true rfl⟩) hI hA rfl hl.1 (Nat.le_of_ble_eq_true rfl) dX12_tip_70 ⟨Nat.zero_le _, Nat.zero_le _⟩ (fun H locs hI => ?_)
              refine lv_iload_n hx hb dX12_tip_73 rfl (lv_at hl 2 rfl) ?_
              refine lv_bipush (v := 6) hx hb dX12_tip_74 (by decide) ?_
              refine lv_icmp_ne (tgt := 91) hx hb dX12_tip_76 (by decide) (fun c15 => ?_) (fun c15 => ?_)
              · replace hf := ifn c15 hf
                refine lv_aload_n hx hb dX12_tip_91 rfl (lv_at hl 0 rfl) ?_
                refine lv_iload_n hx hb dX12_tip_92 rfl (lv_at hl 1 rfl) ?_
                refine lv_iload_n hx hb dX12_tip_93 rfl (lv_at hl 2 rfl) ?_
                refine lv_iconst (v := 4) hx hb dX12_tip_94 (by decide) ?_
                refine lv_isub hx hb dX12_tip_95 ?_
                obtain ⟨x16, hc17, hf⟩ := bnd_b hf
                refine mcall_i (As := [.int a1, .int (a2 - (4 : Int32))]) (rest := []) (n := 2) ⟨hx, hb, hml, hown, hts⟩ (cm_seen l D h ad cy a1 (a2 - (4 : Int32)) x13 x16 hc17 _) (cwV 2 hts gX12_tip_X12_seen rfl rfl rfl ⟨rfl, nd_seen⟩ ⟨Nat.le_of_ble_eq_true rfl, Nat.le_of_ble_eq_true rfl⟩) hI hA rfl hl.1 (Nat.le_of_ble_eq_true rfl) dX12_tip_96 ⟨Nat.zero_le _, Nat.zero_le _⟩ (fun H locs hI => ?_)
                exact mret_i hx hb hr hlocks hI (ret_e hK0 hf) dX12_tip_99
              · replace hf := ifp c15 hf
                refine lv_aload_n hx hb dX12_tip_79 rfl (lv_at hl 0 rfl) ?_
                refine mg_said hx hb hts hin hown k_said hI dX12_tip_80 ?_
                refine lv_bipush (v := 12) hx hb dX12_tip_83 (by decide) ?_
                refine lv_iload_n hx hb dX12_tip_85 rfl (lv_at hl 1 rfl) ?_
                refine lv_iadd hx hb dX12_tip_86 ?_
                obtain ⟨k18, hf⟩ := chk_b hf
                refine ml_said hx hb hI k18 dX12_tip_87 ?_
                refine lv_goto (tgt := 99) hx hb dX12_tip_88 (by decide) ?_
                exact mret_i hx hb hr hlocks hI (ret_e hK0 hf) dX12_tip_99
            · replace hf := ifp c12 hf
              refine lv_aload_n hx hb dX12_tip_63 rfl (lv_at hl 0 rfl) ?_
              refine lv_iload_n hx hb dX12_tip_64 rfl (lv_at hl 1 rfl) ?_
              obtain ⟨x19, hc20, hf⟩ := bnd_b hf
              refine mcall_i (As := [.int a1]) (rest := []) (n := 1) ⟨hx, hb, hml, hown, hts⟩ (cm_crooked l D h ad cy a1 x1.1 x19 hc20 _) (cwV 1 hts gX12_tip_X12_crooked rfl rfl rfl ⟨rfl, nd_crooked⟩ ⟨Nat.le_of_ble_eq_true rfl, Nat.le_of_ble_eq_true rfl⟩) hI hA rfl hl.1 (Nat.le_of_ble_eq_true rfl) dX12_tip_65 ⟨Nat.zero_le _, Nat.zero_le _⟩ (fun H locs hI => ?_)
              exact mret_i hx hb hr hlocks hI (ret_e hK0 hf) dX12_tip_68
          · replace hf := ifn c11 hf
            refine lv_aload_n hx hb dX12_tip_49 rfl (lv_at hl 0 rfl) ?_
            refine lv_iload_n hx hb dX12_tip_50 rfl (lv_at hl 1 rfl) ?_
            refine lv_iload_n hx hb dX12_tip_51 rfl (lv_at hl 2 rfl) ?_
            refine lv_iconst (v := 1) hx hb dX12_tip_52 (by decide) ?_
            refine lv_isub hx hb dX12_tip_53 ?_
            obtain ⟨x21, hc22, hf⟩ := bnd_b hf
            refine mcall_i (As := [.int a1, .int (a2 - (1 : Int32))]) (rest := []) (n := 2) ⟨hx, hb, hml, hown, hts⟩ (cm_tipOf l D h ad cy a1 (a2 - (1 : Int32)) x1.1 x21 hc22 _) (cwV 2 hts gX12_tip_X12_tipOf rfl rfl rfl ⟨rfl, nd_tipOf⟩ ⟨Nat.le_of_ble_eq_true rfl, Nat.le_of_ble_eq_true rfl⟩) hI hA rfl hl.1 (Nat.le_of_ble_eq_true rfl) dX12_tip_54 ⟨Nat.zero_le _, Nat.zero_le _⟩ (fun H locs hI => ?_)
            exact mret_i hx hb hr hlocks hI (ret_e hK0 hf) dX12_tip_57
        · replace hf := ifp c10 hf
          refine lv_aload_n hx hb dX12_tip_34 rfl (lv_at hl 0 rfl) ?_
          refine mg_said hx hb hts hin hown k_said hI dX12_tip_35 ?_
          refine lv_bipush (v := 6) hx hb dX12_tip_38 (by decide) ?_
          refine lv_iload_n hx hb dX12_tip_40 rfl (lv_at hl 1 rfl) ?_
          refine lv_iadd hx hb dX12_tip_41 ?_
          obtain ⟨k23, hf⟩ := chk_b hf
          refine ml_said hx hb hI k23 dX12_tip_42 ?_
          exact mret_i hx hb hr hlocks hI (ret_e hK0 hf) dX12_tip_43
      · replace hf := ifp c9 hf
        refine lv_ldcw (v := -100000) hx hb hown (hts (.constant RX12 339 (-100000)) (by decide +kernel)) dX12_tip_26 ?_
        exact mret_i hx hb hr hlocks hI (ret_e hK0 hf) dX12_tip_29

noncomputable def fm_err (a1 : Int32) (a2 : Int32) (a3 : Int32) (s0 : MSt) : Option (MSt × Int32) :=
  (fm_isRiver s0).bind fun x1 => (if x1.2 = 0 then some (x1.1, (-100000 : Int32)) else (fm_isSide a1).bind fun x4 => (if x4 = 0 then some (x1.1, (-100000 : Int32)) else (fm_in (a2.toInt64) (0 : Int64) (7 : Int64)).bind fun x7 => (if x7 = 0 then some (x1.1, (-100000 : Int32)) else (fm_in (a3.toInt64) (-9 : Int64) (9 : Int64)).bind fun x10 => (if x10 = 0 then some (x1.1, (-100000 : Int32)) else chk (inb (((30 : Int32) + ((8 : Int32) * a1)) + a2) 286) (chk (inb (((30 : Int32) + ((8 : Int32) * a1)) + a2) 286) (some (msa x1.1 26 (((30 : Int32) + ((8 : Int32) * a1)) + a2).toNatClampNeg a3, (x1.1.2.1 26 (((30 : Int32) + ((8 : Int32) * a1)) + a2).toNatClampNeg))))))))
theorem nd_err : yX12_err.cls ≠ "java/lang/invoke/MethodHandle" ∧ yX12_err.cls ≠ "java/lang/invoke/VarHandle" ∧ (parseMethodDescriptor yX12_err.desc).map (fun d => d.parameters.length) = some 3 := by decide +kernel
set_option maxHeartbeats 4000000 in
set_option maxRecDepth 100000 in
theorem cm_err (l : Launch) (D : va_G) (h : Nat) (ad : Nat → Nat) (cy : Nat → ClassId) (a1 : Int32) (a2 : Int32) (a3 : Int32) (s0 : MSt) (out : MSt × Int32) (hf : fm_err a1 a2 a3 s0 = some out) (sz : Nat) : CMi l D h ad cy yX12_err wsX12_err { frames := 1, cells := 0, slots := 0, locals := 25 } [.int a1, .int a2, .int a3] s0 out sz := by
  refine Met.ofW (cc := cX12_err) (maxL := 5) (ret := (some .int)) (by decide) rfl ?_
  intro p e s m args below meth c s₁ B hml hv
  obtain ⟨rfl, hsz, hP, hK, hD0⟩ := hv
  have hx := B.exec
  have hb := B.bytes
  have hr := B.returns
  have hts := atoms_spec (ws := wsX12_err) B.pre
  have hown : s.vm.findClass RX12 = some m.cls := findClass_of_methodNamed B.named
  have hlocks := B.notSynchronized
  subst hsz
  have hI : MI D (MA h ad cy s0 s.heap.size) h ad cy s s.heap s0 s.heap [] := ⟨hK, hP, hD0.self, va_S.rf⟩
  have hA : ∀ q : Nat, s.heap.size ≤ q → MA h ad cy s0 s.heap.size q := fun q hq => Or.inr hq
  have hin : ∀ w ∈ u_ws RX12 TX12 42, w ∈ wsX12_err := fun w hw => List.mem_cons_of_mem _ (List.mem_append_right _ hw)
  have k_said : Cond.fieldLink RX12 45 "HalfBridgeModel" "said" "[I" ∈ wsX12_err := by decide +kernel
  have hl := lv_entry ([.ref h, .int a1, .int a2, .int a3]) (n := 5) (Nat.le_of_ble_eq_true rfl)
  rw [lg_entry_eq]
  generalize (lg_sl ([.ref h, .int a1, .int a2, .int a3]) ++ List.replicate (5 - (lg_sl ([.ref h, .int a1, .int a2, .int a3])).length) Slot.unset).toArray = ls at hl ⊢
  have hl : lv_has ls 5 [(0, .ref h), (1, .int a1), (2, .int a2), (3, .int a3)] := hl
  obtain ⟨K0, hK0, hf⟩ := top_e hf
  unfold fm_err at hf
  refine lv_aload_n hx hb dX12_err_0 rfl (lv_at hl 0 rfl) ?_
  obtain ⟨x1, hc2, hf⟩ := bnd_b hf
  refine mcall_i (As := []) (rest := []) (n := 0) ⟨hx, hb, hml, hown, hts⟩ (cm_isRiver l D h ad cy  s0 x1 hc2 _) (cwV 0 hts gX12_err_X12_isRiver rfl rfl rfl ⟨rfl, nd_isRiver⟩ ⟨Nat.le_of_ble_eq_true rfl, Nat.le_of_ble_eq_true rfl⟩) hI hA rfl hl.1 (Nat.le_of_ble_eq_true rfl) dX12_err_1 ⟨Nat.zero_le _, Nat.zero_le _⟩ (fun H locs hI => ?_)
  refine lv_if_eq (tgt := 40) hx hb dX12_err_4 (by decide) (fun c3 => ?_) (fun c3 => ?_)
  · replace hf := ifp c3 hf
    refine lv_ldcw (v := -100000) hx hb hown (hts (.constant RX12 339 (-100000)) (by decide +kernel)) dX12_err_40 ?_
    exact mret_i hx hb hr hlocks hI (ret_e hK0 hf) dX12_err_43
  · replace hf := ifn c3 hf
    refine lv_iload_n hx hb dX12_err_7 rfl (lv_at hl 1 rfl) ?_
    obtain ⟨x4, hc5, hf⟩ := bnd_b hf
    refine mst_i (As := [.int a1]) (rest := []) (n := 1) ⟨hx, hb, hml, hown, hts⟩ (cs_isSide l a1 x4 hc5 _) (va_cwS 1 hts gX12_err_X12_isSide rfl rfl rfl nd_isSide ⟨Nat.le_of_ble_eq_true rfl, Nat.le_of_ble_eq_true rfl⟩) hI hA rfl hl.1 (Nat.le_of_ble_eq_true rfl) dX12_err_8 ⟨Nat.zero_le _, Nat.zero_le _⟩ (fun H locs hI => ?_)
    refine lv_if_eq (tgt := 40) hx hb dX12_err_11 (by decide) (fun c6 => ?_) (fun c6 => ?_)
    · replace hf := ifp c6 hf
      refine lv_ldcw (v := -100000) hx hb hown (hts (.constant RX12 339 (-100000)) (by decide +kernel)) dX12_err_40 ?_
      exact mret_i hx hb hr hlocks hI (ret_e hK0 hf) dX12_err_43
    · replace hf := ifn c6 hf
      refine lv_iload_n hx hb dX12_err_14 rfl (lv_at hl 2 rfl) ?_
      refine lv_i2l (v := (a2.toInt64)) hx hb dX12_err_15 rfl ?_
      refine lv_lconst (v := 0) hx hb dX12_err_16 (by decide) ?_
      refine lv_ldc2 (v := 7) hx hb hown (hts (.constantLong RX12 351 (7)) (by decide +kernel)) dX12_err_17 ?_
      obtain ⟨x7, hc8, hf⟩ := bnd_b hf
      refine mst_i (As := [.long (a2.toInt64), .long (0 : Int64), .long (7 : Int64)]) (rest := []) (n := 3) ⟨hx, hb, hml, hown, hts⟩ (cs_in l (a2.toInt64) (0 : Int64) (7 : Int64) x7 hc8 _) (va_cwS 3 hts gX12_err_X12_in rfl rfl rfl nd_in ⟨Nat.le_of_ble_eq_true rfl, Nat.le_of_ble_eq_true rfl⟩) hI hA rfl hl.1 (Nat.le_of_ble_eq_true rfl) dX12_err_20 ⟨Nat.zero_le _, Nat.zero_le _⟩ (fun H locs hI => ?_)
      refine lv_if_eq (tgt := 40) hx hb dX12_err_23 (by decide) (fun c9 => ?_) (fun c9 => ?_)
      · replace hf := ifp c9 hf
        refine lv_ldcw (v := -100000) hx hb hown (hts (.constant RX12 339 (-100000)) (by decide +kernel)) dX12_err_40 ?_
        exact mret_i hx hb hr hlocks hI (ret_e hK0 hf) dX12_err_43
      · replace hf := ifn c9 hf
        refine lv_iload_n hx hb dX12_err_26 rfl (lv_at hl 3 rfl) ?_
        refine lv_i2l (v := (a3.toInt64)) hx hb dX12_err_27 rfl ?_
        refine lv_ldc2 (v := -9) hx hb hown (hts (.constantLong RX12 353 (-9)) (by decide +kernel)) dX12_err_28 ?_
        refine lv_ldc2 (v := 9) hx hb hown (hts (.constantLong RX12 355 (9)) (by decide +kernel)) dX12_err_31 ?_
        obtain ⟨x10, hc11, hf⟩ := bnd_b hf
        refine mst_i (As := [.long (a3.toInt64), .long (-9 : Int64), .long (9 : Int64)]) (rest := []) (n := 3) ⟨hx, hb, hml, hown, hts⟩ (cs_in l (a3.toInt64) (-9 : Int64) (9 : Int64) x10 hc11 _) (va_cwS 3 hts gX12_err_X12_in rfl rfl rfl nd_in ⟨Nat.le_of_ble_eq_true rfl, Nat.le_of_ble_eq_true rfl⟩) hI hA rfl hl.1 (Nat.le_of_ble_eq_true rfl) dX12_err_34 ⟨Nat.zero_le _, Nat.zero_le _⟩ (fun H locs hI => ?_)
        refine lv_if_ne (tgt := 44) hx hb dX12_err_37 (by decide) (fun c12 => ?_) (fun c12 => ?_)
        · replace hf := ifn c12 hf
          refine lv_aload_n hx hb dX12_err_44 rfl (lv_at hl 0 rfl) ?_
          refine mg_said hx hb hts hin hown k_said hI dX12_err_45 ?_
          refine lv_bipush (v := 30) hx hb dX12_err_48 (by decide) ?_
          refine lv_bipush (v := 8) hx hb dX12_err_50 (by decide) ?_
          refine lv_iload_n hx hb dX12_err_52 rfl (lv_at hl 1 rfl) ?_
          refine lv_imul hx hb dX12_err_53 ?_
          refine lv_iadd hx hb dX12_err_54 ?_
          refine lv_iload_n hx hb dX12_err_55 rfl (lv_at hl 2 rfl) ?_
          refine lv_iadd hx hb dX12_err_56 ?_
          obtain ⟨k13, hf⟩ := chk_b hf
          refine ml_said hx hb hI k13 dX12_err_57 ?_
          refine lv_istore (lv' := [(4, .int (x1.1.2.1 26 (((30 : Int32) + ((8 : Int32) * a1)) + a2).toNatClampNeg)), (0, .ref h), (1, .int a1), (2, .int a2), (3, .int a3)]) hx hb dX12_err_58 hl (by decide) rfl (fun ls hl => ?_)
          refine lv_aload_n hx hb dX12_err_60 rfl (lv_at hl 1 rfl) ?_
          refine mg_said hx hb hts hin hown k_said hI dX12_err_61 ?_
          refine lv_bipush (v := 30) hx hb dX12_err_64 (by decide) ?_
          refine lv_bipush (v := 8) hx hb dX12_err_66 (by decide) ?_
          refine lv_iload_n hx hb dX12_err_68 rfl (lv_at hl 2 rfl) ?_
          refine lv_imul hx hb dX12_err_69 ?_
          refine lv_iadd hx hb dX12_err_70 ?_
          refine lv_iload_n hx hb dX12_err_71 rfl (lv_at hl 3 rfl) ?_
          refine lv_iadd hx hb dX12_err_72 ?_
          refine lv_iload_n hx hb dX12_err_73 rfl (lv_at hl 4 rfl) ?_
          obtain ⟨k14, hf⟩ := chk_b hf
          refine ms_said hx hb hI k14 dX12_err_74 (fun H locs hI => ?_)
          refine lv_iload hx hb dX12_err_75 (lv_at hl 0 rfl) ?_
          exact mret_i hx hb hr hlocks hI (ret_e hK0 hf) dX12_err_77
        · replace hf := ifp c12 hf
          refine lv_ldcw (v := -100000) hx hb hown (hts (.constant RX12 339 (-100000)) (by decide +kernel)) dX12_err_40 ?_
          exact mret_i hx hb hr hlocks hI (ret_e hK0 hf) dX12_err_43
