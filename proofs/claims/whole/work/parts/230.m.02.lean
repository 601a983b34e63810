theorem nd_wordHere : yX12_wordHere.cls ≠ "java/lang/invoke/MethodHandle" ∧ yX12_wordHere.cls ≠ "java/lang/invoke/VarHandle" ∧ (parseMethodDescriptor yX12_wordHere.desc).map (fun d => d.parameters.length) = some 0 := by decide +kernel
set_option maxHeartbeats 4000000 in
set_option maxRecDepth 100000 in
theorem cm_wordHere (l : Launch) (D : va_G) (h : Nat) (ad : Nat → Nat) (cy : Nat → ClassId)  (s0 : MSt) (out : MSt × Int32) (hf : fm_wordHere s0 = some out) (sz : Nat) : CMi l D h ad cy yX12_wordHere wsX12_wordHere { frames := 2, cells := 0, slots := 0, locals := 46 } [] s0 out sz := by
  refine Met.ofW (cc := cX12_wordHere) (maxL := 1) (ret := (some .int)) (by decide) rfl ?_
  intro p e s m args below meth c s₁ B hml hv
  obtain ⟨rfl, hsz, hP, hK, hD0⟩ := hv
  have hx := B.exec
  have hb := B.bytes
  have hr := B.returns
  have hts := atoms_spec (ws := wsX12_wordHere) B.pre
  have hown : s.vm.findClass RX12 = some m.cls := findClass_of_methodNamed B.named
  have hlocks := B.notSynchronized
  subst hsz
  have hI : MI D (MA h ad cy s0 s.heap.size) h ad cy s s.heap s0 s.heap [] := ⟨hK, hP, hD0.self, va_S.rf⟩
  have hA : ∀ q : Nat, s.heap.size ≤ q → MA h ad cy s0 s.heap.size q := fun q hq => Or.inr hq
  have hl := lv_entry ([.ref h]) (n := 1) (Nat.le_of_ble_eq_true rfl)
  rw [lg_entry_eq]
  generalize (lg_sl ([.ref h]) ++ List.replicate (1 - (lg_sl ([.ref h])).length) Slot.unset).toArray = ls at hl ⊢
  have hl : lv_has ls 1 [(0, .ref h)] := hl
  obtain ⟨K0, hK0, hf⟩ := top_e hf
  unfold fm_wordHere at hf
  refine lv_aload_n hx hb dX12_wordHere_0 rfl (lv_at hl 0 rfl) ?_
  refine lv_ldc2 (v := 1936286821) hx hb hown (hts (.constantLong RX12 135 (1936286821)) (by decide +kernel)) dX12_wordHere_1 ?_
  obtain ⟨x1, hc2, hf⟩ := bnd_b hf
  refine mcall_i (As := [.long (1936286821 : Int64)]) (rest := []) (n := 1) ⟨hx, hb, hml, hown, hts⟩ (cm_isWord l D h ad cy (1936286821 : Int64) s0 x1 hc2 _) (cwV 1 hts gX12_wordHere_X12_isWord rfl rfl rfl ⟨rfl, nd_isWord⟩ ⟨Nat.le_of_ble_eq_true rfl, Nat.le_of_ble_eq_true rfl⟩) hI hA rfl hl.1 (Nat.le_of_ble_eq_true rfl) dX12_wordHere_4 ⟨Nat.zero_le _, Nat.zero_le _⟩ (fun H locs hI => ?_)
  refine lv_if_eq (tgt := 12) hx hb dX12_wordHere_7 (by decide) (fun c3 => ?_) (fun c3 => ?_)
  · replace hf := ifp c3 hf
    refine lv_aload_n hx hb dX12_wordHere_12 rfl (lv_at hl 0 rfl) ?_
    refine lv_ldc2 (v := 1818848869) hx hb hown (hts (.constantLong RX12 137 (1818848869)) (by decide +kernel)) dX12_wordHere_13 ?_
    obtain ⟨x4, hc5, hf⟩ := bnd_b hf
    refine mcall_i (As := [.long (1818848869 : Int64)]) (rest := []) (n := 1) ⟨hx, hb, hml, hown, hts⟩ (cm_isWord l D h ad cy (1818848869 : Int64) x1.1 x4 hc5 _) (cwV 1 hts gX12_wordHere_X12_isWord rfl rfl rfl ⟨rfl, nd_isWord⟩ ⟨Nat.le_of_ble_eq_true rfl, Nat.le_of_ble_eq_true rfl⟩) hI hA rfl hl.1 (Nat.le_of_ble_eq_true rfl) dX12_wordHere_16 ⟨Nat.zero_le _, Nat.zero_le _⟩ (fun H locs hI => ?_)
    refine lv_if_eq (tgt := 24) hx hb dX12_wordHere_19 (by decide) (fun c6 => ?_) (fun c6 => ?_)
    · replace hf := ifp c6 hf
      refine lv_aload_n hx hb dX12_wordHere_24 rfl (lv_at hl 0 rfl) ?_
      refine lv_ldc2 (v := 114784769370228) hx hb hown (hts (.constantLong RX12 139 (114784769370228)) (by decide +kernel)) dX12_wordHere_25 ?_
      obtain ⟨x7, hc8, hf⟩ := bnd_b hf
      refine mcall_i (As := [.long (114784769370228 : Int64)]) (rest := []) (n := 1) ⟨hx, hb, hml, hown, hts⟩ (cm_isWord l D h ad cy (114784769370228 : Int64) x4.1 x7 hc8 _) (cwV 1 hts gX12_wordHere_X12_isWord rfl rfl rfl ⟨rfl, nd_isWord⟩ ⟨Nat.le_of_ble_eq_true rfl, Nat.le_of_ble_eq_true rfl⟩) hI hA rfl hl.1 (Nat.le_of_ble_eq_true rfl) dX12_wordHere_28 ⟨Nat.zero_le _, Nat.zero_le _⟩ (fun H locs hI => ?_)
      refine lv_if_eq (tgt := 36) hx hb dX12_wordHere_31 (by decide) (fun c9 => ?_) (fun c9 => ?_)
      · replace hf := ifp c9 hf
        refine lv_aload_n hx hb dX12_wordHere_36 rfl (lv_at hl 0 rfl) ?_
        refine lv_ldc2 (v := 478694368626) hx hb hown (hts (.constantLong RX12 141 (478694368626)) (by decide +kernel)) dX12_wordHere_37 ?_
        obtain ⟨x10, hc11, hf⟩ := bnd_b hf
        refine mcall_i (As := [.long (478694368626 : Int64)]) (rest := []) (n := 1) ⟨hx, hb, hml, hown, hts⟩ (cm_isWord l D h ad cy (478694368626 : Int64) x7.1 x10 hc11 _) (cwV 1 hts gX12_wordHere_X12_isWord rfl rfl rfl ⟨rfl, nd_isWord⟩ ⟨Nat.le_of_ble_eq_true rfl, Nat.le_of_ble_eq_true rfl⟩) hI hA rfl hl.1 (Nat.le_of_ble_eq_true rfl) dX12_wordHere_40 ⟨Nat.zero_le _, Nat.zero_le _⟩ (fun H locs hI => ?_)
        refine lv_if_eq (tgt := 48) hx hb dX12_wordHere_43 (by decide) (fun c12 => ?_) (fun c12 => ?_)
        · replace hf := ifp c12 hf
          refine lv_aload_n hx hb dX12_wordHere_48 rfl (lv_at hl 0 rfl) ?_
          refine lv_ldc2 (v := 1952541804) hx hb hown (hts (.constantLong RX12 143 (1952541804)) (by decide +kernel)) dX12_wordHere_49 ?_
          obtain ⟨x13, hc14, hf⟩ := bnd_b hf
          refine mcall_i (As := [.long (1952541804 : Int64)]) (rest := []) (n := 1) ⟨hx, hb, hml, hown, hts⟩ (cm_isWord l D h ad cy (1952541804 : Int64) x10.1 x13 hc14 _) (cwV 1 hts gX12_wordHere_X12_isWord rfl rfl rfl ⟨rfl, nd_isWord⟩ ⟨Nat.le_of_ble_eq_true rfl, Nat.le_of_ble_eq_true rfl⟩) hI hA rfl hl.1 (Nat.le_of_ble_eq_true rfl) dX12_wordHere_52 ⟨Nat.zero_le _, Nat.zero_le _⟩ (fun H locs hI => ?_)
          refine lv_if_eq (tgt := 60) hx hb dX12_wordHere_55 (by decide) (fun c15 => ?_) (fun c15 => ?_)
          · replace hf := ifp c15 hf
            refine lv_aload_n hx hb dX12_wordHere_60 rfl (lv_at hl 0 rfl) ?_
            refine lv_ldc2 (v := 6775152) hx hb hown (hts (.constantLong RX12 145 (6775152)) (by decide +kernel)) dX12_wordHere_61 ?_
            obtain ⟨x16, hc17, hf⟩ := bnd_b hf
            refine mcall_i (As := [.long (6775152 : Int64)]) (rest := []) (n := 1) ⟨hx, hb, hml, hown, hts⟩ (cm_isWord l D h ad cy (6775152 : Int64) x13.1 x16 hc17 _) (cwV 1 hts gX12_wordHere_X12_isWord rfl rfl rfl ⟨rfl, nd_isWord⟩ ⟨Nat.le_of_ble_eq_true rfl, Nat.le_of_ble_eq_true rfl⟩) hI hA rfl hl.1 (Nat.le_of_ble_eq_true rfl) dX12_wordHere_64 ⟨Nat.zero_le _, Nat.zero_le _⟩ (fun H locs hI => ?_)
            refine lv_if_eq (tgt := 72) hx hb dX12_wordHere_67 (by decide) (fun c18 => ?_) (fun c18 => ?_)
            · replace hf := ifp c18 hf
              refine lv_aload_n hx hb dX12_wordHere_72 rfl (lv_at hl 0 rfl) ?_
              refine lv_ldc2 (v := 6578553) hx hb hown (hts (.constantLong RX12 147 (6578553)) (by decide +kernel)) dX12_wordHere_73 ?_
              obtain ⟨x19, hc20, hf⟩ := bnd_b hf
              refine mcall_i (As := [.long (6578553 : Int64)]) (rest := []) (n := 1) ⟨hx, hb, hml, hown, hts⟩ (cm_isWord l D h ad cy (6578553 : Int64) x16.1 x19 hc20 _) (cwV 1 hts gX12_wordHere_X12_isWord rfl rfl rfl ⟨rfl, nd_isWord⟩ ⟨Nat.le_of_ble_eq_true rfl, Nat.le_of_ble_eq_true rfl⟩) hI hA rfl hl.1 (Nat.le_of_ble_eq_true rfl) dX12_wordHere_76 ⟨Nat.zero_le _, Nat.zero_le _⟩ (fun H locs hI => ?_)
              refine lv_if_eq (tgt := 85) hx hb dX12_wordHere_79 (by decide) (fun c21 => ?_) (fun c21 => ?_)
              · replace hf := ifp c21 hf
                refine lv_aload_n hx hb dX12_wordHere_85 rfl (lv_at hl 0 rfl) ?_
                refine lv_ldc2 (v := 521325929587) hx hb hown (hts (.constantLong RX12 149 (521325929587)) (by decide +kernel)) dX12_wordHere_86 ?_
                obtain ⟨x22, hc23, hf⟩ := bnd_b hf
                refine mcall_i (As := [.long (521325929587 : Int64)]) (rest := []) (n := 1) ⟨hx, hb, hml, hown, hts⟩ (cm_isWord l D h ad cy (521325929587 : Int64) x19.1 x22 hc23 _) (cwV 1 hts gX12_wordHere_X12_isWord rfl rfl rfl ⟨rfl, nd_isWord⟩ ⟨Nat.le_of_ble_eq_true rfl, Nat.le_of_ble_eq_true rfl⟩) hI hA rfl hl.1 (Nat.le_of_ble_eq_true rfl) dX12_wordHere_89 ⟨Nat.zero_le _, Nat.zero_le _⟩ (fun H locs hI => ?_)
                refine lv_if_eq (tgt := 100) hx hb dX12_wordHere_92 (by decide) (fun c24 => ?_) (fun c24 => ?_)
                · replace hf := ifp c24 hf
                  refine lv_aload_n hx hb dX12_wordHere_100 rfl (lv_at hl 0 rfl) ?_
                  refine lv_ldc2 (v := 1818325876) hx hb hown (hts (.constantLong RX12 151 (1818325876)) (by decide +kernel)) dX12_wordHere_101 ?_
                  obtain ⟨x25, hc26, hf⟩ := bnd_b hf
                  refine mcall_i (As := [.long (1818325876 : Int64)]) (rest := []) (n := 1) ⟨hx, hb, hml, hown, hts⟩ (cm_isWord l D h ad cy (1818325876 : Int64) x22.1 x25 hc26 _) (cwV 1 hts gX12_wordHere_X12_isWord rfl rfl rfl ⟨rfl, nd_isWord⟩ ⟨Nat.le_of_ble_eq_true rfl, Nat.le_of_ble_eq_true rfl⟩) hI hA rfl hl.1 (Nat.le_of_ble_eq_true rfl) dX12_wordHere_104 ⟨Nat.zero_le _, Nat.zero_le _⟩ (fun H locs hI => ?_)
                  refine lv_if_eq (tgt := 115) hx hb dX12_wordHere_107 (by decide) (fun c27 => ?_) (fun c27 => ?_)
                  · replace hf := ifp c27 hf
                    refine lv_iconst (v := -1) hx hb dX12_wordHere_115 (by decide) ?_
                    exact mret_i hx hb hr hlocks hI (ret_e hK0 hf) dX12_wordHere_116
                  · replace hf := ifn c27 hf
                    refine lv_bipush (v := 8) hx hb dX12_wordHere_110 (by decide) ?_
                    refine lv_goto (tgt := 116) hx hb dX12_wordHere_112 (by decide) ?_
                    exact mret_i hx hb hr hlocks hI (ret_e hK0 hf) dX12_wordHere_116
                · replace hf := ifn c24 hf
                  refine lv_bipush (v := 7) hx hb dX12_wordHere_95 (by decide) ?_
                  refine lv_goto (tgt := 116) hx hb dX12_wordHere_97 (by decide) ?_
                  exact mret_i hx hb hr hlocks hI (ret_e hK0 hf) dX12_wordHere_116
              · replace hf := ifn c21 hf
                refine lv_bipush (v := 6) hx hb dX12_wordHere_82 (by decide) ?_
                exact mret_i hx hb hr hlocks hI (ret_e hK0 hf) dX12_wordHere_84
            · replace hf := ifn c18 hf
              refine lv_iconst (v := 5) hx hb dX12_wordHere_70 (by decide) ?_
              exact mret_i hx hb hr hlocks hI (ret_e hK0 hf) dX12_wordHere_71
          · replace hf := ifn c15 hf
            refine lv_iconst (v := 4) hx hb dX12_wordHere_58 (by decide) ?_
            exact mret_i hx hb hr hlocks hI (ret_e hK0 hf) dX12_wordHere_59
        · replace hf := ifn c12 hf
          refine lv_iconst (v := 3) hx hb dX12_wordHere_46 (by decide) ?_
          exact mret_i hx hb hr hlocks hI (ret_e hK0 hf) dX12_wordHere_47
      · replace hf := ifn c9 hf
        refine lv_iconst (v := 2) hx hb dX12_wordHere_34 (by decide) ?_
        exact mret_i hx hb hr hlocks hI (ret_e hK0 hf) dX12_wordHere_35
    · replace hf := ifn c6 hf
      refine lv_iconst (v := 1) hx hb dX12_wordHere_22 (by decide) ?_
      exact mret_i hx hb hr hlocks hI (ret_e hK0 hf) dX12_wordHere_23
  · replace hf := ifn c3 hf
    refine lv_iconst (v := 0) hx hb dX12_wordHere_10 (by decide) ?_
    exact mret_i hx hb hr hlocks hI (ret_e hK0 hf) dX12_wordHere_11

theorem nd_puts : yX12_puts.cls ≠ "java/lang/invoke/MethodHandle" ∧ yX12_puts.cls ≠ "java/lang/invoke/VarHandle" ∧ (parseMethodDescriptor yX12_puts.desc).map (fun d => d.parameters.length) = some 2 := by decide +kernel
set_option maxHeartbeats 4000000 in
set_option maxRecDepth 100000 in
theorem cm_puts (l : Launch) (D : va_G) (h : Nat) (ad : Nat → Nat) (cy : Nat → ClassId) (a1 : Int32) (a2 : Int32) (s0 : MSt) (out : MSt) (hf : fm_puts a1 a2 s0 = some out) (sz : Nat) : CMv l D h ad cy yX12_puts wsX12_puts { frames := 0, cells := 0, slots := 0, locals := 0 } [.int a1, .int a2] s0 out sz := by
  refine Met.ofW (cc := cX12_puts) (maxL := 3) (ret := none) (by decide) rfl ?_
  intro p e s m args below meth c s₁ B hml hv
  obtain ⟨rfl, hsz, hP, hK, hD0⟩ := hv
  have hx := B.exec
  have hb := B.bytes
  have hr := B.returns
  have hts := atoms_spec (ws := wsX12_puts) B.pre
  have hown : s.vm.findClass RX12 = some m.cls := findClass_of_methodNamed B.named
  have hlocks := B.notSynchronized
  subst hsz
  have hI : MI D (MA h ad cy s0 s.heap.size) h ad cy s s.heap s0 s.heap [] := ⟨hK, hP, hD0.self, va_S.rf⟩
  have hA : ∀ q : Nat, s.heap.size ≤ q → MA h ad cy s0 s.heap.size q := fun q hq => Or.inr hq
  have hin : ∀ w ∈ u_ws RX12 TX12 42, w ∈ wsX12_puts := fun w hw => List.mem_cons_of_mem _ (List.mem_append_right _ hw)
  have k_length : Cond.fieldLink RX12 17 "HalfBridgeModel" "length" "[I" ∈ wsX12_puts := by decide +kernel
  have k_sign : Cond.fieldLink RX12 13 "HalfBridgeModel" "sign" "[I" ∈ wsX12_puts := by decide +kernel
  have k_text : Cond.fieldLink RX12 153 "HalfBridgeModel" "text" "I" ∈ wsX12_puts := by decide +kernel
  have hl := lv_entry ([.ref h, .int a1, .int a2]) (n := 3) (Nat.le_of_ble_eq_true rfl)
  rw [lg_entry_eq]
  generalize (lg_sl ([.ref h, .int a1, .int a2]) ++ List.replicate (3 - (lg_sl ([.ref h, .int a1, .int a2])).length) Slot.unset).toArray = ls at hl ⊢
  have hl : lv_has ls 3 [(0, .ref h), (1, .int a1), (2, .int a2)] := hl
  obtain ⟨K0, hK0, hf⟩ := top_e hf
  unfold fm_puts at hf
  refine lv_aload_n hx hb dX12_puts_0 rfl (lv_at hl 0 rfl) ?_
  refine mg_sign hx hb hts hin hown k_sign hI dX12_puts_1 ?_
  refine lv_sipush (v := 400) hx hb dX12_puts_4 (by decide) ?_
  refine lv_aload_n hx hb dX12_puts_7 rfl (lv_at hl 0 rfl) ?_
  refine mg_text hx hb hts hin hown k_text hI dX12_puts_8 ?_
  refine lv_imul hx hb dX12_puts_11 ?_
  refine lv_aload_n hx hb dX12_puts_12 rfl (lv_at hl 0 rfl) ?_
  refine mg_length hx hb hts hin hown k_length hI dX12_puts_13 ?_
  refine lv_aload_n hx hb dX12_puts_16 rfl (lv_at hl 0 rfl) ?_
  refine mg_text hx hb hts hin hown k_text hI dX12_puts_17 ?_
  obtain ⟨k1, hf⟩ := chk_b hf
  refine ml_length hx hb hI k1 dX12_puts_20 ?_
  refine lv_iadd hx hb dX12_puts_21 ?_
  refine lv_iload_n hx hb dX12_puts_22 rfl (lv_at hl 1 rfl) ?_
  refine lv_bipush (v := 16) hx hb dX12_puts_23 (by decide) ?_
  refine lv_iload_n hx hb dX12_puts_25 rfl (lv_at hl 2 rfl) ?_
  refine lv_imul hx hb dX12_puts_26 ?_
  refine lv_iadd hx hb dX12_puts_27 ?_
  obtain ⟨k2, hf⟩ := chk_b hf
  refine ms_sign hx hb hI k2 dX12_puts_28 (fun H locs hI => ?_)
  refine lv_aload_n hx hb dX12_puts_29 rfl (lv_at hl 0 rfl) ?_
  refine mg_length hx hb hts hin hown k_length hI dX12_puts_30 ?_
  refine lv_aload_n hx hb dX12_puts_33 rfl (lv_at hl 0 rfl) ?_
  refine mg_text hx hb hts hin hown k_text hI dX12_puts_34 ?_
  refine lv_dup2_11 hx hb dX12_puts_37 rfl rfl ?_
  obtain ⟨k3, hf⟩ := chk_b hf
  refine ml_length hx hb hI k3 dX12_puts_38 ?_
  refine lv_iconst (v := 1) hx hb dX12_puts_39 (by decide) ?_
  refine lv_iadd hx hb dX12_puts_40 ?_
  obtain ⟨k4, hf⟩ := chk_b hf
  refine ms_length hx hb hI k4 dX12_puts_41 (fun H locs hI => ?_)
  exact mret_v hx hb hr hlocks hI (ret_e hK0 hf) dX12_puts_42

theorem nd_makes : yX12_makes.cls ≠ "java/lang/invoke/MethodHandle" ∧ yX12_makes.cls ≠ "java/lang/invoke/VarHandle" ∧ (parseMethodDescriptor yX12_makes.desc).map (fun d => d.parameters.length) = some 1 := by decide +kernel
set_option maxHeartbeats 4000000 in
set_option maxRecDepth 100000 in
theorem cm_makes (l : Launch) (D : va_G) (h : Nat) (ad : Nat → Nat) (cy : Nat → ClassId) (a1 : Int32) (s0 : MSt) (out : MSt × Int32) (hf : fm_makes a1 s0 = some out) (sz : Nat) : CMi l D h ad cy yX12_makes wsX12_makes { frames := 1, cells := 0, slots := 0, locals := 22 } [.int a1] s0 out sz := by
  refine Met.ofW (cc := cX12_makes) (maxL := 2) (ret := (some .boolean)) (by decide) rfl ?_
  intro p e s m args below meth c s₁ B hml hv
  obtain ⟨rfl, hsz, hP, hK, hD0⟩ := hv
  have hx := B.exec
  have hb := B.bytes
  have hr := B.returns
  have hts := atoms_spec (ws := wsX12_makes) B.pre
  have hown : s.vm.findClass RX12 = some m.cls := findClass_of_methodNamed B.named
  have hlocks := B.notSynchronized
  subst hsz
  have hI : MI D (MA h ad cy s0 s.heap.size) h ad cy s s.heap s0 s.heap [] := ⟨hK, hP, hD0.self, va_S.rf⟩
  have hA : ∀ q : Nat, s.heap.size ≤ q → MA h ad cy s0 s.heap.size q := fun q hq => Or.inr hq
  have hin : ∀ w ∈ u_ws RX12 TX12 42, w ∈ wsX12_makes := fun w hw => List.mem_cons_of_mem _ (List.mem_append_right _ hw)
  have k_made : Cond.fieldLink RX12 156 "HalfBridgeModel" "made" "I" ∈ wsX12_makes := by decide +kernel
  have hl := lv_entry ([.ref h, .int a1]) (n := 2) (Nat.le_of_ble_eq_true rfl)
  rw [lg_entry_eq]
  generalize (lg_sl ([.ref h, .int a1]) ++ List.replicate (2 - (lg_sl ([.ref h, .int a1])).length) Slot.unset).toArray = ls at hl ⊢
  have hl : lv_has ls 2 [(0, .ref h), (1, .int a1)] := hl
  obtain ⟨K0, hK0, hf⟩ := top_e hf
  unfold fm_makes at hf
  refine lv_aload_n hx hb dX12_makes_0 rfl (lv_at hl 0 rfl) ?_
  refine mg_made hx hb hts hin hown k_made hI dX12_makes_1 ?_
  refine lv_bipush (v := 60) hx hb dX12_makes_4 (by decide) ?_
  refine lv_icmp_ne (tgt := 16) hx hb dX12_makes_6 (by decide) (fun c1 => ?_) (fun c1 => ?_)
  · replace hf := ifn c1 hf
    refine lv_aload_n hx hb dX12_makes_16 rfl (lv_at hl 0 rfl) ?_
    refine lv_dup hx hb dX12_makes_17 rfl ?_
    refine mg_made hx hb hts hin hown k_made hI dX12_makes_18 ?_
    refine lv_iconst (v := 1) hx hb dX12_makes_21 (by decide) ?_
    refine lv_iadd hx hb dX12_makes_22 ?_
    refine mp_made hx hb hts hin hown k_made hI dX12_makes_23 (fun H locs hI => ?_)
    refine lv_iconst (v := 1) hx hb dX12_makes_26 (by decide) ?_
    exact mret_z hx hb hr (by decide) hlocks hI (ret_e hK0 hf) dX12_makes_27
  · replace hf := ifp c1 hf
    refine lv_aload_n hx hb dX12_makes_9 rfl (lv_at hl 0 rfl) ?_
    refine lv_iconst (v := 3) hx hb dX12_makes_10 (by decide) ?_
    refine lv_iload_n hx hb dX12_makes_11 rfl (lv_at hl 1 rfl) ?_
    obtain ⟨x2, hc3, hf⟩ := bnd_b hf
    refine mcall_i (As := [.int (3 : Int32), .int a1]) (rest := []) (n := 2) ⟨hx, hb, hml, hown, hts⟩ (cm_fails l D h ad cy (3 : Int32) a1 s0 x2 hc3 _) (cwV 2 hts gX12_makes_X12_fails rfl rfl rfl ⟨rfl, nd_fails⟩ ⟨Nat.le_of_ble_eq_true rfl, Nat.le_of_ble_eq_true rfl⟩) hI hA rfl hl.1 (Nat.le_of_ble_eq_true rfl) dX12_makes_12 ⟨Nat.zero_le _, Nat.zero_le _⟩ (fun H locs hI => ?_)
    obtain ⟨k4, hf⟩ := chk_b hf
    exact mret_z hx hb hr (isb_nar k4) hlocks hI (ret_e hK0 hf) dX12_makes_15

theorem nd_opens : yX12_opens.cls ≠ "java/lang/invoke/MethodHandle" ∧ yX12_opens.cls ≠ "java/lang/invoke/VarHandle" ∧ (parseMethodDescriptor yX12_opens.desc).map (fun d => d.parameters.length) = some 1 := by decide +kernel
set_option maxHeartbeats 4000000 in
set_option maxRecDepth 100000 in
theorem cm_opens (l : Launch) (D : va_G) (h : Nat) (ad : Nat → Nat) (cy : Nat → ClassId) (a1 : Int32) (s0 : MSt) (out : MSt × Int32) (hf : fm_opens a1 s0 = some out) (sz : Nat) : CMi l D h ad cy yX12_opens wsX12_opens { frames := 1, cells := 0, slots := 0, locals := 22 } [.int a1] s0 out sz := by
  refine Met.ofW (cc := cX12_opens) (maxL := 2) (ret := (some .boolean)) (by decide) rfl ?_
  intro p e s m args below meth c s₁ B hml hv
  obtain ⟨rfl, hsz, hP, hK, hD0⟩ := hv
  have hx := B.exec
  have hb := B.bytes
  have hr := B.returns
  have hts := atoms_spec (ws := wsX12_opens) B.pre
  have hown : s.vm.findClass RX12 = some m.cls := findClass_of_methodNamed B.named
  have hlocks := B.notSynchronized
  subst hsz
  have hI : MI D (MA h ad cy s0 s.heap.size) h ad cy s s.heap s0 s.heap [] := ⟨hK, hP, hD0.self, va_S.rf⟩
  have hA : ∀ q : Nat, s.heap.size ≤ q → MA h ad cy s0 s.heap.size q := fun q hq => Or.inr hq
  have hin : ∀ w ∈ u_ws RX12 TX12 42, w ∈ wsX12_opens := fun w hw => List.mem_cons_of_mem _ (List.mem_append_right _ hw)
  have k_deep : Cond.fieldLink RX12 159 "HalfBridgeModel" "deep" "I" ∈ wsX12_opens := by decide +kernel
  have k_next : Cond.fieldLink RX12 103 "HalfBridgeModel" "next" "I" ∈ wsX12_opens := by decide +kernel
  have k_open : Cond.fieldLink RX12 35 "HalfBridgeModel" "open" "[I" ∈ wsX12_opens := by decide +kernel
  have k_opened : Cond.fieldLink RX12 162 "HalfBridgeModel" "opened" "I" ∈ wsX12_opens := by decide +kernel
  have hl := lv_entry ([.ref h, .int a1]) (n := 2) (Nat.le_of_ble_eq_true rfl)
  rw [lg_entry_eq]
  generalize (lg_sl ([.ref h, .int a1]) ++ List.replicate (2 - (lg_sl ([.ref h, .int a1])).length) Slot.unset).toArray = ls at hl ⊢
  have hl : lv_has ls 2 [(0, .ref h), (1, .int a1)] := hl
  obtain ⟨K0, hK0, hf⟩ := top_e hf
  unfold fm_opens at hf
  refine lv_aload_n hx hb dX12_opens_0 rfl (lv_at hl 0 rfl) ?_
  refine mg_deep hx hb hts hin hown k_deep hI dX12_opens_1 ?_
  refine lv_bipush (v := 10) hx hb dX12_opens_4 (by decide) ?_
  refine lv_icmp_ne (tgt := 19) hx hb dX12_opens_6 (by decide) (fun c1 => ?_) (fun c1 => ?_)
  · replace hf := ifn c1 hf
    refine lv_aload_n hx hb dX12_opens_19 rfl (lv_at hl 0 rfl) ?_
    refine lv_dup hx hb dX12_opens_20 rfl ?_
    refine mg_deep hx hb hts hin hown k_deep hI dX12_opens_21 ?_
    refine lv_iconst (v := 1) hx hb dX12_opens_24 (by decide) ?_
    refine lv_iadd hx hb dX12_opens_25 ?_
    refine mp_deep hx hb hts hin hown k_deep hI dX12_opens_26 (fun H locs hI => ?_)
    refine lv_aload_n hx hb dX12_opens_29 rfl (lv_at hl 0 rfl) ?_
    refine mg_open hx hb hts hin hown k_open hI dX12_opens_30 ?_
    refine lv_aload_n hx hb dX12_opens_33 rfl (lv_at hl 0 rfl) ?_
    refine mg_opened hx hb hts hin hown k_opened hI dX12_opens_34 ?_
    refine lv_iload_n hx hb dX12_opens_37 rfl (lv_at hl 1 rfl) ?_
    obtain ⟨k2, hf⟩ := chk_b hf
    refine ms_open hx hb hI k2 dX12_opens_38 (fun H locs hI => ?_)
    refine lv_aload_n hx hb dX12_opens_39 rfl (lv_at hl 0 rfl) ?_
    refine lv_dup hx hb dX12_opens_40 rfl ?_
    refine mg_opened hx hb hts hin hown k_opened hI dX12_opens_41 ?_
    refine lv_iconst (v := 1) hx hb dX12_opens_44 (by decide) ?_
    refine lv_iadd hx hb dX12_opens_45 ?_
    refine mp_opened hx hb hts hin hown k_opened hI dX12_opens_46 (fun H locs hI => ?_)
    refine lv_iconst (v := 1) hx hb dX12_opens_49 (by decide) ?_
    exact mret_z hx hb hr (by decide) hlocks hI (ret_e hK0 hf) dX12_opens_50
  · replace hf := ifp c1 hf
    refine lv_aload_n hx hb dX12_opens_9 rfl (lv_at hl 0 rfl) ?_
    refine lv_iconst (v := 2) hx hb dX12_opens_10 (by decide) ?_
    refine lv_aload_n hx hb dX12_opens_11 rfl (lv_at hl 0 rfl) ?_
    refine mg_next hx hb hts hin hown k_next hI dX12_opens_12 ?_
    obtain ⟨x3, hc4, hf⟩ := bnd_b hf
    refine mcall_i (As := [.int (2 : Int32), .int (s0.1 14)]) (rest := []) (n := 2) ⟨hx, hb, hml, hown, hts⟩ (cm_fails l D h ad cy (2 : Int32) (s0.1 14) s0 x3 hc4 _) (cwV 2 hts gX12_opens_X12_fails rfl rfl rfl ⟨rfl, nd_fails⟩ ⟨Nat.le_of_ble_eq_true rfl, Nat.le_of_ble_eq_true rfl⟩) hI hA rfl hl.1 (Nat.le_of_ble_eq_true rfl) dX12_opens_15 ⟨Nat.zero_le _, Nat.zero_le _⟩ (fun H locs hI => ?_)
    obtain ⟨k5, hf⟩ := chk_b hf
    exact mret_z hx hb hr (isb_nar k5) hlocks hI (ret_e hK0 hf) dX12_opens_18

theorem nd_strength : yX12_strength.cls ≠ "java/lang/invoke/MethodHandle" ∧ yX12_strength.cls ≠ "java/lang/invoke/VarHandle" ∧ (parseMethodDescriptor yX12_strength.desc).map (fun d => d.parameters.length) = some 1 := by decide +kernel
set_option maxHeartbeats 4000000 in
set_option maxRecDepth 100000 in
theorem cs_strength (l : Launch) (a0 : Int32) (out : Int32) (hf : fm_strength a0 = some out) (sz : Nat) : CSi l yX12_strength wsX12_strength { frames := 0, cells := 0, slots := 0, locals := 0 } [.int a0] out sz := by
  refine Met.ofW (cc := cX12_strength) (maxL := 1) (ret := (some .int)) (by decide) rfl ?_
  intro p e s m args below meth c s₁ B hml hv
  obtain ⟨rfl, hsz⟩ := hv
  have hx := B.exec
  have hb := B.bytes
  have hr := B.returns
  have hts := atoms_spec (ws := wsX12_strength) B.pre
  have hown : s.vm.findClass RX12 = some m.cls := findClass_of_methodNamed B.named
  have hlocks := B.notSynchronized
  subst hsz
  have hl := lv_entry ([.int a0]) (n := 1) (Nat.le_of_ble_eq_true rfl)
  rw [lg_entry_eq]
  generalize (lg_sl ([.int a0]) ++ List.replicate (1 - (lg_sl ([.int a0])).length) Slot.unset).toArray = ls at hl ⊢
  have hl : lv_has ls 1 [(0, .int a0)] := hl
  obtain ⟨K0, hK0, hf⟩ := top_e hf
  unfold fm_strength at hf
  refine lv_iload_n hx hb dX12_strength_0 rfl (lv_at hl 0 rfl) ?_
  refine lv_bipush (v := 13) hx hb dX12_strength_1 (by decide) ?_
  refine lv_icmp_ne (tgt := 10) hx hb dX12_strength_3 (by decide) (fun c1 => ?_) (fun c1 => ?_)
  · replace hf := ifn c1 hf
    refine lv_iload_n hx hb dX12_strength_10 rfl (lv_at hl 0 rfl) ?_
    refine lv_bipush (v := 12) hx hb dX12_strength_11 (by decide) ?_
    refine lv_icmp_ne (tgt := 20) hx hb dX12_strength_13 (by decide) (fun c2 => ?_) (fun c2 => ?_)
    · replace hf := ifn c2 hf
      refine lv_iload_n hx hb dX12_strength_20 rfl (lv_at hl 0 rfl) ?_
      refine lv_bipush (v := 11) hx hb dX12_strength_21 (by decide) ?_
      refine lv_icmp_ne (tgt := 30) hx hb dX12_strength_23 (by decide) (fun c3 => ?_) (fun c3 => ?_)
      · replace hf := ifn c3 hf
        refine lv_iconst (v := 0) hx hb dX12_strength_30 (by decide) ?_
        exact sret_i hx hb hr hlocks (ret_e hK0 hf) dX12_strength_31
      · replace hf := ifp c3 hf
        refine lv_iconst (v := 3) hx hb dX12_strength_26 (by decide) ?_
        refine lv_goto (tgt := 31) hx hb dX12_strength_27 (by decide) ?_
        exact sret_i hx hb hr hlocks (ret_e hK0 hf) dX12_strength_31
    · replace hf := ifp c2 hf
      refine lv_iconst (v := 2) hx hb dX12_strength_16 (by decide) ?_
      refine lv_goto (tgt := 31) hx hb dX12_strength_17 (by decide) ?_
      exact sret_i hx hb hr hlocks (ret_e hK0 hf) dX12_strength_31
  · replace hf := ifp c1 hf
    refine lv_iconst (v := 1) hx hb dX12_strength_6 (by decide) ?_
    refine lv_goto (tgt := 31) hx hb dX12_strength_7 (by decide) ?_
    exact sret_i hx hb hr hlocks (ret_e hK0 hf) dX12_strength_31

theorem nd_settles : yX12_settles.cls ≠ "java/lang/invoke/MethodHandle" ∧ yX12_settles.cls ≠ "java/lang/invoke/VarHandle" ∧ (parseMethodDescriptor yX12_settles.desc).map (fun d => d.parameters.length) = some 1 := by decide +kernel
set_option maxHeartbeats 4000000 in
set_option maxRecDepth 100000 in
theorem cm_settles (l : Launch) (D : va_G) (h : Nat) (ad : Nat → Nat) (cy : Nat → ClassId) (a1 : Int32) (s0 : MSt) (out : MSt) (hf : fm_settles a1 s0 = some out) (sz : Nat) : CMv l D h ad cy yX12_settles wsX12_settles { frames := 1, cells := 0, slots := 0, locals := 22 } [.int a1] s0 out sz := by
  refine Met.ofW (cc := cX12_settles) (maxL := 2) (ret := none) (by decide) rfl ?_
  intro p e s m args below meth c s₁ B hml hv
  obtain ⟨rfl, hsz, hP, hK, hD0⟩ := hv
  have hx := B.exec
  have hb := B.bytes
  have hr := B.returns
  have hts := atoms_spec (ws := wsX12_settles) B.pre
  have hown : s.vm.findClass RX12 = some m.cls := findClass_of_methodNamed B.named
  have hlocks := B.notSynchronized
  subst hsz
  have hI : MI D (MA h ad cy s0 s.heap.size) h ad cy s s.heap s0 s.heap [] := ⟨hK, hP, hD0.self, va_S.rf⟩
  have hA : ∀ q : Nat, s.heap.size ≤ q → MA h ad cy s0 s.heap.size q := fun q hq => Or.inr hq
  have hin : ∀ w ∈ u_ws RX12 TX12 42, w ∈ wsX12_settles := fun w hw => List.mem_cons_of_mem _ (List.mem_append_right _ hw)
  have k_deep : Cond.fieldLink RX12 159 "HalfBridgeModel" "deep" "I" ∈ wsX12_settles := by decide +kernel
  have k_open : Cond.fieldLink RX12 35 "HalfBridgeModel" "open" "[I" ∈ wsX12_settles := by decide +kernel
  have k_opened : Cond.fieldLink RX12 162 "HalfBridgeModel" "opened" "I" ∈ wsX12_settles := by decide +kernel
  have hl := lv_entry ([.ref h, .int a1]) (n := 2) (Nat.le_of_ble_eq_true rfl)
  rw [lg_entry_eq]
  generalize (lg_sl ([.ref h, .int a1]) ++ List.replicate (2 - (lg_sl ([.ref h, .int a1])).length) Slot.unset).toArray = ls at hl ⊢
  have hl : lv_has ls 2 [(0, .ref h), (1, .int a1)] := hl
  obtain ⟨K0, hK0, hf⟩ := top_e hf
  have B_76 : ∀   (st : MSt) (H : Heap) (locs : List Loc) (ls : Array Slot), MI D (MA h ad cy s0 s.heap.size) h ad cy s s.heap st H locs → lv_has ls 2 [] → (fm_settles_j76 st).bind K0 = some out → W p l e (headSpec wsX12_settles { frames := 1, cells := 0, slots := 0, locals := 22 }).room s m (([.ref h, .int a1] : List Value).toArray) below meth c H locs 0 0 (MQ below (MQv D h ad cy s0 out s.heap.size) ([.ref h, .int a1] : List Value).toArray s 0 0 (MA h ad cy s0 s.heap.size)) (F0 m 76 ls []) := by
    intro st H locs ls hI hl hf
    unfold fm_settles_j76 at hf
    exact mret_v hx hb hr hlocks hI (ret_e hK0 hf) dX12_settles_76
  have L_0 : ∀ (v1 : Int32) (n : Nat)  (st : MSt) (H : Heap) (locs : List Loc) (ls : Array Slot), MI D (MA h ad cy s0 s.heap.size) h ad cy s s.heap st H locs → lv_has ls 2 [(0, .ref h), (1, .int v1)] → (iter (fun x : (MSt) => fm_settles_s0 v1 x) n st).bind (fun x => ((Sum.elim (fun o : MSt => (some o : Option (MSt))) (fun x : (MSt) => fm_settles_j76 x)) x).bind K0) = some out → W p l e (headSpec wsX12_settles { frames := 1, cells := 0, slots := 0, locals := 22 }).room s m (([.ref h, .int a1] : List Value).toArray) below meth c H locs 0 0 (MQ below (MQv D h ad cy s0 out s.heap.size) ([.ref h, .int a1] : List Value).toArray s 0 0 (MA h ad cy s0 s.heap.size)) (F0 m 0 ls []) := by
    intro v1 n
    induction n with
    | zero => intro st H locs ls hI hl hf; exact (iter_0 hf).elim
    | succ n ih =>
      intro st H locs ls hI hl hf
      obtain ⟨K1, hK1, hf⟩ := iter_e hf
      replace hf : (fm_settles_s0 v1 st).bind K1 = some out := hf
      unfold fm_settles_s0 at hf
      refine lv_aload_n hx hb dX12_settles_0 rfl (lv_at hl 0 rfl) ?_
      refine mg_opened hx hb hts hin hown k_opened hI dX12_settles_1 ?_
      refine lv_if_le (tgt := 76) hx hb dX12_settles_4 (by decide) (fun c1 => ?_) (fun c1 => ?_)
      · replace hf := ifp c1 hf
        replace hf := exit_b hK1 hf
        exact B_76  st H locs ls hI (lv_sub hl [] rfl) hf
      · replace hf := ifn c1 hf
        refine lv_aload_n hx hb dX12_settles_7 rfl (lv_at hl 0 rfl) ?_
        refine mg_open hx hb hts hin hown k_open hI dX12_settles_8 ?_
        refine lv_aload_n hx hb dX12_settles_11 rfl (lv_at hl 0 rfl) ?_
        refine mg_opened hx hb hts hin hown k_opened hI dX12_settles_12 ?_
        refine lv_iconst (v := 1) hx hb dX12_settles_15 (by decide) ?_
        refine lv_isub hx hb dX12_settles_16 ?_
        obtain ⟨k2, hf⟩ := chk_b hf
        refine ml_open hx hb hI k2 dX12_settles_17 ?_
        obtain ⟨x3, hc4, hf⟩ := bnd_b hf
        refine mst_i (As := [.int (st.2.1 21 ((st.1 22) - (1 : Int32)).toNatClampNeg)]) (rest := []) (n := 1) ⟨hx, hb, hml, hown, hts⟩ (cs_strength l (st.2.1 21 ((st.1 22) - (1 : Int32)).toNatClampNeg) x3 hc4 _) (va_cwS 1 hts gX12_settles_X12_strength rfl rfl rfl nd_strength ⟨Nat.le_of_ble_eq_true rfl, Nat.le_of_ble_eq_true rfl⟩) hI hA rfl hl.1 (Nat.le_of_ble_eq_true rfl) dX12_settles_18 ⟨Nat.zero_le _, Nat.zero_le _⟩ (fun H locs hI => ?_)
        refine lv_iload_n hx hb dX12_settles_21 rfl (lv_at hl 1 rfl) ?_
        refine lv_icmp_lt (tgt := 76) hx hb dX12_settles_22 (by decide) (fun c5 => ?_) (fun c5 => ?_)
        · replace hf := ifp c5 hf
          replace hf := exit_b hK1 hf
          exact B_76  st H locs ls hI (lv_sub hl [] rfl) hf
        · replace hf := ifn c5 hf
          refine lv_aload_n hx hb dX12_settles_25 rfl (lv_at hl 0 rfl) ?_
          refine lv_dup hx hb dX12_settles_26 rfl ?_
          refine mg_opened hx hb hts hin hown k_opened hI dX12_settles_27 ?_
          refine lv_iconst (v := 1) hx hb dX12_settles_30 (by decide) ?_
          refine lv_isub hx hb dX12_settles_31 ?_
          refine mp_opened hx hb hts hin hown k_opened hI dX12_settles_32 (fun H locs hI => ?_)
          refine lv_aload_n hx hb dX12_settles_35 rfl (lv_at hl 0 rfl) ?_
          refine lv_aload_n hx hb dX12_settles_36 rfl (lv_at hl 0 rfl) ?_
          refine mg_open hx hb hts hin hown k_open hI dX12_settles_37 ?_
          refine lv_aload_n hx hb dX12_settles_40 rfl (lv_at hl 0 rfl) ?_
          refine mg_opened hx hb hts hin hown k_opened hI dX12_settles_41 ?_
          obtain ⟨k6, hf⟩ := chk_b hf
          refine ml_open hx hb hI k6 dX12_settles_44 ?_
          refine lv_iconst (v := 0) hx hb dX12_settles_45 (by decide) ?_
          obtain ⟨x7, hc8, hf⟩ := bnd_b hf
          refine mcall_v (As := [.int ((msi st 22 ((st.1 22) - (1 : Int32))).2.1 21 ((msi st 22 ((st.1 22) - (1 : Int32))).1 22).toNatClampNeg), .int (0 : Int32)]) (rest := []) (n := 2) ⟨hx, hb, hml, hown, hts⟩ (cm_puts l D h ad cy ((msi st 22 ((st.1 22) - (1 : Int32))).2.1 21 ((msi st 22 ((st.1 22) - (1 : Int32))).1 22).toNatClampNeg) (0 : Int32) (msi st 22 ((st.1 22) - (1 : Int32))) x7 hc8 _) (cwV 2 hts gX12_settles_X12_puts rfl rfl rfl ⟨rfl, nd_puts⟩ ⟨Nat.le_of_ble_eq_true rfl, Nat.le_of_ble_eq_true rfl⟩) hI hA rfl hl.1 (Nat.le_of_ble_eq_true rfl) dX12_settles_46 ⟨Nat.zero_le _, Nat.zero_le _⟩ (fun H locs hI => ?_)
          refine lv_aload_n hx hb dX12_settles_49 rfl (lv_at hl 0 rfl) ?_
          refine mg_open hx hb hts hin hown k_open hI dX12_settles_50 ?_
          refine lv_aload_n hx hb dX12_settles_53 rfl (lv_at hl 0 rfl) ?_
          refine mg_opened hx hb hts hin hown k_opened hI dX12_settles_54 ?_
          obtain ⟨k9, hf⟩ := chk_b hf
          refine ml_open hx hb hI k9 dX12_settles_57 ?_
          refine lv_bipush (v := 11) hx hb dX12_settles_58 (by decide) ?_
          refine lv_icmp_ne (tgt := 0) hx hb dX12_settles_60 (by decide) (fun c10 => ?_) (fun c10 => ?_)
          · replace hf := ifn c10 hf
            replace hf := cont_b hK1 hf
            exact ih x7 H locs ls hI (lv_sub hl [0, 1] rfl) hf
          · replace hf := ifp c10 hf
            refine lv_aload_n hx hb dX12_settles_63 rfl (lv_at hl 0 rfl) ?_
            refine lv_dup hx hb dX12_settles_64 rfl ?_
            refine mg_deep hx hb hts hin hown k_deep hI dX12_settles_65 ?_
            refine lv_iconst (v := 1) hx hb dX12_settles_68 (by decide) ?_
            refine lv_isub hx hb dX12_settles_69 ?_
            refine mp_deep hx hb hts hin hown k_deep hI dX12_settles_70 (fun H locs hI => ?_)
            refine lv_goto (tgt := 0) hx hb dX12_settles_73 (by decide) ?_
            replace hf := cont_b hK1 hf
            exact ih (msi x7 19 ((x7.1 19) - (1 : Int32))) H locs ls hI (lv_sub hl [0, 1] rfl) hf
  unfold fm_settles at hf
  exact L_0 a1 mFuel s0 s.heap [] ls hI (lv_sub hl [0, 1] rfl) (asc_b hf)
