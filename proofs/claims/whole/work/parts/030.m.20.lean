noncomputable def fm_ahead (a1 : Int32) (a2 : Int32) (a3 : Int32) (a4 : Int32) (s0 : MSt) : Option (MSt × Int32) :=
  (fm_canAsk a1 a2 s0).bind fun x1 => (if x1.2 = 0 then some (x1.1, (-1 : Int32)) else (fm_in (a3.toInt64) (0 : Int64) (400 : Int64)).bind fun x4 => (if x4 = 0 then some (x1.1, (-1 : Int32)) else (fm_in (a4.toInt64) (0 : Int64) (5 : Int64)).bind fun x7 => (if x7 = 0 then some (x1.1, (-1 : Int32)) else (fm_keeps x1.1).bind fun x10 => (fm_springs a1 a2 a3 x10).bind fun x12 => (if a4 = 0 then (fm_isMet x12).bind fun x32 => (if x32.2 = 0 then (fm_putsBack x32.1).bind fun x35 => some (x35, (-2 : Int32)) else chk (inb (1 : Int32) 286) ((fm_putsBack x32.1).bind fun x38 => some (x38, (x32.1.2.1 26 (1 : Int32).toNatClampNeg)))) else (if (3 : Int32) ≤ a4 then (if (5 : Int32) ≤ a4 then (fm_isInTime x12).bind fun x17 => (if x17.2 = 0 then (fm_putsBack x17.1).bind fun x20 => some (x20, (0 : Int32)) else (fm_putsBack x17.1).bind fun x22 => some (x22, (1 : Int32))) else (fm_crooked (a4 - (3 : Int32)) x12).bind fun x24 => (fm_putsBack x24.1).bind fun x26 => some (x26, x24.2)) else (fm_missOf (a4 - (1 : Int32)) x12).bind fun x28 => (fm_putsBack x28.1).bind fun x30 => some (x30, x28.2))))))
theorem nd_ahead : yX12_ahead.cls ≠ "java/lang/invoke/MethodHandle" ∧ yX12_ahead.cls ≠ "java/lang/invoke/VarHandle" ∧ (parseMethodDescriptor yX12_ahead.desc).map (fun d => d.parameters.length) = some 4 := by decide +kernel
set_option maxHeartbeats 4000000 in
set_option maxRecDepth 100000 in
theorem cm_ahead (l : Launch) (D : va_G) (h : Nat) (ad : Nat → Nat) (cy : Nat → ClassId) (a1 : Int32) (a2 : Int32) (a3 : Int32) (a4 : Int32) (s0 : MSt) (out : MSt × Int32) (hf : fm_ahead a1 a2 a3 a4 s0 = some out) (sz : Nat) : CMi l D h ad cy yX12_ahead wsX12_ahead { frames := 7, cells := 0, slots := 0, locals := 169 } [.int a1, .int a2, .int a3, .int a4] s0 out sz := by
  refine Met.ofW (cc := cX12_ahead) (maxL := 6) (ret := (some .int)) (by decide) rfl ?_
  intro p e s m args below meth c s₁ B hml hv
  obtain ⟨rfl, hsz, hP, hK, hD0⟩ := hv
  have hx := B.exec
  have hb := B.bytes
  have hr := B.returns
  have hts := atoms_spec (ws := wsX12_ahead) B.pre
  have hown : s.vm.findClass RX12 = some m.cls := findClass_of_methodNamed B.named
  have hlocks := B.notSynchronized
  subst hsz
  have hI : MI D (MA h ad cy s0 s.heap.size) h ad cy s s.heap s0 s.heap [] := ⟨hK, hP, hD0.self, va_S.rf⟩
  have hA : ∀ q : Nat, s.heap.size ≤ q → MA h ad cy s0 s.heap.size q := fun q hq => Or.inr hq
  have hin : ∀ w ∈ u_ws RX12 TX12 42, w ∈ wsX12_ahead := fun w hw => List.mem_cons_of_mem _ (List.mem_append_right _ hw)
  have k_said : Cond.fieldLink RX12 45 "HalfBridgeModel" "said" "[I" ∈ wsX12_ahead := by decide +kernel
  have hl := lv_entry ([.ref h, .int a1, .int a2, .int a3, .int a4]) (n := 6) (Nat.le_of_ble_eq_true rfl)
  rw [lg_entry_eq]
  generalize (lg_sl ([.ref h, .int a1, .int a2, .int a3, .int a4]) ++ List.replicate (6 - (lg_sl ([.ref h, .int a1, .int a2, .int a3, .int a4])).length) Slot.unset).toArray = ls at hl ⊢
  have hl : lv_has ls 6 [(0, .ref h), (1, .int a1), (2, .int a2), (3, .int a3), (4, .int a4)] := hl
  obtain ⟨K0, hK0, hf⟩ := top_e hf
  unfold fm_ahead at hf
  refine lv_aload_n hx hb dX12_ahead_0 rfl (lv_at hl 0 rfl) ?_
  refine lv_iload_n hx hb dX12_ahead_1 rfl (lv_at hl 1 rfl) ?_
  refine lv_iload_n hx hb dX12_ahead_2 rfl (lv_at hl 2 rfl) ?_
  obtain ⟨x1, hc2, hf⟩ := bnd_b hf
  refine mcall_i (As := [.int a1, .int a2]) (rest := []) (n := 2) ⟨hx, hb, hml, hown, hts⟩ (cm_canAsk l D h ad cy a1 a2 s0 x1 hc2 _) (cwV 2 hts gX12_ahead_X12_canAsk rfl rfl rfl ⟨rfl, nd_canAsk⟩ ⟨Nat.le_of_ble_eq_true rfl, Nat.le_of_ble_eq_true rfl⟩) hI hA rfl hl.1 (Nat.le_of_ble_eq_true rfl) dX12_ahead_3 ⟨Nat.zero_le _, Nat.zero_le _⟩ (fun H locs hI => ?_)
  refine lv_if_eq (tgt := 34) hx hb dX12_ahead_6 (by decide) (fun c3 => ?_) (fun c3 => ?_)
  · replace hf := ifp c3 hf
    refine lv_iconst (v := -1) hx hb dX12_ahead_34 (by decide) ?_
    exact mret_i hx hb hr hlocks hI (ret_e hK0 hf) dX12_ahead_35
  · replace hf := ifn c3 hf
    refine lv_iload_n hx hb dX12_ahead_9 rfl (lv_at hl 3 rfl) ?_
    refine lv_i2l (v := (a3.toInt64)) hx hb dX12_ahead_10 rfl ?_
    refine lv_lconst (v := 0) hx hb dX12_ahead_11 (by decide) ?_
    refine lv_ldc2 (v := 400) hx hb hown (hts (.constantLong RX12 416 (400)) (by decide +kernel)) dX12_ahead_12 ?_
    obtain ⟨x4, hc5, hf⟩ := bnd_b hf
    refine mst_i (As := [.long (a3.toInt64), .long (0 : Int64), .long (400 : Int64)]) (rest := []) (n := 3) ⟨hx, hb, hml, hown, hts⟩ (cs_in l (a3.toInt64) (0 : Int64) (400 : Int64) x4 hc5 _) (va_cwS 3 hts gX12_ahead_X12_in rfl rfl rfl nd_in ⟨Nat.le_of_ble_eq_true rfl, Nat.le_of_ble_eq_true rfl⟩) hI hA rfl hl.1 (Nat.le_of_ble_eq_true rfl) dX12_ahead_15 ⟨Nat.zero_le _, Nat.zero_le _⟩ (fun H locs hI => ?_)
    refine lv_if_eq (tgt := 34) hx hb dX12_ahead_18 (by decide) (fun c6 => ?_) (fun c6 => ?_)
    · replace hf := ifp c6 hf
      refine lv_iconst (v := -1) hx hb dX12_ahead_34 (by decide) ?_
      exact mret_i hx hb hr hlocks hI (ret_e hK0 hf) dX12_ahead_35
    · replace hf := ifn c6 hf
      refine lv_iload hx hb dX12_ahead_21 (lv_at hl 4 rfl) ?_
      refine lv_i2l (v := (a4.toInt64)) hx hb dX12_ahead_23 rfl ?_
      refine lv_lconst (v := 0) hx hb dX12_ahead_24 (by decide) ?_
      refine lv_ldc2 (v := 5) hx hb hown (hts (.constantLong RX12 418 (5)) (by decide +kernel)) dX12_ahead_25 ?_
      obtain ⟨x7, hc8, hf⟩ := bnd_b hf
      refine mst_i (As := [.long (a4.toInt64), .long (0 : Int64), .long (5 : Int64)]) (rest := []) (n := 3) ⟨hx, hb, hml, hown, hts⟩ (cs_in l (a4.toInt64) (0 : Int64) (5 : Int64) x7 hc8 _) (va_cwS 3 hts gX12_ahead_X12_in rfl rfl rfl nd_in ⟨Nat.le_of_ble_eq_true rfl, Nat.le_of_ble_eq_true rfl⟩) hI hA rfl hl.1 (Nat.le_of_ble_eq_true rfl) dX12_ahead_28 ⟨Nat.zero_le _, Nat.zero_le _⟩ (fun H locs hI => ?_)
      refine lv_if_ne (tgt := 36) hx hb dX12_ahead_31 (by decide) (fun c9 => ?_) (fun c9 => ?_)
      · replace hf := ifn c9 hf
        refine lv_aload_n hx hb dX12_ahead_36 rfl (lv_at hl 0 rfl) ?_
        obtain ⟨x10, hc11, hf⟩ := bnd_b hf
        refine mcall_v (As := []) (rest := []) (n := 0) ⟨hx, hb, hml, hown, hts⟩ (cm_keeps l D h ad cy  x1.1 x10 hc11 _) (cwV 0 hts gX12_ahead_X12_keeps rfl rfl rfl ⟨rfl, nd_keeps⟩ ⟨Nat.le_of_ble_eq_true rfl, Nat.le_of_ble_eq_true rfl⟩) hI hA rfl hl.1 (Nat.le_of_ble_eq_true rfl) dX12_ahead_37 ⟨Nat.zero_le _, Nat.zero_le _⟩ (fun H locs hI => ?_)
        refine lv_aload_n hx hb dX12_ahead_40 rfl (lv_at hl 0 rfl) ?_
        refine lv_iload_n hx hb dX12_ahead_41 rfl (lv_at hl 1 rfl) ?_
        refine lv_iload_n hx hb dX12_ahead_42 rfl (lv_at hl 2 rfl) ?_
        refine lv_iload_n hx hb dX12_ahead_43 rfl (lv_at hl 3 rfl) ?_
        obtain ⟨x12, hc13, hf⟩ := bnd_b hf
        refine mcall_v (As := [.int a1, .int a2, .int a3]) (rest := []) (n := 3) ⟨hx, hb, hml, hown, hts⟩ (cm_springs l D h ad cy a1 a2 a3 x10 x12 hc13 _) (cwV 3 hts gX12_ahead_X12_springs rfl rfl rfl ⟨rfl, nd_springs⟩ ⟨Nat.le_of_ble_eq_true rfl, Nat.le_of_ble_eq_true rfl⟩) hI hA rfl hl.1 (Nat.le_of_ble_eq_true rfl) dX12_ahead_44 ⟨Nat.zero_le _, Nat.zero_le _⟩ (fun H locs hI => ?_)
        refine lv_iload hx hb dX12_ahead_47 (lv_at hl 4 rfl) ?_
        refine lv_if_ne (tgt := 73) hx hb dX12_ahead_49 (by decide) (fun c14 => ?_) (fun c14 => ?_)
        · replace hf := ifn c14 hf
          refine lv_iload hx hb dX12_ahead_73 (lv_at hl 4 rfl) ?_
          refine lv_iconst (v := 3) hx hb dX12_ahead_75 (by decide) ?_
          refine lv_icmp_ge (tgt := 90) hx hb dX12_ahead_76 (by decide) (fun c15 => ?_) (fun c15 => ?_)
          · replace hf := ifp c15 hf
            refine lv_iload hx hb dX12_ahead_90 (lv_at hl 4 rfl) ?_
            refine lv_iconst (v := 5) hx hb dX12_ahead_92 (by decide) ?_
            refine lv_icmp_ge (tgt := 107) hx hb dX12_ahead_93 (by decide) (fun c16 => ?_) (fun c16 => ?_)
            · replace hf := ifp c16 hf
              refine lv_aload_n hx hb dX12_ahead_107 rfl (lv_at hl 0 rfl) ?_
              obtain ⟨x17, hc18, hf⟩ := bnd_b hf
              refine mcall_i (As := []) (rest := []) (n := 0) ⟨hx, hb, hml, hown, hts⟩ (cm_isInTime l D h ad cy  x12 x17 hc18 _) (cwV 0 hts gX12_ahead_X12_isInTime rfl rfl rfl ⟨rfl, nd_isInTime⟩ ⟨Nat.le_of_ble_eq_true rfl, Nat.le_of_ble_eq_true rfl⟩) hI hA rfl hl.1 (Nat.le_of_ble_eq_true rfl) dX12_ahead_108 ⟨Nat.zero_le _, Nat.zero_le _⟩ (fun H locs hI => ?_)
              refine lv_if_eq (tgt := 118) hx hb dX12_ahead_111 (by decide) (fun c19 => ?_) (fun c19 => ?_)
              · replace hf := ifp c19 hf
                refine lv_iconst (v := 0) hx hb dX12_ahead_118 (by decide) ?_
                refine lv_istore (lv' := [(5, .int (0 : Int32)), (0, .ref h), (1, .int a1), (2, .int a2), (3, .int a3), (4, .int a4)]) hx hb dX12_ahead_119 hl (by decide) rfl (fun ls hl => ?_)
                refine lv_aload_n hx hb dX12_ahead_121 rfl (lv_at hl 1 rfl) ?_
                obtain ⟨x20, hc21, hf⟩ := bnd_b hf
                refine mcall_v (As := []) (rest := []) (n := 0) ⟨hx, hb, hml, hown, hts⟩ (cm_putsBack l D h ad cy  x17.1 x20 hc21 _) (cwV 0 hts gX12_ahead_X12_putsBack rfl rfl rfl ⟨rfl, nd_putsBack⟩ ⟨Nat.le_of_ble_eq_true rfl, Nat.le_of_ble_eq_true rfl⟩) hI hA rfl hl.1 (Nat.le_of_ble_eq_true rfl) dX12_ahead_122 ⟨Nat.zero_le _, Nat.zero_le _⟩ (fun H locs hI => ?_)
                refine lv_iload hx hb dX12_ahead_125 (lv_at hl 0 rfl) ?_
                exact mret_i hx hb hr hlocks hI (ret_e hK0 hf) dX12_ahead_127
              · replace hf := ifn c19 hf
                refine lv_iconst (v := 1) hx hb dX12_ahead_114 (by decide) ?_
                refine lv_goto (tgt := 119) hx hb dX12_ahead_115 (by decide) ?_
                refine lv_istore (lv' := [(5, .int (1 : Int32)), (0, .ref h), (1, .int a1), (2, .int a2), (3, .int a3), (4, .int a4)]) hx hb dX12_ahead_119 hl (by decide) rfl (fun ls hl => ?_)
                refine lv_aload_n hx hb dX12_ahead_121 rfl (lv_at hl 1 rfl) ?_
                obtain ⟨x22, hc23, hf⟩ := bnd_b hf
                refine mcall_v (As := []) (rest := []) (n := 0) ⟨hx, hb, hml, hown, hts⟩ (cm_putsBack l D h ad cy  x17.1 x22 hc23 _) (cwV 0 hts gX12_ahead_X12_putsBack rfl rfl rfl ⟨rfl, nd_putsBack⟩ ⟨Nat.le_of_ble_eq_true rfl, Nat.le_of_ble_eq_true rfl⟩) hI hA rfl hl.1 (Nat.le_of_ble_eq_true rfl) dX12_ahead_122 ⟨Nat.zero_le _, Nat.zero_le _⟩ (fun H locs hI => ?_)
                refine lv_iload hx hb dX12_ahead_125 (lv_at hl 0 rfl) ?_
                exact mret_i hx hb hr hlocks hI (ret_e hK0 hf) dX12_ahead_127
            · replace hf := ifn c16 hf
              refine lv_aload_n hx hb dX12_ahead_96 rfl (lv_at hl 0 rfl) ?_
              refine lv_iload hx hb dX12_ahead_97 (lv_at hl 4 rfl) ?_
              refine lv_iconst (v := 3) hx hb dX12_ahead_99 (by decide) ?_
              refine lv_isub hx hb dX12_ahead_100 ?_
              obtain ⟨x24, hc25, hf⟩ := bnd_b hf
              refine mcall_i (As := [.int (a4 - (3 : Int32))]) (rest := []) (n := 1) ⟨hx, hb, hml, hown, hts⟩ (cm_crooked l D h ad cy (a4 - (3 : Int32)) x12 x24 hc25 _) (cwV 1 hts gX12_ahead_X12_crooked rfl rfl rfl ⟨rfl, nd_crooked⟩ ⟨Nat.le_of_ble_eq_true rfl, Nat.le_of_ble_eq_true rfl⟩) hI hA rfl hl.1 (Nat.le_of_ble_eq_true rfl) dX12_ahead_101 ⟨Nat.zero_le _, Nat.zero_le _⟩ (fun H locs hI => ?_)
              refine lv_goto (tgt := 119) hx hb dX12_ahead_104 (by decide) ?_
              refine lv_istore (lv' := [(5, .int x24.2), (0, .ref h), (1, .int a1), (2, .int a2), (3, .int a3), (4, .int a4)]) hx hb dX12_ahead_119 hl (by decide) rfl (fun ls hl => ?_)
              refine lv_aload_n hx hb dX12_ahead_121 rfl (lv_at hl 1 rfl) ?_
              obtain ⟨x26, hc27, hf⟩ := bnd_b hf
              refine mcall_v (As := []) (rest := []) (n := 0) ⟨hx, hb, hml, hown, hts⟩ (cm_putsBack l D h ad cy  x24.1 x26 hc27 _) (cwV 0 hts gX12_ahead_X12_putsBack rfl rfl rfl ⟨rfl, nd_putsBack⟩ ⟨Nat.le_of_ble_eq_true rfl, Nat.le_of_ble_eq_true rfl⟩) hI hA rfl hl.1 (Nat.le_of_ble_eq_true rfl) dX12_ahead_122 ⟨Nat.zero_le _, Nat.zero_le _⟩ (fun H locs hI => ?_)
              refine lv_iload hx hb dX12_ahead_125 (lv_at hl 0 rfl) ?_
              exact mret_i hx hb hr hlocks hI (ret_e hK0 hf) dX12_ahead_127
          · replace hf := ifn c15 hf
            refine lv_aload_n hx hb dX12_ahead_79 rfl (lv_at hl 0 rfl) ?_
            refine lv_iload hx hb dX12_ahead_80 (lv_at hl 4 rfl) ?_
            refine lv_iconst (v := 1) hx hb dX12_ahead_82 (by decide) ?_
            refine lv_isub hx hb dX12_ahead_83 ?_
            obtain ⟨x28, hc29, hf⟩ := bnd_b hf
            refine mcall_i (As := [.int (a4 - (1 : Int32))]) (rest := []) (n := 1) ⟨hx, hb, hml, hown, hts⟩ (cm_missOf l D h ad cy (a4 - (1 : Int32)) x12 x28 hc29 _) (cwV 1 hts gX12_ahead_X12_missOf rfl rfl rfl ⟨rfl, nd_missOf⟩ ⟨Nat.le_of_ble_eq_true rfl, Nat.le_of_ble_eq_true rfl⟩) hI hA rfl hl.1 (Nat.le_of_ble_eq_true rfl) dX12_ahead_84 ⟨Nat.zero_le _, Nat.zero_le _⟩ (fun H locs hI => ?_)
            refine lv_goto (tgt := 119) hx hb dX12_ahead_87 (by decide) ?_
            refine lv_istore (lv' := [(5, .int x28.2), (0, .ref h), (1, .int a1), (2, .int a2), (3, .int a3), (4, .int a4)]) hx hb dX12_ahead_119 hl (by decide) rfl (fun ls hl => ?_)
            refine lv_aload_n hx hb dX12_ahead_121 rfl (lv_at hl 1 rfl) ?_
            obtain ⟨x30, hc31, hf⟩ := bnd_b hf
            refine mcall_v (As := []) (rest := []) (n := 0) ⟨hx, hb, hml, hown, hts⟩ (cm_putsBack l D h ad cy  x28.1 x30 hc31 _) (cwV 0 hts gX12_ahead_X12_putsBack rfl rfl rfl ⟨rfl, nd_putsBack⟩ ⟨Nat.le_of_ble_eq_true rfl, Nat.le_of_ble_eq_true rfl⟩) hI hA rfl hl.1 (Nat.le_of_ble_eq_true rfl) dX12_ahead_122 ⟨Nat.zero_le _, Nat.zero_le _⟩ (fun H locs hI => ?_)
            refine lv_iload hx hb dX12_ahead_125 (lv_at hl 0 rfl) ?_
            exact mret_i hx hb hr hlocks hI (ret_e hK0 hf) dX12_ahead_127
        · replace hf := ifp c14 hf
          refine lv_aload_n hx hb dX12_ahead_52 rfl (lv_at hl 0 rfl) ?_
          obtain ⟨x32, hc33, hf⟩ := bnd_b hf
          refine mcall_i (As := []) (rest := []) (n := 0) ⟨hx, hb, hml, hown, hts⟩ (cm_isMet l D h ad cy  x12 x32 hc33 _) (cwV 0 hts gX12_ahead_X12_isMet rfl rfl rfl ⟨rfl, nd_isMet⟩ ⟨Nat.le_of_ble_eq_true rfl, Nat.le_of_ble_eq_true rfl⟩) hI hA rfl hl.1 (Nat.le_of_ble_eq_true rfl) dX12_ahead_53 ⟨Nat.zero_le _, Nat.zero_le _⟩ (fun H locs hI => ?_)
          refine lv_if_eq (tgt := 68) hx hb dX12_ahead_56 (by decide) (fun c34 => ?_) (fun c34 => ?_)
          · replace hf := ifp c34 hf
            refine lv_bipush (v := -2) hx hb dX12_ahead_68 (by decide) ?_
            refine lv_goto (tgt := 119) hx hb dX12_ahead_70 (by decide) ?_
            refine lv_istore (lv' := [(5, .int (-2 : Int32)), (0, .ref h), (1, .int a1), (2, .int a2), (3, .int a3), (4, .int a4)]) hx hb dX12_ahead_119 hl (by decide) rfl (fun ls hl => ?_)
            refine lv_aload_n hx hb dX12_ahead_121 rfl (lv_at hl 1 rfl) ?_
            obtain ⟨x35, hc36, hf⟩ := bnd_b hf
            refine mcall_v (As := []) (rest := []) (n := 0) ⟨hx, hb, hml, hown, hts⟩ (cm_putsBack l D h ad cy  x32.1 x35 hc36 _) (cwV 0 hts gX12_ahead_X12_putsBack rfl rfl rfl ⟨rfl, nd_putsBack⟩ ⟨Nat.le_of_ble_eq_true rfl, Nat.le_of_ble_eq_true rfl⟩) hI hA rfl hl.1 (Nat.le_of_ble_eq_true rfl) dX12_ahead_122 ⟨Nat.zero_le _, Nat.zero_le _⟩ (fun H locs hI => ?_)
            refine lv_iload hx hb dX12_ahead_125 (lv_at hl 0 rfl) ?_
            exact mret_i hx hb hr hlocks hI (ret_e hK0 hf) dX12_ahead_127
          · replace hf := ifn c34 hf
            refine lv_aload_n hx hb dX12_ahead_59 rfl (lv_at hl 0 rfl) ?_
            refine mg_said hx hb hts hin hown k_said hI dX12_ahead_60 ?_
            refine lv_iconst (v := 1) hx hb dX12_ahead_63 (by decide) ?_
            obtain ⟨k37, hf⟩ := chk_b hf
            refine ml_said hx hb hI k37 dX12_ahead_64 ?_
            refine lv_goto (tgt := 119) hx hb dX12_ahead_65 (by decide) ?_
            refine lv_istore (lv' := [(5, .int (x32.1.2.1 26 (1 : Int32).toNatClampNeg)), (0, .ref h), (1, .int a1), (2, .int a2), (3, .int a3), (4, .int a4)]) hx hb dX12_ahead_119 hl (by decide) rfl (fun ls hl => ?_)
            refine lv_aload_n hx hb dX12_ahead_121 rfl (lv_at hl 1 rfl) ?_
            obtain ⟨x38, hc39, hf⟩ := bnd_b hf
            refine mcall_v (As := []) (rest := []) (n := 0) ⟨hx, hb, hml, hown, hts⟩ (cm_putsBack l D h ad cy  x32.1 x38 hc39 _) (cwV 0 hts gX12_ahead_X12_putsBack rfl rfl rfl ⟨rfl, nd_putsBack⟩ ⟨Nat.le_of_ble_eq_true rfl, Nat.le_of_ble_eq_true rfl⟩) hI hA rfl hl.1 (Nat.le_of_ble_eq_true rfl) dX12_ahead_122 ⟨Nat.zero_le _, Nat.zero_le _⟩ (fun H locs hI => ?_)
            refine lv_iload hx hb dX12_ahead_125 (lv_at hl 0 rfl) ?_
            exact mret_i hx hb hr hlocks hI (ret_e hK0 hf) dX12_ahead_127
      · replace hf := ifp c9 hf
        refine lv_iconst (v := -1) hx hb dX12_ahead_34 (by decide) ?_
        exact mret_i hx hb hr hlocks hI (ret_e hK0 hf) dX12_ahead_35

noncomputable def fm_keepsDay_j98 (st : MSt) : Option (MSt) :=
  some st
noncomputable def fm_keepsDay_j92 (v1 : Int32) (v2 : Int32) (st : MSt) : Option ((MSt) ⊕ ((Int32 × MSt) ⊕ (Int32 × MSt))) :=
  some (.inr (.inl ((v2 + 1), st)))
noncomputable def fm_keepsDay_j86 (v1 : Int32) (v2 : Int32) (v3 : Int32) (st : MSt) : Option ((MSt) ⊕ ((Int32 × MSt) ⊕ (Int32 × MSt))) :=
  some (.inr (.inl ((v3 + 1), st)))
noncomputable def fm_keepsDay_s44 (v1 : Int32) (v2 : Int32) (v3 : Int32) (v4 : Int32) (st : MSt) : Option ((MSt) ⊕ ((Int32 × MSt) ⊕ (Int32 × MSt))) :=
  (if (2 : Int32) ≤ v4 then some (.inr (.inr (v4, st))) else (fm_yardOf v2 v3 v4 st).bind fun x7 => chk (inb (((((160 : Int32) * v1) + ((80 : Int32) * v2)) + ((2 : Int32) * v3)) + v4) 48160) (some (.inr (.inl ((v4 + 1), msa x7.1 33 (((((160 : Int32) * v1) + ((80 : Int32) * v2)) + ((2 : Int32) * v3)) + v4).toNatClampNeg x7.2)))))
noncomputable def fm_keepsDay_s28 (v1 : Int32) (v2 : Int32) (v3 : Int32) (st : MSt) : Option ((MSt) ⊕ ((Int32 × MSt) ⊕ (Int32 × MSt))) :=
  chk (inb ((6 : Int32) + v2) 286) ((if (st.2.1 26 ((6 : Int32) + v2).toNatClampNeg) ≤ v3 then some (.inr (.inr (v3, st))) else (iter (fun x : (Int32 × MSt) => fm_keepsDay_s44 v1 v2 v3 x.1 x.2) mFuel ((0 : Int32), st)).bind (Sum.elim (fun o : MSt => (some (.inl o) : Option ((MSt) ⊕ ((Int32 × MSt) ⊕ (Int32 × MSt))))) (fun x : (Int32 × MSt) => fm_keepsDay_j86 v1 v2 v3 x.2))))
noncomputable def fm_keepsDay_s2 (v1 : Int32) (v2 : Int32) (st : MSt) : Option ((MSt) ⊕ ((Int32 × MSt) ⊕ (Int32 × MSt))) :=
  (if (2 : Int32) ≤ v2 then some (.inr (.inr (v2, st))) else chk (inb ((6 : Int32) + v2) 286) (chk (inb (((2 : Int32) * v1) + v2) 602) ((iter (fun x : (Int32 × MSt) => fm_keepsDay_s28 v1 v2 x.1 x.2) mFuel ((0 : Int32), msa st 32 (((2 : Int32) * v1) + v2).toNatClampNeg (st.2.1 26 ((6 : Int32) + v2).toNatClampNeg))).bind (Sum.elim (fun o : MSt => (some (.inl o) : Option ((MSt) ⊕ ((Int32 × MSt) ⊕ (Int32 × MSt))))) (fun x : (Int32 × MSt) => fm_keepsDay_j92 v1 v2 x.2)))))
noncomputable def fm_keepsDay (a1 : Int32) (s0 : MSt) : Option (MSt) :=
  (iter (fun x : (Int32 × MSt) => fm_keepsDay_s2 a1 x.1 x.2) mFuel ((0 : Int32), s0)).bind (Sum.elim (fun o : MSt => (some o : Option (MSt))) (fun x : (Int32 × MSt) => fm_keepsDay_j98 x.2))
theorem nd_keepsDay : yX12_keepsDay.cls ≠ "java/lang/invoke/MethodHandle" ∧ yX12_keepsDay.cls ≠ "java/lang/invoke/VarHandle" ∧ (parseMethodDescriptor yX12_keepsDay.desc).map (fun d => d.parameters.length) = some 1 := by decide +kernel
set_option maxHeartbeats 4000000 in
set_option maxRecDepth 100000 in
theorem cm_keepsDay (l : Launch) (D : va_G) (h : Nat) (ad : Nat → Nat) (cy : Nat → ClassId) (a1 : Int32) (s0 : MSt) (out : MSt) (hf : fm_keepsDay a1 s0 = some out) (sz : Nat) : CMv l D h ad cy yX12_keepsDay wsX12_keepsDay { frames := 1, cells := 0, slots := 0, locals := 23 } [.int a1] s0 out sz := by
  refine Met.ofW (cc := cX12_keepsDay) (maxL := 5) (ret := none) (by decide) rfl ?_
  intro p e s m args below meth c s₁ B hml hv
  obtain ⟨rfl, hsz, hP, hK, hD0⟩ := hv
  have hx := B.exec
  have hb := B.bytes
  have hr := B.returns
  have hts := atoms_spec (ws := wsX12_keepsDay) B.pre
  have hown : s.vm.findClass RX12 = some m.cls := findClass_of_methodNamed B.named
  have hlocks := B.notSynchronized
  subst hsz
  have hI : MI D (MA h ad cy s0 s.heap.size) h ad cy s s.heap s0 s.heap [] := ⟨hK, hP, hD0.self, va_S.rf⟩
  have hA : ∀ q : Nat, s.heap.size ≤ q → MA h ad cy s0 s.heap.size q := fun q hq => Or.inr hq
  have hin : ∀ w ∈ u_ws RX12 TX12 42, w ∈ wsX12_keepsDay := fun w hw => List.mem_cons_of_mem _ (List.mem_append_right _ hw)
  have k_hasBy : Cond.fieldLink RX12 63 "HalfBridgeModel" "hasBy" "[I" ∈ wsX12_keepsDay := by decide +kernel
  have k_said : Cond.fieldLink RX12 45 "HalfBridgeModel" "said" "[I" ∈ wsX12_keepsDay := by decide +kernel
  have k_yardBy : Cond.fieldLink RX12 67 "HalfBridgeModel" "yardBy" "[I" ∈ wsX12_keepsDay := by decide +kernel
  have hl := lv_entry ([.ref h, .int a1]) (n := 5) (Nat.le_of_ble_eq_true rfl)
  rw [lg_entry_eq]
  generalize (lg_sl ([.ref h, .int a1]) ++ List.replicate (5 - (lg_sl ([.ref h, .int a1])).length) Slot.unset).toArray = ls at hl ⊢
  have hl : lv_has ls 5 [(0, .ref h), (1, .int a1)] := hl
  obtain ⟨K0, hK0, hf⟩ := top_e hf
  have B_98 : ∀   (st : MSt) (H : Heap) (locs : List Loc) (ls : Array Slot), MI D (MA h ad cy s0 s.heap.size) h ad cy s s.heap st H locs → lv_has ls 5 [] → (fm_keepsDay_j98 st).bind K0 = some out → W p l e (headSpec wsX12_keepsDay { frames := 1, cells := 0, slots := 0, locals := 23 }).room s m (([.ref h, .int a1] : List Value).toArray) below meth c H locs 0 0 (MQ below (MQv D h ad cy s0 out s.heap.size) ([.ref h, .int a1] : List Value).toArray s 0 0 (MA h ad cy s0 s.heap.size)) (F0 m 98 ls []) := by
    intro st H locs ls hI hl hf
    unfold fm_keepsDay_j98 at hf
    exact mret_v hx hb hr hlocks hI (ret_e hK0 hf) dX12_keepsDay_98
  have L_2 : ∀ (v1 : Int32) (n : Nat) (v2 : Int32) (st : MSt) (H : Heap) (locs : List Loc) (ls : Array Slot), MI D (MA h ad cy s0 s.heap.size) h ad cy s s.heap st H locs → lv_has ls 5 [(0, .ref h), (1, .int v1), (2, .int v2)] → (iter (fun x : (Int32 × MSt) => fm_keepsDay_s2 v1 x.1 x.2) n (v2, st)).bind (fun x => ((Sum.elim (fun o : MSt => (some o : Option (MSt))) (fun x : (Int32 × MSt) => fm_keepsDay_j98 x.2)) x).bind K0) = some out → W p l e (headSpec wsX12_keepsDay { frames := 1, cells := 0, slots := 0, locals := 23 }).room s m (([.ref h, .int a1] : List Value).toArray) below meth c H locs 0 0 (MQ below (MQv D h ad cy s0 out s.heap.size) ([.ref h, .int a1] : List Value).toArray s 0 0 (MA h ad cy s0 s.heap.size)) (F0 m 2 ls []) := by
    intro v1 n
    induction n with
    | zero => intro v2 st H locs ls hI hl hf; exact (iter_0 hf).elim
    | succ n ih =>
      intro v2 st H locs ls hI hl hf
      obtain ⟨K1, hK1, hf⟩ := iter_e hf
      replace hf : (fm_keepsDay_s2 v1 v2 st).bind K1 = some out := hf
      have B_2_92 : ∀ (v2 : Int32)  (st : MSt) (H : Heap) (locs : List Loc) (ls : Array Slot), MI D (MA h ad cy s0 s.heap.size) h ad cy s s.heap st H locs → lv_has ls 5 [(0, .ref h), (1, .int v1), (2, .int v2)] → (fm_keepsDay_j92 v1 v2 st).bind K1 = some out → W p l e (headSpec wsX12_keepsDay { frames := 1, cells := 0, slots := 0, locals := 23 }).room s m (([.ref h, .int a1] : List Value).toArray) below meth c H locs 0 0 (MQ below (MQv D h ad cy s0 out s.heap.size) ([.ref h, .int a1] : List Value).toArray s 0 0 (MA h ad cy s0 s.heap.size)) (F0 m 92 ls []) := by
        intro v2 st H locs ls hI hl hf
        unfold fm_keepsDay_j92 at hf
        refine lv_iinc (v := (v2 + 1)) (lv' := [(2, .int (v2 + 1)), (0, .ref h), (1, .int v1)]) hx hb dX12_keepsDay_92 hl (k := 2) rfl (ci_ _ (by decide)) (by decide) rfl (fun ls hl => ?_)
        refine lv_goto (tgt := 2) hx hb dX12_keepsDay_95 (by decide) ?_
        replace hf := cont_b hK1 hf
        exact ih (v2 + 1) st H locs ls hI (lv_sub hl [1, 2, 0] rfl) hf
      have L_2_28 : ∀ (v2 : Int32) (n : Nat) (v3 : Int32) (st : MSt) (H : Heap) (locs : List Loc) (ls : Array Slot), MI D (MA h ad cy s0 s.heap.size) h ad cy s s.heap st H locs → lv_has ls 5 [(0, .ref h), (1, .int v1), (2, .int v2), (3, .int v3)] → (iter (fun x : (Int32 × MSt) => fm_keepsDay_s28 v1 v2 x.1 x.2) n (v3, st)).bind (fun x => ((Sum.elim (fun o : MSt => (some (.inl o) : Option ((MSt) ⊕ ((Int32 × MSt) ⊕ (Int32 × MSt))))) (fun x : (Int32 × MSt) => fm_keepsDay_j92 v1 v2 x.2)) x).bind K1) = some out → W p l e (headSpec wsX12_keepsDay { frames := 1, cells := 0, slots := 0, locals := 23 }).room s m (([.ref h, .int a1] : List Value).toArray) below meth c H locs 0 0 (MQ below (MQv D h ad cy s0 out s.heap.size) ([.ref h, .int a1] : List Value).toArray s 0 0 (MA h ad cy s0 s.heap.size)) (F0 m 28 ls []) := by
        intro v2 n
        induction n with
        | zero => intro v3 st H locs ls hI hl hf; exact (iter_0 hf).elim
        | succ n ih =>
          intro v3 st H locs ls hI hl hf
          obtain ⟨K2, hK2, hf⟩ := iter_e hf
          replace hf : (fm_keepsDay_s28 v1 v2 v3 st).bind K2 = some out := hf
          have B_2_28_86 : ∀ (v3 : Int32)  (st : MSt) (H : Heap) (locs : List Loc) (ls : Array Slot), MI D (MA h ad cy s0 s.heap.size) h ad cy s s.heap st H locs → lv_has ls 5 [(0, .ref h), (1, .int v1), (2, .int v2), (3, .int v3)] → (fm_keepsDay_j86 v1 v2 v3 st).bind K2 = some out → W p l e (headSpec wsX12_keepsDay { frames := 1, cells := 0, slots := 0, locals := 23 }).room s m (([.ref h, .int a1] : List Value).toArray) below meth c H locs 0 0 (MQ below (MQv D h ad cy s0 out s.heap.size) ([.ref h, .int a1] : List Value).toArray s 0 0 (MA h ad cy s0 s.heap.size)) (F0 m 86 ls []) := by
            intro v3 st H locs ls hI hl hf
            unfold fm_keepsDay_j86 at hf
            refine lv_iinc (v := (v3 + 1)) (lv' := [(3, .int (v3 + 1)), (0, .ref h), (1, .int v1), (2, .int v2)]) hx hb dX12_keepsDay_86 hl (k := 3) rfl (ci_ _ (by decide)) (by decide) rfl (fun ls hl => ?_)
            refine lv_goto (tgt := 28) hx hb dX12_keepsDay_89 (by decide) ?_
            replace hf := cont_b hK2 hf
            exact ih (v3 + 1) st H locs ls hI (lv_sub hl [1, 2, 3, 0] rfl) hf
          have L_2_28_44 : ∀ (v3 : Int32) (n : Nat) (v4 : Int32) (st : MSt) (H : Heap) (locs : List Loc) (ls : Array Slot), MI D (MA h ad cy s0 s.heap.size) h ad cy s s.heap st H locs → lv_has ls 5 [(0, .ref h), (1, .int v1), (2, .int v2), (3, .int v3), (4, .int v4)] → (iter (fun x : (Int32 × MSt) => fm_keepsDay_s44 v1 v2 v3 x.1 x.2) n (v4, st)).bind (fun x => ((Sum.elim (fun o : MSt => (some (.inl o) : Option ((MSt) ⊕ ((Int32 × MSt) ⊕ (Int32 × MSt))))) (fun x : (Int32 × MSt) => fm_keepsDay_j86 v1 v2 v3 x.2)) x).bind K2) = some out → W p l e (headSpec wsX12_keepsDay { frames := 1, cells := 0, slots := 0, locals := 23 }).room s m (([.ref h, .int a1] : List Value).toArray) below meth c H locs 0 0 (MQ below (MQv D h ad cy s0 out s.heap.size) ([.ref h, .int a1] : List Value).toArray s 0 0 (MA h ad cy s0 s.heap.size)) (F0 m 44 ls []) := by
            intro v3 n
            induction n with
            | zero => intro v4 st H locs ls hI hl hf; exact (iter_0 hf).elim
            | succ n ih =>
              intro v4 st H locs ls hI hl hf
              obtain ⟨K3, hK3, hf⟩ := iter_e hf
              replace hf : (fm_keepsDay_s44 v1 v2 v3 v4 st).bind K3 = some out := hf
              unfold fm_keepsDay_s44 at hf
              refine lv_iload hx hb dX12_keepsDay_44 (lv_at hl 4 rfl) ?_
              refine lv_iconst (v := 2) hx hb dX12_keepsDay_46 (by decide) ?_
              refine lv_icmp_ge (tgt := 86) hx hb dX12_keepsDay_47 (by decide) (fun c6 => ?_) (fun c6 => ?_)
              · replace hf := ifp c6 hf
                replace hf := exit_b hK3 hf
                exact B_2_28_86 v3 st H locs ls hI (lv_sub hl [0, 1, 2, 3] rfl) hf
              · replace hf := ifn c6 hf
                refine lv_aload_n hx hb dX12_keepsDay_50 rfl (lv_at hl 0 rfl) ?_
                refine mg_yardBy hx hb hts hin hown k_yardBy hI dX12_keepsDay_51 ?_
                refine lv_sipush (v := 160) hx hb dX12_keepsDay_54 (by decide) ?_
                refine lv_iload_n hx hb dX12_keepsDay_57 rfl (lv_at hl 1 rfl) ?_
                refine lv_imul hx hb dX12_keepsDay_58 ?_
                refine lv_bipush (v := 80) hx hb dX12_keepsDay_59 (by decide) ?_
                refine lv_iload_n hx hb dX12_keepsDay_61 rfl (lv_at hl 2 rfl) ?_
                refine lv_imul hx hb dX12_keepsDay_62 ?_
                refine lv_iadd hx hb dX12_keepsDay_63 ?_
                refine lv_iconst (v := 2) hx hb dX12_keepsDay_64 (by decide) ?_
                refine lv_iload_n hx hb dX12_keepsDay_65 rfl (lv_at hl 3 rfl) ?_
                refine lv_imul hx hb dX12_keepsDay_66 ?_
                refine lv_iadd hx hb dX12_keepsDay_67 ?_
                refine lv_iload hx hb dX12_keepsDay_68 (lv_at hl 4 rfl) ?_
                refine lv_iadd hx hb dX12_keepsDay_70 ?_
                refine lv_aload_n hx hb dX12_keepsDay_71 rfl (lv_at hl 0 rfl) ?_
                refine lv_iload_n hx hb dX12_keepsDay_72 rfl (lv_at hl 2 rfl) ?_
                refine lv_iload_n hx hb dX12_keepsDay_73 rfl (lv_at hl 3 rfl) ?_
                refine lv_iload hx hb dX12_keepsDay_74 (lv_at hl 4 rfl) ?_
                obtain ⟨x7, hc8, hf⟩ := bnd_b hf
                refine mcall_i (As := [.int v2, .int v3, .int v4]) (rest := [.int (((((160 : Int32) * v1) + ((80 : Int32) * v2)) + ((2 : Int32) * v3)) + v4), .ref (ad 33)]) (n := 3) ⟨hx, hb, hml, hown, hts⟩ (cm_yardOf l D h ad cy v2 v3 v4 st x7 hc8 _) (cwV 3 hts gX12_keepsDay_X12_yardOf rfl rfl rfl ⟨rfl, nd_yardOf⟩ ⟨Nat.le_of_ble_eq_true rfl, Nat.le_of_ble_eq_true rfl⟩) hI hA rfl hl.1 (Nat.le_of_ble_eq_true rfl) dX12_keepsDay_76 ⟨Nat.zero_le _, Nat.zero_le _⟩ (fun H locs hI => ?_)
                obtain ⟨k9, hf⟩ := chk_b hf
                refine ms_yardBy hx hb hI k9 dX12_keepsDay_79 (fun H locs hI => ?_)
                refine lv_iinc (v := (v4 + 1)) (lv' := [(4, .int (v4 + 1)), (0, .ref h), (1, .int v1), (2, .int v2), (3, .int v3)]) hx hb dX12_keepsDay_80 hl (k := 4) rfl (ci_ _ (by decide)) (by decide) rfl (fun ls hl => ?_)
                refine lv_goto (tgt := 44) hx hb dX12_keepsDay_83 (by decide) ?_
                replace hf := cont_b hK3 hf
                exact ih (v4 + 1) (msa x7.1 33 (((((160 : Int32) * v1) + ((80 : Int32) * v2)) + ((2 : Int32) * v3)) + v4).toNatClampNeg x7.2) H locs ls hI (lv_sub hl [1, 2, 3, 4, 0] rfl) hf
          unfold fm_keepsDay_s28 at hf
          refine lv_iload_n hx hb dX12_keepsDay_28 rfl (lv_at hl 3 rfl) ?_
          refine lv_aload_n hx hb dX12_keepsDay_29 rfl (lv_at hl 0 rfl) ?_
          refine mg_said hx hb hts hin hown k_said hI dX12_keepsDay_30 ?_
          refine lv_bipush (v := 6) hx hb dX12_keepsDay_33 (by decide) ?_
          refine lv_iload_n hx hb dX12_keepsDay_35 rfl (lv_at hl 2 rfl) ?_
          refine lv_iadd hx hb dX12_keepsDay_36 ?_
          obtain ⟨k4, hf⟩ := chk_b hf
          refine ml_said hx hb hI k4 dX12_keepsDay_37 ?_
          refine lv_icmp_ge (tgt := 92) hx hb dX12_keepsDay_38 (by decide) (fun c5 => ?_) (fun c5 => ?_)
          · replace hf := ifp c5 hf
            replace hf := exit_b hK2 hf
            exact B_2_92 v2 st H locs ls hI (lv_sub hl [0, 1, 2] rfl) hf
          · replace hf := ifn c5 hf
            refine lv_iconst (v := 0) hx hb dX12_keepsDay_41 (by decide) ?_
            refine lv_istore (lv' := [(4, .int (0 : Int32)), (0, .ref h), (1, .int v1), (2, .int v2), (3, .int v3)]) hx hb dX12_keepsDay_42 hl (by decide) rfl (fun ls hl => ?_)
            exact L_2_28_44 v3 mFuel (0 : Int32) st H locs ls hI (lv_sub hl [1, 2, 3, 4, 0] rfl) (asc_b hf)
      unfold fm_keepsDay_s2 at hf
      refine lv_iload_n hx hb dX12_keepsDay_2 rfl (lv_at hl 2 rfl) ?_
      refine lv_iconst (v := 2) hx hb dX12_keepsDay_3 (by decide) ?_
      refine lv_icmp_ge (tgt := 98) hx hb dX12_keepsDay_4 (by decide) (fun c1 => ?_) (fun c1 => ?_)
      · replace hf := ifp c1 hf
        replace hf := exit_b hK1 hf
        exact B_98  st H locs ls hI (lv_sub hl [] rfl) hf
      · replace hf := ifn c1 hf
        refine lv_aload_n hx hb dX12_keepsDay_7 rfl (lv_at hl 0 rfl) ?_
        refine mg_hasBy hx hb hts hin hown k_hasBy hI dX12_keepsDay_8 ?_
        refine lv_iconst (v := 2) hx hb dX12_keepsDay_11 (by decide) ?_
        refine lv_iload_n hx hb dX12_keepsDay_12 rfl (lv_at hl 1 rfl) ?_
        refine lv_imul hx hb dX12_keepsDay_13 ?_
        refine lv_iload_n hx hb dX12_keepsDay_14 rfl (lv_at hl 2 rfl) ?_
        refine lv_iadd hx hb dX12_keepsDay_15 ?_
        refine lv_aload_n hx hb dX12_keepsDay_16 rfl (lv_at hl 0 rfl) ?_
        refine mg_said hx hb hts hin hown k_said hI dX12_keepsDay_17 ?_
        refine lv_bipush (v := 6) hx hb dX12_keepsDay_20 (by decide) ?_
        refine lv_iload_n hx hb dX12_keepsDay_22 rfl (lv_at hl 2 rfl) ?_
        refine lv_iadd hx hb dX12_keepsDay_23 ?_
        obtain ⟨k2, hf⟩ := chk_b hf
        refine ml_said hx hb hI k2 dX12_keepsDay_24 ?_
        obtain ⟨k3, hf⟩ := chk_b hf
        refine ms_hasBy hx hb hI k3 dX12_keepsDay_25 (fun H locs hI => ?_)
        refine lv_iconst (v := 0) hx hb dX12_keepsDay_26 (by decide) ?_
        refine lv_istore_n (lv' := [(3, .int (0 : Int32)), (0, .ref h), (1, .int v1), (2, .int v2)]) hx hb dX12_keepsDay_27 rfl hl (by decide) rfl (fun ls hl => ?_)
        exact L_2_28 v2 mFuel (0 : Int32) (msa st 32 (((2 : Int32) * v1) + v2).toNatClampNeg (st.2.1 26 ((6 : Int32) + v2).toNatClampNeg)) H locs ls hI (lv_sub hl [1, 2, 3, 0] rfl) (asc_b hf)
  unfold fm_keepsDay at hf
  refine lv_iconst (v := 0) hx hb dX12_keepsDay_0 (by decide) ?_
  refine lv_istore_n (lv' := [(2, .int (0 : Int32)), (0, .ref h), (1, .int a1)]) hx hb dX12_keepsDay_1 rfl hl (by decide) rfl (fun ls hl => ?_)
  exact L_2 a1 mFuel (0 : Int32) s0 s.heap [] ls hI (lv_sub hl [1, 2, 0] rfl) (asc_b hf)
