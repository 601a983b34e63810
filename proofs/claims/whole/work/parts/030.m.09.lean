noncomputable def fm_isRiverWord (s0 : MSt) : Option (MSt × Int32) :=
  (fm_isWord (2003395685 : Int64) s0).bind fun x1 => (if x1.2 = 0 then (fm_isWord (1650552427 : Int64) x1.1).bind fun x4 => (if x4.2 = 0 then (fm_isWord (1702454643 : Int64) x4.1).bind fun x7 => (if x7.2 = 0 then (fm_isWord (1937007984 : Int64) x7.1).bind fun x10 => (if x10.2 = 0 then (fm_isWord (115922835105139 : Int64) x10.1).bind fun x13 => (if x13.2 = 0 then (fm_isWord (439905906532 : Int64) x13.1).bind fun x16 => (if x16.2 = 0 then some (x16.1, (0 : Int32)) else some (x16.1, (1 : Int32))) else some (x13.1, (1 : Int32))) else some (x10.1, (1 : Int32))) else some (x7.1, (1 : Int32))) else some (x4.1, (1 : Int32))) else some (x1.1, (1 : Int32)))
theorem nd_isRiverWord : yX12_isRiverWord.cls ≠ "java/lang/invoke/MethodHandle" ∧ yX12_isRiverWord.cls ≠ "java/lang/invoke/VarHandle" ∧ (parseMethodDescriptor yX12_isRiverWord.desc).map (fun d => d.parameters.length) = some 0 := by decide +kernel
set_option maxHeartbeats 4000000 in
set_option maxRecDepth 100000 in
theorem cm_isRiverWord (l : Launch) (D : va_G) (h : Nat) (ad : Nat → Nat) (cy : Nat → ClassId)  (s0 : MSt) (out : MSt × Int32) (hf : fm_isRiverWord s0 = some out) (sz : Nat) : CMi l D h ad cy yX12_isRiverWord wsX12_isRiverWord { frames := 2, cells := 0, slots := 0, locals := 46 } [] s0 out sz := by
  refine Met.ofW (cc := cX12_isRiverWord) (maxL := 1) (ret := (some .boolean)) (by decide) rfl ?_
  intro p e s m args below meth c s₁ B hml hv
  obtain ⟨rfl, hsz, hP, hK, hD0⟩ := hv
  have hx := B.exec
  have hb := B.bytes
  have hr := B.returns
  have hts := atoms_spec (ws := wsX12_isRiverWord) B.pre
  have hown : s.vm.findClass RX12 = some m.cls := findClass_of_methodNamed B.named
  have hlocks := B.notSynchronized
  subst hsz
  have hI : MI D (MA h ad cy s0 s.heap.size) h ad cy s s.heap s0 s.heap [] := ⟨hK, hP, hD0.self, va_S.rf⟩
  have hA : ∀ q : Nat, s.heap.size ≤ q → MA h ad cy s0 s.heap.size q := fun q hq => Or.inr hq
  have hl := lv_entry ([.ref h]) (n := 1) (Nat.le_of_ble_eq_true rfl)
  rw [lg_entry_eq]
  generalize (lg_sl ([.ref h]) ++ List.replicate (1 - (lg_sl ([.ref h])).length) Slot.unset).toArray = ls at hl ⊢
  have hl : lv_has ls 1 [(0, .ref h)] := hl
  obtain ⟨K0, hK0, hf⟩ := top_e hf
  unfold fm_isRiverWord at hf
  refine lv_aload_n hx hb dX12_isRiverWord_0 rfl (lv_at hl 0 rfl) ?_
  refine lv_ldc2 (v := 2003395685) hx hb hown (hts (.constantLong RX12 237 (2003395685)) (by decide +kernel)) dX12_isRiverWord_1 ?_
  obtain ⟨x1, hc2, hf⟩ := bnd_b hf
  refine mcall_i (As := [.long (2003395685 : Int64)]) (rest := []) (n := 1) ⟨hx, hb, hml, hown, hts⟩ (cm_isWord l D h ad cy (2003395685 : Int64) s0 x1 hc2 _) (cwV 1 hts gX12_isRiverWord_X12_isWord rfl rfl rfl ⟨rfl, nd_isWord⟩ ⟨Nat.le_of_ble_eq_true rfl, Nat.le_of_ble_eq_true rfl⟩) hI hA rfl hl.1 (Nat.le_of_ble_eq_true rfl) dX12_isRiverWord_4 ⟨Nat.zero_le _, Nat.zero_le _⟩ (fun H locs hI => ?_)
  refine lv_if_ne (tgt := 60) hx hb dX12_isRiverWord_7 (by decide) (fun c3 => ?_) (fun c3 => ?_)
  · replace hf := ifn c3 hf
    refine lv_iconst (v := 1) hx hb dX12_isRiverWord_60 (by decide) ?_
    refine lv_goto (tgt := 65) hx hb dX12_isRiverWord_61 (by decide) ?_
    exact mret_z hx hb hr (by decide) hlocks hI (ret_e hK0 hf) dX12_isRiverWord_65
  · replace hf := ifp c3 hf
    refine lv_aload_n hx hb dX12_isRiverWord_10 rfl (lv_at hl 0 rfl) ?_
    refine lv_ldc2 (v := 1650552427) hx hb hown (hts (.constantLong RX12 242 (1650552427)) (by decide +kernel)) dX12_isRiverWord_11 ?_
    obtain ⟨x4, hc5, hf⟩ := bnd_b hf
    refine mcall_i (As := [.long (1650552427 : Int64)]) (rest := []) (n := 1) ⟨hx, hb, hml, hown, hts⟩ (cm_isWord l D h ad cy (1650552427 : Int64) x1.1 x4 hc5 _) (cwV 1 hts gX12_isRiverWord_X12_isWord rfl rfl rfl ⟨rfl, nd_isWord⟩ ⟨Nat.le_of_ble_eq_true rfl, Nat.le_of_ble_eq_true rfl⟩) hI hA rfl hl.1 (Nat.le_of_ble_eq_true rfl) dX12_isRiverWord_14 ⟨Nat.zero_le _, Nat.zero_le _⟩ (fun H locs hI => ?_)
    refine lv_if_ne (tgt := 60) hx hb dX12_isRiverWord_17 (by decide) (fun c6 => ?_) (fun c6 => ?_)
    · replace hf := ifn c6 hf
      refine lv_iconst (v := 1) hx hb dX12_isRiverWord_60 (by decide) ?_
      refine lv_goto (tgt := 65) hx hb dX12_isRiverWord_61 (by decide) ?_
      exact mret_z hx hb hr (by decide) hlocks hI (ret_e hK0 hf) dX12_isRiverWord_65
    · replace hf := ifp c6 hf
      refine lv_aload_n hx hb dX12_isRiverWord_20 rfl (lv_at hl 0 rfl) ?_
      refine lv_ldc2 (v := 1702454643) hx hb hown (hts (.constantLong RX12 247 (1702454643)) (by decide +kernel)) dX12_isRiverWord_21 ?_
      obtain ⟨x7, hc8, hf⟩ := bnd_b hf
      refine mcall_i (As := [.long (1702454643 : Int64)]) (rest := []) (n := 1) ⟨hx, hb, hml, hown, hts⟩ (cm_isWord l D h ad cy (1702454643 : Int64) x4.1 x7 hc8 _) (cwV 1 hts gX12_isRiverWord_X12_isWord rfl rfl rfl ⟨rfl, nd_isWord⟩ ⟨Nat.le_of_ble_eq_true rfl, Nat.le_of_ble_eq_true rfl⟩) hI hA rfl hl.1 (Nat.le_of_ble_eq_true rfl) dX12_isRiverWord_24 ⟨Nat.zero_le _, Nat.zero_le _⟩ (fun H locs hI => ?_)
      refine lv_if_ne (tgt := 60) hx hb dX12_isRiverWord_27 (by decide) (fun c9 => ?_) (fun c9 => ?_)
      · replace hf := ifn c9 hf
        refine lv_iconst (v := 1) hx hb dX12_isRiverWord_60 (by decide) ?_
        refine lv_goto (tgt := 65) hx hb dX12_isRiverWord_61 (by decide) ?_
        exact mret_z hx hb hr (by decide) hlocks hI (ret_e hK0 hf) dX12_isRiverWord_65
      · replace hf := ifp c9 hf
        refine lv_aload_n hx hb dX12_isRiverWord_30 rfl (lv_at hl 0 rfl) ?_
        refine lv_ldc2 (v := 1937007984) hx hb hown (hts (.constantLong RX12 252 (1937007984)) (by decide +kernel)) dX12_isRiverWord_31 ?_
        obtain ⟨x10, hc11, hf⟩ := bnd_b hf
        refine mcall_i (As := [.long (1937007984 : Int64)]) (rest := []) (n := 1) ⟨hx, hb, hml, hown, hts⟩ (cm_isWord l D h ad cy (1937007984 : Int64) x7.1 x10 hc11 _) (cwV 1 hts gX12_isRiverWord_X12_isWord rfl rfl rfl ⟨rfl, nd_isWord⟩ ⟨Nat.le_of_ble_eq_true rfl, Nat.le_of_ble_eq_true rfl⟩) hI hA rfl hl.1 (Nat.le_of_ble_eq_true rfl) dX12_isRiverWord_34 ⟨Nat.zero_le _, Nat.zero_le _⟩ (fun H locs hI => ?_)
        refine lv_if_ne (tgt := 60) hx hb dX12_isRiverWord_37 (by decide) (fun c12 => ?_) (fun c12 => ?_)
        · replace hf := ifn c12 hf
          refine lv_iconst (v := 1) hx hb dX12_isRiverWord_60 (by decide) ?_
          refine lv_goto (tgt := 65) hx hb dX12_isRiverWord_61 (by decide) ?_
          exact mret_z hx hb hr (by decide) hlocks hI (ret_e hK0 hf) dX12_isRiverWord_65
        · replace hf := ifp c12 hf
          refine lv_aload_n hx hb dX12_isRiverWord_40 rfl (lv_at hl 0 rfl) ?_
          refine lv_ldc2 (v := 115922835105139) hx hb hown (hts (.constantLong RX12 257 (115922835105139)) (by decide +kernel)) dX12_isRiverWord_41 ?_
          obtain ⟨x13, hc14, hf⟩ := bnd_b hf
          refine mcall_i (As := [.long (115922835105139 : Int64)]) (rest := []) (n := 1) ⟨hx, hb, hml, hown, hts⟩ (cm_isWord l D h ad cy (115922835105139 : Int64) x10.1 x13 hc14 _) (cwV 1 hts gX12_isRiverWord_X12_isWord rfl rfl rfl ⟨rfl, nd_isWord⟩ ⟨Nat.le_of_ble_eq_true rfl, Nat.le_of_ble_eq_true rfl⟩) hI hA rfl hl.1 (Nat.le_of_ble_eq_true rfl) dX12_isRiverWord_44 ⟨Nat.zero_le _, Nat.zero_le _⟩ (fun H locs hI => ?_)
          refine lv_if_ne (tgt := 60) hx hb dX12_isRiverWord_47 (by decide) (fun c15 => ?_) (fun c15 => ?_)
          · replace hf := ifn c15 hf
            refine lv_iconst (v := 1) hx hb dX12_isRiverWord_60 (by decide) ?_
            refine lv_goto (tgt := 65) hx hb dX12_isRiverWord_61 (by decide) ?_
            exact mret_z hx hb hr (by decide) hlocks hI (ret_e hK0 hf) dX12_isRiverWord_65
          · replace hf := ifp c15 hf
            refine lv_aload_n hx hb dX12_isRiverWord_50 rfl (lv_at hl 0 rfl) ?_
            refine lv_ldc2 (v := 439905906532) hx hb hown (hts (.constantLong RX12 265 (439905906532)) (by decide +kernel)) dX12_isRiverWord_51 ?_
            obtain ⟨x16, hc17, hf⟩ := bnd_b hf
            refine mcall_i (As := [.long (439905906532 : Int64)]) (rest := []) (n := 1) ⟨hx, hb, hml, hown, hts⟩ (cm_isWord l D h ad cy (439905906532 : Int64) x13.1 x16 hc17 _) (cwV 1 hts gX12_isRiverWord_X12_isWord rfl rfl rfl ⟨rfl, nd_isWord⟩ ⟨Nat.le_of_ble_eq_true rfl, Nat.le_of_ble_eq_true rfl⟩) hI hA rfl hl.1 (Nat.le_of_ble_eq_true rfl) dX12_isRiverWord_54 ⟨Nat.zero_le _, Nat.zero_le _⟩ (fun H locs hI => ?_)
            refine lv_if_eq (tgt := 64) hx hb dX12_isRiverWord_57 (by decide) (fun c18 => ?_) (fun c18 => ?_)
            · replace hf := ifp c18 hf
              refine lv_iconst (v := 0) hx hb dX12_isRiverWord_64 (by decide) ?_
              exact mret_z hx hb hr (by decide) hlocks hI (ret_e hK0 hf) dX12_isRiverWord_65
            · replace hf := ifn c18 hf
              refine lv_iconst (v := 1) hx hb dX12_isRiverWord_60 (by decide) ?_
              refine lv_goto (tgt := 65) hx hb dX12_isRiverWord_61 (by decide) ?_
              exact mret_z hx hb hr (by decide) hlocks hI (ret_e hK0 hf) dX12_isRiverWord_65

noncomputable def fm_doingSort (s0 : MSt) : Option (MSt × Int32) :=
  (fm_isWord (1953854062 : Int64) s0).bind fun x1 => (if x1.2 = 0 then (fm_isWord (1919513445 : Int64) x1.1).bind fun x4 => (if x4.2 = 0 then (fm_isWord (2002872692 : Int64) x4.1).bind fun x7 => (if x7.2 = 0 then (fm_isWord (1886743660 : Int64) x7.1).bind fun x10 => (if x10.2 = 0 then some (x10.1, (-1 : Int32)) else some (x10.1, (3 : Int32))) else some (x7.1, (2 : Int32))) else some (x4.1, (1 : Int32))) else some (x1.1, (0 : Int32)))
theorem nd_doingSort : yX12_doingSort.cls ≠ "java/lang/invoke/MethodHandle" ∧ yX12_doingSort.cls ≠ "java/lang/invoke/VarHandle" ∧ (parseMethodDescriptor yX12_doingSort.desc).map (fun d => d.parameters.length) = some 0 := by decide +kernel
set_option maxHeartbeats 4000000 in
set_option maxRecDepth 100000 in
theorem cm_doingSort (l : Launch) (D : va_G) (h : Nat) (ad : Nat → Nat) (cy : Nat → ClassId)  (s0 : MSt) (out : MSt × Int32) (hf : fm_doingSort s0 = some out) (sz : Nat) : CMi l D h ad cy yX12_doingSort wsX12_doingSort { frames := 2, cells := 0, slots := 0, locals := 46 } [] s0 out sz := by
  refine Met.ofW (cc := cX12_doingSort) (maxL := 1) (ret := (some .int)) (by decide) rfl ?_
  intro p e s m args below meth c s₁ B hml hv
  obtain ⟨rfl, hsz, hP, hK, hD0⟩ := hv
  have hx := B.exec
  have hb := B.bytes
  have hr := B.returns
  have hts := atoms_spec (ws := wsX12_doingSort) B.pre
  have hown : s.vm.findClass RX12 = some m.cls := findClass_of_methodNamed B.named
  have hlocks := B.notSynchronized
  subst hsz
  have hI : MI D (MA h ad cy s0 s.heap.size) h ad cy s s.heap s0 s.heap [] := ⟨hK, hP, hD0.self, va_S.rf⟩
  have hA : ∀ q : Nat, s.heap.size ≤ q → MA h ad cy s0 s.heap.size q := fun q hq => Or.inr hq
  have hl := lv_entry ([.ref h]) (n := 1) (Nat.le_of_ble_eq_true rfl)
  rw [lg_entry_eq]
  generalize (lg_sl ([.ref h]) ++ List.replicate (1 - (lg_sl ([.ref h])).length) Slot.unset).toArray = ls at hl ⊢
  have hl : lv_has ls 1 [(0, .ref h)] := hl
  obtain ⟨K0, hK0, hf⟩ := top_e hf
  unfold fm_doingSort at hf
  refine lv_aload_n hx hb dX12_doingSort_0 rfl (lv_at hl 0 rfl) ?_
  refine lv_ldc2 (v := 1953854062) hx hb hown (hts (.constantLong RX12 267 (1953854062)) (by decide +kernel)) dX12_doingSort_1 ?_
  obtain ⟨x1, hc2, hf⟩ := bnd_b hf
  refine mcall_i (As := [.long (1953854062 : Int64)]) (rest := []) (n := 1) ⟨hx, hb, hml, hown, hts⟩ (cm_isWord l D h ad cy (1953854062 : Int64) s0 x1 hc2 _) (cwV 1 hts gX12_doingSort_X12_isWord rfl rfl rfl ⟨rfl, nd_isWord⟩ ⟨Nat.le_of_ble_eq_true rfl, Nat.le_of_ble_eq_true rfl⟩) hI hA rfl hl.1 (Nat.le_of_ble_eq_true rfl) dX12_doingSort_4 ⟨Nat.zero_le _, Nat.zero_le _⟩ (fun H locs hI => ?_)
  refine lv_if_eq (tgt := 14) hx hb dX12_doingSort_7 (by decide) (fun c3 => ?_) (fun c3 => ?_)
  · replace hf := ifp c3 hf
    refine lv_aload_n hx hb dX12_doingSort_14 rfl (lv_at hl 0 rfl) ?_
    refine lv_ldc2 (v := 1919513445) hx hb hown (hts (.constantLong RX12 269 (1919513445)) (by decide +kernel)) dX12_doingSort_15 ?_
    obtain ⟨x4, hc5, hf⟩ := bnd_b hf
    refine mcall_i (As := [.long (1919513445 : Int64)]) (rest := []) (n := 1) ⟨hx, hb, hml, hown, hts⟩ (cm_isWord l D h ad cy (1919513445 : Int64) x1.1 x4 hc5 _) (cwV 1 hts gX12_doingSort_X12_isWord rfl rfl rfl ⟨rfl, nd_isWord⟩ ⟨Nat.le_of_ble_eq_true rfl, Nat.le_of_ble_eq_true rfl⟩) hI hA rfl hl.1 (Nat.le_of_ble_eq_true rfl) dX12_doingSort_18 ⟨Nat.zero_le _, Nat.zero_le _⟩ (fun H locs hI => ?_)
    refine lv_if_eq (tgt := 28) hx hb dX12_doingSort_21 (by decide) (fun c6 => ?_) (fun c6 => ?_)
    · replace hf := ifp c6 hf
      refine lv_aload_n hx hb dX12_doingSort_28 rfl (lv_at hl 0 rfl) ?_
      refine lv_ldc2 (v := 2002872692) hx hb hown (hts (.constantLong RX12 271 (2002872692)) (by decide +kernel)) dX12_doingSort_29 ?_
      obtain ⟨x7, hc8, hf⟩ := bnd_b hf
      refine mcall_i (As := [.long (2002872692 : Int64)]) (rest := []) (n := 1) ⟨hx, hb, hml, hown, hts⟩ (cm_isWord l D h ad cy (2002872692 : Int64) x4.1 x7 hc8 _) (cwV 1 hts gX12_doingSort_X12_isWord rfl rfl rfl ⟨rfl, nd_isWord⟩ ⟨Nat.le_of_ble_eq_true rfl, Nat.le_of_ble_eq_true rfl⟩) hI hA rfl hl.1 (Nat.le_of_ble_eq_true rfl) dX12_doingSort_32 ⟨Nat.zero_le _, Nat.zero_le _⟩ (fun H locs hI => ?_)
      refine lv_if_eq (tgt := 42) hx hb dX12_doingSort_35 (by decide) (fun c9 => ?_) (fun c9 => ?_)
      · replace hf := ifp c9 hf
        refine lv_aload_n hx hb dX12_doingSort_42 rfl (lv_at hl 0 rfl) ?_
        refine lv_ldc2 (v := 1886743660) hx hb hown (hts (.constantLong RX12 273 (1886743660)) (by decide +kernel)) dX12_doingSort_43 ?_
        obtain ⟨x10, hc11, hf⟩ := bnd_b hf
        refine mcall_i (As := [.long (1886743660 : Int64)]) (rest := []) (n := 1) ⟨hx, hb, hml, hown, hts⟩ (cm_isWord l D h ad cy (1886743660 : Int64) x7.1 x10 hc11 _) (cwV 1 hts gX12_doingSort_X12_isWord rfl rfl rfl ⟨rfl, nd_isWord⟩ ⟨Nat.le_of_ble_eq_true rfl, Nat.le_of_ble_eq_true rfl⟩) hI hA rfl hl.1 (Nat.le_of_ble_eq_true rfl) dX12_doingSort_46 ⟨Nat.zero_le _, Nat.zero_le _⟩ (fun H locs hI => ?_)
        refine lv_if_eq (tgt := 56) hx hb dX12_doingSort_49 (by decide) (fun c12 => ?_) (fun c12 => ?_)
        · replace hf := ifp c12 hf
          refine lv_iconst (v := -1) hx hb dX12_doingSort_56 (by decide) ?_
          exact mret_i hx hb hr hlocks hI (ret_e hK0 hf) dX12_doingSort_57
        · replace hf := ifn c12 hf
          refine lv_iconst (v := 3) hx hb dX12_doingSort_52 (by decide) ?_
          refine lv_goto (tgt := 57) hx hb dX12_doingSort_53 (by decide) ?_
          exact mret_i hx hb hr hlocks hI (ret_e hK0 hf) dX12_doingSort_57
      · replace hf := ifn c9 hf
        refine lv_iconst (v := 2) hx hb dX12_doingSort_38 (by decide) ?_
        refine lv_goto (tgt := 57) hx hb dX12_doingSort_39 (by decide) ?_
        exact mret_i hx hb hr hlocks hI (ret_e hK0 hf) dX12_doingSort_57
    · replace hf := ifn c6 hf
      refine lv_iconst (v := 1) hx hb dX12_doingSort_24 (by decide) ?_
      refine lv_goto (tgt := 57) hx hb dX12_doingSort_25 (by decide) ?_
      exact mret_i hx hb hr hlocks hI (ret_e hK0 hf) dX12_doingSort_57
  · replace hf := ifn c3 hf
    refine lv_iconst (v := 0) hx hb dX12_doingSort_10 (by decide) ?_
    refine lv_goto (tgt := 57) hx hb dX12_doingSort_11 (by decide) ?_
    exact mret_i hx hb hr hlocks hI (ret_e hK0 hf) dX12_doingSort_57

noncomputable def fm_clauseHere_j68 (v1 : Int32) (v2 : Int32) (t0 : Int32) (t1 : Int32) (st : MSt) : Option (MSt × Int32) :=
  (if t1 = t0 then (fm_fails (4 : Int32) v1 st).bind fun x19 => chk (isb x19.2) (some (x19.1, x19.2)) else (if v2 = 0 then (fm_doingSort (msi st 20 ((st.1 20) + (1 : Int32)))).bind fun x11 => (fm_isDoingHere x11.2 x11.1).bind fun x13 => chk (isb x13.2) (some (x13.1, x13.2)) else (fm_riverLineHere v1 (msi st 20 ((st.1 20) + (1 : Int32)))).bind fun x16 => chk (isb x16.2) (some (x16.1, x16.2))))
noncomputable def fm_clauseHere_j53 (v1 : Int32) (v2 : Int32) (st : MSt) : Option (MSt × Int32) :=
  (if v2 = 0 then fm_clauseHere_j68 v1 v2 (12 : Int32) (st.1 20) st else fm_clauseHere_j68 v1 v2 (24 : Int32) (st.1 20) st)
noncomputable def fm_clauseHere_j24 (v1 : Int32) (t0 : Int32) (st : MSt) : Option (MSt × Int32) :=
  (if t0 = 0 then (fm_doingSort st).bind fun x5 => (if 0 ≤ x5.2 then fm_clauseHere_j53 v1 t0 x5.1 else (fm_fails (0 : Int32) v1 x5.1).bind fun x22 => chk (isb x22.2) (some (x22.1, x22.2))) else (fm_isRiverWord st).bind fun x25 => (if x25.2 = 0 then (fm_fails (0 : Int32) v1 x25.1).bind fun x28 => chk (isb x28.2) (some (x28.1, x28.2)) else fm_clauseHere_j53 v1 t0 x25.1))
noncomputable def fm_clauseHere (s0 : MSt) : Option (MSt × Int32) :=
  (fm_see s0).bind fun x1 => (if (x1.1.1 17) = (6 : Int32) then fm_clauseHere_j24 (x1.1.1 14) (1 : Int32) x1.1 else fm_clauseHere_j24 (x1.1.1 14) (0 : Int32) x1.1)
theorem nd_clauseHere : yX12_clauseHere.cls ≠ "java/lang/invoke/MethodHandle" ∧ yX12_clauseHere.cls ≠ "java/lang/invoke/VarHandle" ∧ (parseMethodDescriptor yX12_clauseHere.desc).map (fun d => d.parameters.length) = some 0 := by decide +kernel
set_option maxHeartbeats 4000000 in
set_option maxRecDepth 100000 in
theorem cm_clauseHere (l : Launch) (D : va_G) (h : Nat) (ad : Nat → Nat) (cy : Nat → ClassId)  (s0 : MSt) (out : MSt × Int32) (hf : fm_clauseHere s0 = some out) (sz : Nat) : CMi l D h ad cy yX12_clauseHere wsX12_clauseHere { frames := 10, cells := 0, slots := 0, locals := 220 } [] s0 out sz := by
  refine Met.ofW (cc := cX12_clauseHere) (maxL := 3) (ret := (some .boolean)) (by decide) rfl ?_
  intro p e s m args below meth c s₁ B hml hv
  obtain ⟨rfl, hsz, hP, hK, hD0⟩ := hv
  have hx := B.exec
  have hb := B.bytes
  have hr := B.returns
  have hts := atoms_spec (ws := wsX12_clauseHere) B.pre
  have hown : s.vm.findClass RX12 = some m.cls := findClass_of_methodNamed B.named
  have hlocks := B.notSynchronized
  subst hsz
  have hI : MI D (MA h ad cy s0 s.heap.size) h ad cy s s.heap s0 s.heap [] := ⟨hK, hP, hD0.self, va_S.rf⟩
  have hA : ∀ q : Nat, s.heap.size ≤ q → MA h ad cy s0 s.heap.size q := fun q hq => Or.inr hq
  have hin : ∀ w ∈ u_ws RX12 TX12 42, w ∈ wsX12_clauseHere := fun w hw => List.mem_cons_of_mem _ (List.mem_append_right _ hw)
  have k_lines : Cond.fieldLink RX12 281 "HalfBridgeModel" "lines" "I" ∈ wsX12_clauseHere := by decide +kernel
  have k_next : Cond.fieldLink RX12 103 "HalfBridgeModel" "next" "I" ∈ wsX12_clauseHere := by decide +kernel
  have k_text : Cond.fieldLink RX12 153 "HalfBridgeModel" "text" "I" ∈ wsX12_clauseHere := by decide +kernel
  have hl := lv_entry ([.ref h]) (n := 3) (Nat.le_of_ble_eq_true rfl)
  rw [lg_entry_eq]
  generalize (lg_sl ([.ref h]) ++ List.replicate (3 - (lg_sl ([.ref h])).length) Slot.unset).toArray = ls at hl ⊢
  have hl : lv_has ls 3 [(0, .ref h)] := hl
  obtain ⟨K0, hK0, hf⟩ := top_e hf
  have B_68_2 : ∀ (v1 : Int32) (v2 : Int32) (t0 : Int32) (t1 : Int32) (st : MSt) (H : Heap) (locs : List Loc) (ls : Array Slot), MI D (MA h ad cy s0 s.heap.size) h ad cy s s.heap st H locs → lv_has ls 3 [(0, .ref h), (1, .int v1), (2, .int v2)] → (fm_clauseHere_j68 v1 v2 t0 t1 st).bind K0 = some out → W p l e (headSpec wsX12_clauseHere { frames := 10, cells := 0, slots := 0, locals := 220 }).room s m (([.ref h] : List Value).toArray) below meth c H locs 0 0 (MQ below (MQi D h ad cy s0 out s.heap.size) ([.ref h] : List Value).toArray s 0 0 (MA h ad cy s0 s.heap.size)) (F0 m 68 ls [.int t0, .int t1]) := by
    intro v1 v2 t0 t1 st H locs ls hI hl hf
    unfold fm_clauseHere_j68 at hf
    refine lv_icmp_ne (tgt := 78) hx hb dX12_clauseHere_68 (by decide) (fun c9 => ?_) (fun c9 => ?_)
    · replace hf := ifn c9 hf
      refine lv_aload_n hx hb dX12_clauseHere_78 rfl (lv_at hl 0 rfl) ?_
      refine lv_dup hx hb dX12_clauseHere_79 rfl ?_
      refine mg_lines hx hb hts hin hown k_lines hI dX12_clauseHere_80 ?_
      refine lv_iconst (v := 1) hx hb dX12_clauseHere_83 (by decide) ?_
      refine lv_iadd hx hb dX12_clauseHere_84 ?_
      refine mp_lines hx hb hts hin hown k_lines hI dX12_clauseHere_85 (fun H locs hI => ?_)
      refine lv_iload_n hx hb dX12_clauseHere_88 rfl (lv_at hl 2 rfl) ?_
      refine lv_if_eq (tgt := 100) hx hb dX12_clauseHere_89 (by decide) (fun c10 => ?_) (fun c10 => ?_)
      · replace hf := ifp c10 hf
        refine lv_aload_n hx hb dX12_clauseHere_100 rfl (lv_at hl 0 rfl) ?_
        refine lv_aload_n hx hb dX12_clauseHere_101 rfl (lv_at hl 0 rfl) ?_
        obtain ⟨x11, hc12, hf⟩ := bnd_b hf
        refine mcall_i (As := []) (rest := [.ref h]) (n := 0) ⟨hx, hb, hml, hown, hts⟩ (cm_doingSort l D h ad cy  (msi st 20 ((st.1 20) + (1 : Int32))) x11 hc12 _) (cwV 0 hts gX12_clauseHere_X12_doingSort rfl rfl rfl ⟨rfl, nd_doingSort⟩ ⟨Nat.le_of_ble_eq_true rfl, Nat.le_of_ble_eq_true rfl⟩) hI hA rfl hl.1 (Nat.le_of_ble_eq_true rfl) dX12_clauseHere_102 ⟨Nat.zero_le _, Nat.zero_le _⟩ (fun H locs hI => ?_)
        obtain ⟨x13, hc14, hf⟩ := bnd_b hf
        refine mcall_i (As := [.int x11.2]) (rest := []) (n := 1) ⟨hx, hb, hml, hown, hts⟩ (cm_isDoingHere l D h ad cy x11.2 x11.1 x13 hc14 _) (cwV 1 hts gX12_clauseHere_X12_isDoingHere rfl rfl rfl ⟨rfl, nd_isDoingHere⟩ ⟨Nat.le_of_ble_eq_true rfl, Nat.le_of_ble_eq_true rfl⟩) hI hA rfl hl.1 (Nat.le_of_ble_eq_true rfl) dX12_clauseHere_105 ⟨Nat.zero_le _, Nat.zero_le _⟩ (fun H locs hI => ?_)
        obtain ⟨k15, hf⟩ := chk_b hf
        exact mret_z hx hb hr (isb_nar k15) hlocks hI (ret_e hK0 hf) dX12_clauseHere_108
      · replace hf := ifn c10 hf
        refine lv_aload_n hx hb dX12_clauseHere_92 rfl (lv_at hl 0 rfl) ?_
        refine lv_iload_n hx hb dX12_clauseHere_93 rfl (lv_at hl 1 rfl) ?_
        obtain ⟨x16, hc17, hf⟩ := bnd_b hf
        refine mcall_i (As := [.int v1]) (rest := []) (n := 1) ⟨hx, hb, hml, hown, hts⟩ (cm_riverLineHere l D h ad cy v1 (msi st 20 ((st.1 20) + (1 : Int32))) x16 hc17 _) (cwV 1 hts gX12_clauseHere_X12_riverLineHere rfl rfl rfl ⟨rfl, nd_riverLineHere⟩ ⟨Nat.le_of_ble_eq_true rfl, Nat.le_of_ble_eq_true rfl⟩) hI hA rfl hl.1 (Nat.le_of_ble_eq_true rfl) dX12_clauseHere_94 ⟨Nat.zero_le _, Nat.zero_le _⟩ (fun H locs hI => ?_)
        refine lv_goto (tgt := 108) hx hb dX12_clauseHere_97 (by decide) ?_
        obtain ⟨k18, hf⟩ := chk_b hf
        exact mret_z hx hb hr (isb_nar k18) hlocks hI (ret_e hK0 hf) dX12_clauseHere_108
    · replace hf := ifp c9 hf
      refine lv_aload_n hx hb dX12_clauseHere_71 rfl (lv_at hl 0 rfl) ?_
      refine lv_iconst (v := 4) hx hb dX12_clauseHere_72 (by decide) ?_
      refine lv_iload_n hx hb dX12_clauseHere_73 rfl (lv_at hl 1 rfl) ?_
      obtain ⟨x19, hc20, hf⟩ := bnd_b hf
      refine mcall_i (As := [.int (4 : Int32), .int v1]) (rest := []) (n := 2) ⟨hx, hb, hml, hown, hts⟩ (cm_fails l D h ad cy (4 : Int32) v1 st x19 hc20 _) (cwV 2 hts gX12_clauseHere_X12_fails rfl rfl rfl ⟨rfl, nd_fails⟩ ⟨Nat.le_of_ble_eq_true rfl, Nat.le_of_ble_eq_true rfl⟩) hI hA rfl hl.1 (Nat.le_of_ble_eq_true rfl) dX12_clauseHere_74 ⟨Nat.zero_le _, Nat.zero_le _⟩ (fun H locs hI => ?_)
      obtain ⟨k21, hf⟩ := chk_b hf
      exact mret_z hx hb hr (isb_nar k21) hlocks hI (ret_e hK0 hf) dX12_clauseHere_77
  have B_53 : ∀ (v1 : Int32) (v2 : Int32)  (st : MSt) (H : Heap) (locs : List Loc) (ls : Array Slot), MI D (MA h ad cy s0 s.heap.size) h ad cy s s.heap st H locs → lv_has ls 3 [(0, .ref h), (1, .int v1), (2, .int v2)] → (fm_clauseHere_j53 v1 v2 st).bind K0 = some out → W p l e (headSpec wsX12_clauseHere { frames := 10, cells := 0, slots := 0, locals := 220 }).room s m (([.ref h] : List Value).toArray) below meth c H locs 0 0 (MQ below (MQi D h ad cy s0 out s.heap.size) ([.ref h] : List Value).toArray s 0 0 (MA h ad cy s0 s.heap.size)) (F0 m 53 ls []) := by
    intro v1 v2 st H locs ls hI hl hf
    unfold fm_clauseHere_j53 at hf
    refine lv_aload_n hx hb dX12_clauseHere_53 rfl (lv_at hl 0 rfl) ?_
    refine mg_lines hx hb hts hin hown k_lines hI dX12_clauseHere_54 ?_
    refine lv_iload_n hx hb dX12_clauseHere_57 rfl (lv_at hl 2 rfl) ?_
    refine lv_if_eq (tgt := 66) hx hb dX12_clauseHere_58 (by decide) (fun c8 => ?_) (fun c8 => ?_)
    · replace hf := ifp c8 hf
      refine lv_bipush (v := 12) hx hb dX12_clauseHere_66 (by decide) ?_
      exact B_68_2 v1 v2 (12 : Int32) (st.1 20) st H locs ls hI (lv_sub hl [0, 1, 2] rfl) hf
    · replace hf := ifn c8 hf
      refine lv_bipush (v := 24) hx hb dX12_clauseHere_61 (by decide) ?_
      refine lv_goto (tgt := 68) hx hb dX12_clauseHere_63 (by decide) ?_
      exact B_68_2 v1 v2 (24 : Int32) (st.1 20) st H locs ls hI (lv_sub hl [0, 1, 2] rfl) hf
  have B_24_0 : ∀ (v1 : Int32) (t0 : Int32) (st : MSt) (H : Heap) (locs : List Loc) (ls : Array Slot), MI D (MA h ad cy s0 s.heap.size) h ad cy s s.heap st H locs → lv_has ls 3 [(0, .ref h), (1, .int v1)] → (fm_clauseHere_j24 v1 t0 st).bind K0 = some out → W p l e (headSpec wsX12_clauseHere { frames := 10, cells := 0, slots := 0, locals := 220 }).room s m (([.ref h] : List Value).toArray) below meth c H locs 0 0 (MQ below (MQi D h ad cy s0 out s.heap.size) ([.ref h] : List Value).toArray s 0 0 (MA h ad cy s0 s.heap.size)) (F0 m 24 ls [.int t0]) := by
    intro v1 t0 st H locs ls hI hl hf
    unfold fm_clauseHere_j24 at hf
    refine lv_istore_n (lv' := [(2, .int t0), (0, .ref h), (1, .int v1)]) hx hb dX12_clauseHere_24 rfl hl (by decide) rfl (fun ls hl => ?_)
    refine lv_iload_n hx hb dX12_clauseHere_25 rfl (lv_at hl 0 rfl) ?_
    refine lv_if_eq (tgt := 39) hx hb dX12_clauseHere_26 (by decide) (fun c4 => ?_) (fun c4 => ?_)
    · replace hf := ifp c4 hf
      refine lv_aload_n hx hb dX12_clauseHere_39 rfl (lv_at hl 1 rfl) ?_
      obtain ⟨x5, hc6, hf⟩ := bnd_b hf
      refine mcall_i (As := []) (rest := []) (n := 0) ⟨hx, hb, hml, hown, hts⟩ (cm_doingSort l D h ad cy  st x5 hc6 _) (cwV 0 hts gX12_clauseHere_X12_doingSort rfl rfl rfl ⟨rfl, nd_doingSort⟩ ⟨Nat.le_of_ble_eq_true rfl, Nat.le_of_ble_eq_true rfl⟩) hI hA rfl hl.1 (Nat.le_of_ble_eq_true rfl) dX12_clauseHere_40 ⟨Nat.zero_le _, Nat.zero_le _⟩ (fun H locs hI => ?_)
      refine lv_if_ge (tgt := 53) hx hb dX12_clauseHere_43 (by decide) (fun c7 => ?_) (fun c7 => ?_)
      · replace hf := ifp c7 hf
        exact B_53 v1 t0 x5.1 H locs ls hI (lv_sub hl [1, 2, 0] rfl) hf
      · replace hf := ifn c7 hf
        refine lv_aload_n hx hb dX12_clauseHere_46 rfl (lv_at hl 1 rfl) ?_
        refine lv_iconst (v := 0) hx hb dX12_clauseHere_47 (by decide) ?_
        refine lv_iload_n hx hb dX12_clauseHere_48 rfl (lv_at hl 2 rfl) ?_
        obtain ⟨x22, hc23, hf⟩ := bnd_b hf
        refine mcall_i (As := [.int (0 : Int32), .int v1]) (rest := []) (n := 2) ⟨hx, hb, hml, hown, hts⟩ (cm_fails l D h ad cy (0 : Int32) v1 x5.1 x22 hc23 _) (cwV 2 hts gX12_clauseHere_X12_fails rfl rfl rfl ⟨rfl, nd_fails⟩ ⟨Nat.le_of_ble_eq_true rfl, Nat.le_of_ble_eq_true rfl⟩) hI hA rfl hl.1 (Nat.le_of_ble_eq_true rfl) dX12_clauseHere_49 ⟨Nat.zero_le _, Nat.zero_le _⟩ (fun H locs hI => ?_)
        obtain ⟨k24, hf⟩ := chk_b hf
        exact mret_z hx hb hr (isb_nar k24) hlocks hI (ret_e hK0 hf) dX12_clauseHere_52
    · replace hf := ifn c4 hf
      refine lv_aload_n hx hb dX12_clauseHere_29 rfl (lv_at hl 1 rfl) ?_
      obtain ⟨x25, hc26, hf⟩ := bnd_b hf
      refine mcall_i (As := []) (rest := []) (n := 0) ⟨hx, hb, hml, hown, hts⟩ (cm_isRiverWord l D h ad cy  st x25 hc26 _) (cwV 0 hts gX12_clauseHere_X12_isRiverWord rfl rfl rfl ⟨rfl, nd_isRiverWord⟩ ⟨Nat.le_of_ble_eq_true rfl, Nat.le_of_ble_eq_true rfl⟩) hI hA rfl hl.1 (Nat.le_of_ble_eq_true rfl) dX12_clauseHere_30 ⟨Nat.zero_le _, Nat.zero_le _⟩ (fun H locs hI => ?_)
      refine lv_if_eq (tgt := 46) hx hb dX12_clauseHere_33 (by decide) (fun c27 => ?_) (fun c27 => ?_)
      · replace hf := ifp c27 hf
        refine lv_aload_n hx hb dX12_clauseHere_46 rfl (lv_at hl 1 rfl) ?_
        refine lv_iconst (v := 0) hx hb dX12_clauseHere_47 (by decide) ?_
        refine lv_iload_n hx hb dX12_clauseHere_48 rfl (lv_at hl 2 rfl) ?_
        obtain ⟨x28, hc29, hf⟩ := bnd_b hf
        refine mcall_i (As := [.int (0 : Int32), .int v1]) (rest := []) (n := 2) ⟨hx, hb, hml, hown, hts⟩ (cm_fails l D h ad cy (0 : Int32) v1 x25.1 x28 hc29 _) (cwV 2 hts gX12_clauseHere_X12_fails rfl rfl rfl ⟨rfl, nd_fails⟩ ⟨Nat.le_of_ble_eq_true rfl, Nat.le_of_ble_eq_true rfl⟩) hI hA rfl hl.1 (Nat.le_of_ble_eq_true rfl) dX12_clauseHere_49 ⟨Nat.zero_le _, Nat.zero_le _⟩ (fun H locs hI => ?_)
        obtain ⟨k30, hf⟩ := chk_b hf
        exact mret_z hx hb hr (isb_nar k30) hlocks hI (ret_e hK0 hf) dX12_clauseHere_52
      · replace hf := ifn c27 hf
        refine lv_goto (tgt := 53) hx hb dX12_clauseHere_36 (by decide) ?_
        exact B_53 v1 t0 x25.1 H locs ls hI (lv_sub hl [1, 2, 0] rfl) hf
  unfold fm_clauseHere at hf
  refine lv_aload_n hx hb dX12_clauseHere_0 rfl (lv_at hl 0 rfl) ?_
  obtain ⟨x1, hc2, hf⟩ := bnd_b hf
  refine mcall_i (As := []) (rest := []) (n := 0) ⟨hx, hb, hml, hown, hts⟩ (cm_see l D h ad cy  s0 x1 hc2 _) (cwV 0 hts gX12_clauseHere_X12_see rfl rfl rfl ⟨rfl, nd_see⟩ ⟨Nat.le_of_ble_eq_true rfl, Nat.le_of_ble_eq_true rfl⟩) hI hA rfl hl.1 (Nat.le_of_ble_eq_true rfl) dX12_clauseHere_1 ⟨Nat.zero_le _, Nat.zero_le _⟩ (fun H locs hI => ?_)
  refine lv_pop hx hb dX12_clauseHere_4 rfl ?_
  refine lv_aload_n hx hb dX12_clauseHere_5 rfl (lv_at hl 0 rfl) ?_
  refine mg_next hx hb hts hin hown k_next hI dX12_clauseHere_6 ?_
  refine lv_istore_n (lv' := [(1, .int (x1.1.1 14)), (0, .ref h)]) hx hb dX12_clauseHere_9 rfl hl (by decide) rfl (fun ls hl => ?_)
  refine lv_aload_n hx hb dX12_clauseHere_10 rfl (lv_at hl 1 rfl) ?_
  refine mg_text hx hb hts hin hown k_text hI dX12_clauseHere_11 ?_
  refine lv_bipush (v := 6) hx hb dX12_clauseHere_14 (by decide) ?_
  refine lv_icmp_ne (tgt := 23) hx hb dX12_clauseHere_16 (by decide) (fun c3 => ?_) (fun c3 => ?_)
  · replace hf := ifn c3 hf
    refine lv_iconst (v := 0) hx hb dX12_clauseHere_23 (by decide) ?_
    exact B_24_0 (x1.1.1 14) (0 : Int32) x1.1 H locs ls hI (lv_sub hl [1, 0] rfl) hf
  · replace hf := ifp c3 hf
    refine lv_iconst (v := 1) hx hb dX12_clauseHere_19 (by decide) ?_
    refine lv_goto (tgt := 24) hx hb dX12_clauseHere_20 (by decide) ?_
    exact B_24_0 (x1.1.1 14) (1 : Int32) x1.1 H locs ls hI (lv_sub hl [1, 0] rfl) hf
