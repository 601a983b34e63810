theorem nd_zigzag : yX12_zigzag.cls ≠ "java/lang/invoke/MethodHandle" ∧ yX12_zigzag.cls ≠ "java/lang/invoke/VarHandle" ∧ (parseMethodDescriptor yX12_zigzag.desc).map (fun d => d.parameters.length) = some 3 := by decide +kernel
set_option maxHeartbeats 4000000 in
set_option maxRecDepth 100000 in
theorem cm_zigzag (l : Launch) (D : va_G) (h : Nat) (ad : Nat → Nat) (cy : Nat → ClassId) (a1 : Int32) (a2 : Int32) (a3 : Int32) (s0 : MSt) (out : MSt × Int32) (hf : fm_zigzag a1 a2 a3 s0 = some out) (sz : Nat) : CMi l D h ad cy yX12_zigzag wsX12_zigzag { frames := 6, cells := 0, slots := 0, locals := 145 } [.int a1, .int a2, .int a3] s0 out sz := by
  refine Met.ofW (cc := cX12_zigzag) (maxL := 7) (ret := (some .int)) (by decide) rfl ?_
  intro p e s m args below meth c s₁ B hml hv
  obtain ⟨rfl, hsz, hP, hK, hD0⟩ := hv
  have hx := B.exec
  have hb := B.bytes
  have hr := B.returns
  have hts := atoms_spec (ws := wsX12_zigzag) B.pre
  have hown : s.vm.findClass RX12 = some m.cls := findClass_of_methodNamed B.named
  have hlocks := B.notSynchronized
  subst hsz
  have hI : MI D (MA h ad cy s0 s.heap.size) h ad cy s s.heap s0 s.heap [] := ⟨hK, hP, hD0.self, va_S.rf⟩
  have hA : ∀ q : Nat, s.heap.size ≤ q → MA h ad cy s0 s.heap.size q := fun q hq => Or.inr hq
  have hl := lv_entry ([.ref h, .int a1, .int a2, .int a3]) (n := 7) (Nat.le_of_ble_eq_true rfl)
  rw [lg_entry_eq]
  generalize (lg_sl ([.ref h, .int a1, .int a2, .int a3]) ++ List.replicate (7 - (lg_sl ([.ref h, .int a1, .int a2, .int a3])).length) Slot.unset).toArray = ls at hl ⊢
  have hl : lv_has ls 7 [(0, .ref h), (1, .int a1), (2, .int a2), (3, .int a3)] := hl
  obtain ⟨K0, hK0, hf⟩ := top_e hf
  have B_120 : ∀ (v4 : Int32)  (st : MSt) (H : Heap) (locs : List Loc) (ls : Array Slot), MI D (MA h ad cy s0 s.heap.size) h ad cy s s.heap st H locs → lv_has ls 7 [(0, .ref h), (4, .int v4)] → (fm_zigzag_j120 v4 st).bind K0 = some out → W p l e (headSpec wsX12_zigzag { frames := 6, cells := 0, slots := 0, locals := 145 }).room s m (([.ref h, .int a1, .int a2, .int a3] : List Value).toArray) below meth c H locs 0 0 (MQ below (MQi D h ad cy s0 out s.heap.size) ([.ref h, .int a1, .int a2, .int a3] : List Value).toArray s 0 0 (MA h ad cy s0 s.heap.size)) (F0 m 120 ls []) := by
    intro v4 st H locs ls hI hl hf
    unfold fm_zigzag_j120 at hf
    refine lv_aload_n hx hb dX12_zigzag_120 rfl (lv_at hl 0 rfl) ?_
    obtain ⟨x13, hc14, hf⟩ := bnd_b hf
    refine mcall_v (As := []) (rest := []) (n := 0) ⟨hx, hb, hml, hown, hts⟩ (cm_putsBack l D h ad cy  st x13 hc14 _) (cwV 0 hts gX12_zigzag_X12_putsBack rfl rfl rfl ⟨rfl, nd_putsBack⟩ ⟨Nat.le_of_ble_eq_true rfl, Nat.le_of_ble_eq_true rfl⟩) hI hA rfl hl.1 (Nat.le_of_ble_eq_true rfl) dX12_zigzag_121 ⟨Nat.zero_le _, Nat.zero_le _⟩ (fun H locs hI => ?_)
    refine lv_iload hx hb dX12_zigzag_124 (lv_at hl 1 rfl) ?_
    exact mret_i hx hb hr hlocks hI (ret_e hK0 hf) dX12_zigzag_126
  have L_41 : ∀ (v1 : Int32) (v2 : Int32) (v3 : Int32) (n : Nat) (v4 : Int32) (v5 : Int32) (st : MSt) (H : Heap) (locs : List Loc) (ls : Array Slot), MI D (MA h ad cy s0 s.heap.size) h ad cy s s.heap st H locs → lv_has ls 7 [(0, .ref h), (1, .int v1), (2, .int v2), (3, .int v3), (4, .int v4), (5, .int v5)] → (iter (fun x : (Int32 × Int32 × MSt) => fm_zigzag_s41 v1 v2 v3 x.1 x.2.1 x.2.2) n (v4, v5, st)).bind (fun x => ((Sum.elim (fun o : MSt × Int32 => (some o : Option (MSt × Int32))) (fun x : (Int32 × Int32 × MSt) => fm_zigzag_j120 x.1 x.2.2)) x).bind K0) = some out → W p l e (headSpec wsX12_zigzag { frames := 6, cells := 0, slots := 0, locals := 145 }).room s m (([.ref h, .int a1, .int a2, .int a3] : List Value).toArray) below meth c H locs 0 0 (MQ below (MQi D h ad cy s0 out s.heap.size) ([.ref h, .int a1, .int a2, .int a3] : List Value).toArray s 0 0 (MA h ad cy s0 s.heap.size)) (F0 m 41 ls []) := by
    intro v1 v2 v3 n
    induction n with
    | zero => intro v4 v5 st H locs ls hI hl hf; exact (iter_0 hf).elim
    | succ n ih =>
      intro v4 v5 st H locs ls hI hl hf
      obtain ⟨K1, hK1, hf⟩ := iter_e hf
      replace hf : (fm_zigzag_s41 v1 v2 v3 v4 v5 st).bind K1 = some out := hf
      have B_41_114 : ∀ (v4 : Int32) (v5 : Int32)  (st : MSt) (H : Heap) (locs : List Loc) (ls : Array Slot), MI D (MA h ad cy s0 s.heap.size) h ad cy s s.heap st H locs → lv_has ls 7 [(0, .ref h), (1, .int v1), (2, .int v2), (3, .int v3), (4, .int v4), (5, .int v5)] → (fm_zigzag_j114 v1 v2 v3 v4 v5 st).bind K1 = some out → W p l e (headSpec wsX12_zigzag { frames := 6, cells := 0, slots := 0, locals := 145 }).room s m (([.ref h, .int a1, .int a2, .int a3] : List Value).toArray) below meth c H locs 0 0 (MQ below (MQi D h ad cy s0 out s.heap.size) ([.ref h, .int a1, .int a2, .int a3] : List Value).toArray s 0 0 (MA h ad cy s0 s.heap.size)) (F0 m 114 ls []) := by
        intro v4 v5 st H locs ls hI hl hf
        unfold fm_zigzag_j114 at hf
        refine lv_iinc (v := (v5 + 1)) (lv' := [(5, .int (v5 + 1)), (0, .ref h), (1, .int v1), (2, .int v2), (3, .int v3), (4, .int v4)]) hx hb dX12_zigzag_114 hl (k := 5) rfl (ci_ _ (by decide)) (by decide) rfl (fun ls hl => ?_)
        refine lv_goto (tgt := 41) hx hb dX12_zigzag_117 (by decide) ?_
        replace hf := cont_b hK1 hf
        exact ih v4 (v5 + 1) st H locs ls hI (lv_sub hl [1, 2, 3, 4, 5, 0] rfl) hf
      have L_41_69 : ∀ (v5 : Int32) (n : Nat) (v4 : Int32) (v6 : Int32) (st : MSt) (H : Heap) (locs : List Loc) (ls : Array Slot), MI D (MA h ad cy s0 s.heap.size) h ad cy s s.heap st H locs → lv_has ls 7 [(0, .ref h), (1, .int v1), (2, .int v2), (3, .int v3), (4, .int v4), (5, .int v5), (6, .int v6)] → (iter (fun x : (Int32 × Int32 × MSt) => fm_zigzag_s69 v1 v2 v3 v5 x.1 x.2.1 x.2.2) n (v4, v6, st)).bind (fun x => ((Sum.elim (fun o : MSt × Int32 => (some (.inl o) : Option ((MSt × Int32) ⊕ ((Int32 × Int32 × MSt) ⊕ (Int32 × Int32 × MSt))))) (fun x : (Int32 × Int32 × MSt) => fm_zigzag_j114 v1 v2 v3 x.1 v5 x.2.2)) x).bind K1) = some out → W p l e (headSpec wsX12_zigzag { frames := 6, cells := 0, slots := 0, locals := 145 }).room s m (([.ref h, .int a1, .int a2, .int a3] : List Value).toArray) below meth c H locs 0 0 (MQ below (MQi D h ad cy s0 out s.heap.size) ([.ref h, .int a1, .int a2, .int a3] : List Value).toArray s 0 0 (MA h ad cy s0 s.heap.size)) (F0 m 69 ls []) := by
        intro v5 n
        induction n with
        | zero => intro v4 v6 st H locs ls hI hl hf; exact (iter_0 hf).elim
        | succ n ih =>
          intro v4 v6 st H locs ls hI hl hf
          obtain ⟨K2, hK2, hf⟩ := iter_e hf
          replace hf : (fm_zigzag_s69 v1 v2 v3 v5 v4 v6 st).bind K2 = some out := hf
          unfold fm_zigzag_s69 at hf
          refine lv_iload hx hb dX12_zigzag_69 (lv_at hl 6 rfl) ?_
          refine lv_iload hx hb dX12_zigzag_71 (lv_at hl 5 rfl) ?_
          refine lv_icmp_ge (tgt := 114) hx hb dX12_zigzag_73 (by decide) (fun c21 => ?_) (fun c21 => ?_)
          · replace hf := ifp c21 hf
            replace hf := exit_b hK2 hf
            exact B_41_114 v4 v5 st H locs ls hI (lv_sub hl [0, 1, 2, 3, 4, 5] rfl) hf
          · replace hf := ifn c21 hf
            refine lv_iload hx hb dX12_zigzag_76 (lv_at hl 4 rfl) ?_
            refine lv_if_ge (tgt := 114) hx hb dX12_zigzag_78 (by decide) (fun c22 => ?_) (fun c22 => ?_)
            · replace hf := ifp c22 hf
              replace hf := exit_b hK2 hf
              exact B_41_114 v4 v5 st H locs ls hI (lv_sub hl [0, 1, 2, 3, 4, 5] rfl) hf
            · replace hf := ifn c22 hf
              refine lv_aload_n hx hb dX12_zigzag_81 rfl (lv_at hl 0 rfl) ?_
              refine lv_iload hx hb dX12_zigzag_82 (lv_at hl 5 rfl) ?_
              refine lv_iload hx hb dX12_zigzag_84 (lv_at hl 6 rfl) ?_
              obtain ⟨x23, hc24, hf⟩ := bnd_b hf
              refine mcall_i (As := [.int v5, .int v6]) (rest := []) (n := 2) ⟨hx, hb, hml, hown, hts⟩ (cm_isAgain l D h ad cy v5 v6 st x23 hc24 _) (cwV 2 hts gX12_zigzag_X12_isAgain rfl rfl rfl ⟨rfl, nd_isAgain⟩ ⟨Nat.le_of_ble_eq_true rfl, Nat.le_of_ble_eq_true rfl⟩) hI hA rfl hl.1 (Nat.le_of_ble_eq_true rfl) dX12_zigzag_86 ⟨Nat.zero_le _, Nat.zero_le _⟩ (fun H locs hI => ?_)
              refine lv_if_eq (tgt := 108) hx hb dX12_zigzag_89 (by decide) (fun c25 => ?_) (fun c25 => ?_)
              · replace hf := ifp c25 hf
                refine lv_iinc (v := (v6 + 1)) (lv' := [(6, .int (v6 + 1)), (0, .ref h), (1, .int v1), (2, .int v2), (3, .int v3), (4, .int v4), (5, .int v5)]) hx hb dX12_zigzag_108 hl (k := 6) rfl (ci_ _ (by decide)) (by decide) rfl (fun ls hl => ?_)
                refine lv_goto (tgt := 69) hx hb dX12_zigzag_111 (by decide) ?_
                replace hf := cont_b hK2 hf
                exact ih v4 (v6 + 1) x23.1 H locs ls hI (lv_sub hl [1, 2, 3, 4, 5, 6, 0] rfl) hf
              · replace hf := ifn c25 hf
                refine lv_iload_n hx hb dX12_zigzag_92 rfl (lv_at hl 3 rfl) ?_
                refine lv_if_ne (tgt := 101) hx hb dX12_zigzag_93 (by decide) (fun c26 => ?_) (fun c26 => ?_)
                · replace hf := ifn c26 hf
                  refine lv_iload hx hb dX12_zigzag_101 (lv_at hl 5 rfl) ?_
                  refine lv_iload hx hb dX12_zigzag_103 (lv_at hl 6 rfl) ?_
                  refine lv_isub hx hb dX12_zigzag_105 ?_
                  refine lv_istore (lv' := [(4, .int (v5 - v6)), (0, .ref h), (1, .int v1), (2, .int v2), (3, .int v3), (5, .int v5), (6, .int v6)]) hx hb dX12_zigzag_106 hl (by decide) rfl (fun ls hl => ?_)
                  refine lv_iinc (v := (v6 + 1)) (lv' := [(6, .int (v6 + 1)), (4, .int (v5 - v6)), (0, .ref h), (1, .int v1), (2, .int v2), (3, .int v3), (5, .int v5)]) hx hb dX12_zigzag_108 hl (k := 6) rfl (ci_ _ (by decide)) (by decide) rfl (fun ls hl => ?_)
                  refine lv_goto (tgt := 69) hx hb dX12_zigzag_111 (by decide) ?_
                  replace hf := cont_b hK2 hf
                  exact ih (v5 - v6) (v6 + 1) x23.1 H locs ls hI (lv_sub hl [2, 3, 4, 5, 1, 6, 0] rfl) hf
                · replace hf := ifp c26 hf
                  refine lv_iload hx hb dX12_zigzag_96 (lv_at hl 6 rfl) ?_
                  refine lv_goto (tgt := 106) hx hb dX12_zigzag_98 (by decide) ?_
                  refine lv_istore (lv' := [(4, .int v6), (0, .ref h), (1, .int v1), (2, .int v2), (3, .int v3), (5, .int v5), (6, .int v6)]) hx hb dX12_zigzag_106 hl (by decide) rfl (fun ls hl => ?_)
                  refine lv_iinc (v := (v6 + 1)) (lv' := [(6, .int (v6 + 1)), (4, .int v6), (0, .ref h), (1, .int v1), (2, .int v2), (3, .int v3), (5, .int v5)]) hx hb dX12_zigzag_108 hl (k := 6) rfl (ci_ _ (by decide)) (by decide) rfl (fun ls hl => ?_)
                  refine lv_goto (tgt := 69) hx hb dX12_zigzag_111 (by decide) ?_
                  replace hf := cont_b hK2 hf
                  exact ih v6 (v6 + 1) x23.1 H locs ls hI (lv_sub hl [2, 3, 4, 5, 1, 6, 0] rfl) hf
      unfold fm_zigzag_s41 at hf
      refine lv_iload hx hb dX12_zigzag_41 (lv_at hl 5 rfl) ?_
      refine lv_sipush (v := 300) hx hb dX12_zigzag_43 (by decide) ?_
      refine lv_icmp_gt (tgt := 120) hx hb dX12_zigzag_46 (by decide) (fun c15 => ?_) (fun c15 => ?_)
      · replace hf := ifp c15 hf
        replace hf := exit_b hK1 hf
        exact B_120 v4 st H locs ls hI (lv_sub hl [0, 4] rfl) hf
      · replace hf := ifn c15 hf
        refine lv_iload hx hb dX12_zigzag_49 (lv_at hl 4 rfl) ?_
        refine lv_if_ge (tgt := 120) hx hb dX12_zigzag_51 (by decide) (fun c16 => ?_) (fun c16 => ?_)
        · replace hf := ifp c16 hf
          replace hf := exit_b hK1 hf
          exact B_120 v4 st H locs ls hI (lv_sub hl [0, 4] rfl) hf
        · replace hf := ifn c16 hf
          refine lv_aload_n hx hb dX12_zigzag_54 rfl (lv_at hl 0 rfl) ?_
          refine lv_iload_n hx hb dX12_zigzag_55 rfl (lv_at hl 1 rfl) ?_
          refine lv_iload_n hx hb dX12_zigzag_56 rfl (lv_at hl 2 rfl) ?_
          obtain ⟨x17, hc18, hf⟩ := bnd_b hf
          refine mcall_v (As := [.int v1, .int v2]) (rest := []) (n := 2) ⟨hx, hb, hml, hown, hts⟩ (cm_zigs l D h ad cy v1 v2 st x17 hc18 _) (cwV 2 hts gX12_zigzag_X12_zigs rfl rfl rfl ⟨rfl, nd_zigs⟩ ⟨Nat.le_of_ble_eq_true rfl, Nat.le_of_ble_eq_true rfl⟩) hI hA rfl hl.1 (Nat.le_of_ble_eq_true rfl) dX12_zigzag_57 ⟨Nat.zero_le _, Nat.zero_le _⟩ (fun H locs hI => ?_)
          refine lv_aload_n hx hb dX12_zigzag_60 rfl (lv_at hl 0 rfl) ?_
          refine lv_iload hx hb dX12_zigzag_61 (lv_at hl 5 rfl) ?_
          obtain ⟨x19, hc20, hf⟩ := bnd_b hf
          refine mcall_v (As := [.int v5]) (rest := []) (n := 1) ⟨hx, hb, hml, hown, hts⟩ (cm_keepsDay l D h ad cy v5 x17 x19 hc20 _) (cwV 1 hts gX12_zigzag_X12_keepsDay rfl rfl rfl ⟨rfl, nd_keepsDay⟩ ⟨Nat.le_of_ble_eq_true rfl, Nat.le_of_ble_eq_true rfl⟩) hI hA rfl hl.1 (Nat.le_of_ble_eq_true rfl) dX12_zigzag_63 ⟨Nat.zero_le _, Nat.zero_le _⟩ (fun H locs hI => ?_)
          refine lv_iconst (v := 0) hx hb dX12_zigzag_66 (by decide) ?_
          refine lv_istore (lv' := [(6, .int (0 : Int32)), (0, .ref h), (1, .int v1), (2, .int v2), (3, .int v3), (4, .int v4), (5, .int v5)]) hx hb dX12_zigzag_67 hl (by decide) rfl (fun ls hl => ?_)
          exact L_41_69 v5 mFuel v4 (0 : Int32) x19 H locs ls hI (lv_sub hl [1, 2, 3, 4, 5, 6, 0] rfl) (asc_b hf)
  unfold fm_zigzag at hf
  refine lv_aload_n hx hb dX12_zigzag_0 rfl (lv_at hl 0 rfl) ?_
  refine lv_iload_n hx hb dX12_zigzag_1 rfl (lv_at hl 1 rfl) ?_
  refine lv_iload_n hx hb dX12_zigzag_2 rfl (lv_at hl 2 rfl) ?_
  obtain ⟨x1, hc2, hf⟩ := bnd_b hf
  refine mcall_i (As := [.int a1, .int a2]) (rest := []) (n := 2) ⟨hx, hb, hml, hown, hts⟩ (cm_canAsk l D h ad cy a1 a2 s0 x1 hc2 _) (cwV 2 hts gX12_zigzag_X12_canAsk rfl rfl rfl ⟨rfl, nd_canAsk⟩ ⟨Nat.le_of_ble_eq_true rfl, Nat.le_of_ble_eq_true rfl⟩) hI hA rfl hl.1 (Nat.le_of_ble_eq_true rfl) dX12_zigzag_3 ⟨Nat.zero_le _, Nat.zero_le _⟩ (fun H locs hI => ?_)
  refine lv_if_eq (tgt := 19) hx hb dX12_zigzag_6 (by decide) (fun c3 => ?_) (fun c3 => ?_)
  · replace hf := ifp c3 hf
    refine lv_iconst (v := -1) hx hb dX12_zigzag_19 (by decide) ?_
    exact mret_i hx hb hr hlocks hI (ret_e hK0 hf) dX12_zigzag_20
  · replace hf := ifn c3 hf
    refine lv_iload_n hx hb dX12_zigzag_9 rfl (lv_at hl 3 rfl) ?_
    refine lv_i2l (v := (a3.toInt64)) hx hb dX12_zigzag_10 rfl ?_
    refine lv_lconst (v := 0) hx hb dX12_zigzag_11 (by decide) ?_
    refine lv_lconst (v := 1) hx hb dX12_zigzag_12 (by decide) ?_
    obtain ⟨x4, hc5, hf⟩ := bnd_b hf
    refine mst_i (As := [.long (a3.toInt64), .long (0 : Int64), .long (1 : Int64)]) (rest := []) (n := 3) ⟨hx, hb, hml, hown, hts⟩ (cs_in l (a3.toInt64) (0 : Int64) (1 : Int64) x4 hc5 _) (va_cwS 3 hts gX12_zigzag_X12_in rfl rfl rfl nd_in ⟨Nat.le_of_ble_eq_true rfl, Nat.le_of_ble_eq_true rfl⟩) hI hA rfl hl.1 (Nat.le_of_ble_eq_true rfl) dX12_zigzag_13 ⟨Nat.zero_le _, Nat.zero_le _⟩ (fun H locs hI => ?_)
    refine lv_if_ne (tgt := 21) hx hb dX12_zigzag_16 (by decide) (fun c6 => ?_) (fun c6 => ?_)
    · replace hf := ifn c6 hf
      refine lv_aload_n hx hb dX12_zigzag_21 rfl (lv_at hl 0 rfl) ?_
      obtain ⟨x7, hc8, hf⟩ := bnd_b hf
      refine mcall_v (As := []) (rest := []) (n := 0) ⟨hx, hb, hml, hown, hts⟩ (cm_keeps l D h ad cy  x1.1 x7 hc8 _) (cwV 0 hts gX12_zigzag_X12_keeps rfl rfl rfl ⟨rfl, nd_keeps⟩ ⟨Nat.le_of_ble_eq_true rfl, Nat.le_of_ble_eq_true rfl⟩) hI hA rfl hl.1 (Nat.le_of_ble_eq_true rfl) dX12_zigzag_22 ⟨Nat.zero_le _, Nat.zero_le _⟩ (fun H locs hI => ?_)
      refine lv_aload_n hx hb dX12_zigzag_25 rfl (lv_at hl 0 rfl) ?_
      obtain ⟨x9, hc10, hf⟩ := bnd_b hf
      refine mcall_v (As := []) (rest := []) (n := 0) ⟨hx, hb, hml, hown, hts⟩ (cm_errsAsTold l D h ad cy  x7 x9 hc10 _) (cwV 0 hts gX12_zigzag_X12_errsAsTold rfl rfl rfl ⟨rfl, nd_errsAsTold⟩ ⟨Nat.le_of_ble_eq_true rfl, Nat.le_of_ble_eq_true rfl⟩) hI hA rfl hl.1 (Nat.le_of_ble_eq_true rfl) dX12_zigzag_26 ⟨Nat.zero_le _, Nat.zero_le _⟩ (fun H locs hI => ?_)
      refine lv_aload_n hx hb dX12_zigzag_29 rfl (lv_at hl 0 rfl) ?_
      refine lv_iconst (v := 0) hx hb dX12_zigzag_30 (by decide) ?_
      obtain ⟨x11, hc12, hf⟩ := bnd_b hf
      refine mcall_v (As := [.int (0 : Int32)]) (rest := []) (n := 1) ⟨hx, hb, hml, hown, hts⟩ (cm_keepsDay l D h ad cy (0 : Int32) x9 x11 hc12 _) (cwV 1 hts gX12_zigzag_X12_keepsDay rfl rfl rfl ⟨rfl, nd_keepsDay⟩ ⟨Nat.le_of_ble_eq_true rfl, Nat.le_of_ble_eq_true rfl⟩) hI hA rfl hl.1 (Nat.le_of_ble_eq_true rfl) dX12_zigzag_31 ⟨Nat.zero_le _, Nat.zero_le _⟩ (fun H locs hI => ?_)
      refine lv_bipush (v := -2) hx hb dX12_zigzag_34 (by decide) ?_
      refine lv_istore (lv' := [(4, .int (-2 : Int32)), (0, .ref h), (1, .int a1), (2, .int a2), (3, .int a3)]) hx hb dX12_zigzag_36 hl (by decide) rfl (fun ls hl => ?_)
      refine lv_iconst (v := 1) hx hb dX12_zigzag_38 (by decide) ?_
      refine lv_istore (lv' := [(5, .int (1 : Int32)), (4, .int (-2 : Int32)), (0, .ref h), (1, .int a1), (2, .int a2), (3, .int a3)]) hx hb dX12_zigzag_39 hl (by decide) rfl (fun ls hl => ?_)
      exact L_41 a1 a2 a3 mFuel (-2 : Int32) (1 : Int32) x11 H locs ls hI (lv_sub hl [2, 3, 4, 5, 1, 0] rfl) (asc_b hf)
    · replace hf := ifp c6 hf
      refine lv_iconst (v := -1) hx hb dX12_zigzag_19 (by decide) ?_
      exact mret_i hx hb hr hlocks hI (ret_e hK0 hf) dX12_zigzag_20
