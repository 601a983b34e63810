noncomputable def fm_mend_j108 (st : MSt) : Option (MSt × Int32) :=
  some (st, (-2 : Int32))
noncomputable def fm_mend_j102 (v1 : Int32) (v2 : Int32) (st : MSt) : Option ((MSt × Int32) ⊕ ((Int32 × MSt) ⊕ (Int32 × MSt))) :=
  some (.inr (.inl ((v2 + 1), st)))
noncomputable def fm_mend_s42 (v1 : Int32) (v2 : Int32) (v3 : Int32) (st : MSt) : Option ((MSt × Int32) ⊕ ((Int32 × MSt) ⊕ (Int32 × MSt))) :=
  (if v2 < v3 then some (.inr (.inr (v3, st))) else chk (inb (6 : Int32) 286) ((if (st.2.1 26 (6 : Int32).toNatClampNeg) < v3 then some (.inr (.inl ((v3 + 1), st))) else chk (inb (7 : Int32) 286) ((if (st.2.1 26 (7 : Int32).toNatClampNeg) < (v2 - v3) then some (.inr (.inl ((v3 + 1), st))) else (fm_canMeet v3 (v2 - v3) st).bind fun x15 => (if x15.2 = 0 then some (.inr (.inl ((v3 + 1), x15.1))) else (if v1 = 0 then some (.inl (x15.1, v3)) else some (.inl (x15.1, (v2 - v3))))))))))
noncomputable def fm_mend_s21 (v1 : Int32) (v2 : Int32) (st : MSt) : Option ((MSt × Int32) ⊕ ((Int32 × MSt) ⊕ (Int32 × MSt))) :=
  chk (inb (6 : Int32) 286) (chk (inb (7 : Int32) 286) ((if ((st.2.1 26 (6 : Int32).toNatClampNeg) + (st.2.1 26 (7 : Int32).toNatClampNeg)) < v2 then some (.inr (.inr (v2, st))) else (iter (fun x : (Int32 × MSt) => fm_mend_s42 v1 v2 x.1 x.2) mFuel ((0 : Int32), st)).bind (Sum.elim (fun o : MSt × Int32 => (some (.inl o) : Option ((MSt × Int32) ⊕ ((Int32 × MSt) ⊕ (Int32 × MSt))))) (fun x : (Int32 × MSt) => fm_mend_j102 v1 v2 x.2)))))
noncomputable def fm_mend (a1 : Int32) (s0 : MSt) : Option (MSt × Int32) :=
  (fm_isRiver s0).bind fun x1 => (if x1.2 = 0 then some (x1.1, (-1 : Int32)) else (fm_in (a1.toInt64) (0 : Int64) (1 : Int64)).bind fun x4 => (if x4 = 0 then some (x1.1, (-1 : Int32)) else (iter (fun x : (Int32 × MSt) => fm_mend_s21 a1 x.1 x.2) mFuel ((0 : Int32), x1.1)).bind (Sum.elim (fun o : MSt × Int32 => (some o : Option (MSt × Int32))) (fun x : (Int32 × MSt) => fm_mend_j108 x.2))))
theorem nd_mend : yX12_mend.cls ≠ "java/lang/invoke/MethodHandle" ∧ yX12_mend.cls ≠ "java/lang/invoke/VarHandle" ∧ (parseMethodDescriptor yX12_mend.desc).map (fun d => d.parameters.length) = some 1 := by decide +kernel
set_option maxHeartbeats 4000000 in
set_option maxRecDepth 100000 in
theorem cm_mend (l : Launch) (D : va_G) (h : Nat) (ad : Nat → Nat) (cy : Nat → ClassId) (a1 : Int32) (s0 : MSt) (out : MSt × Int32) (hf : fm_mend a1 s0 = some out) (sz : Nat) : CMi l D h ad cy yX12_mend wsX12_mend { frames := 2, cells := 0, slots := 0, locals := 47 } [.int a1] s0 out sz := by
  refine Met.ofW (cc := cX12_mend) (maxL := 5) (ret := (some .int)) (by decide) rfl ?_
  intro p e s m args below meth c s₁ B hml hv
  obtain ⟨rfl, hsz, hP, hK, hD0⟩ := hv
  have hx := B.exec
  have hb := B.bytes
  have hr := B.returns
  have hts := atoms_spec (ws := wsX12_mend) B.pre
  have hown : s.vm.findClass RX12 = some m.cls := findClass_of_methodNamed B.named
  have hlocks := B.notSynchronized
  subst hsz
  have hI : MI D (MA h ad cy s0 s.heap.size) h ad cy s s.heap s0 s.heap [] := ⟨hK, hP, hD0.self, va_S.rf⟩
  have hA : ∀ q : Nat, s.heap.size ≤ q → MA h ad cy s0 s.heap.size q := fun q hq => Or.inr hq
  have hin : ∀ w ∈ u_ws RX12 TX12 42, w ∈ wsX12_mend := fun w hw => List.mem_cons_of_mem _ (List.mem_append_right _ hw)
  have k_said : Cond.fieldLink RX12 45 "HalfBridgeModel" "said" "[I" ∈ wsX12_mend := by decide +kernel
  have hl := lv_entry ([.ref h, .int a1]) (n := 5) (Nat.le_of_ble_eq_true rfl)
  rw [lg_entry_eq]
  generalize (lg_sl ([.ref h, .int a1]) ++ List.replicate (5 - (lg_sl ([.ref h, .int a1])).length) Slot.unset).toArray = ls at hl ⊢
  have hl : lv_has ls 5 [(0, .ref h), (1, .int a1)] := hl
  obtain ⟨K0, hK0, hf⟩ := top_e hf
  have B_108 : ∀   (st : MSt) (H : Heap) (locs : List Loc) (ls : Array Slot), MI D (MA h ad cy s0 s.heap.size) h ad cy s s.heap st H locs → lv_has ls 5 [] → (fm_mend_j108 st).bind K0 = some out → W p l e (headSpec wsX12_mend { frames := 2, cells := 0, slots := 0, locals := 47 }).room s m (([.ref h, .int a1] : List Value).toArray) below meth c H locs 0 0 (MQ below (MQi D h ad cy s0 out s.heap.size) ([.ref h, .int a1] : List Value).toArray s 0 0 (MA h ad cy s0 s.heap.size)) (F0 m 108 ls []) := by
    intro st H locs ls hI hl hf
    unfold fm_mend_j108 at hf
    refine lv_bipush (v := -2) hx hb dX12_mend_108 (by decide) ?_
    exact mret_i hx hb hr hlocks hI (ret_e hK0 hf) dX12_mend_110
  have L_21 : ∀ (v1 : Int32) (n : Nat) (v2 : Int32) (st : MSt) (H : Heap) (locs : List Loc) (ls : Array Slot), MI D (MA h ad cy s0 s.heap.size) h ad cy s s.heap st H locs → lv_has ls 5 [(0, .ref h), (1, .int v1), (2, .int v2)] → (iter (fun x : (Int32 × MSt) => fm_mend_s21 v1 x.1 x.2) n (v2, st)).bind (fun x => ((Sum.elim (fun o : MSt × Int32 => (some o : Option (MSt × Int32))) (fun x : (Int32 × MSt) => fm_mend_j108 x.2)) x).bind K0) = some out → W p l e (headSpec wsX12_mend { frames := 2, cells := 0, slots := 0, locals := 47 }).room s m (([.ref h, .int a1] : List Value).toArray) below meth c H locs 0 0 (MQ below (MQi D h ad cy s0 out s.heap.size) ([.ref h, .int a1] : List Value).toArray s 0 0 (MA h ad cy s0 s.heap.size)) (F0 m 21 ls []) := by
    intro v1 n
    induction n with
    | zero => intro v2 st H locs ls hI hl hf; exact (iter_0 hf).elim
    | succ n ih =>
      intro v2 st H locs ls hI hl hf
      obtain ⟨K1, hK1, hf⟩ := iter_e hf
      replace hf : (fm_mend_s21 v1 v2 st).bind K1 = some out := hf
      have B_21_102 : ∀ (v2 : Int32)  (st : MSt) (H : Heap) (locs : List Loc) (ls : Array Slot), MI D (MA h ad cy s0 s.heap.size) h ad cy s s.heap st H locs → lv_has ls 5 [(0, .ref h), (1, .int v1), (2, .int v2)] → (fm_mend_j102 v1 v2 st).bind K1 = some out → W p l e (headSpec wsX12_mend { frames := 2, cells := 0, slots := 0, locals := 47 }).room s m (([.ref h, .int a1] : List Value).toArray) below meth c H locs 0 0 (MQ below (MQi D h ad cy s0 out s.heap.size) ([.ref h, .int a1] : List Value).toArray s 0 0 (MA h ad cy s0 s.heap.size)) (F0 m 102 ls []) := by
        intro v2 st H locs ls hI hl hf
        unfold fm_mend_j102 at hf
        refine lv_iinc (v := (v2 + 1)) (lv' := [(2, .int (v2 + 1)), (0, .ref h), (1, .int v1)]) hx hb dX12_mend_102 hl (k := 2) rfl (ci_ _ (by decide)) (by decide) rfl (fun ls hl => ?_)
        refine lv_goto (tgt := 21) hx hb dX12_mend_105 (by decide) ?_
        replace hf := cont_b hK1 hf
        exact ih (v2 + 1) st H locs ls hI (lv_sub hl [1, 2, 0] rfl) hf
      have L_21_42 : ∀ (v2 : Int32) (n : Nat) (v3 : Int32) (st : MSt) (H : Heap) (locs : List Loc) (ls : Array Slot), MI D (MA h ad cy s0 s.heap.size) h ad cy s s.heap st H locs → lv_has ls 5 [(0, .ref h), (1, .int v1), (2, .int v2), (3, .int v3)] → (iter (fun x : (Int32 × MSt) => fm_mend_s42 v1 v2 x.1 x.2) n (v3, st)).bind (fun x => ((Sum.elim (fun o : MSt × Int32 => (some (.inl o) : Option ((MSt × Int32) ⊕ ((Int32 × MSt) ⊕ (Int32 × MSt))))) (fun x : (Int32 × MSt) => fm_mend_j102 v1 v2 x.2)) x).bind K1) = some out → W p l e (headSpec wsX12_mend { frames := 2, cells := 0, slots := 0, locals := 47 }).room s m (([.ref h, .int a1] : List Value).toArray) below meth c H locs 0 0 (MQ below (MQi D h ad cy s0 out s.heap.size) ([.ref h, .int a1] : List Value).toArray s 0 0 (MA h ad cy s0 s.heap.size)) (F0 m 42 ls []) := by
        intro v2 n
        induction n with
        | zero => intro v3 st H locs ls hI hl hf; exact (iter_0 hf).elim
        | succ n ih =>
          intro v3 st H locs ls hI hl hf
          obtain ⟨K2, hK2, hf⟩ := iter_e hf
          replace hf : (fm_mend_s42 v1 v2 v3 st).bind K2 = some out := hf
          unfold fm_mend_s42 at hf
          refine lv_iload_n hx hb dX12_mend_42 rfl (lv_at hl 3 rfl) ?_
          refine lv_iload_n hx hb dX12_mend_43 rfl (lv_at hl 2 rfl) ?_
          refine lv_icmp_gt (tgt := 102) hx hb dX12_mend_44 (by decide) (fun c10 => ?_) (fun c10 => ?_)
          · replace hf := ifp c10 hf
            replace hf := exit_b hK2 hf
            exact B_21_102 v2 st H locs ls hI (lv_sub hl [0, 1, 2] rfl) hf
          · replace hf := ifn c10 hf
            refine lv_iload_n hx hb dX12_mend_47 rfl (lv_at hl 2 rfl) ?_
            refine lv_iload_n hx hb dX12_mend_48 rfl (lv_at hl 3 rfl) ?_
            refine lv_isub hx hb dX12_mend_49 ?_
            refine lv_istore (lv' := [(4, .int (v2 - v3)), (0, .ref h), (1, .int v1), (2, .int v2), (3, .int v3)]) hx hb dX12_mend_50 hl (by decide) rfl (fun ls hl => ?_)
            refine lv_iload_n hx hb dX12_mend_52 rfl (lv_at hl 4 rfl) ?_
            refine lv_aload_n hx hb dX12_mend_53 rfl (lv_at hl 1 rfl) ?_
            refine mg_said hx hb hts hin hown k_said hI dX12_mend_54 ?_
            refine lv_bipush (v := 6) hx hb dX12_mend_57 (by decide) ?_
            obtain ⟨k11, hf⟩ := chk_b hf
            refine ml_said hx hb hI k11 dX12_mend_59 ?_
            refine lv_icmp_gt (tgt := 96) hx hb dX12_mend_60 (by decide) (fun c12 => ?_) (fun c12 => ?_)
            · replace hf := ifp c12 hf
              refine lv_iinc (v := (v3 + 1)) (lv' := [(3, .int (v3 + 1)), (4, .int (v2 - v3)), (0, .ref h), (1, .int v1), (2, .int v2)]) hx hb dX12_mend_96 hl (k := 4) rfl (ci_ _ (by decide)) (by decide) rfl (fun ls hl => ?_)
              refine lv_goto (tgt := 42) hx hb dX12_mend_99 (by decide) ?_
              replace hf := cont_b hK2 hf
              exact ih (v3 + 1) st H locs ls hI (lv_sub hl [2, 3, 4, 0] rfl) hf
            · replace hf := ifn c12 hf
              refine lv_iload hx hb dX12_mend_63 (lv_at hl 0 rfl) ?_
              refine lv_aload_n hx hb dX12_mend_65 rfl (lv_at hl 1 rfl) ?_
              refine mg_said hx hb hts hin hown k_said hI dX12_mend_66 ?_
              refine lv_bipush (v := 7) hx hb dX12_mend_69 (by decide) ?_
              obtain ⟨k13, hf⟩ := chk_b hf
              refine ml_said hx hb hI k13 dX12_mend_71 ?_
              refine lv_icmp_gt (tgt := 96) hx hb dX12_mend_72 (by decide) (fun c14 => ?_) (fun c14 => ?_)
              · replace hf := ifp c14 hf
                refine lv_iinc (v := (v3 + 1)) (lv' := [(3, .int (v3 + 1)), (4, .int (v2 - v3)), (0, .ref h), (1, .int v1), (2, .int v2)]) hx hb dX12_mend_96 hl (k := 4) rfl (ci_ _ (by decide)) (by decide) rfl (fun ls hl => ?_)
                refine lv_goto (tgt := 42) hx hb dX12_mend_99 (by decide) ?_
                replace hf := cont_b hK2 hf
                exact ih (v3 + 1) st H locs ls hI (lv_sub hl [2, 3, 4, 0] rfl) hf
              · replace hf := ifn c14 hf
                refine lv_aload_n hx hb dX12_mend_75 rfl (lv_at hl 1 rfl) ?_
                refine lv_iload_n hx hb dX12_mend_76 rfl (lv_at hl 4 rfl) ?_
                refine lv_iload hx hb dX12_mend_77 (lv_at hl 0 rfl) ?_
                obtain ⟨x15, hc16, hf⟩ := bnd_b hf
                refine mcall_i (As := [.int v3, .int (v2 - v3)]) (rest := []) (n := 2) ⟨hx, hb, hml, hown, hts⟩ (cm_canMeet l D h ad cy v3 (v2 - v3) st x15 hc16 _) (cwV 2 hts gX12_mend_X12_canMeet rfl rfl rfl ⟨rfl, nd_canMeet⟩ ⟨Nat.le_of_ble_eq_true rfl, Nat.le_of_ble_eq_true rfl⟩) hI hA rfl hl.1 (Nat.le_of_ble_eq_true rfl) dX12_mend_79 ⟨Nat.zero_le _, Nat.zero_le _⟩ (fun H locs hI => ?_)
                refine lv_if_eq (tgt := 96) hx hb dX12_mend_82 (by decide) (fun c17 => ?_) (fun c17 => ?_)
                · replace hf := ifp c17 hf
                  refine lv_iinc (v := (v3 + 1)) (lv' := [(3, .int (v3 + 1)), (4, .int (v2 - v3)), (0, .ref h), (1, .int v1), (2, .int v2)]) hx hb dX12_mend_96 hl (k := 4) rfl (ci_ _ (by decide)) (by decide) rfl (fun ls hl => ?_)
                  refine lv_goto (tgt := 42) hx hb dX12_mend_99 (by decide) ?_
                  replace hf := cont_b hK2 hf
                  exact ih (v3 + 1) x15.1 H locs ls hI (lv_sub hl [2, 3, 4, 0] rfl) hf
                · replace hf := ifn c17 hf
                  refine lv_iload_n hx hb dX12_mend_85 rfl (lv_at hl 2 rfl) ?_
                  refine lv_if_ne (tgt := 93) hx hb dX12_mend_86 (by decide) (fun c18 => ?_) (fun c18 => ?_)
                  · replace hf := ifn c18 hf
                    refine lv_iload hx hb dX12_mend_93 (lv_at hl 0 rfl) ?_
                    replace hf := inl_b hK2 hf
                    replace hf : Option.bind (some (Sum.inl (x15.1, (v2 - v3)))) K1 = some out := hf
                    replace hf := inl_b hK1 hf
                    replace hf : Option.bind (some (x15.1, (v2 - v3))) K0 = some out := hf
                    exact mret_i hx hb hr hlocks hI (ret_e hK0 hf) dX12_mend_95
                  · replace hf := ifp c18 hf
                    refine lv_iload_n hx hb dX12_mend_89 rfl (lv_at hl 4 rfl) ?_
                    refine lv_goto (tgt := 95) hx hb dX12_mend_90 (by decide) ?_
                    replace hf := inl_b hK2 hf
                    replace hf : Option.bind (some (Sum.inl (x15.1, v3))) K1 = some out := hf
                    replace hf := inl_b hK1 hf
                    replace hf : Option.bind (some (x15.1, v3)) K0 = some out := hf
                    exact mret_i hx hb hr hlocks hI (ret_e hK0 hf) dX12_mend_95
      unfold fm_mend_s21 at hf
      refine lv_iload_n hx hb dX12_mend_21 rfl (lv_at hl 2 rfl) ?_
      refine lv_aload_n hx hb dX12_mend_22 rfl (lv_at hl 0 rfl) ?_
      refine mg_said hx hb hts hin hown k_said hI dX12_mend_23 ?_
      refine lv_bipush (v := 6) hx hb dX12_mend_26 (by decide) ?_
      obtain ⟨k7, hf⟩ := chk_b hf
      refine ml_said hx hb hI k7 dX12_mend_28 ?_
      refine lv_aload_n hx hb dX12_mend_29 rfl (lv_at hl 0 rfl) ?_
      refine mg_said hx hb hts hin hown k_said hI dX12_mend_30 ?_
      refine lv_bipush (v := 7) hx hb dX12_mend_33 (by decide) ?_
      obtain ⟨k8, hf⟩ := chk_b hf
      refine ml_said hx hb hI k8 dX12_mend_35 ?_
      refine lv_iadd hx hb dX12_mend_36 ?_
      refine lv_icmp_gt (tgt := 108) hx hb dX12_mend_37 (by decide) (fun c9 => ?_) (fun c9 => ?_)
      · replace hf := ifp c9 hf
        replace hf := exit_b hK1 hf
        exact B_108  st H locs ls hI (lv_sub hl [] rfl) hf
      · replace hf := ifn c9 hf
        refine lv_iconst (v := 0) hx hb dX12_mend_40 (by decide) ?_
        refine lv_istore_n (lv' := [(3, .int (0 : Int32)), (0, .ref h), (1, .int v1), (2, .int v2)]) hx hb dX12_mend_41 rfl hl (by decide) rfl (fun ls hl => ?_)
        exact L_21_42 v2 mFuel (0 : Int32) st H locs ls hI (lv_sub hl [1, 2, 3, 0] rfl) (asc_b hf)
  unfold fm_mend at hf
  refine lv_aload_n hx hb dX12_mend_0 rfl (lv_at hl 0 rfl) ?_
  obtain ⟨x1, hc2, hf⟩ := bnd_b hf
  refine mcall_i (As := []) (rest := []) (n := 0) ⟨hx, hb, hml, hown, hts⟩ (cm_isRiver l D h ad cy  s0 x1 hc2 _) (cwV 0 hts gX12_mend_X12_isRiver rfl rfl rfl ⟨rfl, nd_isRiver⟩ ⟨Nat.le_of_ble_eq_true rfl, Nat.le_of_ble_eq_true rfl⟩) hI hA rfl hl.1 (Nat.le_of_ble_eq_true rfl) dX12_mend_1 ⟨Nat.zero_le _, Nat.zero_le _⟩ (fun H locs hI => ?_)
  refine lv_if_eq (tgt := 17) hx hb dX12_mend_4 (by decide) (fun c3 => ?_) (fun c3 => ?_)
  · replace hf := ifp c3 hf
    refine lv_iconst (v := -1) hx hb dX12_mend_17 (by decide) ?_
    exact mret_i hx hb hr hlocks hI (ret_e hK0 hf) dX12_mend_18
  · replace hf := ifn c3 hf
    refine lv_iload_n hx hb dX12_mend_7 rfl (lv_at hl 1 rfl) ?_
    refine lv_i2l (v := (a1.toInt64)) hx hb dX12_mend_8 rfl ?_
    refine lv_lconst (v := 0) hx hb dX12_mend_9 (by decide) ?_
    refine lv_lconst (v := 1) hx hb dX12_mend_10 (by decide) ?_
    obtain ⟨x4, hc5, hf⟩ := bnd_b hf
    refine mst_i (As := [.long (a1.toInt64), .long (0 : Int64), .long (1 : Int64)]) (rest := []) (n := 3) ⟨hx, hb, hml, hown, hts⟩ (cs_in l (a1.toInt64) (0 : Int64) (1 : Int64) x4 hc5 _) (va_cwS 3 hts gX12_mend_X12_in rfl rfl rfl nd_in ⟨Nat.le_of_ble_eq_true rfl, Nat.le_of_ble_eq_true rfl⟩) hI hA rfl hl.1 (Nat.le_of_ble_eq_true rfl) dX12_mend_11 ⟨Nat.zero_le _, Nat.zero_le _⟩ (fun H locs hI => ?_)
    refine lv_if_ne (tgt := 19) hx hb dX12_mend_14 (by decide) (fun c6 => ?_) (fun c6 => ?_)
    · replace hf := ifn c6 hf
      refine lv_iconst (v := 0) hx hb dX12_mend_19 (by decide) ?_
      refine lv_istore_n (lv' := [(2, .int (0 : Int32)), (0, .ref h), (1, .int a1)]) hx hb dX12_mend_20 rfl hl (by decide) rfl (fun ls hl => ?_)
      exact L_21 a1 mFuel (0 : Int32) x1.1 H locs ls hI (lv_sub hl [1, 2, 0] rfl) (asc_b hf)
    · replace hf := ifp c6 hf
      refine lv_iconst (v := -1) hx hb dX12_mend_17 (by decide) ?_
      exact mret_i hx hb hr hlocks hI (ret_e hK0 hf) dX12_mend_18

noncomputable def fm_ruin_j80 (st : MSt) : Option (MSt × Int32) :=
  some (st, (1 : Int32))
noncomputable def fm_ruin_s55 (v4 : Int32) (st : MSt) : Option ((MSt × Int32) ⊕ ((Int32 × MSt) ⊕ (Int32 × MSt))) :=
  (if (80 : Int32) ≤ v4 then some (.inr (.inr (v4, st))) else chk (inb ((46 : Int32) + v4) 286) (some (.inr (.inl ((v4 + 1), msa st 26 ((46 : Int32) + v4).toNatClampNeg (99999 : Int32))))))
noncomputable def fm_ruin_j48 (v1 : Int32) (v2 : Int32) (v3 : Int32) (st : MSt) : Option (MSt × Int32) :=
  (if 0 ≤ v2 then chk (inb (((46 : Int32) + ((40 : Int32) * v1)) + v2) 286) (some (msa st 26 (((46 : Int32) + ((40 : Int32) * v1)) + v2).toNatClampNeg v3, (1 : Int32))) else (iter (fun x : (Int32 × MSt) => fm_ruin_s55 x.1 x.2) mFuel ((0 : Int32), st)).bind (Sum.elim (fun o : MSt × Int32 => (some o : Option (MSt × Int32))) (fun x : (Int32 × MSt) => fm_ruin_j80 x.2)))
noncomputable def fm_ruin (a1 : Int32) (a2 : Int32) (a3 : Int32) (s0 : MSt) : Option (MSt × Int32) :=
  (fm_isRiver s0).bind fun x1 => (if x1.2 = 0 then some (x1.1, (0 : Int32)) else (fm_isSide a1).bind fun x4 => (if x4 = 0 then some (x1.1, (0 : Int32)) else (fm_in (a2.toInt64) (-1 : Int64) (39 : Int64)).bind fun x7 => (if x7 = 0 then some (x1.1, (0 : Int32)) else (if a2 < 0 then fm_ruin_j48 a1 a2 a3 x1.1 else (fm_in (a3.toInt64) (-9999 : Int64) (9999 : Int64)).bind fun x15 => (if x15 = 0 then some (x1.1, (0 : Int32)) else fm_ruin_j48 a1 a2 a3 x1.1)))))
theorem nd_ruin : yX12_ruin.cls ≠ "java/lang/invoke/MethodHandle" ∧ yX12_ruin.cls ≠ "java/lang/invoke/VarHandle" ∧ (parseMethodDescriptor yX12_ruin.desc).map (fun d => d.parameters.length) = some 3 := by decide +kernel
set_option maxHeartbeats 4000000 in
set_option maxRecDepth 100000 in
theorem cm_ruin (l : Launch) (D : va_G) (h : Nat) (ad : Nat → Nat) (cy : Nat → ClassId) (a1 : Int32) (a2 : Int32) (a3 : Int32) (s0 : MSt) (out : MSt × Int32) (hf : fm_ruin a1 a2 a3 s0 = some out) (sz : Nat) : CMi l D h ad cy yX12_ruin wsX12_ruin { frames := 1, cells := 0, slots := 0, locals := 25 } [.int a1, .int a2, .int a3] s0 out sz := by
  refine Met.ofW (cc := cX12_ruin) (maxL := 5) (ret := (some .boolean)) (by decide) rfl ?_
  intro p e s m args below meth c s₁ B hml hv
  obtain ⟨rfl, hsz, hP, hK, hD0⟩ := hv
  have hx := B.exec
  have hb := B.bytes
  have hr := B.returns
  have hts := atoms_spec (ws := wsX12_ruin) B.pre
  have hown : s.vm.findClass RX12 = some m.cls := findClass_of_methodNamed B.named
  have hlocks := B.notSynchronized
  subst hsz
  have hI : MI D (MA h ad cy s0 s.heap.size) h ad cy s s.heap s0 s.heap [] := ⟨hK, hP, hD0.self, va_S.rf⟩
  have hA : ∀ q : Nat, s.heap.size ≤ q → MA h ad cy s0 s.heap.size q := fun q hq => Or.inr hq
  have hin : ∀ w ∈ u_ws RX12 TX12 42, w ∈ wsX12_ruin := fun w hw => List.mem_cons_of_mem _ (List.mem_append_right _ hw)
  have k_said : Cond.fieldLink RX12 45 "HalfBridgeModel" "said" "[I" ∈ wsX12_ruin := by decide +kernel
  have hl := lv_entry ([.ref h, .int a1, .int a2, .int a3]) (n := 5) (Nat.le_of_ble_eq_true rfl)
  rw [lg_entry_eq]
  generalize (lg_sl ([.ref h, .int a1, .int a2, .int a3]) ++ List.replicate (5 - (lg_sl ([.ref h, .int a1, .int a2, .int a3])).length) Slot.unset).toArray = ls at hl ⊢
  have hl : lv_has ls 5 [(0, .ref h), (1, .int a1), (2, .int a2), (3, .int a3)] := hl
  obtain ⟨K0, hK0, hf⟩ := top_e hf
  have B_80 : ∀   (st : MSt) (H : Heap) (locs : List Loc) (ls : Array Slot), MI D (MA h ad cy s0 s.heap.size) h ad cy s s.heap st H locs → lv_has ls 5 [] → (fm_ruin_j80 st).bind K0 = some out → W p l e (headSpec wsX12_ruin { frames := 1, cells := 0, slots := 0, locals := 25 }).room s m (([.ref h, .int a1, .int a2, .int a3] : List Value).toArray) below meth c H locs 0 0 (MQ below (MQi D h ad cy s0 out s.heap.size) ([.ref h, .int a1, .int a2, .int a3] : List Value).toArray s 0 0 (MA h ad cy s0 s.heap.size)) (F0 m 80 ls []) := by
    intro st H locs ls hI hl hf
    unfold fm_ruin_j80 at hf
    refine lv_goto (tgt := 98) hx hb dX12_ruin_80 (by decide) ?_
    refine lv_iconst (v := 1) hx hb dX12_ruin_98 (by decide) ?_
    exact mret_z hx hb hr (by decide) hlocks hI (ret_e hK0 hf) dX12_ruin_99
  have L_55 : ∀  (n : Nat) (v4 : Int32) (st : MSt) (H : Heap) (locs : List Loc) (ls : Array Slot), MI D (MA h ad cy s0 s.heap.size) h ad cy s s.heap st H locs → lv_has ls 5 [(0, .ref h), (4, .int v4)] → (iter (fun x : (Int32 × MSt) => fm_ruin_s55 x.1 x.2) n (v4, st)).bind (fun x => ((Sum.elim (fun o : MSt × Int32 => (some o : Option (MSt × Int32))) (fun x : (Int32 × MSt) => fm_ruin_j80 x.2)) x).bind K0) = some out → W p l e (headSpec wsX12_ruin { frames := 1, cells := 0, slots := 0, locals := 25 }).room s m (([.ref h, .int a1, .int a2, .int a3] : List Value).toArray) below meth c H locs 0 0 (MQ below (MQi D h ad cy s0 out s.heap.size) ([.ref h, .int a1, .int a2, .int a3] : List Value).toArray s 0 0 (MA h ad cy s0 s.heap.size)) (F0 m 55 ls []) := by
    intro n
    induction n with
    | zero => intro v4 st H locs ls hI hl hf; exact (iter_0 hf).elim
    | succ n ih =>
      intro v4 st H locs ls hI hl hf
      obtain ⟨K1, hK1, hf⟩ := iter_e hf
      replace hf : (fm_ruin_s55 v4 st).bind K1 = some out := hf
      unfold fm_ruin_s55 at hf
      refine lv_iload hx hb dX12_ruin_55 (lv_at hl 1 rfl) ?_
      refine lv_bipush (v := 80) hx hb dX12_ruin_57 (by decide) ?_
      refine lv_icmp_ge (tgt := 80) hx hb dX12_ruin_59 (by decide) (fun c13 => ?_) (fun c13 => ?_)
      · replace hf := ifp c13 hf
        replace hf := exit_b hK1 hf
        exact B_80  st H locs ls hI (lv_sub hl [] rfl) hf
      · replace hf := ifn c13 hf
        refine lv_aload_n hx hb dX12_ruin_62 rfl (lv_at hl 0 rfl) ?_
        refine mg_said hx hb hts hin hown k_said hI dX12_ruin_63 ?_
        refine lv_bipush (v := 46) hx hb dX12_ruin_66 (by decide) ?_
        refine lv_iload hx hb dX12_ruin_68 (lv_at hl 1 rfl) ?_
        refine lv_iadd hx hb dX12_ruin_70 ?_
        refine lv_ldc (v := 99999) hx hb hown (hts (.constant RX12 173 (99999)) (by decide +kernel)) dX12_ruin_71 ?_
        obtain ⟨k14, hf⟩ := chk_b hf
        refine ms_said hx hb hI k14 dX12_ruin_73 (fun H locs hI => ?_)
        refine lv_iinc (v := (v4 + 1)) (lv' := [(4, .int (v4 + 1)), (0, .ref h)]) hx hb dX12_ruin_74 hl (k := 1) rfl (ci_ _ (by decide)) (by decide) rfl (fun ls hl => ?_)
        refine lv_goto (tgt := 55) hx hb dX12_ruin_77 (by decide) ?_
        replace hf := cont_b hK1 hf
        exact ih (v4 + 1) (msa st 26 ((46 : Int32) + v4).toNatClampNeg (99999 : Int32)) H locs ls hI (lv_sub hl [1, 0] rfl) hf
  have B_48 : ∀ (v1 : Int32) (v2 : Int32) (v3 : Int32)  (st : MSt) (H : Heap) (locs : List Loc) (ls : Array Slot), MI D (MA h ad cy s0 s.heap.size) h ad cy s s.heap st H locs → lv_has ls 5 [(0, .ref h), (1, .int v1), (2, .int v2), (3, .int v3)] → (fm_ruin_j48 v1 v2 v3 st).bind K0 = some out → W p l e (headSpec wsX12_ruin { frames := 1, cells := 0, slots := 0, locals := 25 }).room s m (([.ref h, .int a1, .int a2, .int a3] : List Value).toArray) below meth c H locs 0 0 (MQ below (MQi D h ad cy s0 out s.heap.size) ([.ref h, .int a1, .int a2, .int a3] : List Value).toArray s 0 0 (MA h ad cy s0 s.heap.size)) (F0 m 48 ls []) := by
    intro v1 v2 v3 st H locs ls hI hl hf
    unfold fm_ruin_j48 at hf
    refine lv_iload_n hx hb dX12_ruin_48 rfl (lv_at hl 2 rfl) ?_
    refine lv_if_ge (tgt := 83) hx hb dX12_ruin_49 (by decide) (fun c11 => ?_) (fun c11 => ?_)
    · replace hf := ifp c11 hf
      refine lv_aload_n hx hb dX12_ruin_83 rfl (lv_at hl 0 rfl) ?_
      refine mg_said hx hb hts hin hown k_said hI dX12_ruin_84 ?_
      refine lv_bipush (v := 46) hx hb dX12_ruin_87 (by decide) ?_
      refine lv_bipush (v := 40) hx hb dX12_ruin_89 (by decide) ?_
      refine lv_iload_n hx hb dX12_ruin_91 rfl (lv_at hl 1 rfl) ?_
      refine lv_imul hx hb dX12_ruin_92 ?_
      refine lv_iadd hx hb dX12_ruin_93 ?_
      refine lv_iload_n hx hb dX12_ruin_94 rfl (lv_at hl 2 rfl) ?_
      refine lv_iadd hx hb dX12_ruin_95 ?_
      refine lv_iload_n hx hb dX12_ruin_96 rfl (lv_at hl 3 rfl) ?_
      obtain ⟨k12, hf⟩ := chk_b hf
      refine ms_said hx hb hI k12 dX12_ruin_97 (fun H locs hI => ?_)
      refine lv_iconst (v := 1) hx hb dX12_ruin_98 (by decide) ?_
      exact mret_z hx hb hr (by decide) hlocks hI (ret_e hK0 hf) dX12_ruin_99
    · replace hf := ifn c11 hf
      refine lv_iconst (v := 0) hx hb dX12_ruin_52 (by decide) ?_
      refine lv_istore (lv' := [(4, .int (0 : Int32)), (0, .ref h), (1, .int v1), (2, .int v2), (3, .int v3)]) hx hb dX12_ruin_53 hl (by decide) rfl (fun ls hl => ?_)
      exact L_55  mFuel (0 : Int32) st H locs ls hI (lv_sub hl [1, 0] rfl) (asc_b hf)
  unfold fm_ruin at hf
  refine lv_aload_n hx hb dX12_ruin_0 rfl (lv_at hl 0 rfl) ?_
  obtain ⟨x1, hc2, hf⟩ := bnd_b hf
  refine mcall_i (As := []) (rest := []) (n := 0) ⟨hx, hb, hml, hown, hts⟩ (cm_isRiver l D h ad cy  s0 x1 hc2 _) (cwV 0 hts gX12_ruin_X12_isRiver rfl rfl rfl ⟨rfl, nd_isRiver⟩ ⟨Nat.le_of_ble_eq_true rfl, Nat.le_of_ble_eq_true rfl⟩) hI hA rfl hl.1 (Nat.le_of_ble_eq_true rfl) dX12_ruin_1 ⟨Nat.zero_le _, Nat.zero_le _⟩ (fun H locs hI => ?_)
  refine lv_if_eq (tgt := 46) hx hb dX12_ruin_4 (by decide) (fun c3 => ?_) (fun c3 => ?_)
  · replace hf := ifp c3 hf
    refine lv_iconst (v := 0) hx hb dX12_ruin_46 (by decide) ?_
    exact mret_z hx hb hr (by decide) hlocks hI (ret_e hK0 hf) dX12_ruin_47
  · replace hf := ifn c3 hf
    refine lv_iload_n hx hb dX12_ruin_7 rfl (lv_at hl 1 rfl) ?_
    obtain ⟨x4, hc5, hf⟩ := bnd_b hf
    refine mst_i (As := [.int a1]) (rest := []) (n := 1) ⟨hx, hb, hml, hown, hts⟩ (cs_isSide l a1 x4 hc5 _) (va_cwS 1 hts gX12_ruin_X12_isSide rfl rfl rfl nd_isSide ⟨Nat.le_of_ble_eq_true rfl, Nat.le_of_ble_eq_true rfl⟩) hI hA rfl hl.1 (Nat.le_of_ble_eq_true rfl) dX12_ruin_8 ⟨Nat.zero_le _, Nat.zero_le _⟩ (fun H locs hI => ?_)
    refine lv_if_eq (tgt := 46) hx hb dX12_ruin_11 (by decide) (fun c6 => ?_) (fun c6 => ?_)
    · replace hf := ifp c6 hf
      refine lv_iconst (v := 0) hx hb dX12_ruin_46 (by decide) ?_
      exact mret_z hx hb hr (by decide) hlocks hI (ret_e hK0 hf) dX12_ruin_47
    · replace hf := ifn c6 hf
      refine lv_iload_n hx hb dX12_ruin_14 rfl (lv_at hl 2 rfl) ?_
      refine lv_i2l (v := (a2.toInt64)) hx hb dX12_ruin_15 rfl ?_
      refine lv_ldc2 (v := -1) hx hb hown (hts (.constantLong RX12 473 (-1)) (by decide +kernel)) dX12_ruin_16 ?_
      refine lv_ldc2 (v := 39) hx hb hown (hts (.constantLong RX12 475 (39)) (by decide +kernel)) dX12_ruin_19 ?_
      obtain ⟨x7, hc8, hf⟩ := bnd_b hf
      refine mst_i (As := [.long (a2.toInt64), .long (-1 : Int64), .long (39 : Int64)]) (rest := []) (n := 3) ⟨hx, hb, hml, hown, hts⟩ (cs_in l (a2.toInt64) (-1 : Int64) (39 : Int64) x7 hc8 _) (va_cwS 3 hts gX12_ruin_X12_in rfl rfl rfl nd_in ⟨Nat.le_of_ble_eq_true rfl, Nat.le_of_ble_eq_true rfl⟩) hI hA rfl hl.1 (Nat.le_of_ble_eq_true rfl) dX12_ruin_22 ⟨Nat.zero_le _, Nat.zero_le _⟩ (fun H locs hI => ?_)
      refine lv_if_eq (tgt := 46) hx hb dX12_ruin_25 (by decide) (fun c9 => ?_) (fun c9 => ?_)
      · replace hf := ifp c9 hf
        refine lv_iconst (v := 0) hx hb dX12_ruin_46 (by decide) ?_
        exact mret_z hx hb hr (by decide) hlocks hI (ret_e hK0 hf) dX12_ruin_47
      · replace hf := ifn c9 hf
        refine lv_iload_n hx hb dX12_ruin_28 rfl (lv_at hl 2 rfl) ?_
        refine lv_if_lt (tgt := 48) hx hb dX12_ruin_29 (by decide) (fun c10 => ?_) (fun c10 => ?_)
        · replace hf := ifp c10 hf
          exact B_48 a1 a2 a3 x1.1 H locs ls hI (lv_sub hl [0, 1, 2, 3] rfl) hf
        · replace hf := ifn c10 hf
          refine lv_iload_n hx hb dX12_ruin_32 rfl (lv_at hl 3 rfl) ?_
          refine lv_i2l (v := (a3.toInt64)) hx hb dX12_ruin_33 rfl ?_
          refine lv_ldc2 (v := -9999) hx hb hown (hts (.constantLong RX12 477 (-9999)) (by decide +kernel)) dX12_ruin_34 ?_
          refine lv_ldc2 (v := 9999) hx hb hown (hts (.constantLong RX12 479 (9999)) (by decide +kernel)) dX12_ruin_37 ?_
          obtain ⟨x15, hc16, hf⟩ := bnd_b hf
          refine mst_i (As := [.long (a3.toInt64), .long (-9999 : Int64), .long (9999 : Int64)]) (rest := []) (n := 3) ⟨hx, hb, hml, hown, hts⟩ (cs_in l (a3.toInt64) (-9999 : Int64) (9999 : Int64) x15 hc16 _) (va_cwS 3 hts gX12_ruin_X12_in rfl rfl rfl nd_in ⟨Nat.le_of_ble_eq_true rfl, Nat.le_of_ble_eq_true rfl⟩) hI hA rfl hl.1 (Nat.le_of_ble_eq_true rfl) dX12_ruin_40 ⟨Nat.zero_le _, Nat.zero_le _⟩ (fun H locs hI => ?_)
          refine lv_if_ne (tgt := 48) hx hb dX12_ruin_43 (by decide) (fun c17 => ?_) (fun c17 => ?_)
          · replace hf := ifn c17 hf
            exact B_48 a1 a2 a3 x1.1 H locs ls hI (lv_sub hl [0, 1, 2, 3] rfl) hf
          · replace hf := ifp c17 hf
            refine lv_iconst (v := 0) hx hb dX12_ruin_46 (by decide) ?_
            exact mret_z hx hb hr (by decide) hlocks hI (ret_e hK0 hf) dX12_ruin_47
