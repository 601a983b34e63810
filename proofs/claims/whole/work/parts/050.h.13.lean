noncomputable def fh_X11_isWithin (a0 : Int32) (a1 : Int32) (a2 : Int32) (s0 : HSt) : Option (HSt × Int32) :=
  (if a0 < a1 then some (s0, (0 : Int32)) else (if a2 < a0 then some (s0, (0 : Int32)) else some (s0, (1 : Int32))))
theorem nd_X11_isWithin : yX11_isWithin.cls ≠ "java/lang/invoke/MethodHandle" ∧ yX11_isWithin.cls ≠ "java/lang/invoke/VarHandle" ∧ (parseMethodDescriptor yX11_isWithin.desc).map (fun d => d.parameters.length) = some 3 := by decide +kernel
set_option maxHeartbeats 4000000 in
set_option maxRecDepth 100000 in
theorem ch_X11_isWithin (l : Launch) (D : va_G) (cy : Nat → ClassId) (a0 : Int32) (a1 : Int32) (a2 : Int32) (s0 : HSt) (out : HSt × Int32) (hf : fh_X11_isWithin a0 a1 a2 s0 = some out) : CHi l D cy yX11_isWithin wsX11_isWithin { frames := 0, cells := 0, slots := 0, locals := 0 } 0 0 False True [.int a0, .int a1, .int a2] s0 out := by
  refine Met.ofW (cc := cX11_isWithin) (maxL := 3) (ret := (some .boolean)) (by decide) rfl ?_
  intro p e s m args below meth c s₁ B hml hv
  obtain ⟨rfl, hP, hK, hD0, hkx, hsz, hal⟩ := hv
  have hx := B.exec
  have hb := B.bytes
  have hr := B.returns
  have hts := atoms_spec (ws := wsX11_isWithin) B.pre
  have hown : s.vm.findClass RX11 = some m.cls := findClass_of_methodNamed B.named
  have hlocks := B.notSynchronized
  have hI : HI D cy s s0 s0 s.heap [] 0 False True := ⟨hK, hP, hD0.weaken (fun k q hk _ => Or.inl (pl_mem hk)), va_S.rf, hsz.1, hkx, ⟨hsz, hal⟩, fun _ => rfl, Nat.le_refl _⟩
  have hl := lv_entry ([.int a0, .int a1, .int a2]) (n := 3) (Nat.le_of_ble_eq_true rfl)
  rw [lg_entry_eq]
  generalize (lg_sl ([.int a0, .int a1, .int a2]) ++ List.replicate (3 - (lg_sl ([.int a0, .int a1, .int a2])).length) Slot.unset).toArray = ls at hl ⊢
  have hl : lv_has ls 3 [(0, .int a0), (1, .int a1), (2, .int a2)] := hl
  obtain ⟨K0, hK0, hf⟩ := top_e hf
  unfold fh_X11_isWithin at hf
  refine lv_iload_n hx hb dX11_isWithin_0 rfl (lv_at hl 0 rfl) ?_
  refine lv_iload_n hx hb dX11_isWithin_1 rfl (lv_at hl 1 rfl) ?_
  refine lv_icmp_lt (tgt := 14) hx hb dX11_isWithin_2 (by decide) (fun c1 => ?_) (fun c1 => ?_)
  · replace hf := ifp c1 hf
    refine lv_iconst (v := 0) hx hb dX11_isWithin_14 (by decide) ?_
    exact hret_z hx hb hr (by decide) hlocks hI (by decide) (by decide) (fun _ => ⟨trivial, rfl⟩) (ret_e hK0 hf) dX11_isWithin_15
  · replace hf := ifn c1 hf
    refine lv_iload_n hx hb dX11_isWithin_5 rfl (lv_at hl 0 rfl) ?_
    refine lv_iload_n hx hb dX11_isWithin_6 rfl (lv_at hl 2 rfl) ?_
    refine lv_icmp_gt (tgt := 14) hx hb dX11_isWithin_7 (by decide) (fun c2 => ?_) (fun c2 => ?_)
    · replace hf := ifp c2 hf
      refine lv_iconst (v := 0) hx hb dX11_isWithin_14 (by decide) ?_
      exact hret_z hx hb hr (by decide) hlocks hI (by decide) (by decide) (fun _ => ⟨trivial, rfl⟩) (ret_e hK0 hf) dX11_isWithin_15
    · replace hf := ifn c2 hf
      refine lv_iconst (v := 1) hx hb dX11_isWithin_10 (by decide) ?_
      refine lv_goto (tgt := 15) hx hb dX11_isWithin_11 (by decide) ?_
      exact hret_z hx hb hr (by decide) hlocks hI (by decide) (by decide) (fun _ => ⟨trivial, rfl⟩) (ret_e hK0 hf) dX11_isWithin_15

noncomputable def fh_X11_ruleOf (h : Nat) (a1 : Int32) (s0 : HSt) : Option (HSt × Option Nat) :=
  (if a1 < 0 then some (s0, (none : Option Nat)) else chk (isk s0 h 12) ((if (gI s0 1103 h) ≤ a1 then some (s0, (none : Option Nat)) else (dr s0 (gR s0 1102 h) 25).bind fun b4 => chk (inb a1 (gL s0 b4)) (some (s0, (gQ s0 b4 a1.toNatClampNeg))))))
theorem nd_X11_ruleOf : yX11_ruleOf.cls ≠ "java/lang/invoke/MethodHandle" ∧ yX11_ruleOf.cls ≠ "java/lang/invoke/VarHandle" ∧ (parseMethodDescriptor yX11_ruleOf.desc).map (fun d => d.parameters.length) = some 1 := by decide +kernel
set_option maxHeartbeats 4000000 in
set_option maxRecDepth 100000 in
theorem ch_X11_ruleOf (l : Launch) (D : va_G) (cy : Nat → ClassId) (h : Nat) (a1 : Int32) (s0 : HSt) (out : HSt × Option Nat) (hf : fh_X11_ruleOf h a1 s0 = some out) : CHq l D cy yX11_ruleOf wsX11_ruleOf { frames := 0, cells := 0, slots := 0, locals := 0 } 0 0 False True [.ref h, .int a1] s0 out := by
  refine Met.ofW (cc := cX11_ruleOf) (maxL := 2) (ret := (some (.object "HalfBridge$Rule"))) (by decide) rfl ?_
  intro p e s m args below meth c s₁ B hml hv
  obtain ⟨rfl, hP, hK, hD0, hkx, hsz, hal⟩ := hv
  have hx := B.exec
  have hb := B.bytes
  have hr := B.returns
  have hts := atoms_spec (ws := wsX11_ruleOf) B.pre
  have hown : s.vm.findClass RX11 = some m.cls := findClass_of_methodNamed B.named
  have hlocks := B.notSynchronized
  have hI : HI D cy s s0 s0 s.heap [] 0 False True := ⟨hK, hP, hD0.weaken (fun k q hk _ => Or.inl (pl_mem hk)), va_S.rf, hsz.1, hkx, ⟨hsz, hal⟩, fun _ => rfl, Nat.le_refl _⟩
  have hin_X11 : ∀ w ∈ u_ws RX11 TX11 10, w ∈ wsX11_ruleOf := fun w hw => List.mem_cons_of_mem _ (List.mem_append_right _ hw)
  have kl_15 : Cond.fieldLink RX11 15 "HalfBridge" "rules" "[LHalfBridge$Rule;" ∈ wsX11_ruleOf := by decide +kernel
  have kl_87 : Cond.fieldLink RX11 87 "HalfBridge" "ruleCount" "I" ∈ wsX11_ruleOf := by decide +kernel
  have hl := lv_entry ([.ref h, .int a1]) (n := 2) (Nat.le_of_ble_eq_true rfl)
  rw [lg_entry_eq]
  generalize (lg_sl ([.ref h, .int a1]) ++ List.replicate (2 - (lg_sl ([.ref h, .int a1])).length) Slot.unset).toArray = ls at hl ⊢
  have hl : lv_has ls 2 [(0, .ref h), (1, .int a1)] := hl
  obtain ⟨K0, hK0, hf⟩ := top_e hf
  unfold fh_X11_ruleOf at hf
  refine lv_iload_n hx hb dX11_ruleOf_0 rfl (lv_at hl 1 rfl) ?_
  refine lv_if_lt (tgt := 21) hx hb dX11_ruleOf_1 (by decide) (fun c1 => ?_) (fun c1 => ?_)
  · replace hf := ifp c1 hf
    refine lv_null hx hb dX11_ruleOf_21 ?_
    exact hret_q hx hb hr (by first | exact Or.inl ⟨_, rfl⟩ | exact Or.inr ⟨_, rfl⟩) hlocks hI (by decide) (by decide) (fun _ => ⟨trivial, rfl⟩) (ret_e hK0 hf) dX11_ruleOf_22
  · replace hf := ifn c1 hf
    refine lv_iload_n hx hb dX11_ruleOf_4 rfl (lv_at hl 1 rfl) ?_
    refine lv_aload_n hx hb dX11_ruleOf_5 rfl (lv_at hl 0 rfl) ?_
    obtain ⟨k2, hf⟩ := chk_b hf
    refine hg_11_3 hx hb hts hin_X11 hown kl_87 hI (isk_k k2) dX11_ruleOf_6 ?_
    refine lv_icmp_ge (tgt := 21) hx hb dX11_ruleOf_9 (by decide) (fun c3 => ?_) (fun c3 => ?_)
    · replace hf := ifp c3 hf
      refine lv_null hx hb dX11_ruleOf_21 ?_
      exact hret_q hx hb hr (by first | exact Or.inl ⟨_, rfl⟩ | exact Or.inr ⟨_, rfl⟩) hlocks hI (by decide) (by decide) (fun _ => ⟨trivial, rfl⟩) (ret_e hK0 hf) dX11_ruleOf_22
    · replace hf := ifn c3 hf
      refine lv_aload_n hx hb dX11_ruleOf_12 rfl (lv_at hl 0 rfl) ?_
      refine hg_11_2 hx hb hts hin_X11 hown kl_15 hI (isk_k k2) dX11_ruleOf_13 ?_
      refine lv_iload_n hx hb dX11_ruleOf_16 rfl (lv_at hl 1 rfl) ?_
      obtain ⟨b4, hd5, hf⟩ := bnd_b hf
      obtain ⟨hq6, hk7⟩ := dr_e hd5
      refine W.eq (g2 := F0 m 17 ls [.int a1, .ref b4]) (by rw [hq6]; rfl) ?_
      obtain ⟨k8, hf⟩ := chk_b hf
      refine hl_Rule hx hb hI hk7 k8 dX11_ruleOf_17 ?_
      refine lv_goto (tgt := 22) hx hb dX11_ruleOf_18 (by decide) ?_
      exact hret_q hx hb hr (by first | exact Or.inl ⟨_, rfl⟩ | exact Or.inr ⟨_, rfl⟩) hlocks hI (by decide) (by decide) (fun _ => ⟨trivial, rfl⟩) (ret_e hK0 hf) dX11_ruleOf_22

noncomputable def fh_X11_ahead (h : Nat) (a1 : Int32) (a2 : Int32) (a3 : Int32) (a4 : Int32) (s0 : HSt) : Option (HSt × Int32) :=
  chk (isk s0 h 12) ((fh_X11_areRulesAtRiver h a1 a2 s0).bind fun x2 => (if x2.2 = 0 then some (x2.1, (-1 : Int32)) else (fh_X11_isWithin a3 (0 : Int32) (400 : Int32) x2.1).bind fun x5 => (if x5.2 = 0 then some (x5.1, (-1 : Int32)) else (fh_X11_isWithin a4 (0 : Int32) (5 : Int32) x5.1).bind fun x8 => (if x8.2 = 0 then some (x8.1, (-1 : Int32)) else chk (isk x8.1 h 12) ((fh_X11_ruleOf h a1 x8.1).bind fun x12 => chk (isk x12.1 h 12) ((fh_X11_ruleOf h a2 x12.1).bind fun x15 => (dr x15.1 (gR x8.1 1109 h) 1).bind fun b17 => (fh_X0_spanAfter b17 (gR x8.1 1104 h) x12.2 x15.2 a3 x15.1).bind fun x21 => (if a4 = 0 then (dr x21.1 x21.2 10).bind fun b28 => (fh_X9_isMet b28 x21.1).bind fun x32 => (if x32.2 = 0 then some (x32.1, (-2 : Int32)) else chk (isk x32.1 b28 10) (some (x32.1, (gI x32.1 901 b28)))) else if a4 = 1 then (dr x21.1 x21.2 10).bind fun b36 => (fh_X9_missOfLines b36 x21.1).bind fun x40 => some (x40.1, x40.2) else if a4 = 2 then (dr x21.1 x21.2 10).bind fun b42 => (fh_X9_missOfHeights b42 x21.1).bind fun x46 => some (x46.1, x46.2) else if a4 = 3 then (dr x21.1 x21.2 10).bind fun b48 => (fh_X9_crookedness b48 (0 : Int32) x21.1).bind fun x52 => some (x52.1, x52.2) else if a4 = 4 then (dr x21.1 x21.2 10).bind fun b54 => (fh_X9_crookedness b54 (1 : Int32) x21.1).bind fun x58 => some (x58.1, x58.2) else (dr x21.1 x21.2 10).bind fun b60 => (fh_X9_isInTime b60 x21.1).bind fun x64 => (if x64.2 = 0 then some (x64.1, (0 : Int32)) else some (x64.1, (1 : Int32))))))))))
theorem nd_X11_ahead : yX11_ahead.cls ≠ "java/lang/invoke/MethodHandle" ∧ yX11_ahead.cls ≠ "java/lang/invoke/VarHandle" ∧ (parseMethodDescriptor yX11_ahead.desc).map (fun d => d.parameters.length) = some 4 := by decide +kernel
set_option maxHeartbeats 4000000 in
set_option maxRecDepth 100000 in
theorem ch_X11_ahead (l : Launch) (D : va_G) (cy : Nat → ClassId) (h : Nat) (a1 : Int32) (a2 : Int32) (a3 : Int32) (a4 : Int32) (s0 : HSt) (out : HSt × Int32) (hf : fh_X11_ahead h a1 a2 a3 a4 s0 = some out) : CHi l D cy yX11_ahead wsX11_ahead { frames := 7, cells := 0, slots := 0, locals := 195 } 0 0 False True [.ref h, .int a1, .int a2, .int a3, .int a4] s0 out := by
  refine Met.ofW (cc := cX11_ahead) (maxL := 6) (ret := (some .int)) (by decide) rfl ?_
  intro p e s m args below meth c s₁ B hml hv
  obtain ⟨rfl, hP, hK, hD0, hkx, hsz, hal⟩ := hv
  have hx := B.exec
  have hb := B.bytes
  have hr := B.returns
  have hts := atoms_spec (ws := wsX11_ahead) B.pre
  have hown : s.vm.findClass RX11 = some m.cls := findClass_of_methodNamed B.named
  have hlocks := B.notSynchronized
  have hI : HI D cy s s0 s0 s.heap [] 0 False True := ⟨hK, hP, hD0.weaken (fun k q hk _ => Or.inl (pl_mem hk)), va_S.rf, hsz.1, hkx, ⟨hsz, hal⟩, fun _ => rfl, Nat.le_refl _⟩
  have hin_X11 : ∀ w ∈ u_ws RX11 TX11 10, w ∈ wsX11_ahead := fun w hw => List.mem_cons_of_mem _ (List.mem_append_left _ (List.mem_append_left _ (List.mem_append_left _ (List.mem_append_left _ (List.mem_append_left _ (List.mem_append_left _ (List.mem_append_right _ hw)))))))
  have hin_X9 : ∀ w ∈ u_ws RX9 TX9 5, w ∈ wsX11_ahead := fun w hw => List.mem_cons_of_mem _ (List.mem_append_left _ (List.mem_append_left _ (List.mem_append_left _ (List.mem_append_left _ (List.mem_append_left _ (List.mem_append_right _ hw))))))
  have kl_22 : Cond.fieldLink RX11 22 "HalfBridge" "site" "LHalfBridge$Site;" ∈ wsX11_ahead := by decide +kernel
  have kl_56 : Cond.fieldLink RX11 56 "HalfBridge" "foresight" "LHalfBridge$Foresight;" ∈ wsX11_ahead := by decide +kernel
  have kl_119 : Cond.fieldLink RX11 119 "HalfBridge$Span" "day" "I" ∈ wsX11_ahead := by decide +kernel
  have hl := lv_entry ([.ref h, .int a1, .int a2, .int a3, .int a4]) (n := 6) (Nat.le_of_ble_eq_true rfl)
  rw [lg_entry_eq]
  generalize (lg_sl ([.ref h, .int a1, .int a2, .int a3, .int a4]) ++ List.replicate (6 - (lg_sl ([.ref h, .int a1, .int a2, .int a3, .int a4])).length) Slot.unset).toArray = ls at hl ⊢
  have hl : lv_has ls 6 [(0, .ref h), (1, .int a1), (2, .int a2), (3, .int a3), (4, .int a4)] := hl
  obtain ⟨K0, hK0, hf⟩ := top_e hf
  unfold fh_X11_ahead at hf
  refine lv_aload_n hx hb dX11_ahead_0 rfl (lv_at hl 0 rfl) ?_
  refine lv_iload_n hx hb dX11_ahead_1 rfl (lv_at hl 1 rfl) ?_
  refine lv_iload_n hx hb dX11_ahead_2 rfl (lv_at hl 2 rfl) ?_
  obtain ⟨k1, hf⟩ := chk_b hf
  obtain ⟨x2, hc3, hf⟩ := bnd_b hf
  refine hcall_Vi (ex2 := True) (As := [.int a1, .int a2]) (rest := []) (n := 2) (by rw [(isk_k k1)]; decide) (hC_12 (isk_k k1)) rfl ⟨hx, hb, hml, hown, hts⟩ (ch_X11_areRulesAtRiver l D cy h a1 a2 s0 x2 hc3) (cwV 2 hts gX11_ahead_X11_areRulesAtRiver rfl rfl rfl ⟨rfl, nd_X11_areRulesAtRiver⟩ ⟨Nat.le_of_ble_eq_true rfl, Nat.le_of_ble_eq_true rfl⟩) hI (fun h => h.elim) (fun _ => ⟨trivial, trivial⟩) rfl hl.1 (Nat.le_of_ble_eq_true rfl) dX11_ahead_3 ⟨Nat.le_of_ble_eq_true rfl, Nat.le_of_ble_eq_true rfl⟩ (fun H locs hI => ?_)
  refine lv_if_eq (tgt := 30) hx hb dX11_ahead_6 (by decide) (fun c4 => ?_) (fun c4 => ?_)
  · replace hf := ifp c4 hf
    refine lv_iconst (v := -1) hx hb dX11_ahead_30 (by decide) ?_
    exact hret_i hx hb hr hlocks hI (by decide) (by decide) (fun _ => ⟨trivial, rfl⟩) (ret_e hK0 hf) dX11_ahead_31
  · replace hf := ifn c4 hf
    refine lv_iload_n hx hb dX11_ahead_9 rfl (lv_at hl 3 rfl) ?_
    refine lv_iconst (v := 0) hx hb dX11_ahead_10 (by decide) ?_
    refine lv_sipush (v := 400) hx hb dX11_ahead_11 (by decide) ?_
    obtain ⟨x5, hc6, hf⟩ := bnd_b hf
    refine hcall_Si (ex2 := True) (As := [.int a3, .int (0 : Int32), .int (400 : Int32)]) (rest := []) (n := 3) ⟨hx, hb, hml, hown, hts⟩ (ch_X11_isWithin l D cy a3 (0 : Int32) (400 : Int32) x2.1 x5 hc6) (va_cwS 3 hts gX11_ahead_X11_isWithin rfl rfl rfl nd_X11_isWithin ⟨Nat.le_of_ble_eq_true rfl, Nat.le_of_ble_eq_true rfl⟩) hI (fun h => h.elim) (fun _ => ⟨trivial, trivial⟩) rfl hl.1 (Nat.le_of_ble_eq_true rfl) dX11_ahead_14 ⟨Nat.le_of_ble_eq_true rfl, Nat.le_of_ble_eq_true rfl⟩ (fun H locs hI => ?_)
    refine lv_if_eq (tgt := 30) hx hb dX11_ahead_17 (by decide) (fun c7 => ?_) (fun c7 => ?_)
    · replace hf := ifp c7 hf
      refine lv_iconst (v := -1) hx hb dX11_ahead_30 (by decide) ?_
      exact hret_i hx hb hr hlocks hI (by decide) (by decide) (fun _ => ⟨trivial, rfl⟩) (ret_e hK0 hf) dX11_ahead_31
    · replace hf := ifn c7 hf
      refine lv_iload hx hb dX11_ahead_20 (lv_at hl 4 rfl) ?_
      refine lv_iconst (v := 0) hx hb dX11_ahead_22 (by decide) ?_
      refine lv_iconst (v := 5) hx hb dX11_ahead_23 (by decide) ?_
      obtain ⟨x8, hc9, hf⟩ := bnd_b hf
      refine hcall_Si (ex2 := True) (As := [.int a4, .int (0 : Int32), .int (5 : Int32)]) (rest := []) (n := 3) ⟨hx, hb, hml, hown, hts⟩ (ch_X11_isWithin l D cy a4 (0 : Int32) (5 : Int32) x5.1 x8 hc9) (va_cwS 3 hts gX11_ahead_X11_isWithin rfl rfl rfl nd_X11_isWithin ⟨Nat.le_of_ble_eq_true rfl, Nat.le_of_ble_eq_true rfl⟩) hI (fun h => h.elim) (fun _ => ⟨trivial, trivial⟩) rfl hl.1 (Nat.le_of_ble_eq_true rfl) dX11_ahead_24 ⟨Nat.le_of_ble_eq_true rfl, Nat.le_of_ble_eq_true rfl⟩ (fun H locs hI => ?_)
      refine lv_if_ne (tgt := 32) hx hb dX11_ahead_27 (by decide) (fun c10 => ?_) (fun c10 => ?_)
      · replace hf := ifn c10 hf
        refine lv_aload_n hx hb dX11_ahead_32 rfl (lv_at hl 0 rfl) ?_
        obtain ⟨k11, hf⟩ := chk_b hf
        refine hg_11_9 hx hb hts hin_X11 hown kl_56 hI (isk_k k11) dX11_ahead_33 ?_
        refine lv_aload_n hx hb dX11_ahead_36 rfl (lv_at hl 0 rfl) ?_
        refine hg_11_4 hx hb hts hin_X11 hown kl_22 hI (isk_k k11) dX11_ahead_37 ?_
        refine lv_aload_n hx hb dX11_ahead_40 rfl (lv_at hl 0 rfl) ?_
        refine lv_iload_n hx hb dX11_ahead_41 rfl (lv_at hl 1 rfl) ?_
        obtain ⟨x12, hc13, hf⟩ := bnd_b hf
        refine hcall_Vq (ex2 := True) (As := [.int a1]) (rest := [va_rf (gR x8.1 1104 h), va_rf (gR x8.1 1109 h)]) (n := 1) (by rw [(isk_k k11)]; decide) (hC_12 (isk_k k11)) rfl ⟨hx, hb, hml, hown, hts⟩ (ch_X11_ruleOf l D cy h a1 x8.1 x12 hc13) (cwV 1 hts gX11_ahead_X11_ruleOf rfl rfl rfl ⟨rfl, nd_X11_ruleOf⟩ ⟨Nat.le_of_ble_eq_true rfl, Nat.le_of_ble_eq_true rfl⟩) hI (fun h => h.elim) (fun _ => ⟨trivial, trivial⟩) rfl hl.1 (by simp [cat_rf, cat_i, cat_l, cat_r]) dX11_ahead_42 ⟨Nat.le_of_ble_eq_true rfl, Nat.le_of_ble_eq_true rfl⟩ (fun H locs hI => ?_)
        refine lv_aload_n hx hb dX11_ahead_45 rfl (lv_at hl 0 rfl) ?_
        refine lv_iload_n hx hb dX11_ahead_46 rfl (lv_at hl 2 rfl) ?_
        obtain ⟨k14, hf⟩ := chk_b hf
        obtain ⟨x15, hc16, hf⟩ := bnd_b hf
        refine hcall_Vq (ex2 := True) (As := [.int a2]) (rest := [va_rf x12.2, va_rf (gR x8.1 1104 h), va_rf (gR x8.1 1109 h)]) (n := 1) (by rw [(isk_k k14)]; decide) (hC_12 (isk_k k14)) rfl ⟨hx, hb, hml, hown, hts⟩ (ch_X11_ruleOf l D cy h a2 x12.1 x15 hc16) (cwV 1 hts gX11_ahead_X11_ruleOf rfl rfl rfl ⟨rfl, nd_X11_ruleOf⟩ ⟨Nat.le_of_ble_eq_true rfl, Nat.le_of_ble_eq_true rfl⟩) hI (fun h => h.elim) (fun _ => ⟨trivial, trivial⟩) rfl hl.1 (by simp [cat_rf, cat_i, cat_l, cat_r]) dX11_ahead_47 ⟨Nat.le_of_ble_eq_true rfl, Nat.le_of_ble_eq_true rfl⟩ (fun H locs hI => ?_)
        refine lv_iload_n hx hb dX11_ahead_50 rfl (lv_at hl 3 rfl) ?_
        obtain ⟨b17, hd18, hf⟩ := bnd_b hf
        obtain ⟨hq19, hk20⟩ := dr_e hd18
        refine W.eq (g2 := F0 m 51 ls [.int a3, va_rf x15.2, va_rf x12.2, va_rf (gR x8.1 1104 h), .ref b17]) (by rw [hq19]; rfl) ?_
        obtain ⟨x21, hc22, hf⟩ := bnd_b hf
        refine hcall_Vq (ex2 := True) (As := [va_rf (gR x8.1 1104 h), va_rf x12.2, va_rf x15.2, .int a3]) (rest := []) (n := 4) (by rw [hk20]; decide) (hC_1 hk20) rfl ⟨hx, hb, hml, hown, hts⟩ (ch_X0_spanAfter l D cy b17 (gR x8.1 1104 h) x12.2 x15.2 a3 x15.1 x21 hc22) (cwV 4 hts gX11_ahead_X0_spanAfter rfl rfl rfl ⟨rfl, nd_X0_spanAfter⟩ ⟨Nat.le_of_ble_eq_true rfl, Nat.le_of_ble_eq_true rfl⟩) hI (fun h => h.elim) (fun _ => ⟨trivial, trivial⟩) rfl hl.1 (Nat.le_of_ble_eq_true rfl) dX11_ahead_51 ⟨Nat.le_of_ble_eq_true rfl, Nat.le_of_ble_eq_true rfl⟩ (fun H locs hI => ?_)
        refine hq_astore (lv' := [(5, va_rf x21.2), (0, .ref h), (1, .int a1), (2, .int a2), (3, .int a3), (4, .int a4)]) hx hb dX11_ahead_54 hl (by decide) (by first | rfl | (simp [cat_rf, cat_i, cat_l, cat_r]; done) | (simp [cat_rf, cat_i, cat_l, cat_r]; decide)) (fun ls hl => ?_)
        refine lv_iload hx hb dX11_ahead_56 (lv_at hl 5 rfl) ?_
        by_cases c23 : a4 = 0
        · replace hf := ifp c23 hf
          refine lv_tableIn (off := 34) (tgt := 92) hx hb dX11_ahead_58 (by rw [c23]; decide) (by rw [c23]; decide) (by rw [c23]; rfl) (by decide) ?_
          refine hq_aload hx hb dX11_ahead_92 (lv_at hl 0 rfl) ?_
          obtain ⟨b28, hd29, hf⟩ := bnd_b hf
          obtain ⟨hq30, hk31⟩ := dr_e hd29
          refine W.eq (g2 := F0 m 94 ls [.ref b28]) (by rw [hq30]; rfl) ?_
          obtain ⟨x32, hc33, hf⟩ := bnd_b hf
          refine hcall_Vi (ex2 := True) (As := []) (rest := []) (n := 0) (by rw [hk31]; decide) (hC_10 hk31) rfl ⟨hx, hb, hml, hown, hts⟩ (ch_X9_isMet l D cy b28 x21.1 x32 hc33) (cwV 0 hts gX11_ahead_X9_isMet rfl rfl rfl ⟨rfl, nd_X9_isMet⟩ ⟨Nat.le_of_ble_eq_true rfl, Nat.le_of_ble_eq_true rfl⟩) hI (fun h => h.elim) (fun _ => ⟨trivial, trivial⟩) rfl hl.1 (Nat.le_of_ble_eq_true rfl) dX11_ahead_94 ⟨Nat.le_of_ble_eq_true rfl, Nat.le_of_ble_eq_true rfl⟩ (fun H locs hI => ?_)
          refine lv_if_eq (tgt := 108) hx hb dX11_ahead_97 (by decide) (fun c34 => ?_) (fun c34 => ?_)
          · replace hf := ifp c34 hf
            refine lv_bipush (v := -2) hx hb dX11_ahead_108 (by decide) ?_
            exact hret_i hx hb hr hlocks hI (by decide) (by decide) (fun _ => ⟨trivial, rfl⟩) (ret_e hK0 hf) dX11_ahead_110
          · replace hf := ifn c34 hf
            refine hq_aload hx hb dX11_ahead_100 (lv_at hl 0 rfl) ?_
            refine W.eq (g2 := F0 m 102 ls [.ref b28]) (by rw [hq30]; rfl) ?_
            obtain ⟨k35, hf⟩ := chk_b hf
            refine hg_9_1 hx hb hts hin_X9 hown kl_119 hI (isk_k k35) dX11_ahead_102 ?_
            refine lv_goto (tgt := 110) hx hb dX11_ahead_105 (by decide) ?_
            exact hret_i hx hb hr hlocks hI (by decide) (by decide) (fun _ => ⟨trivial, rfl⟩) (ret_e hK0 hf) dX11_ahead_110
        replace hf := ifn c23 hf
        by_cases c24 : a4 = 1
        · replace hf := ifp c24 hf
          refine lv_tableIn (off := 53) (tgt := 111) hx hb dX11_ahead_58 (by rw [c24]; decide) (by rw [c24]; decide) (by rw [c24]; rfl) (by decide) ?_
          refine hq_aload hx hb dX11_ahead_111 (lv_at hl 0 rfl) ?_
          obtain ⟨b36, hd37, hf⟩ := bnd_b hf
          obtain ⟨hq38, hk39⟩ := dr_e hd37
          refine W.eq (g2 := F0 m 113 ls [.ref b36]) (by rw [hq38]; rfl) ?_
          obtain ⟨x40, hc41, hf⟩ := bnd_b hf
          refine hcall_Vi (ex2 := True) (As := []) (rest := []) (n := 0) (by rw [hk39]; decide) (hC_10 hk39) rfl ⟨hx, hb, hml, hown, hts⟩ (ch_X9_missOfLines l D cy b36 x21.1 x40 hc41) (cwV 0 hts gX11_ahead_X9_missOfLines rfl rfl rfl ⟨rfl, nd_X9_missOfLines⟩ ⟨Nat.le_of_ble_eq_true rfl, Nat.le_of_ble_eq_true rfl⟩) hI (fun h => h.elim) (fun _ => ⟨trivial, trivial⟩) rfl hl.1 (Nat.le_of_ble_eq_true rfl) dX11_ahead_113 ⟨Nat.le_of_ble_eq_true rfl, Nat.le_of_ble_eq_true rfl⟩ (fun H locs hI => ?_)
          exact hret_i hx hb hr hlocks hI (by decide) (by decide) (fun _ => ⟨trivial, rfl⟩) (ret_e hK0 hf) dX11_ahead_116
        replace hf := ifn c24 hf
        by_cases c25 : a4 = 2
        · replace hf := ifp c25 hf
          refine lv_tableIn (off := 59) (tgt := 117) hx hb dX11_ahead_58 (by rw [c25]; decide) (by rw [c25]; decide) (by rw [c25]; rfl) (by decide) ?_
          refine hq_aload hx hb dX11_ahead_117 (lv_at hl 0 rfl) ?_
          obtain ⟨b42, hd43, hf⟩ := bnd_b hf
          obtain ⟨hq44, hk45⟩ := dr_e hd43
          refine W.eq (g2 := F0 m 119 ls [.ref b42]) (by rw [hq44]; rfl) ?_
          obtain ⟨x46, hc47, hf⟩ := bnd_b hf
          refine hcall_Vi (ex2 := True) (As := []) (rest := []) (n := 0) (by rw [hk45]; decide) (hC_10 hk45) rfl ⟨hx, hb, hml, hown, hts⟩ (ch_X9_missOfHeights l D cy b42 x21.1 x46 hc47) (cwV 0 hts gX11_ahead_X9_missOfHeights rfl rfl rfl ⟨rfl, nd_X9_missOfHeights⟩ ⟨Nat.le_of_ble_eq_true rfl, Nat.le_of_ble_eq_true rfl⟩) hI (fun h => h.elim) (fun _ => ⟨trivial, trivial⟩) rfl hl.1 (Nat.le_of_ble_eq_true rfl) dX11_ahead_119 ⟨Nat.le_of_ble_eq_true rfl, Nat.le_of_ble_eq_true rfl⟩ (fun H locs hI => ?_)
          exact hret_i hx hb hr hlocks hI (by decide) (by decide) (fun _ => ⟨trivial, rfl⟩) (ret_e hK0 hf) dX11_ahead_122
        replace hf := ifn c25 hf
        by_cases c26 : a4 = 3
        · replace hf := ifp c26 hf
          refine lv_tableIn (off := 65) (tgt := 123) hx hb dX11_ahead_58 (by rw [c26]; decide) (by rw [c26]; decide) (by rw [c26]; rfl) (by decide) ?_
          refine hq_aload hx hb dX11_ahead_123 (lv_at hl 0 rfl) ?_
          refine lv_iconst (v := 0) hx hb dX11_ahead_125 (by decide) ?_
          obtain ⟨b48, hd49, hf⟩ := bnd_b hf
          obtain ⟨hq50, hk51⟩ := dr_e hd49
          refine W.eq (g2 := F0 m 126 ls [.int (0 : Int32), .ref b48]) (by rw [hq50]; rfl) ?_
          obtain ⟨x52, hc53, hf⟩ := bnd_b hf
          refine hcall_Vi (ex2 := True) (As := [.int (0 : Int32)]) (rest := []) (n := 1) (by rw [hk51]; decide) (hC_10 hk51) rfl ⟨hx, hb, hml, hown, hts⟩ (ch_X9_crookedness l D cy b48 (0 : Int32) x21.1 x52 hc53) (cwV 1 hts gX11_ahead_X9_crookedness rfl rfl rfl ⟨rfl, nd_X9_crookedness⟩ ⟨Nat.le_of_ble_eq_true rfl, Nat.le_of_ble_eq_true rfl⟩) hI (fun h => h.elim) (fun _ => ⟨trivial, trivial⟩) rfl hl.1 (Nat.le_of_ble_eq_true rfl) dX11_ahead_126 ⟨Nat.le_of_ble_eq_true rfl, Nat.le_of_ble_eq_true rfl⟩ (fun H locs hI => ?_)
          exact hret_i hx hb hr hlocks hI (by decide) (by decide) (fun _ => ⟨trivial, rfl⟩) (ret_e hK0 hf) dX11_ahead_129
        replace hf := ifn c26 hf
        by_cases c27 : a4 = 4
        · replace hf := ifp c27 hf
          refine lv_tableIn (off := 72) (tgt := 130) hx hb dX11_ahead_58 (by rw [c27]; decide) (by rw [c27]; decide) (by rw [c27]; rfl) (by decide) ?_
          refine hq_aload hx hb dX11_ahead_130 (lv_at hl 0 rfl) ?_
          refine lv_iconst (v := 1) hx hb dX11_ahead_132 (by decide) ?_
          obtain ⟨b54, hd55, hf⟩ := bnd_b hf
          obtain ⟨hq56, hk57⟩ := dr_e hd55
          refine W.eq (g2 := F0 m 133 ls [.int (1 : Int32), .ref b54]) (by rw [hq56]; rfl) ?_
          obtain ⟨x58, hc59, hf⟩ := bnd_b hf
          refine hcall_Vi (ex2 := True) (As := [.int (1 : Int32)]) (rest := []) (n := 1) (by rw [hk57]; decide) (hC_10 hk57) rfl ⟨hx, hb, hml, hown, hts⟩ (ch_X9_crookedness l D cy b54 (1 : Int32) x21.1 x58 hc59) (cwV 1 hts gX11_ahead_X9_crookedness rfl rfl rfl ⟨rfl, nd_X9_crookedness⟩ ⟨Nat.le_of_ble_eq_true rfl, Nat.le_of_ble_eq_true rfl⟩) hI (fun h => h.elim) (fun _ => ⟨trivial, trivial⟩) rfl hl.1 (Nat.le_of_ble_eq_true rfl) dX11_ahead_133 ⟨Nat.le_of_ble_eq_true rfl, Nat.le_of_ble_eq_true rfl⟩ (fun H locs hI => ?_)
          exact hret_i hx hb hr hlocks hI (by decide) (by decide) (fun _ => ⟨trivial, rfl⟩) (ret_e hK0 hf) dX11_ahead_136
        replace hf := ifn c27 hf
        refine lv_tableOut (tgt := 137) hx hb dX11_ahead_58 (tsw_out (fun k k1 k2 => ?_)) (by decide) ?_
        · rcases (show k = 0 ∨ k = 1 ∨ k = 2 ∨ k = 3 ∨ k = 4 by omega) with rfl | rfl | rfl | rfl | rfl
          · exact c23
          · exact c24
          · exact c25
          · exact c26
          · exact c27
        · refine hq_aload hx hb dX11_ahead_137 (lv_at hl 0 rfl) ?_
          obtain ⟨b60, hd61, hf⟩ := bnd_b hf
          obtain ⟨hq62, hk63⟩ := dr_e hd61
          refine W.eq (g2 := F0 m 139 ls [.ref b60]) (by rw [hq62]; rfl) ?_
          obtain ⟨x64, hc65, hf⟩ := bnd_b hf
          refine hcall_Vi (ex2 := True) (As := []) (rest := []) (n := 0) (by rw [hk63]; decide) (hC_10 hk63) rfl ⟨hx, hb, hml, hown, hts⟩ (ch_X9_isInTime l D cy b60 x21.1 x64 hc65) (cwV 0 hts gX11_ahead_X9_isInTime rfl rfl rfl ⟨rfl, nd_X9_isInTime⟩ ⟨Nat.le_of_ble_eq_true rfl, Nat.le_of_ble_eq_true rfl⟩) hI (fun h => h.elim) (fun _ => ⟨trivial, trivial⟩) rfl hl.1 (Nat.le_of_ble_eq_true rfl) dX11_ahead_139 ⟨Nat.le_of_ble_eq_true rfl, Nat.le_of_ble_eq_true rfl⟩ (fun H locs hI => ?_)
          refine lv_if_eq (tgt := 149) hx hb dX11_ahead_142 (by decide) (fun c66 => ?_) (fun c66 => ?_)
          · replace hf := ifp c66 hf
            refine lv_iconst (v := 0) hx hb dX11_ahead_149 (by decide) ?_
            exact hret_i hx hb hr hlocks hI (by decide) (by decide) (fun _ => ⟨trivial, rfl⟩) (ret_e hK0 hf) dX11_ahead_150
          · replace hf := ifn c66 hf
            refine lv_iconst (v := 1) hx hb dX11_ahead_145 (by decide) ?_
            refine lv_goto (tgt := 150) hx hb dX11_ahead_146 (by decide) ?_
            exact hret_i hx hb hr hlocks hI (by decide) (by decide) (fun _ => ⟨trivial, rfl⟩) (ret_e hK0 hf) dX11_ahead_150
      · replace hf := ifp c10 hf
        refine lv_iconst (v := -1) hx hb dX11_ahead_30 (by decide) ?_
        exact hret_i hx hb hr hlocks hI (by decide) (by decide) (fun _ => ⟨trivial, rfl⟩) (ret_e hK0 hf) dX11_ahead_31

noncomputable def fh_X8_become (h : Nat) (a1 : Option Nat) (s0 : HSt) : Option (HSt) :=
  chk (isk s0 h 9) ((dr s0 a1 9).bind fun b2 => (dr s0 (gR s0 800 h) 10).bind fun b6 => (fh_X9_become b6 (gR s0 800 b2) s0).bind fun x10 => chk (isk x10 b2 9) (chk (isk x10 h 9) ((some (sI (sI x10 801 h (gI x10 801 b2)) 802 h (gI (sI x10 801 h (gI x10 801 b2)) 802 b2))).bind fun x14 => (dr x14 (gR x14 803 h) 22).bind fun b17 => (dr x14 (gR x14 803 b2) 22).bind fun b21 => chk (cpyok (0 : Int32) (0 : Int32) (nI (gL x14 b17)) (gL x14 b21) (gL x14 b17)) ((some (sAf x14 b17 (va_cpy (gA x14 b21) (gA x14 b17) (0 : Int32).toNatClampNeg (0 : Int32).toNatClampNeg (nI (gL x14 b17)).toNatClampNeg))).bind fun x26 => (dr x26 (gR x26 804 h) 22).bind fun b31 => (dr x26 (gR x26 804 b2) 22).bind fun b35 => chk (cpyok (0 : Int32) (0 : Int32) (nI (gL x26 b31)) (gL x26 b35) (gL x26 b31)) ((some (sAf x26 b31 (va_cpy (gA x26 b35) (gA x26 b31) (0 : Int32).toNatClampNeg (0 : Int32).toNatClampNeg (nI (gL x26 b31)).toNatClampNeg))).bind fun x40 => some x40)))))
theorem nd_X8_become : yX8_become.cls ≠ "java/lang/invoke/MethodHandle" ∧ yX8_become.cls ≠ "java/lang/invoke/VarHandle" ∧ (parseMethodDescriptor yX8_become.desc).map (fun d => d.parameters.length) = some 1 := by decide +kernel
set_option maxHeartbeats 4000000 in
set_option maxRecDepth 100000 in
theorem ch_X8_become (l : Launch) (D : va_G) (cy : Nat → ClassId) (h : Nat) (a1 : Option Nat) (s0 : HSt) (out : HSt) (hf : fh_X8_become h a1 s0 = some out) : CHv l D cy yX8_become wsX8_become { frames := 2, cells := 0, slots := 0, locals := 82 } 0 0 False True [.ref h, va_rf a1] s0 out := by
  refine Met.ofW (cc := cX8_become) (maxL := 2) (ret := none) (by decide) rfl ?_
  intro p e s m args below meth c s₁ B hml hv
  obtain ⟨rfl, hP, hK, hD0, hkx, hsz, hal⟩ := hv
  have hx := B.exec
  have hb := B.bytes
  have hr := B.returns
  have hts := atoms_spec (ws := wsX8_become) B.pre
  have hown : s.vm.findClass RX8 = some m.cls := findClass_of_methodNamed B.named
  have hlocks := B.notSynchronized
  have hI : HI D cy s s0 s0 s.heap [] 0 False True := ⟨hK, hP, hD0.weaken (fun k q hk _ => Or.inl (pl_mem hk)), va_S.rf, hsz.1, hkx, ⟨hsz, hal⟩, fun _ => rfl, Nat.le_refl _⟩
  have hin_X8 : ∀ w ∈ u_ws RX8 TX8 5, w ∈ wsX8_become := fun w hw => List.mem_cons_of_mem _ (List.mem_append_left _ (List.mem_append_right _ hw))
  have kl_10 : Cond.fieldLink RX8 10 "HalfBridge$Site" "span" "LHalfBridge$Span;" ∈ wsX8_become := by decide +kernel
  have kl_16 : Cond.fieldLink RX8 16 "HalfBridge$Site" "errors" "[I" ∈ wsX8_become := by decide +kernel
  have kl_20 : Cond.fieldLink RX8 20 "HalfBridge$Site" "ruins" "[I" ∈ wsX8_become := by decide +kernel
  have kl_34 : Cond.fieldLink RX8 34 "HalfBridge$Site" "x" "I" ∈ wsX8_become := by decide +kernel
  have kl_38 : Cond.fieldLink RX8 38 "HalfBridge$Site" "ruinsTold" "I" ∈ wsX8_become := by decide +kernel
  have hl := lv_entry ([.ref h, va_rf a1]) (n := 2) (by simp [lg_sl, cat_rf, cat_i, cat_l, cat_r])
  rw [lg_entry_eq]
  generalize (lg_sl ([.ref h, va_rf a1]) ++ List.replicate (2 - (lg_sl ([.ref h, va_rf a1])).length) Slot.unset).toArray = ls at hl ⊢
  have hl : lv_has ls 2 [(0, .ref h), (1, va_rf a1)] := (by simpa [lv_args, cat_rf, cat_i, cat_l, cat_r] using hl)
  obtain ⟨K0, hK0, hf⟩ := top_e hf
  unfold fh_X8_become at hf
  refine lv_aload_n hx hb dX8_become_0 rfl (lv_at hl 0 rfl) ?_
  obtain ⟨k1, hf⟩ := chk_b hf
  refine hg_8_0 hx hb hts hin_X8 hown kl_10 hI (isk_k k1) dX8_become_1 ?_
  refine hq_aload_n hx hb dX8_become_4 rfl (lv_at hl 1 rfl) ?_
  obtain ⟨b2, hd3, hf⟩ := bnd_b hf
  obtain ⟨hq4, hk5⟩ := dr_e hd3
  refine W.eq (g2 := F0 m 5 ls [.ref b2, va_rf (gR s0 800 h)]) (by rw [hq4]; rfl) ?_
  refine hg_8_0 hx hb hts hin_X8 hown kl_10 hI hk5 dX8_become_5 ?_
  obtain ⟨b6, hd7, hf⟩ := bnd_b hf
  obtain ⟨hq8, hk9⟩ := dr_e hd7
  refine W.eq (g2 := F0 m 8 ls [va_rf (gR s0 800 b2), .ref b6]) (by rw [hq8]; rfl) ?_
  obtain ⟨x10, hc11, hf⟩ := bnd_b hf
  refine hcall_Vv (ex2 := True) (As := [va_rf (gR s0 800 b2)]) (rest := []) (n := 1) (by rw [hk9]; decide) (hC_10 hk9) rfl ⟨hx, hb, hml, hown, hts⟩ (ch_X9_become l D cy b6 (gR s0 800 b2) s0 x10 hc11) (cwV 1 hts gX8_become_X9_become rfl rfl rfl ⟨rfl, nd_X9_become⟩ ⟨Nat.le_of_ble_eq_true rfl, Nat.le_of_ble_eq_true rfl⟩) hI (fun h => h.elim) (fun _ => ⟨trivial, trivial⟩) rfl hl.1 (Nat.le_of_ble_eq_true rfl) dX8_become_8 ⟨Nat.le_of_ble_eq_true rfl, Nat.le_of_ble_eq_true rfl⟩ (fun H locs hI => ?_)
  refine lv_aload_n hx hb dX8_become_11 rfl (lv_at hl 0 rfl) ?_
  refine hq_aload_n hx hb dX8_become_12 rfl (lv_at hl 1 rfl) ?_
  refine W.eq (g2 := F0 m 13 ls [.ref b2, .ref h]) (by rw [hq4]; rfl) ?_
  obtain ⟨k12, hf⟩ := chk_b hf
  refine hg_8_1 hx hb hts hin_X8 hown kl_34 hI (isk_k k12) dX8_become_13 ?_
  obtain ⟨k13, hf⟩ := chk_b hf
  refine hp_8_1 hx hb hts hin_X8 hown kl_34 hI (isk_k k13) dX8_become_16 (fun H locs hI => ?_)
  refine lv_aload_n hx hb dX8_become_19 rfl (lv_at hl 0 rfl) ?_
  refine hq_aload_n hx hb dX8_become_20 rfl (lv_at hl 1 rfl) ?_
  refine W.eq (g2 := F0 m 21 ls [.ref b2, .ref h]) (by rw [hq4]; rfl) ?_
  refine hg_8_2 hx hb hts hin_X8 hown kl_38 hI (gK_sI.trans (isk_k k12)) dX8_become_21 ?_
  refine hp_8_2 hx hb hts hin_X8 hown kl_38 hI (gK_sI.trans (isk_k k13)) dX8_become_24 (fun H locs hI => ?_)
  obtain ⟨x14, hx14, hf⟩ := bnd_b hf
  replace hx14 := Option.some.inj hx14
  rw [hx14] at hI
  have hk15 : gK x14 b2 = 9 := by rw [← hx14]; exact (gK_sI.trans (gK_sI.trans (isk_k k12)))
  have hk16 : gK x14 h = 9 := by rw [← hx14]; exact (gK_sI.trans (gK_sI.trans (isk_k k13)))
  refine hq_aload_n hx hb dX8_become_27 rfl (lv_at hl 1 rfl) ?_
  refine W.eq (g2 := F0 m 28 ls [.ref b2]) (by rw [hq4]; rfl) ?_
  refine hg_8_3 hx hb hts hin_X8 hown kl_16 hI hk15 dX8_become_28 ?_
  refine lv_iconst (v := 0) hx hb dX8_become_31 (by decide) ?_
  refine lv_aload_n hx hb dX8_become_32 rfl (lv_at hl 0 rfl) ?_
  refine hg_8_3 hx hb hts hin_X8 hown kl_16 hI hk16 dX8_become_33 ?_
  refine lv_iconst (v := 0) hx hb dX8_become_36 (by decide) ?_
  refine lv_aload_n hx hb dX8_become_37 rfl (lv_at hl 0 rfl) ?_
  refine hg_8_3 hx hb hts hin_X8 hown kl_16 hI hk16 dX8_become_38 ?_
  obtain ⟨b17, hd18, hf⟩ := bnd_b hf
  obtain ⟨hq19, hk20⟩ := dr_e hd18
  refine W.eq (g2 := F0 m 41 ls [.ref b17, .int (0 : Int32), va_rf (gR x14 803 h), .int (0 : Int32), va_rf (gR x14 803 b2)]) (by rw [hq19]; rfl) ?_
  refine ha_22 hx hb hI hk20 dX8_become_41 ?_
  obtain ⟨b21, hd22, hf⟩ := bnd_b hf
  obtain ⟨hq23, hk24⟩ := dr_e hd22
  refine W.eq (g2 := F0 m 42 ls [.int (nI (gL x14 b17)), .int (0 : Int32), va_rf (gR x14 803 h), .int (0 : Int32), .ref b21]) (by rw [hq23]; rfl) ?_
  refine W.eq (g2 := F0 m 42 ls [.int (nI (gL x14 b17)), .int (0 : Int32), .ref b17, .int (0 : Int32), .ref b21]) (by rw [hq19]; rfl) ?_
  obtain ⟨k25, hf⟩ := chk_b hf
  refine h_copy hx hb (hml.trans hl.1.symm) hown (hts (.methodLink RX8 41 arraycopyName) (by decide +kernel)) (hts (.native arraycopyName) (by decide +kernel)) (hts (.static arraycopyName) (by decide +kernel)) (hts (.initialized "java/lang/System") (by decide +kernel)) hI hk24 hk20 k25 (Nat.le_of_ble_eq_true rfl) (Nat.le_of_ble_eq_true rfl) dX8_become_42 (fun H locs hI => ?_)
  obtain ⟨x26, hx26, hf⟩ := bnd_b hf
  replace hx26 := Option.some.inj hx26
  rw [hx26] at hI
  have hk27 : gK x26 b2 = 9 := by rw [← hx26]; exact (gK_sAf.trans hk15)
  have hk28 : gK x26 h = 9 := by rw [← hx26]; exact (gK_sAf.trans hk16)
  have hk29 : gK x26 b17 = 22 := by rw [← hx26]; exact (gK_sAf.trans hk20)
  have hk30 : gK x26 b21 = 22 := by rw [← hx26]; exact (gK_sAf.trans hk24)
  refine hq_aload_n hx hb dX8_become_45 rfl (lv_at hl 1 rfl) ?_
  refine W.eq (g2 := F0 m 46 ls [.ref b2]) (by rw [hq4]; rfl) ?_
  refine hg_8_4 hx hb hts hin_X8 hown kl_20 hI hk27 dX8_become_46 ?_
  refine lv_iconst (v := 0) hx hb dX8_become_49 (by decide) ?_
  refine lv_aload_n hx hb dX8_become_50 rfl (lv_at hl 0 rfl) ?_
  refine hg_8_4 hx hb hts hin_X8 hown kl_20 hI hk28 dX8_become_51 ?_
  refine lv_iconst (v := 0) hx hb dX8_become_54 (by decide) ?_
  refine lv_aload_n hx hb dX8_become_55 rfl (lv_at hl 0 rfl) ?_
  refine hg_8_4 hx hb hts hin_X8 hown kl_20 hI hk28 dX8_become_56 ?_
  obtain ⟨b31, hd32, hf⟩ := bnd_b hf
  obtain ⟨hq33, hk34⟩ := dr_e hd32
  refine W.eq (g2 := F0 m 59 ls [.ref b31, .int (0 : Int32), va_rf (gR x26 804 h), .int (0 : Int32), va_rf (gR x26 804 b2)]) (by rw [hq33]; rfl) ?_
  refine ha_22 hx hb hI hk34 dX8_become_59 ?_
  obtain ⟨b35, hd36, hf⟩ := bnd_b hf
  obtain ⟨hq37, hk38⟩ := dr_e hd36
  refine W.eq (g2 := F0 m 60 ls [.int (nI (gL x26 b31)), .int (0 : Int32), va_rf (gR x26 804 h), .int (0 : Int32), .ref b35]) (by rw [hq37]; rfl) ?_
  refine W.eq (g2 := F0 m 60 ls [.int (nI (gL x26 b31)), .int (0 : Int32), .ref b31, .int (0 : Int32), .ref b35]) (by rw [hq33]; rfl) ?_
  obtain ⟨k39, hf⟩ := chk_b hf
  refine h_copy hx hb (hml.trans hl.1.symm) hown (hts (.methodLink RX8 41 arraycopyName) (by decide +kernel)) (hts (.native arraycopyName) (by decide +kernel)) (hts (.static arraycopyName) (by decide +kernel)) (hts (.initialized "java/lang/System") (by decide +kernel)) hI hk38 hk34 k39 (Nat.le_of_ble_eq_true rfl) (Nat.le_of_ble_eq_true rfl) dX8_become_60 (fun H locs hI => ?_)
  obtain ⟨x40, hx40, hf⟩ := bnd_b hf
  replace hx40 := Option.some.inj hx40
  rw [hx40] at hI
  have hk41 : gK x40 b2 = 9 := by rw [← hx40]; exact (gK_sAf.trans hk27)
  have hk42 : gK x40 h = 9 := by rw [← hx40]; exact (gK_sAf.trans hk28)
  have hk43 : gK x40 b17 = 22 := by rw [← hx40]; exact (gK_sAf.trans hk29)
  have hk44 : gK x40 b21 = 22 := by rw [← hx40]; exact (gK_sAf.trans hk30)
  have hk45 : gK x40 b31 = 22 := by rw [← hx40]; exact (gK_sAf.trans hk34)
  have hk46 : gK x40 b35 = 22 := by rw [← hx40]; exact (gK_sAf.trans hk38)
  exact hret_v hx hb hr hlocks hI (by decide) (by decide) (fun _ => ⟨trivial, rfl⟩) (ret_e hK0 hf) dX8_become_63

noncomputable def fh_X11_back (h : Nat) (a1 : Int32) (s0 : HSt) : Option (HSt × Int32) :=
  (fh_X11_isWithin a1 (0 : Int32) (3 : Int32) s0).bind fun x1 => (if x1.2 = 0 then some (x1.1, (-1 : Int32)) else chk (isk x1.1 h 12) ((dr x1.1 (gR x1.1 1105 h) 26).bind fun b5 => chk (inb a1 (gL x1.1 b5)) ((if (gQ x1.1 b5 a1.toNatClampNeg) = none then some (x1.1, (-1 : Int32)) else ((gQ x1.1 b5 a1.toNatClampNeg)).bind fun b11 => chk (inb a1 (gL x1.1 b5)) ((dr x1.1 (gR x1.1 1104 h) 9).bind fun b14 => (fh_X8_become b14 (gQ x1.1 b5 a1.toNatClampNeg) x1.1).bind fun x18 => chk (isk x18 h 12) ((dr x18 (gR x18 1104 h) 9).bind fun b21 => (dr x18 (gR x18 800 b21) 10).bind fun b25 => some (x18, (gI x18 901 b25))))))))
theorem nd_X11_back : yX11_back.cls ≠ "java/lang/invoke/MethodHandle" ∧ yX11_back.cls ≠ "java/lang/invoke/VarHandle" ∧ (parseMethodDescriptor yX11_back.desc).map (fun d => d.parameters.length) = some 1 := by decide +kernel
set_option maxHeartbeats 4000000 in
set_option maxRecDepth 100000 in
theorem ch_X11_back (l : Launch) (D : va_G) (cy : Nat → ClassId) (h : Nat) (a1 : Int32) (s0 : HSt) (out : HSt × Int32) (hf : fh_X11_back h a1 s0 = some out) : CHi l D cy yX11_back wsX11_back { frames := 3, cells := 0, slots := 0, locals := 103 } 0 0 False True [.ref h, .int a1] s0 out := by
  refine Met.ofW (cc := cX11_back) (maxL := 2) (ret := (some .int)) (by decide) rfl ?_
  intro p e s m args below meth c s₁ B hml hv
  obtain ⟨rfl, hP, hK, hD0, hkx, hsz, hal⟩ := hv
  have hx := B.exec
  have hb := B.bytes
  have hr := B.returns
  have hts := atoms_spec (ws := wsX11_back) B.pre
  have hown : s.vm.findClass RX11 = some m.cls := findClass_of_methodNamed B.named
  have hlocks := B.notSynchronized
  have hI : HI D cy s s0 s0 s.heap [] 0 False True := ⟨hK, hP, hD0.weaken (fun k q hk _ => Or.inl (pl_mem hk)), va_S.rf, hsz.1, hkx, ⟨hsz, hal⟩, fun _ => rfl, Nat.le_refl _⟩
  have hin_X11 : ∀ w ∈ u_ws RX11 TX11 10, w ∈ wsX11_back := fun w hw => List.mem_cons_of_mem _ (List.mem_append_left _ (List.mem_append_left _ (List.mem_append_right _ hw)))
  have hin_X8 : ∀ w ∈ u_ws RX8 TX8 5, w ∈ wsX11_back := fun w hw => List.mem_cons_of_mem _ (List.mem_append_left _ (List.mem_append_right _ hw))
  have hin_X9 : ∀ w ∈ u_ws RX9 TX9 5, w ∈ wsX11_back := fun w hw => List.mem_cons_of_mem _ (List.mem_append_right _ hw)
  have kl_22 : Cond.fieldLink RX11 22 "HalfBridge" "site" "LHalfBridge$Site;" ∈ wsX11_back := by decide +kernel
  have kl_26 : Cond.fieldLink RX11 26 "HalfBridge" "images" "[LHalfBridge$Site;" ∈ wsX11_back := by decide +kernel
  have kl_93 : Cond.fieldLink RX11 93 "HalfBridge$Site" "span" "LHalfBridge$Span;" ∈ wsX11_back := by decide +kernel
  have kl_119 : Cond.fieldLink RX11 119 "HalfBridge$Span" "day" "I" ∈ wsX11_back := by decide +kernel
  have hl := lv_entry ([.ref h, .int a1]) (n := 2) (Nat.le_of_ble_eq_true rfl)
  rw [lg_entry_eq]
  generalize (lg_sl ([.ref h, .int a1]) ++ List.replicate (2 - (lg_sl ([.ref h, .int a1])).length) Slot.unset).toArray = ls at hl ⊢
  have hl : lv_has ls 2 [(0, .ref h), (1, .int a1)] := hl
  obtain ⟨K0, hK0, hf⟩ := top_e hf
  unfold fh_X11_back at hf
  refine lv_iload_n hx hb dX11_back_0 rfl (lv_at hl 1 rfl) ?_
  refine lv_iconst (v := 0) hx hb dX11_back_1 (by decide) ?_
  refine lv_iconst (v := 3) hx hb dX11_back_2 (by decide) ?_
  obtain ⟨x1, hc2, hf⟩ := bnd_b hf
  refine hcall_Si (ex2 := True) (As := [.int a1, .int (0 : Int32), .int (3 : Int32)]) (rest := []) (n := 3) ⟨hx, hb, hml, hown, hts⟩ (ch_X11_isWithin l D cy a1 (0 : Int32) (3 : Int32) s0 x1 hc2) (va_cwS 3 hts gX11_back_X11_isWithin rfl rfl rfl nd_X11_isWithin ⟨Nat.le_of_ble_eq_true rfl, Nat.le_of_ble_eq_true rfl⟩) hI (fun h => h.elim) (fun _ => ⟨trivial, trivial⟩) rfl hl.1 (Nat.le_of_ble_eq_true rfl) dX11_back_3 ⟨Nat.le_of_ble_eq_true rfl, Nat.le_of_ble_eq_true rfl⟩ (fun H locs hI => ?_)
  refine lv_if_eq (tgt := 18) hx hb dX11_back_6 (by decide) (fun c3 => ?_) (fun c3 => ?_)
  · replace hf := ifp c3 hf
    refine lv_iconst (v := -1) hx hb dX11_back_18 (by decide) ?_
    exact hret_i hx hb hr hlocks hI (by decide) (by decide) (fun _ => ⟨trivial, rfl⟩) (ret_e hK0 hf) dX11_back_19
  · replace hf := ifn c3 hf
    refine lv_aload_n hx hb dX11_back_9 rfl (lv_at hl 0 rfl) ?_
    obtain ⟨k4, hf⟩ := chk_b hf
    refine hg_11_5 hx hb hts hin_X11 hown kl_26 hI (isk_k k4) dX11_back_10 ?_
    refine lv_iload_n hx hb dX11_back_13 rfl (lv_at hl 1 rfl) ?_
    obtain ⟨b5, hd6, hf⟩ := bnd_b hf
    obtain ⟨hq7, hk8⟩ := dr_e hd6
    refine W.eq (g2 := F0 m 14 ls [.int a1, .ref b5]) (by rw [hq7]; rfl) ?_
    obtain ⟨k9, hf⟩ := chk_b hf
    refine hl_Site hx hb hI hk8 k9 dX11_back_14 ?_
    by_cases c10 : (gQ x1.1 b5 a1.toNatClampNeg) = none
    · replace hf := ifp c10 hf
      refine W.eq (g2 := F0 m 15 ls [.null]) (by rw [c10]; rfl) ?_
      refine lv_ifnonnullN hx hb dX11_back_15 ?_
      refine lv_iconst (v := -1) hx hb dX11_back_18 (by decide) ?_
      exact hret_i hx hb hr hlocks hI (by decide) (by decide) (fun _ => ⟨trivial, rfl⟩) (ret_e hK0 hf) dX11_back_19
    · replace hf := ifn c10 hf
      obtain ⟨b11, hq12, hf⟩ := bnd_b hf
      refine W.eq (g2 := F0 m 15 ls [.ref b11]) (by rw [hq12]; rfl) ?_
      refine lv_ifnonnull (tgt := 20) hx hb dX11_back_15 (by decide) ?_
      refine lv_aload_n hx hb dX11_back_20 rfl (lv_at hl 0 rfl) ?_
      refine hg_11_4 hx hb hts hin_X11 hown kl_22 hI (isk_k k4) dX11_back_21 ?_
      refine lv_aload_n hx hb dX11_back_24 rfl (lv_at hl 0 rfl) ?_
      refine hg_11_5 hx hb hts hin_X11 hown kl_26 hI (isk_k k4) dX11_back_25 ?_
      refine lv_iload_n hx hb dX11_back_28 rfl (lv_at hl 1 rfl) ?_
      refine W.eq (g2 := F0 m 29 ls [.int a1, .ref b5, va_rf (gR x1.1 1104 h)]) (by rw [hq7]; rfl) ?_
      obtain ⟨k13, hf⟩ := chk_b hf
      refine hl_Site hx hb hI hk8 k13 dX11_back_29 ?_
      obtain ⟨b14, hd15, hf⟩ := bnd_b hf
      obtain ⟨hq16, hk17⟩ := dr_e hd15
      refine W.eq (g2 := F0 m 30 ls [va_rf (gQ x1.1 b5 a1.toNatClampNeg), .ref b14]) (by rw [hq16]; rfl) ?_
      obtain ⟨x18, hc19, hf⟩ := bnd_b hf
      refine hcall_Vv (ex2 := True) (As := [va_rf (gQ x1.1 b5 a1.toNatClampNeg)]) (rest := []) (n := 1) (by rw [hk17]; decide) (hC_9 hk17) rfl ⟨hx, hb, hml, hown, hts⟩ (ch_X8_become l D cy b14 (gQ x1.1 b5 a1.toNatClampNeg) x1.1 x18 hc19) (cwV 1 hts gX11_back_X8_become rfl rfl rfl ⟨rfl, nd_X8_become⟩ ⟨Nat.le_of_ble_eq_true rfl, Nat.le_of_ble_eq_true rfl⟩) hI (fun h => h.elim) (fun _ => ⟨trivial, trivial⟩) rfl hl.1 (Nat.le_of_ble_eq_true rfl) dX11_back_30 ⟨Nat.le_of_ble_eq_true rfl, Nat.le_of_ble_eq_true rfl⟩ (fun H locs hI => ?_)
      refine lv_aload_n hx hb dX11_back_33 rfl (lv_at hl 0 rfl) ?_
      obtain ⟨k20, hf⟩ := chk_b hf
      refine hg_11_4 hx hb hts hin_X11 hown kl_22 hI (isk_k k20) dX11_back_34 ?_
      obtain ⟨b21, hd22, hf⟩ := bnd_b hf
      obtain ⟨hq23, hk24⟩ := dr_e hd22
      refine W.eq (g2 := F0 m 37 ls [.ref b21]) (by rw [hq23]; rfl) ?_
      refine hg_8_0 hx hb hts hin_X8 hown kl_93 hI hk24 dX11_back_37 ?_
      obtain ⟨b25, hd26, hf⟩ := bnd_b hf
      obtain ⟨hq27, hk28⟩ := dr_e hd26
      refine W.eq (g2 := F0 m 40 ls [.ref b25]) (by rw [hq27]; rfl) ?_
      refine hg_9_1 hx hb hts hin_X9 hown kl_119 hI hk28 dX11_back_40 ?_
      exact hret_i hx hb hr hlocks hI (by decide) (by decide) (fun _ => ⟨trivial, rfl⟩) (ret_e hK0 hf) dX11_back_43

noncomputable def fh_X11_isSide (a0 : Int32) (s0 : HSt) : Option (HSt × Int32) :=
  (if a0 = 0 then some (s0, (1 : Int32)) else (if a0 = (1 : Int32) then some (s0, (1 : Int32)) else some (s0, (0 : Int32))))
theorem nd_X11_isSide : yX11_isSide.cls ≠ "java/lang/invoke/MethodHandle" ∧ yX11_isSide.cls ≠ "java/lang/invoke/VarHandle" ∧ (parseMethodDescriptor yX11_isSide.desc).map (fun d => d.parameters.length) = some 1 := by decide +kernel
set_option maxHeartbeats 4000000 in
set_option maxRecDepth 100000 in
theorem ch_X11_isSide (l : Launch) (D : va_G) (cy : Nat → ClassId) (a0 : Int32) (s0 : HSt) (out : HSt × Int32) (hf : fh_X11_isSide a0 s0 = some out) : CHi l D cy yX11_isSide wsX11_isSide { frames := 0, cells := 0, slots := 0, locals := 0 } 0 0 False True [.int a0] s0 out := by
  refine Met.ofW (cc := cX11_isSide) (maxL := 1) (ret := (some .boolean)) (by decide) rfl ?_
  intro p e s m args below meth c s₁ B hml hv
  obtain ⟨rfl, hP, hK, hD0, hkx, hsz, hal⟩ := hv
  have hx := B.exec
  have hb := B.bytes
  have hr := B.returns
  have hts := atoms_spec (ws := wsX11_isSide) B.pre
  have hown : s.vm.findClass RX11 = some m.cls := findClass_of_methodNamed B.named
  have hlocks := B.notSynchronized
  have hI : HI D cy s s0 s0 s.heap [] 0 False True := ⟨hK, hP, hD0.weaken (fun k q hk _ => Or.inl (pl_mem hk)), va_S.rf, hsz.1, hkx, ⟨hsz, hal⟩, fun _ => rfl, Nat.le_refl _⟩
  have hl := lv_entry ([.int a0]) (n := 1) (Nat.le_of_ble_eq_true rfl)
  rw [lg_entry_eq]
  generalize (lg_sl ([.int a0]) ++ List.replicate (1 - (lg_sl ([.int a0])).length) Slot.unset).toArray = ls at hl ⊢
  have hl : lv_has ls 1 [(0, .int a0)] := hl
  obtain ⟨K0, hK0, hf⟩ := top_e hf
  unfold fh_X11_isSide at hf
  refine lv_iload_n hx hb dX11_isSide_0 rfl (lv_at hl 0 rfl) ?_
  refine lv_if_eq (tgt := 9) hx hb dX11_isSide_1 (by decide) (fun c1 => ?_) (fun c1 => ?_)
  · replace hf := ifp c1 hf
    refine lv_iconst (v := 1) hx hb dX11_isSide_9 (by decide) ?_
    refine lv_goto (tgt := 14) hx hb dX11_isSide_10 (by decide) ?_
    exact hret_z hx hb hr (by decide) hlocks hI (by decide) (by decide) (fun _ => ⟨trivial, rfl⟩) (ret_e hK0 hf) dX11_isSide_14
  · replace hf := ifn c1 hf
    refine lv_iload_n hx hb dX11_isSide_4 rfl (lv_at hl 0 rfl) ?_
    refine lv_iconst (v := 1) hx hb dX11_isSide_5 (by decide) ?_
    refine lv_icmp_ne (tgt := 13) hx hb dX11_isSide_6 (by decide) (fun c2 => ?_) (fun c2 => ?_)
    · replace hf := ifn c2 hf
      refine lv_iconst (v := 0) hx hb dX11_isSide_13 (by decide) ?_
      exact hret_z hx hb hr (by decide) hlocks hI (by decide) (by decide) (fun _ => ⟨trivial, rfl⟩) (ret_e hK0 hf) dX11_isSide_14
    · replace hf := ifp c2 hf
      refine lv_iconst (v := 1) hx hb dX11_isSide_9 (by decide) ?_
      refine lv_goto (tgt := 14) hx hb dX11_isSide_10 (by decide) ?_
      exact hret_z hx hb hr (by decide) hlocks hI (by decide) (by decide) (fun _ => ⟨trivial, rfl⟩) (ret_e hK0 hf) dX11_isSide_14

noncomputable def fh_X11_build (h : Nat) (a1 : Int32) (a2 : Int32) (a3 : Int32) (s0 : HSt) : Option (HSt × Int32) :=
  chk (isk s0 h 12) ((dr s0 (gR s0 1104 h) 9).bind fun b2 => (dr s0 (gR s0 800 b2) 10).bind fun b6 => (dr s0 (gR s0 900 b6) 5).bind fun b10 => (fh_X11_hasRiver h s0).bind fun x14 => (if x14.2 = 0 then some (x14.1, (0 : Int32)) else (fh_X11_isSide a1 x14.1).bind fun x17 => (if x17.2 = 0 then some (x17.1, (0 : Int32)) else (fh_X11_isWithin a2 (-(gI s0 401 b10)) (gI s0 401 b10) x17.1).bind fun x20 => (if x20.2 = 0 then some (x20.1, (0 : Int32)) else (fh_X11_isWithin a3 (-(gI s0 401 b10)) (gI s0 401 b10) x20.1).bind fun x23 => (if x23.2 = 0 then some (x23.1, (0 : Int32)) else chk (isk x23.1 h 12) ((dr x23.1 (gR x23.1 1104 h) 9).bind fun b27 => (dr x23.1 (gR x23.1 800 b27) 10).bind fun b31 => (fh_X9_add b31 a1 a2 a3 x23.1).bind fun x35 => chk (isb x35.2) (some (x35.1, x35.2))))))))
theorem nd_X11_build : yX11_build.cls ≠ "java/lang/invoke/MethodHandle" ∧ yX11_build.cls ≠ "java/lang/invoke/VarHandle" ∧ (parseMethodDescriptor yX11_build.desc).map (fun d => d.parameters.length) = some 3 := by decide +kernel
set_option maxHeartbeats 4000000 in
set_option maxRecDepth 100000 in
theorem ch_X11_build (l : Launch) (D : va_G) (cy : Nat → ClassId) (h : Nat) (a1 : Int32) (a2 : Int32) (a3 : Int32) (s0 : HSt) (out : HSt × Int32) (hf : fh_X11_build h a1 a2 a3 s0 = some out) : CHi l D cy yX11_build wsX11_build { frames := 2, cells := 0, slots := 0, locals := 46 } 0 0 False True [.ref h, .int a1, .int a2, .int a3] s0 out := by
  refine Met.ofW (cc := cX11_build) (maxL := 5) (ret := (some .boolean)) (by decide) rfl ?_
  intro p e s m args below meth c s₁ B hml hv
  obtain ⟨rfl, hP, hK, hD0, hkx, hsz, hal⟩ := hv
  have hx := B.exec
  have hb := B.bytes
  have hr := B.returns
  have hts := atoms_spec (ws := wsX11_build) B.pre
  have hown : s.vm.findClass RX11 = some m.cls := findClass_of_methodNamed B.named
  have hlocks := B.notSynchronized
  have hI : HI D cy s s0 s0 s.heap [] 0 False True := ⟨hK, hP, hD0.weaken (fun k q hk _ => Or.inl (pl_mem hk)), va_S.rf, hsz.1, hkx, ⟨hsz, hal⟩, fun _ => rfl, Nat.le_refl _⟩
  have hin_X11 : ∀ w ∈ u_ws RX11 TX11 10, w ∈ wsX11_build := fun w hw => List.mem_cons_of_mem _ (List.mem_append_left _ (List.mem_append_left _ (List.mem_append_left _ (List.mem_append_right _ hw))))
  have hin_X4 : ∀ w ∈ u_ws RX4 TX4 9, w ∈ wsX11_build := fun w hw => List.mem_cons_of_mem _ (List.mem_append_right _ hw)
  have hin_X8 : ∀ w ∈ u_ws RX8 TX8 5, w ∈ wsX11_build := fun w hw => List.mem_cons_of_mem _ (List.mem_append_left _ (List.mem_append_left _ (List.mem_append_right _ hw)))
  have hin_X9 : ∀ w ∈ u_ws RX9 TX9 5, w ∈ wsX11_build := fun w hw => List.mem_cons_of_mem _ (List.mem_append_left _ (List.mem_append_right _ hw))
  have kl_22 : Cond.fieldLink RX11 22 "HalfBridge" "site" "LHalfBridge$Site;" ∈ wsX11_build := by decide +kernel
  have kl_93 : Cond.fieldLink RX11 93 "HalfBridge$Site" "span" "LHalfBridge$Span;" ∈ wsX11_build := by decide +kernel
  have kl_140 : Cond.fieldLink RX11 140 "HalfBridge$Span" "river" "LHalfBridge$River;" ∈ wsX11_build := by decide +kernel
  have kl_156 : Cond.fieldLink RX11 156 "HalfBridge$River" "step" "I" ∈ wsX11_build := by decide +kernel
  have hl := lv_entry ([.ref h, .int a1, .int a2, .int a3]) (n := 5) (Nat.le_of_ble_eq_true rfl)
  rw [lg_entry_eq]
  generalize (lg_sl ([.ref h, .int a1, .int a2, .int a3]) ++ List.replicate (5 - (lg_sl ([.ref h, .int a1, .int a2, .int a3])).length) Slot.unset).toArray = ls at hl ⊢
  have hl : lv_has ls 5 [(0, .ref h), (1, .int a1), (2, .int a2), (3, .int a3)] := hl
  obtain ⟨K0, hK0, hf⟩ := top_e hf
  unfold fh_X11_build at hf
  refine lv_aload_n hx hb dX11_build_0 rfl (lv_at hl 0 rfl) ?_
  obtain ⟨k1, hf⟩ := chk_b hf
  refine hg_11_4 hx hb hts hin_X11 hown kl_22 hI (isk_k k1) dX11_build_1 ?_
  obtain ⟨b2, hd3, hf⟩ := bnd_b hf
  obtain ⟨hq4, hk5⟩ := dr_e hd3
  refine W.eq (g2 := F0 m 4 ls [.ref b2]) (by rw [hq4]; rfl) ?_
  refine hg_8_0 hx hb hts hin_X8 hown kl_93 hI hk5 dX11_build_4 ?_
  obtain ⟨b6, hd7, hf⟩ := bnd_b hf
  obtain ⟨hq8, hk9⟩ := dr_e hd7
  refine W.eq (g2 := F0 m 7 ls [.ref b6]) (by rw [hq8]; rfl) ?_
  refine hg_9_0 hx hb hts hin_X9 hown kl_140 hI hk9 dX11_build_7 ?_
  obtain ⟨b10, hd11, hf⟩ := bnd_b hf
  obtain ⟨hq12, hk13⟩ := dr_e hd11
  refine W.eq (g2 := F0 m 10 ls [.ref b10]) (by rw [hq12]; rfl) ?_
  refine hg_4_1 hx hb hts hin_X4 hown kl_156 hI hk13 dX11_build_10 ?_
  refine lv_istore (lv' := [(4, .int (gI s0 401 b10)), (0, .ref h), (1, .int a1), (2, .int a2), (3, .int a3)]) hx hb dX11_build_13 hl (by decide) rfl (fun ls hl => ?_)
  refine lv_aload_n hx hb dX11_build_15 rfl (lv_at hl 1 rfl) ?_
  obtain ⟨x14, hc15, hf⟩ := bnd_b hf
  refine hcall_Vi (ex2 := True) (As := []) (rest := []) (n := 0) (by rw [(isk_k k1)]; decide) (hC_12 (isk_k k1)) rfl ⟨hx, hb, hml, hown, hts⟩ (ch_X11_hasRiver l D cy h s0 x14 hc15) (cwV 0 hts gX11_build_X11_hasRiver rfl rfl rfl ⟨rfl, nd_X11_hasRiver⟩ ⟨Nat.le_of_ble_eq_true rfl, Nat.le_of_ble_eq_true rfl⟩) hI (fun h => h.elim) (fun _ => ⟨trivial, trivial⟩) rfl hl.1 (Nat.le_of_ble_eq_true rfl) dX11_build_16 ⟨Nat.le_of_ble_eq_true rfl, Nat.le_of_ble_eq_true rfl⟩ (fun H locs hI => ?_)
  refine lv_if_eq (tgt := 53) hx hb dX11_build_19 (by decide) (fun c16 => ?_) (fun c16 => ?_)
  · replace hf := ifp c16 hf
    refine lv_iconst (v := 0) hx hb dX11_build_53 (by decide) ?_
    exact hret_z hx hb hr (by decide) hlocks hI (by decide) (by decide) (fun _ => ⟨trivial, rfl⟩) (ret_e hK0 hf) dX11_build_54
  · replace hf := ifn c16 hf
    refine lv_iload_n hx hb dX11_build_22 rfl (lv_at hl 2 rfl) ?_
    obtain ⟨x17, hc18, hf⟩ := bnd_b hf
    refine hcall_Si (ex2 := True) (As := [.int a1]) (rest := []) (n := 1) ⟨hx, hb, hml, hown, hts⟩ (ch_X11_isSide l D cy a1 x14.1 x17 hc18) (va_cwS 1 hts gX11_build_X11_isSide rfl rfl rfl nd_X11_isSide ⟨Nat.le_of_ble_eq_true rfl, Nat.le_of_ble_eq_true rfl⟩) hI (fun h => h.elim) (fun _ => ⟨trivial, trivial⟩) rfl hl.1 (Nat.le_of_ble_eq_true rfl) dX11_build_23 ⟨Nat.le_of_ble_eq_true rfl, Nat.le_of_ble_eq_true rfl⟩ (fun H locs hI => ?_)
    refine lv_if_eq (tgt := 53) hx hb dX11_build_26 (by decide) (fun c19 => ?_) (fun c19 => ?_)
    · replace hf := ifp c19 hf
      refine lv_iconst (v := 0) hx hb dX11_build_53 (by decide) ?_
      exact hret_z hx hb hr (by decide) hlocks hI (by decide) (by decide) (fun _ => ⟨trivial, rfl⟩) (ret_e hK0 hf) dX11_build_54
    · replace hf := ifn c19 hf
      refine lv_iload_n hx hb dX11_build_29 rfl (lv_at hl 3 rfl) ?_
      refine lv_iload hx hb dX11_build_30 (lv_at hl 0 rfl) ?_
      refine lv_ineg hx hb dX11_build_32 ?_
      refine lv_iload hx hb dX11_build_33 (lv_at hl 0 rfl) ?_
      obtain ⟨x20, hc21, hf⟩ := bnd_b hf
      refine hcall_Si (ex2 := True) (As := [.int a2, .int (-(gI s0 401 b10)), .int (gI s0 401 b10)]) (rest := []) (n := 3) ⟨hx, hb, hml, hown, hts⟩ (ch_X11_isWithin l D cy a2 (-(gI s0 401 b10)) (gI s0 401 b10) x17.1 x20 hc21) (va_cwS 3 hts gX11_build_X11_isWithin rfl rfl rfl nd_X11_isWithin ⟨Nat.le_of_ble_eq_true rfl, Nat.le_of_ble_eq_true rfl⟩) hI (fun h => h.elim) (fun _ => ⟨trivial, trivial⟩) rfl hl.1 (Nat.le_of_ble_eq_true rfl) dX11_build_35 ⟨Nat.le_of_ble_eq_true rfl, Nat.le_of_ble_eq_true rfl⟩ (fun H locs hI => ?_)
      refine lv_if_eq (tgt := 53) hx hb dX11_build_38 (by decide) (fun c22 => ?_) (fun c22 => ?_)
      · replace hf := ifp c22 hf
        refine lv_iconst (v := 0) hx hb dX11_build_53 (by decide) ?_
        exact hret_z hx hb hr (by decide) hlocks hI (by decide) (by decide) (fun _ => ⟨trivial, rfl⟩) (ret_e hK0 hf) dX11_build_54
      · replace hf := ifn c22 hf
        refine lv_iload_n hx hb dX11_build_41 rfl (lv_at hl 4 rfl) ?_
        refine lv_iload hx hb dX11_build_42 (lv_at hl 0 rfl) ?_
        refine lv_ineg hx hb dX11_build_44 ?_
        refine lv_iload hx hb dX11_build_45 (lv_at hl 0 rfl) ?_
        obtain ⟨x23, hc24, hf⟩ := bnd_b hf
        refine hcall_Si (ex2 := True) (As := [.int a3, .int (-(gI s0 401 b10)), .int (gI s0 401 b10)]) (rest := []) (n := 3) ⟨hx, hb, hml, hown, hts⟩ (ch_X11_isWithin l D cy a3 (-(gI s0 401 b10)) (gI s0 401 b10) x20.1 x23 hc24) (va_cwS 3 hts gX11_build_X11_isWithin rfl rfl rfl nd_X11_isWithin ⟨Nat.le_of_ble_eq_true rfl, Nat.le_of_ble_eq_true rfl⟩) hI (fun h => h.elim) (fun _ => ⟨trivial, trivial⟩) rfl hl.1 (Nat.le_of_ble_eq_true rfl) dX11_build_47 ⟨Nat.le_of_ble_eq_true rfl, Nat.le_of_ble_eq_true rfl⟩ (fun H locs hI => ?_)
        refine lv_if_ne (tgt := 55) hx hb dX11_build_50 (by decide) (fun c25 => ?_) (fun c25 => ?_)
        · replace hf := ifn c25 hf
          refine lv_aload_n hx hb dX11_build_55 rfl (lv_at hl 1 rfl) ?_
          obtain ⟨k26, hf⟩ := chk_b hf
          refine hg_11_4 hx hb hts hin_X11 hown kl_22 hI (isk_k k26) dX11_build_56 ?_
          obtain ⟨b27, hd28, hf⟩ := bnd_b hf
          obtain ⟨hq29, hk30⟩ := dr_e hd28
          refine W.eq (g2 := F0 m 59 ls [.ref b27]) (by rw [hq29]; rfl) ?_
          refine hg_8_0 hx hb hts hin_X8 hown kl_93 hI hk30 dX11_build_59 ?_
          refine lv_iload_n hx hb dX11_build_62 rfl (lv_at hl 2 rfl) ?_
          refine lv_iload_n hx hb dX11_build_63 rfl (lv_at hl 3 rfl) ?_
          refine lv_iload_n hx hb dX11_build_64 rfl (lv_at hl 4 rfl) ?_
          obtain ⟨b31, hd32, hf⟩ := bnd_b hf
          obtain ⟨hq33, hk34⟩ := dr_e hd32
          refine W.eq (g2 := F0 m 65 ls [.int a3, .int a2, .int a1, .ref b31]) (by rw [hq33]; rfl) ?_
          obtain ⟨x35, hc36, hf⟩ := bnd_b hf
          refine hcall_Vi (ex2 := True) (As := [.int a1, .int a2, .int a3]) (rest := []) (n := 3) (by rw [hk34]; decide) (hC_10 hk34) rfl ⟨hx, hb, hml, hown, hts⟩ (ch_X9_add l D cy b31 a1 a2 a3 x23.1 x35 hc36) (cwV 3 hts gX11_build_X9_add rfl rfl rfl ⟨rfl, nd_X9_add⟩ ⟨Nat.le_of_ble_eq_true rfl, Nat.le_of_ble_eq_true rfl⟩) hI (fun h => h.elim) (fun _ => ⟨trivial, trivial⟩) rfl hl.1 (Nat.le_of_ble_eq_true rfl) dX11_build_65 ⟨Nat.le_of_ble_eq_true rfl, Nat.le_of_ble_eq_true rfl⟩ (fun H locs hI => ?_)
          obtain ⟨k37, hf⟩ := chk_b hf
          exact hret_z hx hb hr (isb_nar k37) hlocks hI (by decide) (by decide) (fun _ => ⟨trivial, rfl⟩) (ret_e hK0 hf) dX11_build_68
        · replace hf := ifp c25 hf
          refine lv_iconst (v := 0) hx hb dX11_build_53 (by decide) ?_
          exact hret_z hx hb hr (by decide) hlocks hI (by decide) (by decide) (fun _ => ⟨trivial, rfl⟩) (ret_e hK0 hf) dX11_build_54
