theorem nd_X7_readClause : yX7_readClause.cls ≠ "java/lang/invoke/MethodHandle" ∧ yX7_readClause.cls ≠ "java/lang/invoke/VarHandle" ∧ (parseMethodDescriptor yX7_readClause.desc).map (fun d => d.parameters.length) = some 1 := by decide +kernel
set_option maxHeartbeats 4000000 in
set_option maxRecDepth 100000 in
theorem ch_X7_readClause (l : Launch) (D : va_G) (cy : Nat → ClassId) (h : Nat) (a1 : Int32) (s0 : HSt) (out : HSt) (hf : fh_X7_readClause h a1 s0 = some out) : CHv l D cy yX7_readClause wsX7_readClause { frames := 93, cells := 0, slots := 0, locals := 4023 } 0 0 False True [.ref h, .int a1] s0 out := by
  refine Met.ofW (cc := cX7_readClause) (maxL := 4) (ret := none) (by decide) rfl ?_
  intro p e s m args below meth c s₁ B hml hv
  obtain ⟨rfl, hP, hK, hD0, hkx, hsz, hal⟩ := hv
  have hx := B.exec
  have hb := B.bytes
  have hr := B.returns
  have hts := atoms_spec (ws := wsX7_readClause) B.pre
  have hown : s.vm.findClass RX7 = some m.cls := findClass_of_methodNamed B.named
  have hlocks := B.notSynchronized
  have hI : HI D cy s s0 s0 s.heap [] 0 False True := ⟨hK, hP, hD0.weaken (fun k q hk _ => Or.inl (pl_mem hk)), va_S.rf, hsz.1, hkx, ⟨hsz, hal⟩, fun _ => rfl, Nat.le_refl _⟩
  have hin_X7 : ∀ w ∈ u_ws RX7 TX7 7, w ∈ wsX7_readClause := fun w hw => List.mem_cons_of_mem _ (List.mem_append_left _ (List.mem_append_right _ hw))
  have kl_11 : Cond.fieldLink RX7 11 "HalfBridge$RuleReader" "kinds" "[I" ∈ wsX7_readClause := by decide +kernel
  have kl_17 : Cond.fieldLink RX7 17 "HalfBridge$RuleReader" "starts" "[I" ∈ wsX7_readClause := by decide +kernel
  have kl_20 : Cond.fieldLink RX7 20 "HalfBridge$RuleReader" "tests" "[I" ∈ wsX7_readClause := by decide +kernel
  have kl_26 : Cond.fieldLink RX7 26 "HalfBridge$RuleReader" "tokens" "LHalfBridge$Tokens;" ∈ wsX7_readClause := by decide +kernel
  have kl_30 : Cond.fieldLink RX7 30 "HalfBridge$RuleReader" "size" "I" ∈ wsX7_readClause := by decide +kernel
  have hl := lv_entry ([.ref h, .int a1]) (n := 4) (Nat.le_of_ble_eq_true rfl)
  rw [lg_entry_eq]
  generalize (lg_sl ([.ref h, .int a1]) ++ List.replicate (4 - (lg_sl ([.ref h, .int a1])).length) Slot.unset).toArray = ls at hl ⊢
  have hl : lv_has ls 4 [(0, .ref h), (1, .int a1)] := hl
  obtain ⟨K0, hK0, hf⟩ := top_e hf
  have B_145 : ∀ (v1 : Int32)  (st : HSt) (H : Heap) (locs : List Loc) (ls : Array Slot), HI D cy s s0 st H locs 0 False True → lv_has ls 4 [(0, .ref h), (1, .int v1)] → (fh_X7_readClause_j145 h v1 st).bind K0 = some out → W p l e (headSpec wsX7_readClause { frames := 93, cells := 0, slots := 0, locals := 4023 }).room s m (([.ref h, .int a1] : List Value).toArray) below meth c H locs 0 0 (MQ below (HQv D cy s0 0 True out) ([.ref h, .int a1] : List Value).toArray s 0 0 (hF s0)) (F0 m 145 ls []) := by
    intro v1 st H locs ls hI hl hf
    unfold fh_X7_readClause_j145 at hf
    refine lv_aload_n hx hb dX7_readClause_145 rfl (lv_at hl 0 rfl) ?_
    obtain ⟨k56, hf⟩ := chk_b hf
    refine hg_7_2 hx hb hts hin_X7 hown kl_17 hI (isk_k k56) dX7_readClause_146 ?_
    refine lv_iload_n hx hb dX7_readClause_149 rfl (lv_at hl 1 rfl) ?_
    refine lv_iconst (v := 1) hx hb dX7_readClause_150 (by decide) ?_
    refine lv_iadd hx hb dX7_readClause_151 ?_
    refine lv_aload_n hx hb dX7_readClause_152 rfl (lv_at hl 0 rfl) ?_
    refine hg_7_5 hx hb hts hin_X7 hown kl_30 hI (isk_k k56) dX7_readClause_153 ?_
    obtain ⟨b57, hd58, hf⟩ := bnd_b hf
    obtain ⟨hq59, hk60⟩ := dr_e hd58
    refine W.eq (g2 := F0 m 156 ls [.int (gI st 705 h), .int (v1 + (1 : Int32)), .ref b57]) (by rw [hq59]; rfl) ?_
    obtain ⟨k61, hf⟩ := chk_b hf
    refine hs_I hx hb hI hk60 k61 dX7_readClause_156 (fun H locs hI => ?_)
    exact hret_v hx hb hr hlocks hI (by decide) (by decide) (fun _ => ⟨trivial, rfl⟩) (ret_e hK0 hf) dX7_readClause_157
  have B_98 : ∀ (v1 : Int32) (v3 : Int32)  (st : HSt) (H : Heap) (locs : List Loc) (ls : Array Slot), HI D cy s s0 st H locs 0 False True → lv_has ls 4 [(0, .ref h), (1, .int v1), (3, .int v3)] → (fh_X7_readClause_j98 h v1 v3 st).bind K0 = some out → W p l e (headSpec wsX7_readClause { frames := 93, cells := 0, slots := 0, locals := 4023 }).room s m (([.ref h, .int a1] : List Value).toArray) below meth c H locs 0 0 (MQ below (HQv D cy s0 0 True out) ([.ref h, .int a1] : List Value).toArray s 0 0 (hF s0)) (F0 m 98 ls []) := by
    intro v1 v3 st H locs ls hI hl hf
    unfold fh_X7_readClause_j98 at hf
    refine lv_aload_n hx hb dX7_readClause_98 rfl (lv_at hl 0 rfl) ?_
    obtain ⟨k42, hf⟩ := chk_b hf
    refine hg_7_3 hx hb hts hin_X7 hown kl_20 hI (isk_k k42) dX7_readClause_99 ?_
    refine lv_iload_n hx hb dX7_readClause_102 rfl (lv_at hl 1 rfl) ?_
    refine lv_aload_n hx hb dX7_readClause_103 rfl (lv_at hl 0 rfl) ?_
    refine hg_7_5 hx hb hts hin_X7 hown kl_30 hI (isk_k k42) dX7_readClause_104 ?_
    obtain ⟨b43, hd44, hf⟩ := bnd_b hf
    obtain ⟨hq45, hk46⟩ := dr_e hd44
    refine W.eq (g2 := F0 m 107 ls [.int (gI st 705 h), .int v1, .ref b43]) (by rw [hq45]; rfl) ?_
    obtain ⟨k47, hf⟩ := chk_b hf
    refine hs_I hx hb hI hk46 k47 dX7_readClause_107 (fun H locs hI => ?_)
    refine lv_iload_n hx hb dX7_readClause_108 rfl (lv_at hl 2 rfl) ?_
    refine lv_if_ne (tgt := 120) hx hb dX7_readClause_109 (by decide) (fun c48 => ?_) (fun c48 => ?_)
    · replace hf := ifn c48 hf
      refine lv_aload_n hx hb dX7_readClause_120 rfl (lv_at hl 0 rfl) ?_
      refine hg_7_0 hx hb hts hin_X7 hown kl_26 hI (gK_sA.trans (isk_k k42)) dX7_readClause_121 ?_
      obtain ⟨b49, hd50, hf⟩ := bnd_b hf
      obtain ⟨hq51, hk52⟩ := dr_e hd50
      refine W.eq (g2 := F0 m 124 ls [.ref b49]) (by rw [hq51]; rfl) ?_
      obtain ⟨x53, hc54, hf⟩ := bnd_b hf
      refine hcall_Vi (ex2 := True) (As := []) (rest := []) (n := 0) (by rw [(gK_sA.trans hk52)]; decide) (hC_11 (gK_sA.trans hk52)) rfl ⟨hx, hb, hml, hown, hts⟩ (ch_X10_kind l D cy b49 (sA st b43 v1.toNatClampNeg (gI st 705 h)) x53 hc54) (cwV 0 hts gX7_readClause_X10_kind rfl rfl rfl ⟨rfl, nd_X10_kind⟩ ⟨Nat.le_of_ble_eq_true rfl, Nat.le_of_ble_eq_true rfl⟩) hI (fun h => h.elim) (fun _ => ⟨trivial, trivial⟩) rfl hl.1 (Nat.le_of_ble_eq_true rfl) dX7_readClause_124 ⟨Nat.le_of_ble_eq_true rfl, Nat.le_of_ble_eq_true rfl⟩ (fun H locs hI => ?_)
      refine lv_sipush (v := 266) hx hb dX7_readClause_127 (by decide) ?_
      refine lv_icmp_ne (tgt := 145) hx hb dX7_readClause_130 (by decide) (fun c55 => ?_) (fun c55 => ?_)
      · replace hf := ifn c55 hf
        exact B_145 v1 x53.1 H locs ls hI (lv_sub hl [0, 1] rfl) hf
      · replace hf := ifp c55 hf
        refine lv_aload_n hx hb dX7_readClause_133 rfl (lv_at hl 0 rfl) ?_
        obtain ⟨k62, hf⟩ := chk_b hf
        refine hg_7_0 hx hb hts hin_X7 hown kl_26 hI (isk_k k62) dX7_readClause_134 ?_
        obtain ⟨b63, hd64, hf⟩ := bnd_b hf
        obtain ⟨hq65, hk66⟩ := dr_e hd64
        refine W.eq (g2 := F0 m 137 ls [.ref b63]) (by rw [hq65]; rfl) ?_
        obtain ⟨x67, hc68, hf⟩ := bnd_b hf
        refine hcall_Vv (ex2 := True) (As := []) (rest := []) (n := 0) (by rw [hk66]; decide) (hC_11 hk66) rfl ⟨hx, hb, hml, hown, hts⟩ (ch_X10_next l D cy b63 x53.1 x67 hc68) (cwV 0 hts gX7_readClause_X10_next rfl rfl rfl ⟨rfl, nd_X10_next⟩ ⟨Nat.le_of_ble_eq_true rfl, Nat.le_of_ble_eq_true rfl⟩) hI (fun h => h.elim) (fun _ => ⟨trivial, trivial⟩) rfl hl.1 (Nat.le_of_ble_eq_true rfl) dX7_readClause_137 ⟨Nat.le_of_ble_eq_true rfl, Nat.le_of_ble_eq_true rfl⟩ (fun H locs hI => ?_)
        refine lv_aload_n hx hb dX7_readClause_140 rfl (lv_at hl 0 rfl) ?_
        refine lv_iconst (v := 0) hx hb dX7_readClause_141 (by decide) ?_
        obtain ⟨k69, hf⟩ := chk_b hf
        obtain ⟨x70, hc71, hf⟩ := bnd_b hf
        refine hcall_Vv (ex2 := True) (As := [.int (0 : Int32)]) (rest := []) (n := 1) (by rw [(isk_k k69)]; decide) (hC_8 (isk_k k69)) rfl ⟨hx, hb, hml, hown, hts⟩ (ch_X7_readTest l D cy 12 h (0 : Int32) x67 x70 hc71) (cwV 1 hts gX7_readClause_X7_readTest rfl rfl rfl ⟨rfl, nd_X7_readTest⟩ ⟨Nat.le_of_ble_eq_true rfl, Nat.le_of_ble_eq_true rfl⟩) hI (fun h => h.elim) (fun _ => ⟨trivial, trivial⟩) rfl hl.1 (Nat.le_of_ble_eq_true rfl) dX7_readClause_142 ⟨Nat.le_of_ble_eq_true rfl, Nat.le_of_ble_eq_true rfl⟩ (fun H locs hI => ?_)
        exact B_145 v1 x70 H locs ls hI (lv_sub hl [0, 1] rfl) hf
    · replace hf := ifp c48 hf
      refine lv_aload_n hx hb dX7_readClause_112 rfl (lv_at hl 0 rfl) ?_
      refine lv_iconst (v := 0) hx hb dX7_readClause_113 (by decide) ?_
      obtain ⟨x72, hc73, hf⟩ := bnd_b hf
      refine hcall_Vv (ex2 := True) (As := [.int (0 : Int32)]) (rest := []) (n := 1) (by rw [(gK_sA.trans (isk_k k42))]; decide) (hC_8 (gK_sA.trans (isk_k k42))) rfl ⟨hx, hb, hml, hown, hts⟩ (ch_X7_readTest l D cy 12 h (0 : Int32) (sA st b43 v1.toNatClampNeg (gI st 705 h)) x72 hc73) (cwV 1 hts gX7_readClause_X7_readTest rfl rfl rfl ⟨rfl, nd_X7_readTest⟩ ⟨Nat.le_of_ble_eq_true rfl, Nat.le_of_ble_eq_true rfl⟩) hI (fun h => h.elim) (fun _ => ⟨trivial, trivial⟩) rfl hl.1 (Nat.le_of_ble_eq_true rfl) dX7_readClause_114 ⟨Nat.le_of_ble_eq_true rfl, Nat.le_of_ble_eq_true rfl⟩ (fun H locs hI => ?_)
      refine lv_goto (tgt := 145) hx hb dX7_readClause_117 (by decide) ?_
      exact B_145 v1 x72 H locs ls hI (lv_sub hl [0, 1] rfl) hf
  have B_89_1 : ∀ (v1 : Int32) (t0 : Int32) (st : HSt) (H : Heap) (locs : List Loc) (ls : Array Slot), HI D cy s s0 st H locs 0 False True → lv_has ls 4 [(0, .ref h), (1, .int v1)] → (fh_X7_readClause_j89 h v1 t0 st).bind K0 = some out → W p l e (headSpec wsX7_readClause { frames := 93, cells := 0, slots := 0, locals := 4023 }).room s m (([.ref h, .int a1] : List Value).toArray) below meth c H locs 0 0 (MQ below (HQv D cy s0 0 True out) ([.ref h, .int a1] : List Value).toArray s 0 0 (hF s0)) (F0 m 89 ls [.int t0]) := by
    intro v1 t0 st H locs ls hI hl hf
    unfold fh_X7_readClause_j89 at hf
    refine lv_istore_n (lv' := [(3, .int t0), (0, .ref h), (1, .int v1)]) hx hb dX7_readClause_89 rfl hl (by decide) rfl (fun ls hl => ?_)
    refine lv_iload_n hx hb dX7_readClause_90 rfl (lv_at hl 0 rfl) ?_
    refine lv_if_eq (tgt := 98) hx hb dX7_readClause_91 (by decide) (fun c41 => ?_) (fun c41 => ?_)
    · replace hf := ifp c41 hf
      exact B_98 v1 t0 st H locs ls hI (lv_sub hl [1, 2, 0] rfl) hf
    · replace hf := ifn c41 hf
      refine lv_aload_n hx hb dX7_readClause_94 rfl (lv_at hl 1 rfl) ?_
      obtain ⟨k74, hf⟩ := chk_b hf
      obtain ⟨x75, hc76, hf⟩ := bnd_b hf
      refine hcall_Vv (ex2 := True) (As := []) (rest := []) (n := 0) (by rw [(isk_k k74)]; decide) (hC_8 (isk_k k74)) rfl ⟨hx, hb, hml, hown, hts⟩ (ch_X7_readSum l D cy h st x75 hc76) (cwV 0 hts gX7_readClause_X7_readSum rfl rfl rfl ⟨rfl, nd_X7_readSum⟩ ⟨Nat.le_of_ble_eq_true rfl, Nat.le_of_ble_eq_true rfl⟩) hI (fun h => h.elim) (fun _ => ⟨trivial, trivial⟩) rfl hl.1 (Nat.le_of_ble_eq_true rfl) dX7_readClause_95 ⟨Nat.le_of_ble_eq_true rfl, Nat.le_of_ble_eq_true rfl⟩ (fun H locs hI => ?_)
      exact B_98 v1 t0 x75 H locs ls hI (lv_sub hl [1, 2, 0] rfl) hf
  have B_84 : ∀ (v1 : Int32)  (st : HSt) (H : Heap) (locs : List Loc) (ls : Array Slot), HI D cy s s0 st H locs 0 False True → lv_has ls 4 [(0, .ref h), (1, .int v1)] → (fh_X7_readClause_j84 h v1 st).bind K0 = some out → W p l e (headSpec wsX7_readClause { frames := 93, cells := 0, slots := 0, locals := 4023 }).room s m (([.ref h, .int a1] : List Value).toArray) below meth c H locs 0 0 (MQ below (HQv D cy s0 0 True out) ([.ref h, .int a1] : List Value).toArray s 0 0 (hF s0)) (F0 m 84 ls []) := by
    intro v1 st H locs ls hI hl hf
    unfold fh_X7_readClause_j84 at hf
    refine lv_iconst (v := 1) hx hb dX7_readClause_84 (by decide) ?_
    refine lv_goto (tgt := 89) hx hb dX7_readClause_85 (by decide) ?_
    exact B_89_1 v1 (1 : Int32) st H locs ls hI (lv_sub hl [0, 1] rfl) hf
  unfold fh_X7_readClause at hf
  refine lv_aload_n hx hb dX7_readClause_0 rfl (lv_at hl 0 rfl) ?_
  obtain ⟨k1, hf⟩ := chk_b hf
  refine hg_7_0 hx hb hts hin_X7 hown kl_26 hI (isk_k k1) dX7_readClause_1 ?_
  obtain ⟨b2, hd3, hf⟩ := bnd_b hf
  obtain ⟨hq4, hk5⟩ := dr_e hd3
  refine W.eq (g2 := F0 m 4 ls [.ref b2]) (by rw [hq4]; rfl) ?_
  obtain ⟨x6, hc7, hf⟩ := bnd_b hf
  refine hcall_Vi (ex2 := True) (As := []) (rest := []) (n := 0) (by rw [hk5]; decide) (hC_11 hk5) rfl ⟨hx, hb, hml, hown, hts⟩ (ch_X10_kind l D cy b2 s0 x6 hc7) (cwV 0 hts gX7_readClause_X10_kind rfl rfl rfl ⟨rfl, nd_X10_kind⟩ ⟨Nat.le_of_ble_eq_true rfl, Nat.le_of_ble_eq_true rfl⟩) hI (fun h => h.elim) (fun _ => ⟨trivial, trivial⟩) rfl hl.1 (Nat.le_of_ble_eq_true rfl) dX7_readClause_4 ⟨Nat.le_of_ble_eq_true rfl, Nat.le_of_ble_eq_true rfl⟩ (fun H locs hI => ?_)
  refine lv_istore_n (lv' := [(2, .int x6.2), (0, .ref h), (1, .int a1)]) hx hb dX7_readClause_7 rfl hl (by decide) rfl (fun ls hl => ?_)
  refine lv_iload_n hx hb dX7_readClause_8 rfl (lv_at hl 0 rfl) ?_
  refine lv_sipush (v := 262) hx hb dX7_readClause_9 (by decide) ?_
  refine lv_icmp_lt (tgt := 22) hx hb dX7_readClause_12 (by decide) (fun c8 => ?_) (fun c8 => ?_)
  · replace hf := ifp c8 hf
    refine lv_aload_n hx hb dX7_readClause_22 rfl (lv_at hl 1 rfl) ?_
    obtain ⟨k9, hf⟩ := chk_b hf
    refine hg_7_0 hx hb hts hin_X7 hown kl_26 hI (isk_k k9) dX7_readClause_23 ?_
    refine lv_iconst (v := 0) hx hb dX7_readClause_26 (by decide) ?_
    obtain ⟨b10, hd11, hf⟩ := bnd_b hf
    obtain ⟨hq12, hk13⟩ := dr_e hd11
    refine W.eq (g2 := F0 m 27 ls [.int (0 : Int32), .ref b10]) (by rw [hq12]; rfl) ?_
    obtain ⟨x14, hc15, hf⟩ := bnd_b hf
    refine hcall_Vv (ex2 := True) (As := [.int (0 : Int32)]) (rest := []) (n := 1) (by rw [hk13]; decide) (hC_11 hk13) rfl ⟨hx, hb, hml, hown, hts⟩ (ch_X10_fail l D cy b10 (0 : Int32) x6.1 x14 hc15) (cwV 1 hts gX7_readClause_X10_fail rfl rfl rfl ⟨rfl, nd_X10_fail⟩ ⟨Nat.le_of_ble_eq_true rfl, Nat.le_of_ble_eq_true rfl⟩) hI (fun h => h.elim) (fun _ => ⟨trivial, trivial⟩) rfl hl.1 (Nat.le_of_ble_eq_true rfl) dX7_readClause_27 ⟨Nat.le_of_ble_eq_true rfl, Nat.le_of_ble_eq_true rfl⟩ (fun H locs hI => ?_)
    exact hret_v hx hb hr hlocks hI (by decide) (by decide) (fun _ => ⟨trivial, rfl⟩) (ret_e hK0 hf) dX7_readClause_30
  · replace hf := ifn c8 hf
    refine lv_iload_n hx hb dX7_readClause_15 rfl (lv_at hl 0 rfl) ?_
    refine lv_sipush (v := 265) hx hb dX7_readClause_16 (by decide) ?_
    refine lv_icmp_le (tgt := 31) hx hb dX7_readClause_19 (by decide) (fun c16 => ?_) (fun c16 => ?_)
    · replace hf := ifp c16 hf
      refine lv_iload_n hx hb dX7_readClause_31 rfl (lv_at hl 2 rfl) ?_
      refine lv_bipush (v := 12) hx hb dX7_readClause_32 (by decide) ?_
      refine lv_icmp_lt (tgt := 46) hx hb dX7_readClause_34 (by decide) (fun c17 => ?_) (fun c17 => ?_)
      · replace hf := ifp c17 hf
        refine lv_aload_n hx hb dX7_readClause_46 rfl (lv_at hl 1 rfl) ?_
        obtain ⟨k18, hf⟩ := chk_b hf
        refine hg_7_0 hx hb hts hin_X7 hown kl_26 hI (isk_k k18) dX7_readClause_47 ?_
        obtain ⟨b19, hd20, hf⟩ := bnd_b hf
        obtain ⟨hq21, hk22⟩ := dr_e hd20
        refine W.eq (g2 := F0 m 50 ls [.ref b19]) (by rw [hq21]; rfl) ?_
        obtain ⟨x23, hc24, hf⟩ := bnd_b hf
        refine hcall_Vv (ex2 := True) (As := []) (rest := []) (n := 0) (by rw [hk22]; decide) (hC_11 hk22) rfl ⟨hx, hb, hml, hown, hts⟩ (ch_X10_next l D cy b19 x6.1 x23 hc24) (cwV 0 hts gX7_readClause_X10_next rfl rfl rfl ⟨rfl, nd_X10_next⟩ ⟨Nat.le_of_ble_eq_true rfl, Nat.le_of_ble_eq_true rfl⟩) hI (fun h => h.elim) (fun _ => ⟨trivial, trivial⟩) rfl hl.1 (Nat.le_of_ble_eq_true rfl) dX7_readClause_50 ⟨Nat.le_of_ble_eq_true rfl, Nat.le_of_ble_eq_true rfl⟩ (fun H locs hI => ?_)
        refine lv_aload_n hx hb dX7_readClause_53 rfl (lv_at hl 1 rfl) ?_
        obtain ⟨k25, hf⟩ := chk_b hf
        refine hg_7_1 hx hb hts hin_X7 hown kl_11 hI (isk_k k25) dX7_readClause_54 ?_
        refine lv_iload_n hx hb dX7_readClause_57 rfl (lv_at hl 2 rfl) ?_
        refine lv_iload_n hx hb dX7_readClause_58 rfl (lv_at hl 0 rfl) ?_
        obtain ⟨b26, hd27, hf⟩ := bnd_b hf
        obtain ⟨hq28, hk29⟩ := dr_e hd27
        refine W.eq (g2 := F0 m 59 ls [.int x6.2, .int a1, .ref b26]) (by rw [hq28]; rfl) ?_
        obtain ⟨k30, hf⟩ := chk_b hf
        refine hs_I hx hb hI hk29 k30 dX7_readClause_59 (fun H locs hI => ?_)
        refine lv_aload_n hx hb dX7_readClause_60 rfl (lv_at hl 1 rfl) ?_
        refine hg_7_2 hx hb hts hin_X7 hown kl_17 hI (gK_sA.trans (isk_k k25)) dX7_readClause_61 ?_
        refine lv_iload_n hx hb dX7_readClause_64 rfl (lv_at hl 2 rfl) ?_
        refine lv_aload_n hx hb dX7_readClause_65 rfl (lv_at hl 1 rfl) ?_
        refine hg_7_5 hx hb hts hin_X7 hown kl_30 hI (gK_sA.trans (isk_k k25)) dX7_readClause_66 ?_
        obtain ⟨b31, hd32, hf⟩ := bnd_b hf
        obtain ⟨hq33, hk34⟩ := dr_e hd32
        refine W.eq (g2 := F0 m 69 ls [.int (gI (sA x23 b26 a1.toNatClampNeg x6.2) 705 h), .int a1, .ref b31]) (by rw [hq33]; rfl) ?_
        obtain ⟨k35, hf⟩ := chk_b hf
        refine hs_I hx hb hI (gK_sA.trans hk34) k35 dX7_readClause_69 (fun H locs hI => ?_)
        obtain ⟨x36, hx36, hf⟩ := bnd_b hf
        replace hx36 := Option.some.inj hx36
        rw [hx36] at hI
        have hk37 : gK x36 h = 8 := by rw [← hx36]; exact (gK_sA.trans (gK_sA.trans (isk_k k25)))
        have hk38 : gK x36 b26 = 22 := by rw [← hx36]; exact (gK_sA.trans (gK_sA.trans hk29))
        have hk39 : gK x36 b31 = 22 := by rw [← hx36]; exact (gK_sA.trans (gK_sA.trans hk34))
        refine lv_iload_n hx hb dX7_readClause_70 rfl (lv_at hl 0 rfl) ?_
        refine lv_sipush (v := 262) hx hb dX7_readClause_71 (by decide) ?_
        refine lv_icmp_eq (tgt := 84) hx hb dX7_readClause_74 (by decide) (fun c40 => ?_) (fun c40 => ?_)
        · replace hf := ifp c40 hf
          exact B_84 a1 x36 H locs ls hI (lv_sub hl [1, 2] rfl) hf
        · replace hf := ifn c40 hf
          refine lv_iload_n hx hb dX7_readClause_77 rfl (lv_at hl 0 rfl) ?_
          refine lv_sipush (v := 263) hx hb dX7_readClause_78 (by decide) ?_
          refine lv_icmp_ne (tgt := 88) hx hb dX7_readClause_81 (by decide) (fun c77 => ?_) (fun c77 => ?_)
          · replace hf := ifn c77 hf
            refine lv_iconst (v := 0) hx hb dX7_readClause_88 (by decide) ?_
            exact B_89_1 a1 (0 : Int32) x36 H locs ls hI (lv_sub hl [1, 2] rfl) hf
          · replace hf := ifp c77 hf
            exact B_84 a1 x36 H locs ls hI (lv_sub hl [1, 2] rfl) hf
      · replace hf := ifn c17 hf
        refine lv_aload_n hx hb dX7_readClause_37 rfl (lv_at hl 1 rfl) ?_
        obtain ⟨k78, hf⟩ := chk_b hf
        refine hg_7_0 hx hb hts hin_X7 hown kl_26 hI (isk_k k78) dX7_readClause_38 ?_
        refine lv_iconst (v := 4) hx hb dX7_readClause_41 (by decide) ?_
        obtain ⟨b79, hd80, hf⟩ := bnd_b hf
        obtain ⟨hq81, hk82⟩ := dr_e hd80
        refine W.eq (g2 := F0 m 42 ls [.int (4 : Int32), .ref b79]) (by rw [hq81]; rfl) ?_
        obtain ⟨x83, hc84, hf⟩ := bnd_b hf
        refine hcall_Vv (ex2 := True) (As := [.int (4 : Int32)]) (rest := []) (n := 1) (by rw [hk82]; decide) (hC_11 hk82) rfl ⟨hx, hb, hml, hown, hts⟩ (ch_X10_fail l D cy b79 (4 : Int32) x6.1 x83 hc84) (cwV 1 hts gX7_readClause_X10_fail rfl rfl rfl ⟨rfl, nd_X10_fail⟩ ⟨Nat.le_of_ble_eq_true rfl, Nat.le_of_ble_eq_true rfl⟩) hI (fun h => h.elim) (fun _ => ⟨trivial, trivial⟩) rfl hl.1 (Nat.le_of_ble_eq_true rfl) dX7_readClause_42 ⟨Nat.le_of_ble_eq_true rfl, Nat.le_of_ble_eq_true rfl⟩ (fun H locs hI => ?_)
        exact hret_v hx hb hr hlocks hI (by decide) (by decide) (fun _ => ⟨trivial, rfl⟩) (ret_e hK0 hf) dX7_readClause_45
    · replace hf := ifn c16 hf
      refine lv_aload_n hx hb dX7_readClause_22 rfl (lv_at hl 1 rfl) ?_
      obtain ⟨k85, hf⟩ := chk_b hf
      refine hg_7_0 hx hb hts hin_X7 hown kl_26 hI (isk_k k85) dX7_readClause_23 ?_
      refine lv_iconst (v := 0) hx hb dX7_readClause_26 (by decide) ?_
      obtain ⟨b86, hd87, hf⟩ := bnd_b hf
      obtain ⟨hq88, hk89⟩ := dr_e hd87
      refine W.eq (g2 := F0 m 27 ls [.int (0 : Int32), .ref b86]) (by rw [hq88]; rfl) ?_
      obtain ⟨x90, hc91, hf⟩ := bnd_b hf
      refine hcall_Vv (ex2 := True) (As := [.int (0 : Int32)]) (rest := []) (n := 1) (by rw [hk89]; decide) (hC_11 hk89) rfl ⟨hx, hb, hml, hown, hts⟩ (ch_X10_fail l D cy b86 (0 : Int32) x6.1 x90 hc91) (cwV 1 hts gX7_readClause_X10_fail rfl rfl rfl ⟨rfl, nd_X10_fail⟩ ⟨Nat.le_of_ble_eq_true rfl, Nat.le_of_ble_eq_true rfl⟩) hI (fun h => h.elim) (fun _ => ⟨trivial, trivial⟩) rfl hl.1 (Nat.le_of_ble_eq_true rfl) dX7_readClause_27 ⟨Nat.le_of_ble_eq_true rfl, Nat.le_of_ble_eq_true rfl⟩ (fun H locs hI => ?_)
      exact hret_v hx hb hr hlocks hI (by decide) (by decide) (fun _ => ⟨trivial, rfl⟩) (ret_e hK0 hf) dX7_readClause_30

theorem nd_X6_init : yX6_init.cls ≠ "java/lang/invoke/MethodHandle" ∧ yX6_init.cls ≠ "java/lang/invoke/VarHandle" ∧ (parseMethodDescriptor yX6_init.desc).map (fun d => d.parameters.length) = some 5 := by decide +kernel
set_option maxHeartbeats 4000000 in
set_option maxRecDepth 100000 in
theorem ch_X6_init (l : Launch) (D : va_G) (cy : Nat → ClassId) (h : Nat) (a1 : Int32) (a2 : Option Nat) (a3 : Option Nat) (a4 : Option Nat) (a5 : Option Nat) (s0 : HSt) (out : HSt) (hf : fh_X6_init h a1 a2 a3 a4 a5 s0 = some out) : CHv l D cy yX6_init wsX6_init { frames := 1, cells := 0, slots := 0, locals := 30 } 0 0 False True [.ref h, .int a1, va_rf a2, va_rf a3, va_rf a4, va_rf a5] s0 out := by
  refine Met.ofW (cc := cX6_init) (maxL := 6) (ret := none) (by decide) rfl ?_
  intro p e s m args below meth c s₁ B hml hv
  obtain ⟨rfl, hP, hK, hD0, hkx, hsz, hal⟩ := hv
  have hx := B.exec
  have hb := B.bytes
  have hr := B.returns
  have hts := atoms_spec (ws := wsX6_init) B.pre
  have hown : s.vm.findClass RX6 = some m.cls := findClass_of_methodNamed B.named
  have hlocks := B.notSynchronized
  have hin0 : meth.name = "<init>" := (name_of_methodNamed B.named B.method).1
  have hI : HI D cy s s0 s0 s.heap [] 0 False True := ⟨hK, hP, hD0.weaken (fun k q hk _ => Or.inl (pl_mem hk)), va_S.rf, hsz.1, hkx, ⟨hsz, hal⟩, fun _ => rfl, Nat.le_refl _⟩
  have hin_X6 : ∀ w ∈ u_ws RX6 TX6 5, w ∈ wsX6_init := fun w hw => List.mem_cons_of_mem _ (List.mem_append_right _ hw)
  have kl_7 : Cond.fieldLink RX6 7 "HalfBridge$Rule" "clauses" "I" ∈ wsX6_init := by decide +kernel
  have kl_13 : Cond.fieldLink RX6 13 "HalfBridge$Rule" "kinds" "[I" ∈ wsX6_init := by decide +kernel
  have kl_17 : Cond.fieldLink RX6 17 "HalfBridge$Rule" "starts" "[I" ∈ wsX6_init := by decide +kernel
  have kl_20 : Cond.fieldLink RX6 20 "HalfBridge$Rule" "tests" "[I" ∈ wsX6_init := by decide +kernel
  have kl_23 : Cond.fieldLink RX6 23 "HalfBridge$Rule" "code" "[I" ∈ wsX6_init := by decide +kernel
  have hl := lv_entry ([.ref h, .int a1, va_rf a2, va_rf a3, va_rf a4, va_rf a5]) (n := 6) (by simp [lg_sl, cat_rf, cat_i, cat_l, cat_r])
  rw [lg_entry_eq]
  generalize (lg_sl ([.ref h, .int a1, va_rf a2, va_rf a3, va_rf a4, va_rf a5]) ++ List.replicate (6 - (lg_sl ([.ref h, .int a1, va_rf a2, va_rf a3, va_rf a4, va_rf a5])).length) Slot.unset).toArray = ls at hl ⊢
  have hl : lv_has ls 6 [(0, .ref h), (1, .int a1), (2, va_rf a2), (3, va_rf a3), (4, va_rf a4), (5, va_rf a5)] := (by simpa [lv_args, cat_rf, cat_i, cat_l, cat_r] using hl)
  obtain ⟨K0, hK0, hf⟩ := top_e hf
  unfold fh_X6_init at hf
  refine lv_aload_n hx hb dX6_init_0 rfl (lv_at hl 0 rfl) ?_
  refine W.objInit hx hb hown (hts (.methodLink RX6 1 objectInit) (by decide +kernel)) (hts (.instanceMethod objectInit) (by decide +kernel)) (hts (.code objectInit ⟨#[0xb1]⟩ 1 none) (by decide +kernel)) rfl (by rw [hml]; exact hl.1) rfl dX6_init_1 (Nat.le_of_ble_eq_true rfl) (Nat.le_of_ble_eq_true rfl) ?_
  refine W.eq (g2 := F0 m 4 ls []) rfl ?_
  refine lv_aload_n hx hb dX6_init_4 rfl (lv_at hl 0 rfl) ?_
  refine lv_iload_n hx hb dX6_init_5 rfl (lv_at hl 1 rfl) ?_
  obtain ⟨k1, hf⟩ := chk_b hf
  refine hp_6_0 hx hb hts hin_X6 hown kl_7 hI (isk_k k1) hin0 rfl dX6_init_6 (fun H locs hI => ?_)
  refine lv_aload_n hx hb dX6_init_9 rfl (lv_at hl 0 rfl) ?_
  refine hq_aload_n hx hb dX6_init_10 rfl (lv_at hl 2 rfl) ?_
  refine hp_6_1 (x := a2) hx hb hts hin_X6 hown kl_13 hI (gK_sI.trans (isk_k k1)) hin0 rfl dX6_init_11 (fun H locs hI => ?_)
  refine lv_aload_n hx hb dX6_init_14 rfl (lv_at hl 0 rfl) ?_
  refine hq_aload_n hx hb dX6_init_15 rfl (lv_at hl 3 rfl) ?_
  refine hp_6_2 (x := a3) hx hb hts hin_X6 hown kl_17 hI (gK_sR.trans (gK_sI.trans (isk_k k1))) hin0 rfl dX6_init_16 (fun H locs hI => ?_)
  refine lv_aload_n hx hb dX6_init_19 rfl (lv_at hl 0 rfl) ?_
  refine hq_aload hx hb dX6_init_20 (lv_at hl 4 rfl) ?_
  refine hp_6_3 (x := a4) hx hb hts hin_X6 hown kl_20 hI (gK_sR.trans (gK_sR.trans (gK_sI.trans (isk_k k1)))) hin0 rfl dX6_init_22 (fun H locs hI => ?_)
  refine lv_aload_n hx hb dX6_init_25 rfl (lv_at hl 0 rfl) ?_
  refine hq_aload hx hb dX6_init_26 (lv_at hl 5 rfl) ?_
  refine hp_6_4 (x := a5) hx hb hts hin_X6 hown kl_23 hI (gK_sR.trans (gK_sR.trans (gK_sR.trans (gK_sI.trans (isk_k k1))))) hin0 rfl dX6_init_28 (fun H locs hI => ?_)
  exact hret_v hx hb hr hlocks hI (by decide) (by decide) (fun _ => ⟨trivial, rfl⟩) (ret_e hK0 hf) dX6_init_31

theorem nd_X7_read : yX7_read.cls ≠ "java/lang/invoke/MethodHandle" ∧ yX7_read.cls ≠ "java/lang/invoke/VarHandle" ∧ (parseMethodDescriptor yX7_read.desc).map (fun d => d.parameters.length) = some 0 := by decide +kernel
set_option maxHeartbeats 4000000 in
set_option maxRecDepth 100000 in
theorem ch_X7_read (l : Launch) (D : va_G) (cy : Nat → ClassId) (h : Nat)  (s0 : HSt) (out : HSt × Option Nat) (hf : fh_X7_read h s0 = some out) : CHq l D cy yX7_read wsX7_read { frames := 94, cells := 5, slots := 1605, locals := 4046 } 5 1605 True False [.ref h] s0 out := by
  refine Met.ofW (cc := cX7_read) (maxL := 2) (ret := (some (.object "HalfBridge$Rule"))) (by decide) rfl ?_
  intro p e s m args below meth c s₁ B hml hv
  obtain ⟨rfl, hP, hK, hD0, hkx, hsz, hal⟩ := hv
  have hx := B.exec
  have hb := B.bytes
  have hr := B.returns
  have hts := atoms_spec (ws := wsX7_read) B.pre
  have hown : s.vm.findClass RX7 = some m.cls := findClass_of_methodNamed B.named
  have hlocks := B.notSynchronized
  have hI : HI D cy s s0 s0 s.heap [] 0 True True := ⟨hK, hP, hD0.weaken (fun k q hk _ => Or.inl (pl_mem hk)), va_S.rf, hsz.1, hkx, ⟨hsz, hal⟩, fun _ => rfl, Nat.le_refl _⟩
  have hin_X6 : ∀ w ∈ u_ws RX6 TX6 5, w ∈ wsX7_read := fun w hw => List.mem_cons_of_mem _ (List.mem_append_left _ (List.mem_append_right _ hw))
  have hin_X7 : ∀ w ∈ u_ws RX7 TX7 7, w ∈ wsX7_read := fun w hw => List.mem_cons_of_mem _ (List.mem_append_left _ (List.mem_append_left _ (List.mem_append_right _ hw)))
  have kl_11 : Cond.fieldLink RX7 11 "HalfBridge$RuleReader" "kinds" "[I" ∈ wsX7_read := by decide +kernel
  have kl_17 : Cond.fieldLink RX7 17 "HalfBridge$RuleReader" "starts" "[I" ∈ wsX7_read := by decide +kernel
  have kl_20 : Cond.fieldLink RX7 20 "HalfBridge$RuleReader" "tests" "[I" ∈ wsX7_read := by decide +kernel
  have kl_23 : Cond.fieldLink RX7 23 "HalfBridge$RuleReader" "code" "[I" ∈ wsX7_read := by decide +kernel
  have kl_26 : Cond.fieldLink RX7 26 "HalfBridge$RuleReader" "tokens" "LHalfBridge$Tokens;" ∈ wsX7_read := by decide +kernel
  have kl_30 : Cond.fieldLink RX7 30 "HalfBridge$RuleReader" "size" "I" ∈ wsX7_read := by decide +kernel
  have kl_34 : Cond.fieldLink RX7 34 "HalfBridge$RuleReader" "items" "I" ∈ wsX7_read := by decide +kernel
  have hl := lv_entry ([.ref h]) (n := 2) (Nat.le_of_ble_eq_true rfl)
  rw [lg_entry_eq]
  generalize (lg_sl ([.ref h]) ++ List.replicate (2 - (lg_sl ([.ref h])).length) Slot.unset).toArray = ls at hl ⊢
  have hl : lv_has ls 2 [(0, .ref h)] := hl
  obtain ⟨K0, hK0, hf⟩ := top_e hf
  have B_120 : ∀   (st : HSt) (H : Heap) (locs : List Loc) (ls : Array Slot), HI D cy s s0 st H locs 0 True True → lv_has ls 2 [] → (fh_X7_read_j120 h st).bind K0 = some out → W p l e (headSpec wsX7_read { frames := 94, cells := 5, slots := 1605, locals := 4046 }).room s m (([.ref h] : List Value).toArray) below meth c H locs 0 0 (MQ below (HQq D cy s0 5 False out) ([.ref h] : List Value).toArray s 5 1605 (hF s0)) (F0 m 120 ls []) := by
    intro st H locs ls hI hl hf
    unfold fh_X7_read_j120 at hf
    refine lv_null hx hb dX7_read_120 ?_
    exact hret_q hx hb hr (by first | exact Or.inl ⟨_, rfl⟩ | exact Or.inr ⟨_, rfl⟩) hlocks hI (by decide) (by decide) (fun h => h.elim) (ret_e hK0 hf) dX7_read_121
  have L_12 : ∀  (n : Nat) (v1 : Int32) (st : HSt) (H : Heap) (locs : List Loc) (ls : Array Slot), HI D cy s s0 st H locs 0 True True → lv_has ls 2 [(0, .ref h), (1, .int v1)] → (iter (fun x : (Int32 × HSt) => fh_X7_read_s12 h x.1 x.2) n (v1, st)).bind (fun x => ((Sum.elim (fun o : HSt × Option Nat => (some o : Option (HSt × Option Nat))) (fun x : (Int32 × HSt) => fh_X7_read_j120 h x.2)) x).bind K0) = some out → W p l e (headSpec wsX7_read { frames := 94, cells := 5, slots := 1605, locals := 4046 }).room s m (([.ref h] : List Value).toArray) below meth c H locs 0 0 (MQ below (HQq D cy s0 5 False out) ([.ref h] : List Value).toArray s 5 1605 (hF s0)) (F0 m 12 ls []) := by
    intro n
    induction n with
    | zero => intro v1 st H locs ls hI hl hf; exact (iter_0 hf).elim
    | succ n ih =>
      intro v1 st H locs ls hI hl hf
      obtain ⟨K1, hK1, hf⟩ := iter_e hf
      replace hf : (fh_X7_read_s12 h v1 st).bind K1 = some out := hf
      unfold fh_X7_read_s12 at hf
      refine lv_iload_n hx hb dX7_read_12 rfl (lv_at hl 1 rfl) ?_
      refine lv_bipush (v := 12) hx hb dX7_read_13 (by decide) ?_
      refine lv_icmp_gt (tgt := 120) hx hb dX7_read_15 (by decide) (fun c2 => ?_) (fun c2 => ?_)
      · replace hf := ifp c2 hf
        replace hf := exit_b hK1 hf
        exact B_120  st H locs ls hI (lv_sub hl [] rfl) hf
      · replace hf := ifn c2 hf
        refine lv_aload_n hx hb dX7_read_18 rfl (lv_at hl 0 rfl) ?_
        refine lv_iload_n hx hb dX7_read_19 rfl (lv_at hl 1 rfl) ?_
        obtain ⟨k3, hf⟩ := chk_b hf
        obtain ⟨x4, hc5, hf⟩ := bnd_b hf
        refine hcall_Vv (ex2 := True) (As := [.int v1]) (rest := []) (n := 1) (by rw [(isk_k k3)]; decide) (hC_8 (isk_k k3)) rfl ⟨hx, hb, hml, hown, hts⟩ (ch_X7_readClause l D cy h v1 st x4 hc5) (cwV 1 hts gX7_read_X7_readClause rfl rfl rfl ⟨rfl, nd_X7_readClause⟩ ⟨Nat.le_of_ble_eq_true rfl, Nat.le_of_ble_eq_true rfl⟩) hI (fun h => h.elim) (fun _ => ⟨trivial, trivial⟩) rfl hl.1 (Nat.le_of_ble_eq_true rfl) dX7_read_20 ⟨Nat.le_of_ble_eq_true rfl, Nat.le_of_ble_eq_true rfl⟩ (fun H locs hI => ?_)
        refine lv_aload_n hx hb dX7_read_23 rfl (lv_at hl 0 rfl) ?_
        obtain ⟨k6, hf⟩ := chk_b hf
        refine hg_7_0 hx hb hts hin_X7 hown kl_26 hI (isk_k k6) dX7_read_24 ?_
        obtain ⟨b7, hd8, hf⟩ := bnd_b hf
        obtain ⟨hq9, hk10⟩ := dr_e hd8
        refine W.eq (g2 := F0 m 27 ls [.ref b7]) (by rw [hq9]; rfl) ?_
        obtain ⟨x11, hc12, hf⟩ := bnd_b hf
        refine hcall_Vi (ex2 := True) (As := []) (rest := []) (n := 0) (by rw [hk10]; decide) (hC_11 hk10) rfl ⟨hx, hb, hml, hown, hts⟩ (ch_X10_kind l D cy b7 x4 x11 hc12) (cwV 0 hts gX7_read_X10_kind rfl rfl rfl ⟨rfl, nd_X10_kind⟩ ⟨Nat.le_of_ble_eq_true rfl, Nat.le_of_ble_eq_true rfl⟩) hI (fun h => h.elim) (fun _ => ⟨trivial, trivial⟩) rfl hl.1 (Nat.le_of_ble_eq_true rfl) dX7_read_27 ⟨Nat.le_of_ble_eq_true rfl, Nat.le_of_ble_eq_true rfl⟩ (fun H locs hI => ?_)
        refine lv_if_ne (tgt := 85) hx hb dX7_read_30 (by decide) (fun c13 => ?_) (fun c13 => ?_)
        · replace hf := ifn c13 hf
          refine lv_aload_n hx hb dX7_read_85 rfl (lv_at hl 0 rfl) ?_
          obtain ⟨k14, hf⟩ := chk_b hf
          refine hg_7_0 hx hb hts hin_X7 hown kl_26 hI (isk_k k14) dX7_read_86 ?_
          obtain ⟨b15, hd16, hf⟩ := bnd_b hf
          obtain ⟨hq17, hk18⟩ := dr_e hd16
          refine W.eq (g2 := F0 m 89 ls [.ref b15]) (by rw [hq17]; rfl) ?_
          obtain ⟨x19, hc20, hf⟩ := bnd_b hf
          refine hcall_Vi (ex2 := True) (As := []) (rest := []) (n := 0) (by rw [hk18]; decide) (hC_11 hk18) rfl ⟨hx, hb, hml, hown, hts⟩ (ch_X10_kind l D cy b15 x11.1 x19 hc20) (cwV 0 hts gX7_read_X10_kind rfl rfl rfl ⟨rfl, nd_X10_kind⟩ ⟨Nat.le_of_ble_eq_true rfl, Nat.le_of_ble_eq_true rfl⟩) hI (fun h => h.elim) (fun _ => ⟨trivial, trivial⟩) rfl hl.1 (Nat.le_of_ble_eq_true rfl) dX7_read_89 ⟨Nat.le_of_ble_eq_true rfl, Nat.le_of_ble_eq_true rfl⟩ (fun H locs hI => ?_)
          refine lv_bipush (v := 59) hx hb dX7_read_92 (by decide) ?_
          refine lv_icmp_eq (tgt := 107) hx hb dX7_read_94 (by decide) (fun c21 => ?_) (fun c21 => ?_)
          · replace hf := ifp c21 hf
            refine lv_aload_n hx hb dX7_read_107 rfl (lv_at hl 0 rfl) ?_
            obtain ⟨k22, hf⟩ := chk_b hf
            refine hg_7_0 hx hb hts hin_X7 hown kl_26 hI (isk_k k22) dX7_read_108 ?_
            obtain ⟨b23, hd24, hf⟩ := bnd_b hf
            obtain ⟨hq25, hk26⟩ := dr_e hd24
            refine W.eq (g2 := F0 m 111 ls [.ref b23]) (by rw [hq25]; rfl) ?_
            obtain ⟨x27, hc28, hf⟩ := bnd_b hf
            refine hcall_Vv (ex2 := True) (As := []) (rest := []) (n := 0) (by rw [hk26]; decide) (hC_11 hk26) rfl ⟨hx, hb, hml, hown, hts⟩ (ch_X10_next l D cy b23 x19.1 x27 hc28) (cwV 0 hts gX7_read_X10_next rfl rfl rfl ⟨rfl, nd_X10_next⟩ ⟨Nat.le_of_ble_eq_true rfl, Nat.le_of_ble_eq_true rfl⟩) hI (fun h => h.elim) (fun _ => ⟨trivial, trivial⟩) rfl hl.1 (Nat.le_of_ble_eq_true rfl) dX7_read_111 ⟨Nat.le_of_ble_eq_true rfl, Nat.le_of_ble_eq_true rfl⟩ (fun H locs hI => ?_)
            refine lv_iinc (v := (v1 + 1)) (lv' := [(1, .int (v1 + 1)), (0, .ref h)]) hx hb dX7_read_114 hl (k := 1) rfl (ci_ _ (by decide)) (by decide) rfl (fun ls hl => ?_)
            refine lv_goto (tgt := 12) hx hb dX7_read_117 (by decide) ?_
            replace hf := cont_b hK1 hf
            exact ih (v1 + 1) x27 H locs ls hI (lv_sub hl [1, 0] rfl) hf
          · replace hf := ifn c21 hf
            refine lv_aload_n hx hb dX7_read_97 rfl (lv_at hl 0 rfl) ?_
            obtain ⟨k29, hf⟩ := chk_b hf
            refine hg_7_0 hx hb hts hin_X7 hown kl_26 hI (isk_k k29) dX7_read_98 ?_
            refine lv_iconst (v := 0) hx hb dX7_read_101 (by decide) ?_
            obtain ⟨b30, hd31, hf⟩ := bnd_b hf
            obtain ⟨hq32, hk33⟩ := dr_e hd31
            refine W.eq (g2 := F0 m 102 ls [.int (0 : Int32), .ref b30]) (by rw [hq32]; rfl) ?_
            obtain ⟨x34, hc35, hf⟩ := bnd_b hf
            refine hcall_Vv (ex2 := True) (As := [.int (0 : Int32)]) (rest := []) (n := 1) (by rw [hk33]; decide) (hC_11 hk33) rfl ⟨hx, hb, hml, hown, hts⟩ (ch_X10_fail l D cy b30 (0 : Int32) x19.1 x34 hc35) (cwV 1 hts gX7_read_X10_fail rfl rfl rfl ⟨rfl, nd_X10_fail⟩ ⟨Nat.le_of_ble_eq_true rfl, Nat.le_of_ble_eq_true rfl⟩) hI (fun h => h.elim) (fun _ => ⟨trivial, trivial⟩) rfl hl.1 (Nat.le_of_ble_eq_true rfl) dX7_read_102 ⟨Nat.le_of_ble_eq_true rfl, Nat.le_of_ble_eq_true rfl⟩ (fun H locs hI => ?_)
            refine lv_null hx hb dX7_read_105 ?_
            replace hf := inl_b hK1 hf
            replace hf : Option.bind (some (x34, (none : Option Nat))) K0 = some out := hf
            exact hret_q hx hb hr (by first | exact Or.inl ⟨_, rfl⟩ | exact Or.inr ⟨_, rfl⟩) hlocks hI (by decide) (by decide) (fun h => h.elim) (ret_e hK0 hf) dX7_read_106
        · replace hf := ifp c13 hf
          refine hn_6 hx hb hts hin_X6 hown (by decide +kernel) (by decide +kernel) (by decide +kernel) hI trivial trivial (Nat.le_of_ble_eq_true rfl) (Nat.le_of_ble_eq_true rfl) dX7_read_33 (fun H hI => ?_)
          refine W.widen (k := 1) (n := 5) (by decide) (by decide) ?_
          obtain ⟨x36, hx36, hf⟩ := bnd_b hf
          replace hx36 := Option.some.inj hx36
          rw [hx36] at hI
          have hk37 : gK x36 (gN x11.1) = 7 := by rw [← hx36]; exact nO_K
          refine lv_dup hx hb dX7_read_36 rfl ?_
          refine lv_iload_n hx hb dX7_read_37 rfl (lv_at hl 1 rfl) ?_
          refine lv_iconst (v := 1) hx hb dX7_read_38 (by decide) ?_
          refine lv_iadd hx hb dX7_read_39 ?_
          refine lv_aload_n hx hb dX7_read_40 rfl (lv_at hl 0 rfl) ?_
          obtain ⟨k38, hf⟩ := chk_b hf
          refine hg_7_1 hx hb hts hin_X7 hown kl_11 hI (isk_k k38) dX7_read_41 ?_
          refine lv_iload_n hx hb dX7_read_44 rfl (lv_at hl 1 rfl) ?_
          refine lv_iconst (v := 1) hx hb dX7_read_45 (by decide) ?_
          refine lv_iadd hx hb dX7_read_46 ?_
          obtain ⟨x39, hc40, hf⟩ := bnd_b hf
          refine hcall_Sq (ex2 := True) (As := [va_rf (gR x36 701 h), .int (v1 + (1 : Int32))]) (rest := [.int (v1 + (1 : Int32)), .ref (gN x11.1), .ref (gN x11.1)]) (n := 2) ⟨hx, hb, hml, hown, hts⟩ (ch_J7_copyOf_59c91 l D cy (gR x36 701 h) (v1 + (1 : Int32)) x36 x39 hc40) (va_cwS 2 hts gX7_read_J7_copyOf_59c91 rfl rfl rfl nd_J7_copyOf_59c91 ⟨Nat.le_of_ble_eq_true rfl, Nat.le_of_ble_eq_true rfl⟩) hI (fun h => ⟨trivial, trivial⟩) (fun _ => ⟨trivial, trivial⟩) rfl hl.1 (Nat.le_of_ble_eq_true rfl) dX7_read_47 ⟨Nat.le_of_ble_eq_true rfl, Nat.le_of_ble_eq_true rfl⟩ (fun H locs hI => ?_)
          refine lv_aload_n hx hb dX7_read_50 rfl (lv_at hl 0 rfl) ?_
          obtain ⟨k41, hf⟩ := chk_b hf
          refine hg_7_2 hx hb hts hin_X7 hown kl_17 hI (isk_k k41) dX7_read_51 ?_
          refine lv_iload_n hx hb dX7_read_54 rfl (lv_at hl 1 rfl) ?_
          refine lv_iconst (v := 2) hx hb dX7_read_55 (by decide) ?_
          refine lv_iadd hx hb dX7_read_56 ?_
          obtain ⟨x42, hc43, hf⟩ := bnd_b hf
          refine hcall_Sq (ex2 := True) (As := [va_rf (gR x39.1 702 h), .int (v1 + (2 : Int32))]) (rest := [va_rf x39.2, .int (v1 + (1 : Int32)), .ref (gN x11.1), .ref (gN x11.1)]) (n := 2) ⟨hx, hb, hml, hown, hts⟩ (ch_J7_copyOf_59c91 l D cy (gR x39.1 702 h) (v1 + (2 : Int32)) x39.1 x42 hc43) (va_cwS 2 hts gX7_read_J7_copyOf_59c91 rfl rfl rfl nd_J7_copyOf_59c91 ⟨Nat.le_of_ble_eq_true rfl, Nat.le_of_ble_eq_true rfl⟩) hI (fun h => ⟨trivial, trivial⟩) (fun _ => ⟨trivial, trivial⟩) rfl hl.1 (by simp [cat_rf, cat_i, cat_l, cat_r]) dX7_read_57 ⟨Nat.le_of_ble_eq_true rfl, Nat.le_of_ble_eq_true rfl⟩ (fun H locs hI => ?_)
          refine lv_aload_n hx hb dX7_read_60 rfl (lv_at hl 0 rfl) ?_
          obtain ⟨k44, hf⟩ := chk_b hf
          refine hg_7_3 hx hb hts hin_X7 hown kl_20 hI (isk_k k44) dX7_read_61 ?_
          refine lv_iload_n hx hb dX7_read_64 rfl (lv_at hl 1 rfl) ?_
          refine lv_iconst (v := 1) hx hb dX7_read_65 (by decide) ?_
          refine lv_iadd hx hb dX7_read_66 ?_
          obtain ⟨x45, hc46, hf⟩ := bnd_b hf
          refine hcall_Sq (ex2 := True) (As := [va_rf (gR x42.1 703 h), .int (v1 + (1 : Int32))]) (rest := [va_rf x42.2, va_rf x39.2, .int (v1 + (1 : Int32)), .ref (gN x11.1), .ref (gN x11.1)]) (n := 2) ⟨hx, hb, hml, hown, hts⟩ (ch_J7_copyOf_59c91 l D cy (gR x42.1 703 h) (v1 + (1 : Int32)) x42.1 x45 hc46) (va_cwS 2 hts gX7_read_J7_copyOf_59c91 rfl rfl rfl nd_J7_copyOf_59c91 ⟨Nat.le_of_ble_eq_true rfl, Nat.le_of_ble_eq_true rfl⟩) hI (fun h => ⟨trivial, trivial⟩) (fun _ => ⟨trivial, trivial⟩) rfl hl.1 (by simp [cat_rf, cat_i, cat_l, cat_r]) dX7_read_67 ⟨Nat.le_of_ble_eq_true rfl, Nat.le_of_ble_eq_true rfl⟩ (fun H locs hI => ?_)
          refine lv_aload_n hx hb dX7_read_70 rfl (lv_at hl 0 rfl) ?_
          obtain ⟨k47, hf⟩ := chk_b hf
          refine hg_7_4 hx hb hts hin_X7 hown kl_23 hI (isk_k k47) dX7_read_71 ?_
          refine lv_aload_n hx hb dX7_read_74 rfl (lv_at hl 0 rfl) ?_
          refine hg_7_5 hx hb hts hin_X7 hown kl_30 hI (isk_k k47) dX7_read_75 ?_
          obtain ⟨x48, hc49, hf⟩ := bnd_b hf
          refine hcall_Sq (ex2 := True) (As := [va_rf (gR x45.1 704 h), .int (gI x45.1 705 h)]) (rest := [va_rf x45.2, va_rf x42.2, va_rf x39.2, .int (v1 + (1 : Int32)), .ref (gN x11.1), .ref (gN x11.1)]) (n := 2) ⟨hx, hb, hml, hown, hts⟩ (ch_J7_copyOf_59c91 l D cy (gR x45.1 704 h) (gI x45.1 705 h) x45.1 x48 hc49) (va_cwS 2 hts gX7_read_J7_copyOf_59c91 rfl rfl rfl nd_J7_copyOf_59c91 ⟨Nat.le_of_ble_eq_true rfl, Nat.le_of_ble_eq_true rfl⟩) hI (fun h => ⟨trivial, trivial⟩) (fun _ => ⟨trivial, trivial⟩) rfl hl.1 (by simp [cat_rf, cat_i, cat_l, cat_r]) dX7_read_78 ⟨Nat.le_of_ble_eq_true rfl, Nat.le_of_ble_eq_true rfl⟩ (fun H locs hI => ?_)
          obtain ⟨k50, hf⟩ := chk_b hf
          obtain ⟨x51, hc52, hf⟩ := bnd_b hf
          refine hcall_Iv (ex2 := True) (As := [.int (v1 + (1 : Int32)), va_rf x39.2, va_rf x42.2, va_rf x45.2, va_rf x48.2]) (rest := [.ref (gN x11.1)]) (n := 5) ⟨hx, hb, hml, hown, hts⟩ (ch_X6_init l D cy (gN x11.1) (v1 + (1 : Int32)) x39.2 x42.2 x45.2 x48.2 x48.1 x51 hc52) (cwI 5 hts gX7_read_X6_init rfl rfl rfl (hts (.initialized RX6) (by decide +kernel)) (hts (.methodLink RX7 53 yX6_init) (by decide +kernel)) (hts (.instanceMethod yX6_init) (by decide +kernel)) rfl nd_X6_init ⟨Nat.le_of_ble_eq_true rfl, Nat.le_of_ble_eq_true rfl⟩) hI (fun h => h.elim) (fun _ => ⟨trivial, trivial⟩) rfl hl.1 (Nat.le_of_ble_eq_true rfl) dX7_read_81 ⟨Nat.le_of_ble_eq_true rfl, Nat.le_of_ble_eq_true rfl⟩ (fun H locs hI => ?_)
          refine W.eq (g2 := F0 m 84 ls [va_rf (some (gN x11.1))]) rfl ?_
          replace hf := inl_b hK1 hf
          replace hf : Option.bind (some (x51, (some (gN x11.1)))) K0 = some out := hf
          exact hret_q hx hb hr (by first | exact Or.inl ⟨_, rfl⟩ | exact Or.inr ⟨_, rfl⟩) hlocks hI (by decide) (by decide) (fun h => h.elim) (ret_e hK0 hf) dX7_read_84
  unfold fh_X7_read at hf
  refine lv_aload_n hx hb dX7_read_0 rfl (lv_at hl 0 rfl) ?_
  refine lv_iconst (v := 0) hx hb dX7_read_1 (by decide) ?_
  obtain ⟨k1, hf⟩ := chk_b hf
  refine hp_7_5 hx hb hts hin_X7 hown kl_30 hI (isk_k k1) dX7_read_2 (fun H locs hI => ?_)
  refine lv_aload_n hx hb dX7_read_5 rfl (lv_at hl 0 rfl) ?_
  refine lv_iconst (v := 0) hx hb dX7_read_6 (by decide) ?_
  refine hp_7_6 hx hb hts hin_X7 hown kl_34 hI (gK_sI.trans (isk_k k1)) dX7_read_7 (fun H locs hI => ?_)
  refine lv_iconst (v := 0) hx hb dX7_read_10 (by decide) ?_
  refine lv_istore_n (lv' := [(1, .int (0 : Int32)), (0, .ref h)]) hx hb dX7_read_11 rfl hl (by decide) rfl (fun ls hl => ?_)
  exact L_12  mFuel (0 : Int32) (sI (sI s0 705 h (0 : Int32)) 706 h (0 : Int32)) H locs ls hI (lv_sub hl [1, 0] rfl) (asc_b hf)

theorem nd_X11_rule : yX11_rule.cls ≠ "java/lang/invoke/MethodHandle" ∧ yX11_rule.cls ≠ "java/lang/invoke/VarHandle" ∧ (parseMethodDescriptor yX11_rule.desc).map (fun d => d.parameters.length) = some 0 := by decide +kernel
set_option maxHeartbeats 4000000 in
set_option maxRecDepth 100000 in
theorem ch_X11_rule (l : Launch) (D : va_G) (cy : Nat → ClassId) (h : Nat)  (s0 : HSt) (out : HSt × Int32) (hf : fh_X11_rule h s0 = some out) : CHi l D cy yX11_rule wsX11_rule { frames := 95, cells := 5, slots := 1605, locals := 4067 } 5 1605 True False [.ref h] s0 out := by
  refine Met.ofW (cc := cX11_rule) (maxL := 2) (ret := (some .int)) (by decide) rfl ?_
  intro p e s m args below meth c s₁ B hml hv
  obtain ⟨rfl, hP, hK, hD0, hkx, hsz, hal⟩ := hv
  have hx := B.exec
  have hb := B.bytes
  have hr := B.returns
  have hts := atoms_spec (ws := wsX11_rule) B.pre
  have hown : s.vm.findClass RX11 = some m.cls := findClass_of_methodNamed B.named
  have hlocks := B.notSynchronized
  have hI : HI D cy s s0 s0 s.heap [] 0 True True := ⟨hK, hP, hD0.weaken (fun k q hk _ => Or.inl (pl_mem hk)), va_S.rf, hsz.1, hkx, ⟨hsz, hal⟩, fun _ => rfl, Nat.le_refl _⟩
  have hin_X10 : ∀ w ∈ u_ws RX10 TX10 6, w ∈ wsX11_rule := fun w hw => List.mem_cons_of_mem _ (List.mem_append_left _ (List.mem_append_left _ (List.mem_append_right _ hw)))
  have hin_X11 : ∀ w ∈ u_ws RX11 TX11 10, w ∈ wsX11_rule := fun w hw => List.mem_cons_of_mem _ (List.mem_append_left _ (List.mem_append_left _ (List.mem_append_left _ (List.mem_append_right _ hw))))
  have kl_15 : Cond.fieldLink RX11 15 "HalfBridge" "rules" "[LHalfBridge$Rule;" ∈ wsX11_rule := by decide +kernel
  have kl_33 : Cond.fieldLink RX11 33 "HalfBridge" "tokens" "LHalfBridge$Tokens;" ∈ wsX11_rule := by decide +kernel
  have kl_49 : Cond.fieldLink RX11 49 "HalfBridge" "ruleReader" "LHalfBridge$RuleReader;" ∈ wsX11_rule := by decide +kernel
  have kl_75 : Cond.fieldLink RX11 75 "HalfBridge$Tokens" "fault" "I" ∈ wsX11_rule := by decide +kernel
  have kl_87 : Cond.fieldLink RX11 87 "HalfBridge" "ruleCount" "I" ∈ wsX11_rule := by decide +kernel
  have hl := lv_entry ([.ref h]) (n := 2) (Nat.le_of_ble_eq_true rfl)
  rw [lg_entry_eq]
  generalize (lg_sl ([.ref h]) ++ List.replicate (2 - (lg_sl ([.ref h])).length) Slot.unset).toArray = ls at hl ⊢
  have hl : lv_has ls 2 [(0, .ref h)] := hl
  obtain ⟨K0, hK0, hf⟩ := top_e hf
  unfold fh_X11_rule at hf
  refine lv_aload_n hx hb dX11_rule_0 rfl (lv_at hl 0 rfl) ?_
  obtain ⟨k1, hf⟩ := chk_b hf
  refine hg_11_3 hx hb hts hin_X11 hown kl_87 hI (isk_k k1) dX11_rule_1 ?_
  refine lv_bipush (v := 6) hx hb dX11_rule_4 (by decide) ?_
  refine lv_icmp_lt (tgt := 11) hx hb dX11_rule_6 (by decide) (fun c2 => ?_) (fun c2 => ?_)
  · replace hf := ifp c2 hf
    refine lv_aload_n hx hb dX11_rule_11 rfl (lv_at hl 0 rfl) ?_
    obtain ⟨x3, hc4, hf⟩ := bnd_b hf
    refine hcall_Vv (ex2 := True) (As := []) (rest := []) (n := 0) (by rw [(isk_k k1)]; decide) (hC_12 (isk_k k1)) rfl ⟨hx, hb, hml, hown, hts⟩ (ch_X11_scanTape l D cy h s0 x3 hc4) (cwV 0 hts gX11_rule_X11_scanTape rfl rfl rfl ⟨rfl, nd_X11_scanTape⟩ ⟨Nat.le_of_ble_eq_true rfl, Nat.le_of_ble_eq_true rfl⟩) hI (fun h => h.elim) (fun _ => ⟨trivial, trivial⟩) rfl hl.1 (Nat.le_of_ble_eq_true rfl) dX11_rule_12 ⟨Nat.le_of_ble_eq_true rfl, Nat.le_of_ble_eq_true rfl⟩ (fun H locs hI => ?_)
    refine lv_aload_n hx hb dX11_rule_15 rfl (lv_at hl 0 rfl) ?_
    obtain ⟨k5, hf⟩ := chk_b hf
    refine hg_11_8 hx hb hts hin_X11 hown kl_49 hI (isk_k k5) dX11_rule_16 ?_
    obtain ⟨b6, hd7, hf⟩ := bnd_b hf
    obtain ⟨hq8, hk9⟩ := dr_e hd7
    refine W.eq (g2 := F0 m 19 ls [.ref b6]) (by rw [hq8]; rfl) ?_
    obtain ⟨x10, hc11, hf⟩ := bnd_b hf
    refine hcall_Vq (ex2 := False) (As := []) (rest := []) (n := 0) (by rw [hk9]; decide) (hC_8 hk9) rfl ⟨hx, hb, hml, hown, hts⟩ (ch_X7_read l D cy b6 x3 x10 hc11) (cwV 0 hts gX11_rule_X7_read rfl rfl rfl ⟨rfl, nd_X7_read⟩ ⟨Nat.le_of_ble_eq_true rfl, Nat.le_of_ble_eq_true rfl⟩) hI (fun h => ⟨trivial, trivial⟩) (fun h => h.elim) rfl hl.1 (Nat.le_of_ble_eq_true rfl) dX11_rule_19 ⟨Nat.le_of_ble_eq_true rfl, Nat.le_of_ble_eq_true rfl⟩ (fun H locs hI => ?_)
    refine hq_astore_n (lv' := [(1, va_rf x10.2), (0, .ref h)]) hx hb dX11_rule_22 rfl hl (by decide) (by first | rfl | (simp [cat_rf, cat_i, cat_l, cat_r]; done) | (simp [cat_rf, cat_i, cat_l, cat_r]; decide)) (fun ls hl => ?_)
    refine hq_aload_n hx hb dX11_rule_23 rfl (lv_at hl 0 rfl) ?_
    by_cases c12 : x10.2 = none
    · replace hf := ifp c12 hf
      refine W.eq (g2 := F0 m 24 ls [.null]) (by rw [c12]; rfl) ?_
      refine lv_ifnonnullN hx hb dX11_rule_24 ?_
      refine lv_bipush (v := -2) hx hb dX11_rule_27 (by decide) ?_
      refine lv_aload_n hx hb dX11_rule_29 rfl (lv_at hl 1 rfl) ?_
      obtain ⟨k15, hf⟩ := chk_b hf
      refine hg_11_6 hx hb hts hin_X11 hown kl_33 hI (isk_k k15) dX11_rule_30 ?_
      obtain ⟨b16, hd17, hf⟩ := bnd_b hf
      obtain ⟨hq18, hk19⟩ := dr_e hd17
      refine W.eq (g2 := F0 m 33 ls [.ref b16, .int (-2 : Int32)]) (by rw [hq18]; rfl) ?_
      refine hg_10_5 hx hb hts hin_X10 hown kl_75 hI hk19 dX11_rule_33 ?_
      refine lv_isub hx hb dX11_rule_36 ?_
      exact hret_i hx hb hr hlocks hI (by decide) (by decide) (fun h => h.elim) (ret_e hK0 hf) dX11_rule_37
    · replace hf := ifn c12 hf
      obtain ⟨b13, hq14, hf⟩ := bnd_b hf
      refine W.eq (g2 := F0 m 24 ls [.ref b13]) (by rw [hq14]; rfl) ?_
      refine lv_ifnonnull (tgt := 38) hx hb dX11_rule_24 (by decide) ?_
      refine lv_aload_n hx hb dX11_rule_38 rfl (lv_at hl 1 rfl) ?_
      obtain ⟨k20, hf⟩ := chk_b hf
      refine hg_11_2 hx hb hts hin_X11 hown kl_15 hI (isk_k k20) dX11_rule_39 ?_
      refine lv_aload_n hx hb dX11_rule_42 rfl (lv_at hl 1 rfl) ?_
      refine hg_11_3 hx hb hts hin_X11 hown kl_87 hI (isk_k k20) dX11_rule_43 ?_
      refine hq_aload_n hx hb dX11_rule_46 rfl (lv_at hl 0 rfl) ?_
      refine W.eq (g2 := F0 m 47 ls [.ref b13, .int (gI x10.1 1103 h), va_rf (gR x10.1 1102 h)]) (by rw [hq14]; rfl) ?_
      obtain ⟨k21, hf⟩ := chk_b hf
      obtain ⟨b22, hd23, hf⟩ := bnd_b hf
      obtain ⟨hq24, hk25⟩ := dr_e hd23
      refine W.eq (g2 := F0 m 47 ls [.ref b13, .int (gI x10.1 1103 h), .ref b22]) (by rw [hq24]; rfl) ?_
      obtain ⟨k26, hf⟩ := chk_b hf
      refine hs_Rule hx hb hI hk25 k26 (isk_k k21) dX11_rule_47 (fun H locs hI => ?_)
      refine lv_aload_n hx hb dX11_rule_48 rfl (lv_at hl 1 rfl) ?_
      refine lv_dup hx hb dX11_rule_49 rfl ?_
      refine hg_11_3 hx hb hts hin_X11 hown kl_87 hI (gK_sQ.trans (isk_k k20)) dX11_rule_50 ?_
      refine lv_iconst (v := 1) hx hb dX11_rule_53 (by decide) ?_
      refine lv_iadd hx hb dX11_rule_54 ?_
      refine hp_11_3 hx hb hts hin_X11 hown kl_87 hI (gK_sQ.trans (isk_k k20)) dX11_rule_55 (fun H locs hI => ?_)
      obtain ⟨x27, hx27, hf⟩ := bnd_b hf
      replace hx27 := Option.some.inj hx27
      rw [hx27] at hI
      have hk28 : gK x27 h = 12 := by rw [← hx27]; exact (gK_sI.trans (gK_sQ.trans (isk_k k20)))
      have hk29 : gK x27 b13 = 7 := by rw [← hx27]; exact (gK_sI.trans (gK_sQ.trans (isk_k k21)))
      have hk30 : gK x27 b22 = 25 := by rw [← hx27]; exact (gK_sI.trans (gK_sQ.trans hk25))
      refine lv_aload_n hx hb dX11_rule_58 rfl (lv_at hl 1 rfl) ?_
      refine hg_11_3 hx hb hts hin_X11 hown kl_87 hI hk28 dX11_rule_59 ?_
      refine lv_iconst (v := 1) hx hb dX11_rule_62 (by decide) ?_
      refine lv_isub hx hb dX11_rule_63 ?_
      exact hret_i hx hb hr hlocks hI (by decide) (by decide) (fun h => h.elim) (ret_e hK0 hf) dX11_rule_64
  · replace hf := ifn c2 hf
    refine lv_iconst (v := -1) hx hb dX11_rule_9 (by decide) ?_
    exact hret_i hx hb hr hlocks hI (by decide) (by decide) (fun h => h.elim) (ret_e hK0 hf) dX11_rule_10

theorem nd_X11_seed : yX11_seed.cls ≠ "java/lang/invoke/MethodHandle" ∧ yX11_seed.cls ≠ "java/lang/invoke/VarHandle" ∧ (parseMethodDescriptor yX11_seed.desc).map (fun d => d.parameters.length) = some 1 := by decide +kernel
set_option maxHeartbeats 4000000 in
set_option maxRecDepth 100000 in
theorem ch_X11_seed (l : Launch) (D : va_G) (cy : Nat → ClassId) (h : Nat) (a1 : Int32) (s0 : HSt) (out : HSt × Int32) (hf : fh_X11_seed h a1 s0 = some out) : CHi l D cy yX11_seed wsX11_seed { frames := 0, cells := 0, slots := 0, locals := 0 } 0 0 False True [.ref h, .int a1] s0 out := by
  refine Met.ofW (cc := cX11_seed) (maxL := 3) (ret := (some .int)) (by decide) rfl ?_
  intro p e s m args below meth c s₁ B hml hv
  obtain ⟨rfl, hP, hK, hD0, hkx, hsz, hal⟩ := hv
  have hx := B.exec
  have hb := B.bytes
  have hr := B.returns
  have hts := atoms_spec (ws := wsX11_seed) B.pre
  have hown : s.vm.findClass RX11 = some m.cls := findClass_of_methodNamed B.named
  have hlocks := B.notSynchronized
  have hI : HI D cy s s0 s0 s.heap [] 0 False True := ⟨hK, hP, hD0.weaken (fun k q hk _ => Or.inl (pl_mem hk)), va_S.rf, hsz.1, hkx, ⟨hsz, hal⟩, fun _ => rfl, Nat.le_refl _⟩
  have hin_X11 : ∀ w ∈ u_ws RX11 TX11 10, w ∈ wsX11_seed := fun w hw => List.mem_cons_of_mem _ (List.mem_append_left _ (List.mem_append_right _ hw))
  have hin_X8 : ∀ w ∈ u_ws RX8 TX8 5, w ∈ wsX11_seed := fun w hw => List.mem_cons_of_mem _ (List.mem_append_right _ hw)
  have kl_22 : Cond.fieldLink RX11 22 "HalfBridge" "site" "LHalfBridge$Site;" ∈ wsX11_seed := by decide +kernel
  have kl_265 : Cond.fieldLink RX11 265 "HalfBridge$Site" "x" "I" ∈ wsX11_seed := by decide +kernel
  have hl := lv_entry ([.ref h, .int a1]) (n := 3) (Nat.le_of_ble_eq_true rfl)
  rw [lg_entry_eq]
  generalize (lg_sl ([.ref h, .int a1]) ++ List.replicate (3 - (lg_sl ([.ref h, .int a1])).length) Slot.unset).toArray = ls at hl ⊢
  have hl : lv_has ls 3 [(0, .ref h), (1, .int a1)] := hl
  obtain ⟨K0, hK0, hf⟩ := top_e hf
  unfold fh_X11_seed at hf
  refine lv_iload_n hx hb dX11_seed_0 rfl (lv_at hl 1 rfl) ?_
  refine lv_if_ge (tgt := 6) hx hb dX11_seed_1 (by decide) (fun c1 => ?_) (fun c1 => ?_)
  · replace hf := ifp c1 hf
    refine lv_aload_n hx hb dX11_seed_6 rfl (lv_at hl 0 rfl) ?_
    obtain ⟨k2, hf⟩ := chk_b hf
    refine hg_11_4 hx hb hts hin_X11 hown kl_22 hI (isk_k k2) dX11_seed_7 ?_
    obtain ⟨b3, hd4, hf⟩ := bnd_b hf
    obtain ⟨hq5, hk6⟩ := dr_e hd4
    refine W.eq (g2 := F0 m 10 ls [.ref b3]) (by rw [hq5]; rfl) ?_
    refine hg_8_1 hx hb hts hin_X8 hown kl_265 hI hk6 dX11_seed_10 ?_
    refine lv_istore_n (lv' := [(2, .int (gI s0 801 b3)), (0, .ref h), (1, .int a1)]) hx hb dX11_seed_13 rfl hl (by decide) rfl (fun ls hl => ?_)
    refine lv_aload_n hx hb dX11_seed_14 rfl (lv_at hl 1 rfl) ?_
    refine hg_11_4 hx hb hts hin_X11 hown kl_22 hI (isk_k k2) dX11_seed_15 ?_
    refine lv_iload_n hx hb dX11_seed_18 rfl (lv_at hl 2 rfl) ?_
    refine W.eq (g2 := F0 m 19 ls [.int a1, .ref b3]) (by rw [hq5]; rfl) ?_
    refine hp_8_1 hx hb hts hin_X8 hown kl_265 hI hk6 dX11_seed_19 (fun H locs hI => ?_)
    refine lv_iload_n hx hb dX11_seed_22 rfl (lv_at hl 0 rfl) ?_
    exact hret_i hx hb hr hlocks hI (by decide) (by decide) (fun _ => ⟨trivial, rfl⟩) (ret_e hK0 hf) dX11_seed_23
  · replace hf := ifn c1 hf
    refine lv_iconst (v := -1) hx hb dX11_seed_4 (by decide) ?_
    exact hret_i hx hb hr hlocks hI (by decide) (by decide) (fun _ => ⟨trivial, rfl⟩) (ret_e hK0 hf) dX11_seed_5
