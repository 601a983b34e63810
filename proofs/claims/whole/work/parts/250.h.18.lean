theorem nd_X5_readClause : yX5_readClause.cls ≠ "java/lang/invoke/MethodHandle" ∧ yX5_readClause.cls ≠ "java/lang/invoke/VarHandle" ∧ (parseMethodDescriptor yX5_readClause.desc).map (fun d => d.parameters.length) = some 2 := by decide +kernel
set_option maxHeartbeats 4000000 in
set_option maxRecDepth 100000 in
theorem ch_X5_readClause (l : Launch) (D : va_G) (cy : Nat → ClassId) (h : Nat) (a1 : Option Nat) (a2 : Int32) (s0 : HSt) (out : HSt) (hf : fh_X5_readClause h a1 a2 s0 = some out) : CHv l D cy yX5_readClause wsX5_readClause { frames := 3, cells := 0, slots := 0, locals := 67 } 0 0 False True [.ref h, va_rf a1, .int a2] s0 out := by
  refine Met.ofW (cc := cX5_readClause) (maxL := 4) (ret := none) (by decide) rfl ?_
  intro p e s m args below meth c s₁ B hml hv
  obtain ⟨rfl, hP, hK, hD0, hkx, hsz, hal⟩ := hv
  have hx := B.exec
  have hb := B.bytes
  have hr := B.returns
  have hts := atoms_spec (ws := wsX5_readClause) B.pre
  have hown : s.vm.findClass RX5 = some m.cls := findClass_of_methodNamed B.named
  have hlocks := B.notSynchronized
  have hI : HI D cy s s0 s0 s.heap [] 0 False True := ⟨hK, hP, hD0.weaken (fun k q hk _ => Or.inl (pl_mem hk)), va_S.rf, hsz.1, hkx, ⟨hsz, hal⟩, fun _ => rfl, Nat.le_refl _⟩
  have hin_X4 : ∀ w ∈ u_ws RX4 TX4 9, w ∈ wsX5_readClause := fun w hw => List.mem_cons_of_mem _ (List.mem_append_left _ (List.mem_append_right _ hw))
  have hin_X5 : ∀ w ∈ u_ws RX5 TX5 3, w ∈ wsX5_readClause := fun w hw => List.mem_cons_of_mem _ (List.mem_append_left _ (List.mem_append_left _ (List.mem_append_right _ hw)))
  have kl_7 : Cond.fieldLink RX5 7 "HalfBridge$RiverReader" "tokens" "LHalfBridge$Tokens;" ∈ wsX5_readClause := by decide +kernel
  have kl_13 : Cond.fieldLink RX5 13 "HalfBridge$RiverReader" "stepTold" "Z" ∈ wsX5_readClause := by decide +kernel
  have kl_17 : Cond.fieldLink RX5 17 "HalfBridge$RiverReader" "inchesTold" "Z" ∈ wsX5_readClause := by decide +kernel
  have kl_48 : Cond.fieldLink RX5 48 "HalfBridge$River" "wide" "I" ∈ wsX5_readClause := by decide +kernel
  have kl_52 : Cond.fieldLink RX5 52 "HalfBridge$River" "step" "I" ∈ wsX5_readClause := by decide +kernel
  have kl_62 : Cond.fieldLink RX5 62 "HalfBridge$River" "inches" "I" ∈ wsX5_readClause := by decide +kernel
  have hl := lv_entry ([.ref h, va_rf a1, .int a2]) (n := 4) (by simp [lg_sl, cat_rf, cat_i, cat_l, cat_r])
  rw [lg_entry_eq]
  generalize (lg_sl ([.ref h, va_rf a1, .int a2]) ++ List.replicate (4 - (lg_sl ([.ref h, va_rf a1, .int a2])).length) Slot.unset).toArray = ls at hl ⊢
  have hl : lv_has ls 4 [(0, .ref h), (1, va_rf a1), (2, .int a2)] := (by simpa [lv_args, cat_rf, cat_i, cat_l, cat_r] using hl)
  obtain ⟨K0, hK0, hf⟩ := top_e hf
  unfold fh_X5_readClause at hf
  refine lv_aload_n hx hb dX5_readClause_0 rfl (lv_at hl 0 rfl) ?_
  obtain ⟨k1, hf⟩ := chk_b hf
  refine hg_5_0 hx hb hts hin_X5 hown kl_7 hI (isk_k k1) dX5_readClause_1 ?_
  obtain ⟨b2, hd3, hf⟩ := bnd_b hf
  obtain ⟨hq4, hk5⟩ := dr_e hd3
  refine W.eq (g2 := F0 m 4 ls [.ref b2]) (by rw [hq4]; rfl) ?_
  obtain ⟨x6, hc7, hf⟩ := bnd_b hf
  refine hcall_Vi (ex2 := True) (As := []) (rest := []) (n := 0) (by rw [hk5]; decide) (hC_11 hk5) rfl ⟨hx, hb, hml, hown, hts⟩ (ch_X10_kind l D cy b2 s0 x6 hc7) (cwV 0 hts gX5_readClause_X10_kind rfl rfl rfl ⟨rfl, nd_X10_kind⟩ ⟨Nat.le_of_ble_eq_true rfl, Nat.le_of_ble_eq_true rfl⟩) hI (fun h => h.elim) (fun _ => ⟨trivial, trivial⟩) rfl hl.1 (Nat.le_of_ble_eq_true rfl) dX5_readClause_4 ⟨Nat.le_of_ble_eq_true rfl, Nat.le_of_ble_eq_true rfl⟩ (fun H locs hI => ?_)
  refine lv_istore_n (lv' := [(3, .int x6.2), (0, .ref h), (1, va_rf a1), (2, .int a2)]) hx hb dX5_readClause_7 rfl hl (by decide) (by first | rfl | (simp [cat_rf, cat_i, cat_l, cat_r]; done) | (simp [cat_rf, cat_i, cat_l, cat_r]; decide)) (fun ls hl => ?_)
  refine lv_iload_n hx hb dX5_readClause_8 rfl (lv_at hl 0 rfl) ?_
  refine lv_sipush (v := 256) hx hb dX5_readClause_9 (by decide) ?_
  refine lv_icmp_lt (tgt := 22) hx hb dX5_readClause_12 (by decide) (fun c8 => ?_) (fun c8 => ?_)
  · replace hf := ifp c8 hf
    refine lv_aload_n hx hb dX5_readClause_22 rfl (lv_at hl 1 rfl) ?_
    obtain ⟨k9, hf⟩ := chk_b hf
    refine hg_5_0 hx hb hts hin_X5 hown kl_7 hI (isk_k k9) dX5_readClause_23 ?_
    refine lv_iconst (v := 0) hx hb dX5_readClause_26 (by decide) ?_
    obtain ⟨b10, hd11, hf⟩ := bnd_b hf
    obtain ⟨hq12, hk13⟩ := dr_e hd11
    refine W.eq (g2 := F0 m 27 ls [.int (0 : Int32), .ref b10]) (by rw [hq12]; rfl) ?_
    obtain ⟨x14, hc15, hf⟩ := bnd_b hf
    refine hcall_Vv (ex2 := True) (As := [.int (0 : Int32)]) (rest := []) (n := 1) (by rw [hk13]; decide) (hC_11 hk13) rfl ⟨hx, hb, hml, hown, hts⟩ (ch_X10_fail l D cy b10 (0 : Int32) x6.1 x14 hc15) (cwV 1 hts gX5_readClause_X10_fail rfl rfl rfl ⟨rfl, nd_X10_fail⟩ ⟨Nat.le_of_ble_eq_true rfl, Nat.le_of_ble_eq_true rfl⟩) hI (fun h => h.elim) (fun _ => ⟨trivial, trivial⟩) rfl hl.1 (Nat.le_of_ble_eq_true rfl) dX5_readClause_27 ⟨Nat.le_of_ble_eq_true rfl, Nat.le_of_ble_eq_true rfl⟩ (fun H locs hI => ?_)
    exact hret_v hx hb hr hlocks hI (by decide) (by decide) (fun _ => ⟨trivial, rfl⟩) (ret_e hK0 hf) dX5_readClause_30
  · replace hf := ifn c8 hf
    refine lv_iload_n hx hb dX5_readClause_15 rfl (lv_at hl 0 rfl) ?_
    refine lv_sipush (v := 261) hx hb dX5_readClause_16 (by decide) ?_
    refine lv_icmp_le (tgt := 31) hx hb dX5_readClause_19 (by decide) (fun c16 => ?_) (fun c16 => ?_)
    · replace hf := ifp c16 hf
      refine lv_iload_n hx hb dX5_readClause_31 rfl (lv_at hl 3 rfl) ?_
      refine lv_bipush (v := 24) hx hb dX5_readClause_32 (by decide) ?_
      refine lv_icmp_ge (tgt := 47) hx hb dX5_readClause_34 (by decide) (fun c17 => ?_) (fun c17 => ?_)
      · replace hf := ifp c17 hf
        refine lv_aload_n hx hb dX5_readClause_47 rfl (lv_at hl 1 rfl) ?_
        obtain ⟨k18, hf⟩ := chk_b hf
        refine hg_5_0 hx hb hts hin_X5 hown kl_7 hI (isk_k k18) dX5_readClause_48 ?_
        refine lv_iconst (v := 4) hx hb dX5_readClause_51 (by decide) ?_
        obtain ⟨b19, hd20, hf⟩ := bnd_b hf
        obtain ⟨hq21, hk22⟩ := dr_e hd20
        refine W.eq (g2 := F0 m 52 ls [.int (4 : Int32), .ref b19]) (by rw [hq21]; rfl) ?_
        obtain ⟨x23, hc24, hf⟩ := bnd_b hf
        refine hcall_Vv (ex2 := True) (As := [.int (4 : Int32)]) (rest := []) (n := 1) (by rw [hk22]; decide) (hC_11 hk22) rfl ⟨hx, hb, hml, hown, hts⟩ (ch_X10_fail l D cy b19 (4 : Int32) x6.1 x23 hc24) (cwV 1 hts gX5_readClause_X10_fail rfl rfl rfl ⟨rfl, nd_X10_fail⟩ ⟨Nat.le_of_ble_eq_true rfl, Nat.le_of_ble_eq_true rfl⟩) hI (fun h => h.elim) (fun _ => ⟨trivial, trivial⟩) rfl hl.1 (Nat.le_of_ble_eq_true rfl) dX5_readClause_52 ⟨Nat.le_of_ble_eq_true rfl, Nat.le_of_ble_eq_true rfl⟩ (fun H locs hI => ?_)
        exact hret_v hx hb hr hlocks hI (by decide) (by decide) (fun _ => ⟨trivial, rfl⟩) (ret_e hK0 hf) dX5_readClause_55
      · replace hf := ifn c17 hf
        refine lv_aload_n hx hb dX5_readClause_37 rfl (lv_at hl 1 rfl) ?_
        refine hq_aload_n hx hb dX5_readClause_38 rfl (lv_at hl 2 rfl) ?_
        refine lv_iload_n hx hb dX5_readClause_39 rfl (lv_at hl 3 rfl) ?_
        refine lv_iload_n hx hb dX5_readClause_40 rfl (lv_at hl 0 rfl) ?_
        obtain ⟨k25, hf⟩ := chk_b hf
        obtain ⟨x26, hc27, hf⟩ := bnd_b hf
        refine hcall_Vi (ex2 := True) (As := [va_rf a1, .int a2, .int x6.2]) (rest := []) (n := 3) (by rw [(isk_k k25)]; decide) (hC_6 (isk_k k25)) rfl ⟨hx, hb, hml, hown, hts⟩ (ch_X5_isClauseTooMany l D cy h a1 a2 x6.2 x6.1 x26 hc27) (cwV 3 hts gX5_readClause_X5_isClauseTooMany rfl rfl rfl ⟨rfl, nd_X5_isClauseTooMany⟩ ⟨Nat.le_of_ble_eq_true rfl, Nat.le_of_ble_eq_true rfl⟩) hI (fun h => h.elim) (fun _ => ⟨trivial, trivial⟩) rfl hl.1 (Nat.le_of_ble_eq_true rfl) dX5_readClause_41 ⟨Nat.le_of_ble_eq_true rfl, Nat.le_of_ble_eq_true rfl⟩ (fun H locs hI => ?_)
        refine lv_if_eq (tgt := 56) hx hb dX5_readClause_44 (by decide) (fun c28 => ?_) (fun c28 => ?_)
        · replace hf := ifp c28 hf
          refine lv_aload_n hx hb dX5_readClause_56 rfl (lv_at hl 1 rfl) ?_
          obtain ⟨k29, hf⟩ := chk_b hf
          refine hg_5_0 hx hb hts hin_X5 hown kl_7 hI (isk_k k29) dX5_readClause_57 ?_
          obtain ⟨b30, hd31, hf⟩ := bnd_b hf
          obtain ⟨hq32, hk33⟩ := dr_e hd31
          refine W.eq (g2 := F0 m 60 ls [.ref b30]) (by rw [hq32]; rfl) ?_
          obtain ⟨x34, hc35, hf⟩ := bnd_b hf
          refine hcall_Vv (ex2 := True) (As := []) (rest := []) (n := 0) (by rw [hk33]; decide) (hC_11 hk33) rfl ⟨hx, hb, hml, hown, hts⟩ (ch_X10_next l D cy b30 x26.1 x34 hc35) (cwV 0 hts gX5_readClause_X10_next rfl rfl rfl ⟨rfl, nd_X10_next⟩ ⟨Nat.le_of_ble_eq_true rfl, Nat.le_of_ble_eq_true rfl⟩) hI (fun h => h.elim) (fun _ => ⟨trivial, trivial⟩) rfl hl.1 (Nat.le_of_ble_eq_true rfl) dX5_readClause_60 ⟨Nat.le_of_ble_eq_true rfl, Nat.le_of_ble_eq_true rfl⟩ (fun H locs hI => ?_)
          refine lv_iload_n hx hb dX5_readClause_63 rfl (lv_at hl 0 rfl) ?_
          by_cases c36 : x6.2 = 256
          · replace hf := ifp c36 hf
            refine lv_tableIn (off := 36) (tgt := 100) hx hb dX5_readClause_64 (by rw [c36]; decide) (by rw [c36]; decide) (by rw [c36]; rfl) (by decide) ?_
            refine hq_aload_n hx hb dX5_readClause_100 rfl (lv_at hl 2 rfl) ?_
            refine lv_aload_n hx hb dX5_readClause_101 rfl (lv_at hl 1 rfl) ?_
            refine lv_iconst (v := 2) hx hb dX5_readClause_102 (by decide) ?_
            refine lv_bipush (v := 40) hx hb dX5_readClause_103 (by decide) ?_
            obtain ⟨k41, hf⟩ := chk_b hf
            obtain ⟨x42, hc43, hf⟩ := bnd_b hf
            refine hcall_Vi (ex2 := True) (As := [.int (2 : Int32), .int (40 : Int32)]) (rest := [va_rf a1]) (n := 2) (by rw [(isk_k k41)]; decide) (hC_6 (isk_k k41)) rfl ⟨hx, hb, hml, hown, hts⟩ (ch_X5_number l D cy h (2 : Int32) (40 : Int32) x34 x42 hc43) (cwV 2 hts gX5_readClause_X5_number rfl rfl rfl ⟨rfl, nd_X5_number⟩ ⟨Nat.le_of_ble_eq_true rfl, Nat.le_of_ble_eq_true rfl⟩) hI (fun h => h.elim) (fun _ => ⟨trivial, trivial⟩) rfl hl.1 (by simp [cat_rf, cat_i, cat_l, cat_r]) dX5_readClause_105 ⟨Nat.le_of_ble_eq_true rfl, Nat.le_of_ble_eq_true rfl⟩ (fun H locs hI => ?_)
            obtain ⟨b44, hd45, hf⟩ := bnd_b hf
            obtain ⟨hq46, hk47⟩ := dr_e hd45
            refine W.eq (g2 := F0 m 108 ls [.int x42.2, .ref b44]) (by rw [hq46]; rfl) ?_
            refine hp_4_0 hx hb hts hin_X4 hown kl_48 hI hk47 dX5_readClause_108 (fun H locs hI => ?_)
            refine hq_aload_n hx hb dX5_readClause_111 rfl (lv_at hl 2 rfl) ?_
            refine lv_iconst (v := 1) hx hb dX5_readClause_112 (by decide) ?_
            refine W.eq (g2 := F0 m 113 ls [.int (1 : Int32), .ref b44]) (by rw [hq46]; rfl) ?_
            refine hp_4_1 hx hb hts hin_X4 hown kl_52 hI (gK_sI.trans hk47) dX5_readClause_113 (fun H locs hI => ?_)
            refine lv_goto (tgt := 178) hx hb dX5_readClause_116 (by decide) ?_
            exact hret_v hx hb hr hlocks hI (by decide) (by decide) (fun _ => ⟨trivial, rfl⟩) (ret_e hK0 hf) dX5_readClause_178
          replace hf := ifn c36 hf
          by_cases c37 : x6.2 = 257
          · replace hf := ifp c37 hf
            refine lv_tableIn (off := 55) (tgt := 119) hx hb dX5_readClause_64 (by rw [c37]; decide) (by rw [c37]; decide) (by rw [c37]; rfl) (by decide) ?_
            refine lv_aload_n hx hb dX5_readClause_119 rfl (lv_at hl 1 rfl) ?_
            refine hq_aload_n hx hb dX5_readClause_120 rfl (lv_at hl 2 rfl) ?_
            obtain ⟨k48, hf⟩ := chk_b hf
            obtain ⟨x49, hc50, hf⟩ := bnd_b hf
            refine hcall_Vv (ex2 := True) (As := [va_rf a1]) (rest := []) (n := 1) (by rw [(isk_k k48)]; decide) (hC_6 (isk_k k48)) rfl ⟨hx, hb, hml, hown, hts⟩ (ch_X5_readBank l D cy h a1 x34 x49 hc50) (cwV 1 hts gX5_readClause_X5_readBank rfl rfl rfl ⟨rfl, nd_X5_readBank⟩ ⟨Nat.le_of_ble_eq_true rfl, Nat.le_of_ble_eq_true rfl⟩) hI (fun h => h.elim) (fun _ => ⟨trivial, trivial⟩) rfl hl.1 (Nat.le_of_ble_eq_true rfl) dX5_readClause_121 ⟨Nat.le_of_ble_eq_true rfl, Nat.le_of_ble_eq_true rfl⟩ (fun H locs hI => ?_)
            refine lv_goto (tgt := 178) hx hb dX5_readClause_124 (by decide) ?_
            exact hret_v hx hb hr hlocks hI (by decide) (by decide) (fun _ => ⟨trivial, rfl⟩) (ret_e hK0 hf) dX5_readClause_178
          replace hf := ifn c37 hf
          by_cases c38 : x6.2 = 258
          · replace hf := ifp c38 hf
            refine lv_tableIn (off := 63) (tgt := 127) hx hb dX5_readClause_64 (by rw [c38]; decide) (by rw [c38]; decide) (by rw [c38]; rfl) (by decide) ?_
            refine lv_aload_n hx hb dX5_readClause_127 rfl (lv_at hl 1 rfl) ?_
            refine hq_aload_n hx hb dX5_readClause_128 rfl (lv_at hl 2 rfl) ?_
            obtain ⟨k51, hf⟩ := chk_b hf
            obtain ⟨x52, hc53, hf⟩ := bnd_b hf
            refine hcall_Vv (ex2 := True) (As := [va_rf a1]) (rest := []) (n := 1) (by rw [(isk_k k51)]; decide) (hC_6 (isk_k k51)) rfl ⟨hx, hb, hml, hown, hts⟩ (ch_X5_readEyes l D cy h a1 x34 x52 hc53) (cwV 1 hts gX5_readClause_X5_readEyes rfl rfl rfl ⟨rfl, nd_X5_readEyes⟩ ⟨Nat.le_of_ble_eq_true rfl, Nat.le_of_ble_eq_true rfl⟩) hI (fun h => h.elim) (fun _ => ⟨trivial, trivial⟩) rfl hl.1 (Nat.le_of_ble_eq_true rfl) dX5_readClause_129 ⟨Nat.le_of_ble_eq_true rfl, Nat.le_of_ble_eq_true rfl⟩ (fun H locs hI => ?_)
            refine lv_goto (tgt := 178) hx hb dX5_readClause_132 (by decide) ?_
            exact hret_v hx hb hr hlocks hI (by decide) (by decide) (fun _ => ⟨trivial, rfl⟩) (ret_e hK0 hf) dX5_readClause_178
          replace hf := ifn c38 hf
          by_cases c39 : x6.2 = 259
          · replace hf := ifp c39 hf
            refine lv_tableIn (off := 71) (tgt := 135) hx hb dX5_readClause_64 (by rw [c39]; decide) (by rw [c39]; decide) (by rw [c39]; rfl) (by decide) ?_
            refine hq_aload_n hx hb dX5_readClause_135 rfl (lv_at hl 2 rfl) ?_
            refine lv_aload_n hx hb dX5_readClause_136 rfl (lv_at hl 1 rfl) ?_
            refine lv_iconst (v := 1) hx hb dX5_readClause_137 (by decide) ?_
            refine lv_bipush (v := 20) hx hb dX5_readClause_138 (by decide) ?_
            obtain ⟨k54, hf⟩ := chk_b hf
            obtain ⟨x55, hc56, hf⟩ := bnd_b hf
            refine hcall_Vi (ex2 := True) (As := [.int (1 : Int32), .int (20 : Int32)]) (rest := [va_rf a1]) (n := 2) (by rw [(isk_k k54)]; decide) (hC_6 (isk_k k54)) rfl ⟨hx, hb, hml, hown, hts⟩ (ch_X5_number l D cy h (1 : Int32) (20 : Int32) x34 x55 hc56) (cwV 2 hts gX5_readClause_X5_number rfl rfl rfl ⟨rfl, nd_X5_number⟩ ⟨Nat.le_of_ble_eq_true rfl, Nat.le_of_ble_eq_true rfl⟩) hI (fun h => h.elim) (fun _ => ⟨trivial, trivial⟩) rfl hl.1 (by simp [cat_rf, cat_i, cat_l, cat_r]) dX5_readClause_140 ⟨Nat.le_of_ble_eq_true rfl, Nat.le_of_ble_eq_true rfl⟩ (fun H locs hI => ?_)
            obtain ⟨b57, hd58, hf⟩ := bnd_b hf
            obtain ⟨hq59, hk60⟩ := dr_e hd58
            refine W.eq (g2 := F0 m 143 ls [.int x55.2, .ref b57]) (by rw [hq59]; rfl) ?_
            refine hp_4_1 hx hb hts hin_X4 hown kl_52 hI hk60 dX5_readClause_143 (fun H locs hI => ?_)
            refine lv_aload_n hx hb dX5_readClause_146 rfl (lv_at hl 1 rfl) ?_
            refine lv_iconst (v := 1) hx hb dX5_readClause_147 (by decide) ?_
            obtain ⟨k61, hf⟩ := chk_b hf
            refine hp_5_1 hx hb hts hin_X5 hown kl_13 hI (gK_sI.trans (isk_k k61)) (by decide) dX5_readClause_148 (fun H locs hI => ?_)
            refine lv_goto (tgt := 178) hx hb dX5_readClause_151 (by decide) ?_
            exact hret_v hx hb hr hlocks hI (by decide) (by decide) (fun _ => ⟨trivial, rfl⟩) (ret_e hK0 hf) dX5_readClause_178
          replace hf := ifn c39 hf
          by_cases c40 : x6.2 = 260
          · replace hf := ifp c40 hf
            refine lv_tableIn (off := 90) (tgt := 154) hx hb dX5_readClause_64 (by rw [c40]; decide) (by rw [c40]; decide) (by rw [c40]; rfl) (by decide) ?_
            refine hq_aload_n hx hb dX5_readClause_154 rfl (lv_at hl 2 rfl) ?_
            refine lv_aload_n hx hb dX5_readClause_155 rfl (lv_at hl 1 rfl) ?_
            refine lv_iconst (v := 0) hx hb dX5_readClause_156 (by decide) ?_
            refine lv_bipush (v := 99) hx hb dX5_readClause_157 (by decide) ?_
            obtain ⟨k62, hf⟩ := chk_b hf
            obtain ⟨x63, hc64, hf⟩ := bnd_b hf
            refine hcall_Vi (ex2 := True) (As := [.int (0 : Int32), .int (99 : Int32)]) (rest := [va_rf a1]) (n := 2) (by rw [(isk_k k62)]; decide) (hC_6 (isk_k k62)) rfl ⟨hx, hb, hml, hown, hts⟩ (ch_X5_number l D cy h (0 : Int32) (99 : Int32) x34 x63 hc64) (cwV 2 hts gX5_readClause_X5_number rfl rfl rfl ⟨rfl, nd_X5_number⟩ ⟨Nat.le_of_ble_eq_true rfl, Nat.le_of_ble_eq_true rfl⟩) hI (fun h => h.elim) (fun _ => ⟨trivial, trivial⟩) rfl hl.1 (by simp [cat_rf, cat_i, cat_l, cat_r]) dX5_readClause_159 ⟨Nat.le_of_ble_eq_true rfl, Nat.le_of_ble_eq_true rfl⟩ (fun H locs hI => ?_)
            obtain ⟨b65, hd66, hf⟩ := bnd_b hf
            obtain ⟨hq67, hk68⟩ := dr_e hd66
            refine W.eq (g2 := F0 m 162 ls [.int x63.2, .ref b65]) (by rw [hq67]; rfl) ?_
            refine hp_4_2 hx hb hts hin_X4 hown kl_62 hI hk68 dX5_readClause_162 (fun H locs hI => ?_)
            refine lv_aload_n hx hb dX5_readClause_165 rfl (lv_at hl 1 rfl) ?_
            refine lv_iconst (v := 1) hx hb dX5_readClause_166 (by decide) ?_
            obtain ⟨k69, hf⟩ := chk_b hf
            refine hp_5_2 hx hb hts hin_X5 hown kl_17 hI (gK_sI.trans (isk_k k69)) (by decide) dX5_readClause_167 (fun H locs hI => ?_)
            refine lv_goto (tgt := 178) hx hb dX5_readClause_170 (by decide) ?_
            exact hret_v hx hb hr hlocks hI (by decide) (by decide) (fun _ => ⟨trivial, rfl⟩) (ret_e hK0 hf) dX5_readClause_178
          replace hf := ifn c40 hf
          refine lv_tableOut (tgt := 173) hx hb dX5_readClause_64 (tsw_out (fun k k1 k2 => ?_)) (by decide) ?_
          · rcases (show k = 256 ∨ k = 257 ∨ k = 258 ∨ k = 259 ∨ k = 260 by omega) with rfl | rfl | rfl | rfl | rfl
            · exact c36
            · exact c37
            · exact c38
            · exact c39
            · exact c40
          · refine lv_aload_n hx hb dX5_readClause_173 rfl (lv_at hl 1 rfl) ?_
            refine hq_aload_n hx hb dX5_readClause_174 rfl (lv_at hl 2 rfl) ?_
            obtain ⟨k70, hf⟩ := chk_b hf
            obtain ⟨x71, hc72, hf⟩ := bnd_b hf
            refine hcall_Vv (ex2 := True) (As := [va_rf a1]) (rest := []) (n := 1) (by rw [(isk_k k70)]; decide) (hC_6 (isk_k k70)) rfl ⟨hx, hb, hml, hown, hts⟩ (ch_X5_readFlood l D cy h a1 x34 x71 hc72) (cwV 1 hts gX5_readClause_X5_readFlood rfl rfl rfl ⟨rfl, nd_X5_readFlood⟩ ⟨Nat.le_of_ble_eq_true rfl, Nat.le_of_ble_eq_true rfl⟩) hI (fun h => h.elim) (fun _ => ⟨trivial, trivial⟩) rfl hl.1 (Nat.le_of_ble_eq_true rfl) dX5_readClause_175 ⟨Nat.le_of_ble_eq_true rfl, Nat.le_of_ble_eq_true rfl⟩ (fun H locs hI => ?_)
            exact hret_v hx hb hr hlocks hI (by decide) (by decide) (fun _ => ⟨trivial, rfl⟩) (ret_e hK0 hf) dX5_readClause_178
        · replace hf := ifn c28 hf
          refine lv_aload_n hx hb dX5_readClause_47 rfl (lv_at hl 1 rfl) ?_
          obtain ⟨k73, hf⟩ := chk_b hf
          refine hg_5_0 hx hb hts hin_X5 hown kl_7 hI (isk_k k73) dX5_readClause_48 ?_
          refine lv_iconst (v := 4) hx hb dX5_readClause_51 (by decide) ?_
          obtain ⟨b74, hd75, hf⟩ := bnd_b hf
          obtain ⟨hq76, hk77⟩ := dr_e hd75
          refine W.eq (g2 := F0 m 52 ls [.int (4 : Int32), .ref b74]) (by rw [hq76]; rfl) ?_
          obtain ⟨x78, hc79, hf⟩ := bnd_b hf
          refine hcall_Vv (ex2 := True) (As := [.int (4 : Int32)]) (rest := []) (n := 1) (by rw [hk77]; decide) (hC_11 hk77) rfl ⟨hx, hb, hml, hown, hts⟩ (ch_X10_fail l D cy b74 (4 : Int32) x26.1 x78 hc79) (cwV 1 hts gX5_readClause_X10_fail rfl rfl rfl ⟨rfl, nd_X10_fail⟩ ⟨Nat.le_of_ble_eq_true rfl, Nat.le_of_ble_eq_true rfl⟩) hI (fun h => h.elim) (fun _ => ⟨trivial, trivial⟩) rfl hl.1 (Nat.le_of_ble_eq_true rfl) dX5_readClause_52 ⟨Nat.le_of_ble_eq_true rfl, Nat.le_of_ble_eq_true rfl⟩ (fun H locs hI => ?_)
          exact hret_v hx hb hr hlocks hI (by decide) (by decide) (fun _ => ⟨trivial, rfl⟩) (ret_e hK0 hf) dX5_readClause_55
    · replace hf := ifn c16 hf
      refine lv_aload_n hx hb dX5_readClause_22 rfl (lv_at hl 1 rfl) ?_
      obtain ⟨k80, hf⟩ := chk_b hf
      refine hg_5_0 hx hb hts hin_X5 hown kl_7 hI (isk_k k80) dX5_readClause_23 ?_
      refine lv_iconst (v := 0) hx hb dX5_readClause_26 (by decide) ?_
      obtain ⟨b81, hd82, hf⟩ := bnd_b hf
      obtain ⟨hq83, hk84⟩ := dr_e hd82
      refine W.eq (g2 := F0 m 27 ls [.int (0 : Int32), .ref b81]) (by rw [hq83]; rfl) ?_
      obtain ⟨x85, hc86, hf⟩ := bnd_b hf
      refine hcall_Vv (ex2 := True) (As := [.int (0 : Int32)]) (rest := []) (n := 1) (by rw [hk84]; decide) (hC_11 hk84) rfl ⟨hx, hb, hml, hown, hts⟩ (ch_X10_fail l D cy b81 (0 : Int32) x6.1 x85 hc86) (cwV 1 hts gX5_readClause_X10_fail rfl rfl rfl ⟨rfl, nd_X10_fail⟩ ⟨Nat.le_of_ble_eq_true rfl, Nat.le_of_ble_eq_true rfl⟩) hI (fun h => h.elim) (fun _ => ⟨trivial, trivial⟩) rfl hl.1 (Nat.le_of_ble_eq_true rfl) dX5_readClause_27 ⟨Nat.le_of_ble_eq_true rfl, Nat.le_of_ble_eq_true rfl⟩ (fun H locs hI => ?_)
      exact hret_v hx hb hr hlocks hI (by decide) (by decide) (fun _ => ⟨trivial, rfl⟩) (ret_e hK0 hf) dX5_readClause_30

theorem nd_X5_read : yX5_read.cls ≠ "java/lang/invoke/MethodHandle" ∧ yX5_read.cls ≠ "java/lang/invoke/VarHandle" ∧ (parseMethodDescriptor yX5_read.desc).map (fun d => d.parameters.length) = some 0 := by decide +kernel
set_option maxHeartbeats 4000000 in
set_option maxRecDepth 100000 in
theorem ch_X5_read (l : Launch) (D : va_G) (cy : Nat → ClassId) (h : Nat)  (s0 : HSt) (out : HSt × Option Nat) (hf : fh_X5_read h s0 = some out) : CHq l D cy yX5_read wsX5_read { frames := 4, cells := 6, slots := 31, locals := 90 } 6 31 True True [.ref h] s0 out := by
  refine Met.ofW (cc := cX5_read) (maxL := 3) (ret := (some (.object "HalfBridge$River"))) (by decide) rfl ?_
  intro p e s m args below meth c s₁ B hml hv
  obtain ⟨rfl, hP, hK, hD0, hkx, hsz, hal⟩ := hv
  have hx := B.exec
  have hb := B.bytes
  have hr := B.returns
  have hts := atoms_spec (ws := wsX5_read) B.pre
  have hown : s.vm.findClass RX5 = some m.cls := findClass_of_methodNamed B.named
  have hlocks := B.notSynchronized
  have hI : HI D cy s s0 s0 s.heap [] 0 True True := ⟨hK, hP, hD0.weaken (fun k q hk _ => Or.inl (pl_mem hk)), va_S.rf, hsz.1, hkx, ⟨hsz, hal⟩, fun _ => rfl, Nat.le_refl _⟩
  have hin_X4 : ∀ w ∈ u_ws RX4 TX4 9, w ∈ wsX5_read := fun w hw => List.mem_cons_of_mem _ (List.mem_append_left _ (List.mem_append_right _ hw))
  have hin_X5 : ∀ w ∈ u_ws RX5 TX5 3, w ∈ wsX5_read := fun w hw => List.mem_cons_of_mem _ (List.mem_append_left _ (List.mem_append_left _ (List.mem_append_right _ hw)))
  have kl_7 : Cond.fieldLink RX5 7 "HalfBridge$RiverReader" "tokens" "LHalfBridge$Tokens;" ∈ wsX5_read := by decide +kernel
  have kl_13 : Cond.fieldLink RX5 13 "HalfBridge$RiverReader" "stepTold" "Z" ∈ wsX5_read := by decide +kernel
  have kl_17 : Cond.fieldLink RX5 17 "HalfBridge$RiverReader" "inchesTold" "Z" ∈ wsX5_read := by decide +kernel
  have hl := lv_entry ([.ref h]) (n := 3) (Nat.le_of_ble_eq_true rfl)
  rw [lg_entry_eq]
  generalize (lg_sl ([.ref h]) ++ List.replicate (3 - (lg_sl ([.ref h])).length) Slot.unset).toArray = ls at hl ⊢
  have hl : lv_has ls 3 [(0, .ref h)] := hl
  obtain ⟨K0, hK0, hf⟩ := top_e hf
  have B_79 : ∀   (st : HSt) (H : Heap) (locs : List Loc) (ls : Array Slot), HI D cy s s0 st H locs 6 True True → lv_has ls 3 [] → (fh_X5_read_j79 h st).bind K0 = some out → W p l e (headSpec wsX5_read { frames := 4, cells := 6, slots := 31, locals := 90 }).room s m (([.ref h] : List Value).toArray) below meth c H locs 6 31 (MQ below (HQq D cy s0 6 True out) ([.ref h] : List Value).toArray s 6 31 (hF s0)) (F0 m 79 ls []) := by
    intro st H locs ls hI hl hf
    unfold fh_X5_read_j79 at hf
    refine lv_null hx hb dX5_read_79 ?_
    exact hret_q hx hb hr (by first | exact Or.inl ⟨_, rfl⟩ | exact Or.inr ⟨_, rfl⟩) hlocks hI (by decide) (by decide) (fun _ => ⟨trivial, rfl⟩) (ret_e hK0 hf) dX5_read_80
  have L_20 : ∀ (v1 : Nat) (n : Nat) (v2 : Int32) (st : HSt) (H : Heap) (locs : List Loc) (ls : Array Slot), HI D cy s s0 st H locs 6 True True → lv_has ls 3 [(0, .ref h), (1, .ref v1), (2, .int v2)] → (iter (fun x : (Int32 × HSt) => fh_X5_read_s20 h v1 x.1 x.2) n (v2, st)).bind (fun x => ((Sum.elim (fun o : HSt × Option Nat => (some o : Option (HSt × Option Nat))) (fun x : (Int32 × HSt) => fh_X5_read_j79 h x.2)) x).bind K0) = some out → W p l e (headSpec wsX5_read { frames := 4, cells := 6, slots := 31, locals := 90 }).room s m (([.ref h] : List Value).toArray) below meth c H locs 6 31 (MQ below (HQq D cy s0 6 True out) ([.ref h] : List Value).toArray s 6 31 (hF s0)) (F0 m 20 ls []) := by
    intro v1 n
    induction n with
    | zero => intro v2 st H locs ls hI hl hf; exact (iter_0 hf).elim
    | succ n ih =>
      intro v2 st H locs ls hI hl hf
      obtain ⟨K1, hK1, hf⟩ := iter_e hf
      replace hf : (fh_X5_read_s20 h v1 v2 st).bind K1 = some out := hf
      unfold fh_X5_read_s20 at hf
      refine lv_iload_n hx hb dX5_read_20 rfl (lv_at hl 2 rfl) ?_
      refine lv_bipush (v := 24) hx hb dX5_read_21 (by decide) ?_
      refine lv_icmp_gt (tgt := 79) hx hb dX5_read_23 (by decide) (fun c6 => ?_) (fun c6 => ?_)
      · replace hf := ifp c6 hf
        replace hf := exit_b hK1 hf
        exact B_79  st H locs ls hI (lv_sub hl [] rfl) hf
      · replace hf := ifn c6 hf
        refine lv_aload_n hx hb dX5_read_26 rfl (lv_at hl 0 rfl) ?_
        refine lv_aload_n hx hb dX5_read_27 rfl (lv_at hl 1 rfl) ?_
        refine lv_iload_n hx hb dX5_read_28 rfl (lv_at hl 2 rfl) ?_
        obtain ⟨k7, hf⟩ := chk_b hf
        obtain ⟨x8, hc9, hf⟩ := bnd_b hf
        refine hcall_Vv (ex2 := True) (As := [va_rf (some v1), .int v2]) (rest := []) (n := 2) (by rw [(isk_k k7)]; decide) (hC_6 (isk_k k7)) rfl ⟨hx, hb, hml, hown, hts⟩ (ch_X5_readClause l D cy h (some v1) v2 st x8 hc9) (cwV 2 hts gX5_read_X5_readClause rfl rfl rfl ⟨rfl, nd_X5_readClause⟩ ⟨Nat.le_of_ble_eq_true rfl, Nat.le_of_ble_eq_true rfl⟩) hI (fun h => h.elim) (fun _ => ⟨trivial, trivial⟩) rfl hl.1 (Nat.le_of_ble_eq_true rfl) dX5_read_29 ⟨Nat.le_of_ble_eq_true rfl, Nat.le_of_ble_eq_true rfl⟩ (fun H locs hI => ?_)
        refine lv_aload_n hx hb dX5_read_32 rfl (lv_at hl 0 rfl) ?_
        obtain ⟨k10, hf⟩ := chk_b hf
        refine hg_5_0 hx hb hts hin_X5 hown kl_7 hI (isk_k k10) dX5_read_33 ?_
        obtain ⟨b11, hd12, hf⟩ := bnd_b hf
        obtain ⟨hq13, hk14⟩ := dr_e hd12
        refine W.eq (g2 := F0 m 36 ls [.ref b11]) (by rw [hq13]; rfl) ?_
        obtain ⟨x15, hc16, hf⟩ := bnd_b hf
        refine hcall_Vi (ex2 := True) (As := []) (rest := []) (n := 0) (by rw [hk14]; decide) (hC_11 hk14) rfl ⟨hx, hb, hml, hown, hts⟩ (ch_X10_kind l D cy b11 x8 x15 hc16) (cwV 0 hts gX5_read_X10_kind rfl rfl rfl ⟨rfl, nd_X10_kind⟩ ⟨Nat.le_of_ble_eq_true rfl, Nat.le_of_ble_eq_true rfl⟩) hI (fun h => h.elim) (fun _ => ⟨trivial, trivial⟩) rfl hl.1 (Nat.le_of_ble_eq_true rfl) dX5_read_36 ⟨Nat.le_of_ble_eq_true rfl, Nat.le_of_ble_eq_true rfl⟩ (fun H locs hI => ?_)
        refine lv_if_ne (tgt := 44) hx hb dX5_read_39 (by decide) (fun c17 => ?_) (fun c17 => ?_)
        · replace hf := ifn c17 hf
          refine lv_aload_n hx hb dX5_read_44 rfl (lv_at hl 0 rfl) ?_
          obtain ⟨k18, hf⟩ := chk_b hf
          refine hg_5_0 hx hb hts hin_X5 hown kl_7 hI (isk_k k18) dX5_read_45 ?_
          obtain ⟨b19, hd20, hf⟩ := bnd_b hf
          obtain ⟨hq21, hk22⟩ := dr_e hd20
          refine W.eq (g2 := F0 m 48 ls [.ref b19]) (by rw [hq21]; rfl) ?_
          obtain ⟨x23, hc24, hf⟩ := bnd_b hf
          refine hcall_Vi (ex2 := True) (As := []) (rest := []) (n := 0) (by rw [hk22]; decide) (hC_11 hk22) rfl ⟨hx, hb, hml, hown, hts⟩ (ch_X10_kind l D cy b19 x15.1 x23 hc24) (cwV 0 hts gX5_read_X10_kind rfl rfl rfl ⟨rfl, nd_X10_kind⟩ ⟨Nat.le_of_ble_eq_true rfl, Nat.le_of_ble_eq_true rfl⟩) hI (fun h => h.elim) (fun _ => ⟨trivial, trivial⟩) rfl hl.1 (Nat.le_of_ble_eq_true rfl) dX5_read_48 ⟨Nat.le_of_ble_eq_true rfl, Nat.le_of_ble_eq_true rfl⟩ (fun H locs hI => ?_)
          refine lv_bipush (v := 59) hx hb dX5_read_51 (by decide) ?_
          refine lv_icmp_eq (tgt := 66) hx hb dX5_read_53 (by decide) (fun c25 => ?_) (fun c25 => ?_)
          · replace hf := ifp c25 hf
            refine lv_aload_n hx hb dX5_read_66 rfl (lv_at hl 0 rfl) ?_
            obtain ⟨k26, hf⟩ := chk_b hf
            refine hg_5_0 hx hb hts hin_X5 hown kl_7 hI (isk_k k26) dX5_read_67 ?_
            obtain ⟨b27, hd28, hf⟩ := bnd_b hf
            obtain ⟨hq29, hk30⟩ := dr_e hd28
            refine W.eq (g2 := F0 m 70 ls [.ref b27]) (by rw [hq29]; rfl) ?_
            obtain ⟨x31, hc32, hf⟩ := bnd_b hf
            refine hcall_Vv (ex2 := True) (As := []) (rest := []) (n := 0) (by rw [hk30]; decide) (hC_11 hk30) rfl ⟨hx, hb, hml, hown, hts⟩ (ch_X10_next l D cy b27 x23.1 x31 hc32) (cwV 0 hts gX5_read_X10_next rfl rfl rfl ⟨rfl, nd_X10_next⟩ ⟨Nat.le_of_ble_eq_true rfl, Nat.le_of_ble_eq_true rfl⟩) hI (fun h => h.elim) (fun _ => ⟨trivial, trivial⟩) rfl hl.1 (Nat.le_of_ble_eq_true rfl) dX5_read_70 ⟨Nat.le_of_ble_eq_true rfl, Nat.le_of_ble_eq_true rfl⟩ (fun H locs hI => ?_)
            refine lv_iinc (v := (v2 + 1)) (lv' := [(2, .int (v2 + 1)), (0, .ref h), (1, .ref v1)]) hx hb dX5_read_73 hl (k := 2) rfl (ci_ _ (by decide)) (by decide) rfl (fun ls hl => ?_)
            refine lv_goto (tgt := 20) hx hb dX5_read_76 (by decide) ?_
            replace hf := cont_b hK1 hf
            exact ih (v2 + 1) x31 H locs ls hI (lv_sub hl [1, 2, 0] rfl) hf
          · replace hf := ifn c25 hf
            refine lv_aload_n hx hb dX5_read_56 rfl (lv_at hl 0 rfl) ?_
            obtain ⟨k33, hf⟩ := chk_b hf
            refine hg_5_0 hx hb hts hin_X5 hown kl_7 hI (isk_k k33) dX5_read_57 ?_
            refine lv_iconst (v := 0) hx hb dX5_read_60 (by decide) ?_
            obtain ⟨b34, hd35, hf⟩ := bnd_b hf
            obtain ⟨hq36, hk37⟩ := dr_e hd35
            refine W.eq (g2 := F0 m 61 ls [.int (0 : Int32), .ref b34]) (by rw [hq36]; rfl) ?_
            obtain ⟨x38, hc39, hf⟩ := bnd_b hf
            refine hcall_Vv (ex2 := True) (As := [.int (0 : Int32)]) (rest := []) (n := 1) (by rw [hk37]; decide) (hC_11 hk37) rfl ⟨hx, hb, hml, hown, hts⟩ (ch_X10_fail l D cy b34 (0 : Int32) x23.1 x38 hc39) (cwV 1 hts gX5_read_X10_fail rfl rfl rfl ⟨rfl, nd_X10_fail⟩ ⟨Nat.le_of_ble_eq_true rfl, Nat.le_of_ble_eq_true rfl⟩) hI (fun h => h.elim) (fun _ => ⟨trivial, trivial⟩) rfl hl.1 (Nat.le_of_ble_eq_true rfl) dX5_read_61 ⟨Nat.le_of_ble_eq_true rfl, Nat.le_of_ble_eq_true rfl⟩ (fun H locs hI => ?_)
            refine lv_null hx hb dX5_read_64 ?_
            replace hf := inl_b hK1 hf
            replace hf : Option.bind (some (x38, (none : Option Nat))) K0 = some out := hf
            exact hret_q hx hb hr (by first | exact Or.inl ⟨_, rfl⟩ | exact Or.inr ⟨_, rfl⟩) hlocks hI (by decide) (by decide) (fun _ => ⟨trivial, rfl⟩) (ret_e hK0 hf) dX5_read_65
        · replace hf := ifp c17 hf
          refine lv_aload_n hx hb dX5_read_42 rfl (lv_at hl 1 rfl) ?_
          refine W.eq (g2 := F0 m 43 ls [va_rf (some v1)]) rfl ?_
          replace hf := inl_b hK1 hf
          replace hf : Option.bind (some (x15.1, (some v1))) K0 = some out := hf
          exact hret_q hx hb hr (by first | exact Or.inl ⟨_, rfl⟩ | exact Or.inr ⟨_, rfl⟩) hlocks hI (by decide) (by decide) (fun _ => ⟨trivial, rfl⟩) (ret_e hK0 hf) dX5_read_43
  unfold fh_X5_read at hf
  refine lv_aload_n hx hb dX5_read_0 rfl (lv_at hl 0 rfl) ?_
  refine lv_iconst (v := 0) hx hb dX5_read_1 (by decide) ?_
  obtain ⟨k1, hf⟩ := chk_b hf
  refine hp_5_1 hx hb hts hin_X5 hown kl_13 hI (isk_k k1) (by decide) dX5_read_2 (fun H locs hI => ?_)
  refine lv_aload_n hx hb dX5_read_5 rfl (lv_at hl 0 rfl) ?_
  refine lv_iconst (v := 0) hx hb dX5_read_6 (by decide) ?_
  refine hp_5_2 hx hb hts hin_X5 hown kl_17 hI (gK_sI.trans (isk_k k1)) (by decide) dX5_read_7 (fun H locs hI => ?_)
  refine hn_4 hx hb hts hin_X4 hown (by decide +kernel) (by decide +kernel) (by decide +kernel) hI trivial trivial (Nat.le_of_ble_eq_true rfl) (Nat.le_of_ble_eq_true rfl) dX5_read_10 (fun H hI => ?_)
  refine W.widen (k := 1) (n := 9) (by decide) (by decide) ?_
  obtain ⟨x2, hx2, hf⟩ := bnd_b hf
  replace hx2 := Option.some.inj hx2
  rw [hx2] at hI
  have hk3 : gK x2 (gN (sI (sI s0 501 h (0 : Int32)) 502 h (0 : Int32))) = 5 := by rw [← hx2]; exact nO_K
  refine lv_dup hx hb dX5_read_13 rfl ?_
  obtain ⟨x4, hc5, hf⟩ := bnd_b hf
  refine hcall_Iv (ex2 := True) (As := []) (rest := [.ref (gN (sI (sI s0 501 h (0 : Int32)) 502 h (0 : Int32)))]) (n := 0) ⟨hx, hb, hml, hown, hts⟩ (ch_X4_init l D cy (gN (sI (sI s0 501 h (0 : Int32)) 502 h (0 : Int32))) x2 x4 hc5) (cwI 0 hts gX5_read_X4_init rfl rfl rfl (hts (.initialized RX4) (by decide +kernel)) (hts (.methodLink RX5 22 yX4_init) (by decide +kernel)) (hts (.instanceMethod yX4_init) (by decide +kernel)) rfl nd_X4_init ⟨Nat.le_of_ble_eq_true rfl, Nat.le_of_ble_eq_true rfl⟩) hI (fun h => ⟨trivial, trivial⟩) (fun _ => ⟨trivial, trivial⟩) rfl hl.1 (Nat.le_of_ble_eq_true rfl) dX5_read_14 ⟨Nat.le_of_ble_eq_true rfl, Nat.le_of_ble_eq_true rfl⟩ (fun H locs hI => ?_)
  refine lv_astore_n (lv' := [(1, .ref (gN (sI (sI s0 501 h (0 : Int32)) 502 h (0 : Int32)))), (0, .ref h)]) hx hb dX5_read_17 rfl hl (by decide) rfl (fun ls hl => ?_)
  refine lv_iconst (v := 0) hx hb dX5_read_18 (by decide) ?_
  refine lv_istore_n (lv' := [(2, .int (0 : Int32)), (1, .ref (gN (sI (sI s0 501 h (0 : Int32)) 502 h (0 : Int32)))), (0, .ref h)]) hx hb dX5_read_19 rfl hl (by decide) rfl (fun ls hl => ?_)
  exact L_20 (gN (sI (sI s0 501 h (0 : Int32)) 502 h (0 : Int32))) mFuel (0 : Int32) x4 H locs ls hI (lv_sub hl [2, 1, 0] rfl) (asc_b hf)

theorem nd_X9_beginAt : yX9_beginAt.cls ≠ "java/lang/invoke/MethodHandle" ∧ yX9_beginAt.cls ≠ "java/lang/invoke/VarHandle" ∧ (parseMethodDescriptor yX9_beginAt.desc).map (fun d => d.parameters.length) = some 1 := by decide +kernel
set_option maxHeartbeats 4000000 in
set_option maxRecDepth 100000 in
theorem ch_X9_beginAt (l : Launch) (D : va_G) (cy : Nat → ClassId) (h : Nat) (a1 : Option Nat) (s0 : HSt) (out : HSt) (hf : fh_X9_beginAt h a1 s0 = some out) : CHv l D cy yX9_beginAt wsX9_beginAt { frames := 0, cells := 0, slots := 0, locals := 0 } 0 0 False True [.ref h, va_rf a1] s0 out := by
  refine Met.ofW (cc := cX9_beginAt) (maxL := 2) (ret := none) (by decide) rfl ?_
  intro p e s m args below meth c s₁ B hml hv
  obtain ⟨rfl, hP, hK, hD0, hkx, hsz, hal⟩ := hv
  have hx := B.exec
  have hb := B.bytes
  have hr := B.returns
  have hts := atoms_spec (ws := wsX9_beginAt) B.pre
  have hown : s.vm.findClass RX9 = some m.cls := findClass_of_methodNamed B.named
  have hlocks := B.notSynchronized
  have hI : HI D cy s s0 s0 s.heap [] 0 False True := ⟨hK, hP, hD0.weaken (fun k q hk _ => Or.inl (pl_mem hk)), va_S.rf, hsz.1, hkx, ⟨hsz, hal⟩, fun _ => rfl, Nat.le_refl _⟩
  have hin_X9 : ∀ w ∈ u_ws RX9 TX9 5, w ∈ wsX9_beginAt := fun w hw => List.mem_cons_of_mem _ (List.mem_append_right _ hw)
  have kl_12 : Cond.fieldLink RX9 12 "HalfBridge$Span" "river" "LHalfBridge$River;" ∈ wsX9_beginAt := by decide +kernel
  have kl_16 : Cond.fieldLink RX9 16 "HalfBridge$Span" "yards" "[I" ∈ wsX9_beginAt := by decide +kernel
  have kl_26 : Cond.fieldLink RX9 26 "HalfBridge$Span" "day" "I" ∈ wsX9_beginAt := by decide +kernel
  have hl := lv_entry ([.ref h, va_rf a1]) (n := 2) (by simp [lg_sl, cat_rf, cat_i, cat_l, cat_r])
  rw [lg_entry_eq]
  generalize (lg_sl ([.ref h, va_rf a1]) ++ List.replicate (2 - (lg_sl ([.ref h, va_rf a1])).length) Slot.unset).toArray = ls at hl ⊢
  have hl : lv_has ls 2 [(0, .ref h), (1, va_rf a1)] := (by simpa [lv_args, cat_rf, cat_i, cat_l, cat_r] using hl)
  obtain ⟨K0, hK0, hf⟩ := top_e hf
  unfold fh_X9_beginAt at hf
  refine lv_aload_n hx hb dX9_beginAt_0 rfl (lv_at hl 0 rfl) ?_
  refine hq_aload_n hx hb dX9_beginAt_1 rfl (lv_at hl 1 rfl) ?_
  obtain ⟨k1, hf⟩ := chk_b hf
  refine hp_9_0 (x := a1) hx hb hts hin_X9 hown kl_12 hI (isk_k k1) dX9_beginAt_2 (fun H locs hI => ?_)
  refine lv_aload_n hx hb dX9_beginAt_5 rfl (lv_at hl 0 rfl) ?_
  refine lv_iconst (v := 0) hx hb dX9_beginAt_6 (by decide) ?_
  refine hp_9_1 hx hb hts hin_X9 hown kl_26 hI (gK_sR.trans (isk_k k1)) dX9_beginAt_7 (fun H locs hI => ?_)
  refine lv_aload_n hx hb dX9_beginAt_10 rfl (lv_at hl 0 rfl) ?_
  refine hg_9_2 hx hb hts hin_X9 hown kl_16 hI (gK_sI.trans (gK_sR.trans (isk_k k1))) dX9_beginAt_11 ?_
  refine lv_iconst (v := 0) hx hb dX9_beginAt_14 (by decide) ?_
  refine lv_iconst (v := 0) hx hb dX9_beginAt_15 (by decide) ?_
  obtain ⟨b2, hd3, hf⟩ := bnd_b hf
  obtain ⟨hq4, hk5⟩ := dr_e hd3
  refine W.eq (g2 := F0 m 16 ls [.int (0 : Int32), .int (0 : Int32), .ref b2]) (by rw [hq4]; rfl) ?_
  obtain ⟨k6, hf⟩ := chk_b hf
  refine hs_I hx hb hI (gK_sI.trans (gK_sR.trans hk5)) k6 dX9_beginAt_16 (fun H locs hI => ?_)
  obtain ⟨x7, hx7, hf⟩ := bnd_b hf
  replace hx7 := Option.some.inj hx7
  rw [hx7] at hI
  have hk8 : gK x7 h = 10 := by rw [← hx7]; exact (gK_sA.trans (gK_sI.trans (gK_sR.trans (isk_k k1))))
  have hk9 : gK x7 b2 = 22 := by rw [← hx7]; exact (gK_sA.trans (gK_sI.trans (gK_sR.trans hk5)))
  refine lv_aload_n hx hb dX9_beginAt_17 rfl (lv_at hl 0 rfl) ?_
  refine hg_9_2 hx hb hts hin_X9 hown kl_16 hI hk8 dX9_beginAt_18 ?_
  refine lv_iconst (v := 1) hx hb dX9_beginAt_21 (by decide) ?_
  refine lv_iconst (v := 0) hx hb dX9_beginAt_22 (by decide) ?_
  obtain ⟨b10, hd11, hf⟩ := bnd_b hf
  obtain ⟨hq12, hk13⟩ := dr_e hd11
  refine W.eq (g2 := F0 m 23 ls [.int (0 : Int32), .int (1 : Int32), .ref b10]) (by rw [hq12]; rfl) ?_
  obtain ⟨k14, hf⟩ := chk_b hf
  refine hs_I hx hb hI hk13 k14 dX9_beginAt_23 (fun H locs hI => ?_)
  exact hret_v hx hb hr hlocks hI (by decide) (by decide) (fun _ => ⟨trivial, rfl⟩) (ret_e hK0 hf) dX9_beginAt_24

theorem nd_X8_clearRuins : yX8_clearRuins.cls ≠ "java/lang/invoke/MethodHandle" ∧ yX8_clearRuins.cls ≠ "java/lang/invoke/VarHandle" ∧ (parseMethodDescriptor yX8_clearRuins.desc).map (fun d => d.parameters.length) = some 0 := by decide +kernel
set_option maxHeartbeats 4000000 in
set_option maxRecDepth 100000 in
theorem ch_X8_clearRuins (l : Launch) (D : va_G) (cy : Nat → ClassId) (h : Nat)  (s0 : HSt) (out : HSt) (hf : fh_X8_clearRuins h s0 = some out) : CHv l D cy yX8_clearRuins wsX8_clearRuins { frames := 1, cells := 0, slots := 0, locals := 23 } 0 0 False True [.ref h] s0 out := by
  refine Met.ofW (cc := cX8_clearRuins) (maxL := 1) (ret := none) (by decide) rfl ?_
  intro p e s m args below meth c s₁ B hml hv
  obtain ⟨rfl, hP, hK, hD0, hkx, hsz, hal⟩ := hv
  have hx := B.exec
  have hb := B.bytes
  have hr := B.returns
  have hts := atoms_spec (ws := wsX8_clearRuins) B.pre
  have hown : s.vm.findClass RX8 = some m.cls := findClass_of_methodNamed B.named
  have hlocks := B.notSynchronized
  have hI : HI D cy s s0 s0 s.heap [] 0 False True := ⟨hK, hP, hD0.weaken (fun k q hk _ => Or.inl (pl_mem hk)), va_S.rf, hsz.1, hkx, ⟨hsz, hal⟩, fun _ => rfl, Nat.le_refl _⟩
  have hin_X8 : ∀ w ∈ u_ws RX8 TX8 5, w ∈ wsX8_clearRuins := fun w hw => List.mem_cons_of_mem _ (List.mem_append_right _ hw)
  have kl_20 : Cond.fieldLink RX8 20 "HalfBridge$Site" "ruins" "[I" ∈ wsX8_clearRuins := by decide +kernel
  have kl_38 : Cond.fieldLink RX8 38 "HalfBridge$Site" "ruinsTold" "I" ∈ wsX8_clearRuins := by decide +kernel
  have hl := lv_entry ([.ref h]) (n := 1) (Nat.le_of_ble_eq_true rfl)
  rw [lg_entry_eq]
  generalize (lg_sl ([.ref h]) ++ List.replicate (1 - (lg_sl ([.ref h])).length) Slot.unset).toArray = ls at hl ⊢
  have hl : lv_has ls 1 [(0, .ref h)] := hl
  obtain ⟨K0, hK0, hf⟩ := top_e hf
  unfold fh_X8_clearRuins at hf
  refine lv_aload_n hx hb dX8_clearRuins_0 rfl (lv_at hl 0 rfl) ?_
  obtain ⟨k1, hf⟩ := chk_b hf
  refine hg_8_4 hx hb hts hin_X8 hown kl_20 hI (isk_k k1) dX8_clearRuins_1 ?_
  refine lv_ldc (v := 100000) hx hb hown (hts (.constant RX8 23 (100000)) (by decide +kernel)) dX8_clearRuins_4 ?_
  obtain ⟨x2, hc3, hf⟩ := bnd_b hf
  refine hcall_Sv (ex2 := True) (As := [va_rf (gR s0 804 h), .int (100000 : Int32)]) (rest := []) (n := 2) ⟨hx, hb, hml, hown, hts⟩ (ch_J7_fill_53178 l D cy (gR s0 804 h) (100000 : Int32) s0 x2 hc3) (va_cwS 2 hts gX8_clearRuins_J7_fill_53178 rfl rfl rfl nd_J7_fill_53178 ⟨Nat.le_of_ble_eq_true rfl, Nat.le_of_ble_eq_true rfl⟩) hI (fun h => h.elim) (fun _ => ⟨trivial, trivial⟩) rfl hl.1 (Nat.le_of_ble_eq_true rfl) dX8_clearRuins_6 ⟨Nat.le_of_ble_eq_true rfl, Nat.le_of_ble_eq_true rfl⟩ (fun H locs hI => ?_)
  refine lv_aload_n hx hb dX8_clearRuins_9 rfl (lv_at hl 0 rfl) ?_
  refine lv_iconst (v := 0) hx hb dX8_clearRuins_10 (by decide) ?_
  obtain ⟨k4, hf⟩ := chk_b hf
  refine hp_8_2 hx hb hts hin_X8 hown kl_38 hI (isk_k k4) dX8_clearRuins_11 (fun H locs hI => ?_)
  exact hret_v hx hb hr hlocks hI (by decide) (by decide) (fun _ => ⟨trivial, rfl⟩) (ret_e hK0 hf) dX8_clearRuins_14

theorem nd_X8_beginAt : yX8_beginAt.cls ≠ "java/lang/invoke/MethodHandle" ∧ yX8_beginAt.cls ≠ "java/lang/invoke/VarHandle" ∧ (parseMethodDescriptor yX8_beginAt.desc).map (fun d => d.parameters.length) = some 1 := by decide +kernel
set_option maxHeartbeats 4000000 in
set_option maxRecDepth 100000 in
theorem ch_X8_beginAt (l : Launch) (D : va_G) (cy : Nat → ClassId) (h : Nat) (a1 : Option Nat) (s0 : HSt) (out : HSt) (hf : fh_X8_beginAt h a1 s0 = some out) : CHv l D cy yX8_beginAt wsX8_beginAt { frames := 2, cells := 0, slots := 0, locals := 43 } 0 0 False True [.ref h, va_rf a1] s0 out := by
  refine Met.ofW (cc := cX8_beginAt) (maxL := 2) (ret := none) (by decide) rfl ?_
  intro p e s m args below meth c s₁ B hml hv
  obtain ⟨rfl, hP, hK, hD0, hkx, hsz, hal⟩ := hv
  have hx := B.exec
  have hb := B.bytes
  have hr := B.returns
  have hts := atoms_spec (ws := wsX8_beginAt) B.pre
  have hown : s.vm.findClass RX8 = some m.cls := findClass_of_methodNamed B.named
  have hlocks := B.notSynchronized
  have hI : HI D cy s s0 s0 s.heap [] 0 False True := ⟨hK, hP, hD0.weaken (fun k q hk _ => Or.inl (pl_mem hk)), va_S.rf, hsz.1, hkx, ⟨hsz, hal⟩, fun _ => rfl, Nat.le_refl _⟩
  have hin_X8 : ∀ w ∈ u_ws RX8 TX8 5, w ∈ wsX8_beginAt := fun w hw => List.mem_cons_of_mem _ (List.mem_append_left _ (List.mem_append_right _ hw))
  have kl_10 : Cond.fieldLink RX8 10 "HalfBridge$Site" "span" "LHalfBridge$Span;" ∈ wsX8_beginAt := by decide +kernel
  have kl_16 : Cond.fieldLink RX8 16 "HalfBridge$Site" "errors" "[I" ∈ wsX8_beginAt := by decide +kernel
  have hl := lv_entry ([.ref h, va_rf a1]) (n := 2) (by simp [lg_sl, cat_rf, cat_i, cat_l, cat_r])
  rw [lg_entry_eq]
  generalize (lg_sl ([.ref h, va_rf a1]) ++ List.replicate (2 - (lg_sl ([.ref h, va_rf a1])).length) Slot.unset).toArray = ls at hl ⊢
  have hl : lv_has ls 2 [(0, .ref h), (1, va_rf a1)] := (by simpa [lv_args, cat_rf, cat_i, cat_l, cat_r] using hl)
  obtain ⟨K0, hK0, hf⟩ := top_e hf
  unfold fh_X8_beginAt at hf
  refine lv_aload_n hx hb dX8_beginAt_0 rfl (lv_at hl 0 rfl) ?_
  obtain ⟨k1, hf⟩ := chk_b hf
  refine hg_8_0 hx hb hts hin_X8 hown kl_10 hI (isk_k k1) dX8_beginAt_1 ?_
  refine hq_aload_n hx hb dX8_beginAt_4 rfl (lv_at hl 1 rfl) ?_
  obtain ⟨b2, hd3, hf⟩ := bnd_b hf
  obtain ⟨hq4, hk5⟩ := dr_e hd3
  refine W.eq (g2 := F0 m 5 ls [va_rf a1, .ref b2]) (by rw [hq4]; rfl) ?_
  obtain ⟨x6, hc7, hf⟩ := bnd_b hf
  refine hcall_Vv (ex2 := True) (As := [va_rf a1]) (rest := []) (n := 1) (by rw [hk5]; decide) (hC_10 hk5) rfl ⟨hx, hb, hml, hown, hts⟩ (ch_X9_beginAt l D cy b2 a1 s0 x6 hc7) (cwV 1 hts gX8_beginAt_X9_beginAt rfl rfl rfl ⟨rfl, nd_X9_beginAt⟩ ⟨Nat.le_of_ble_eq_true rfl, Nat.le_of_ble_eq_true rfl⟩) hI (fun h => h.elim) (fun _ => ⟨trivial, trivial⟩) rfl hl.1 (Nat.le_of_ble_eq_true rfl) dX8_beginAt_5 ⟨Nat.le_of_ble_eq_true rfl, Nat.le_of_ble_eq_true rfl⟩ (fun H locs hI => ?_)
  refine lv_aload_n hx hb dX8_beginAt_8 rfl (lv_at hl 0 rfl) ?_
  obtain ⟨k8, hf⟩ := chk_b hf
  refine hg_8_3 hx hb hts hin_X8 hown kl_16 hI (isk_k k8) dX8_beginAt_9 ?_
  refine lv_iconst (v := 0) hx hb dX8_beginAt_12 (by decide) ?_
  obtain ⟨x9, hc10, hf⟩ := bnd_b hf
  refine hcall_Sv (ex2 := True) (As := [va_rf (gR x6 803 h), .int (0 : Int32)]) (rest := []) (n := 2) ⟨hx, hb, hml, hown, hts⟩ (ch_J7_fill_53178 l D cy (gR x6 803 h) (0 : Int32) x6 x9 hc10) (va_cwS 2 hts gX8_beginAt_J7_fill_53178 rfl rfl rfl nd_J7_fill_53178 ⟨Nat.le_of_ble_eq_true rfl, Nat.le_of_ble_eq_true rfl⟩) hI (fun h => h.elim) (fun _ => ⟨trivial, trivial⟩) rfl hl.1 (Nat.le_of_ble_eq_true rfl) dX8_beginAt_13 ⟨Nat.le_of_ble_eq_true rfl, Nat.le_of_ble_eq_true rfl⟩ (fun H locs hI => ?_)
  refine lv_aload_n hx hb dX8_beginAt_16 rfl (lv_at hl 0 rfl) ?_
  obtain ⟨k11, hf⟩ := chk_b hf
  obtain ⟨x12, hc13, hf⟩ := bnd_b hf
  refine hcall_Vv (ex2 := True) (As := []) (rest := []) (n := 0) (by rw [(isk_k k11)]; decide) (hC_9 (isk_k k11)) rfl ⟨hx, hb, hml, hown, hts⟩ (ch_X8_clearRuins l D cy h x9 x12 hc13) (cwV 0 hts gX8_beginAt_X8_clearRuins rfl rfl rfl ⟨rfl, nd_X8_clearRuins⟩ ⟨Nat.le_of_ble_eq_true rfl, Nat.le_of_ble_eq_true rfl⟩) hI (fun h => h.elim) (fun _ => ⟨trivial, trivial⟩) rfl hl.1 (Nat.le_of_ble_eq_true rfl) dX8_beginAt_17 ⟨Nat.le_of_ble_eq_true rfl, Nat.le_of_ble_eq_true rfl⟩ (fun H locs hI => ?_)
  exact hret_v hx hb hr hlocks hI (by decide) (by decide) (fun _ => ⟨trivial, rfl⟩) (ret_e hK0 hf) dX8_beginAt_20

theorem nd_X11_river : yX11_river.cls ≠ "java/lang/invoke/MethodHandle" ∧ yX11_river.cls ≠ "java/lang/invoke/VarHandle" ∧ (parseMethodDescriptor yX11_river.desc).map (fun d => d.parameters.length) = some 0 := by decide +kernel
set_option maxHeartbeats 4000000 in
set_option maxRecDepth 100000 in
theorem ch_X11_river (l : Launch) (D : va_G) (cy : Nat → ClassId) (h : Nat)  (s0 : HSt) (out : HSt × Int32) (hf : fh_X11_river h s0 = some out) : CHi l D cy yX11_river wsX11_river { frames := 10, cells := 6, slots := 31, locals := 222 } 6 31 True True [.ref h] s0 out := by
  refine Met.ofW (cc := cX11_river) (maxL := 2) (ret := (some .int)) (by decide) rfl ?_
  intro p e s m args below meth c s₁ B hml hv
  obtain ⟨rfl, hP, hK, hD0, hkx, hsz, hal⟩ := hv
  have hx := B.exec
  have hb := B.bytes
  have hr := B.returns
  have hts := atoms_spec (ws := wsX11_river) B.pre
  have hown : s.vm.findClass RX11 = some m.cls := findClass_of_methodNamed B.named
  have hlocks := B.notSynchronized
  have hI : HI D cy s s0 s0 s.heap [] 0 True True := ⟨hK, hP, hD0.weaken (fun k q hk _ => Or.inl (pl_mem hk)), va_S.rf, hsz.1, hkx, ⟨hsz, hal⟩, fun _ => rfl, Nat.le_refl _⟩
  have hin_X10 : ∀ w ∈ u_ws RX10 TX10 6, w ∈ wsX11_river := fun w hw => List.mem_cons_of_mem _ (List.mem_append_left _ (List.mem_append_left _ (List.mem_append_left _ (List.mem_append_left _ (List.mem_append_right _ hw)))))
  have hin_X11 : ∀ w ∈ u_ws RX11 TX11 10, w ∈ wsX11_river := fun w hw => List.mem_cons_of_mem _ (List.mem_append_left _ (List.mem_append_left _ (List.mem_append_left _ (List.mem_append_left _ (List.mem_append_left _ (List.mem_append_right _ hw))))))
  have hin_X4 : ∀ w ∈ u_ws RX4 TX4 9, w ∈ wsX11_river := fun w hw => List.mem_cons_of_mem _ (List.mem_append_left _ (List.mem_append_left _ (List.mem_append_left _ (List.mem_append_right _ hw))))
  have kl_22 : Cond.fieldLink RX11 22 "HalfBridge" "site" "LHalfBridge$Site;" ∈ wsX11_river := by decide +kernel
  have kl_33 : Cond.fieldLink RX11 33 "HalfBridge" "tokens" "LHalfBridge$Tokens;" ∈ wsX11_river := by decide +kernel
  have kl_42 : Cond.fieldLink RX11 42 "HalfBridge" "riverReader" "LHalfBridge$RiverReader;" ∈ wsX11_river := by decide +kernel
  have kl_75 : Cond.fieldLink RX11 75 "HalfBridge$Tokens" "fault" "I" ∈ wsX11_river := by decide +kernel
  have kl_82 : Cond.fieldLink RX11 82 "HalfBridge$River" "wide" "I" ∈ wsX11_river := by decide +kernel
  have hl := lv_entry ([.ref h]) (n := 2) (Nat.le_of_ble_eq_true rfl)
  rw [lg_entry_eq]
  generalize (lg_sl ([.ref h]) ++ List.replicate (2 - (lg_sl ([.ref h])).length) Slot.unset).toArray = ls at hl ⊢
  have hl : lv_has ls 2 [(0, .ref h)] := hl
  obtain ⟨K0, hK0, hf⟩ := top_e hf
  unfold fh_X11_river at hf
  refine lv_aload_n hx hb dX11_river_0 rfl (lv_at hl 0 rfl) ?_
  obtain ⟨k1, hf⟩ := chk_b hf
  obtain ⟨x2, hc3, hf⟩ := bnd_b hf
  refine hcall_Vv (ex2 := True) (As := []) (rest := []) (n := 0) (by rw [(isk_k k1)]; decide) (hC_12 (isk_k k1)) rfl ⟨hx, hb, hml, hown, hts⟩ (ch_X11_scanTape l D cy h s0 x2 hc3) (cwV 0 hts gX11_river_X11_scanTape rfl rfl rfl ⟨rfl, nd_X11_scanTape⟩ ⟨Nat.le_of_ble_eq_true rfl, Nat.le_of_ble_eq_true rfl⟩) hI (fun h => h.elim) (fun _ => ⟨trivial, trivial⟩) rfl hl.1 (Nat.le_of_ble_eq_true rfl) dX11_river_1 ⟨Nat.le_of_ble_eq_true rfl, Nat.le_of_ble_eq_true rfl⟩ (fun H locs hI => ?_)
  refine lv_aload_n hx hb dX11_river_4 rfl (lv_at hl 0 rfl) ?_
  obtain ⟨k4, hf⟩ := chk_b hf
  refine hg_11_7 hx hb hts hin_X11 hown kl_42 hI (isk_k k4) dX11_river_5 ?_
  obtain ⟨b5, hd6, hf⟩ := bnd_b hf
  obtain ⟨hq7, hk8⟩ := dr_e hd6
  refine W.eq (g2 := F0 m 8 ls [.ref b5]) (by rw [hq7]; rfl) ?_
  obtain ⟨x9, hc10, hf⟩ := bnd_b hf
  refine hcall_Vq (ex2 := True) (As := []) (rest := []) (n := 0) (by rw [hk8]; decide) (hC_6 hk8) rfl ⟨hx, hb, hml, hown, hts⟩ (ch_X5_read l D cy b5 x2 x9 hc10) (cwV 0 hts gX11_river_X5_read rfl rfl rfl ⟨rfl, nd_X5_read⟩ ⟨Nat.le_of_ble_eq_true rfl, Nat.le_of_ble_eq_true rfl⟩) hI (fun h => ⟨trivial, trivial⟩) (fun _ => ⟨trivial, trivial⟩) rfl hl.1 (Nat.le_of_ble_eq_true rfl) dX11_river_8 ⟨Nat.le_of_ble_eq_true rfl, Nat.le_of_ble_eq_true rfl⟩ (fun H locs hI => ?_)
  refine hq_astore_n (lv' := [(1, va_rf x9.2), (0, .ref h)]) hx hb dX11_river_11 rfl hl (by decide) (by first | rfl | (simp [cat_rf, cat_i, cat_l, cat_r]; done) | (simp [cat_rf, cat_i, cat_l, cat_r]; decide)) (fun ls hl => ?_)
  refine hq_aload_n hx hb dX11_river_12 rfl (lv_at hl 0 rfl) ?_
  by_cases c11 : x9.2 = none
  · replace hf := ifp c11 hf
    refine W.eq (g2 := F0 m 13 ls [.null]) (by rw [c11]; rfl) ?_
    refine lv_ifnonnullN hx hb dX11_river_13 ?_
    refine lv_bipush (v := -2) hx hb dX11_river_16 (by decide) ?_
    refine lv_aload_n hx hb dX11_river_18 rfl (lv_at hl 1 rfl) ?_
    obtain ⟨k14, hf⟩ := chk_b hf
    refine hg_11_6 hx hb hts hin_X11 hown kl_33 hI (isk_k k14) dX11_river_19 ?_
    obtain ⟨b15, hd16, hf⟩ := bnd_b hf
    obtain ⟨hq17, hk18⟩ := dr_e hd16
    refine W.eq (g2 := F0 m 22 ls [.ref b15, .int (-2 : Int32)]) (by rw [hq17]; rfl) ?_
    refine hg_10_5 hx hb hts hin_X10 hown kl_75 hI hk18 dX11_river_22 ?_
    refine lv_isub hx hb dX11_river_25 ?_
    exact hret_i hx hb hr hlocks hI (by decide) (by decide) (fun _ => ⟨trivial, rfl⟩) (ret_e hK0 hf) dX11_river_26
  · replace hf := ifn c11 hf
    obtain ⟨b12, hq13, hf⟩ := bnd_b hf
    refine W.eq (g2 := F0 m 13 ls [.ref b12]) (by rw [hq13]; rfl) ?_
    refine lv_ifnonnull (tgt := 27) hx hb dX11_river_13 (by decide) ?_
    refine lv_aload_n hx hb dX11_river_27 rfl (lv_at hl 1 rfl) ?_
    obtain ⟨k19, hf⟩ := chk_b hf
    refine hg_11_4 hx hb hts hin_X11 hown kl_22 hI (isk_k k19) dX11_river_28 ?_
    refine hq_aload_n hx hb dX11_river_31 rfl (lv_at hl 0 rfl) ?_
    obtain ⟨b20, hd21, hf⟩ := bnd_b hf
    obtain ⟨hq22, hk23⟩ := dr_e hd21
    refine W.eq (g2 := F0 m 32 ls [va_rf x9.2, .ref b20]) (by rw [hq22]; rfl) ?_
    obtain ⟨x24, hc25, hf⟩ := bnd_b hf
    refine hcall_Vv (ex2 := True) (As := [va_rf x9.2]) (rest := []) (n := 1) (by rw [hk23]; decide) (hC_9 hk23) rfl ⟨hx, hb, hml, hown, hts⟩ (ch_X8_beginAt l D cy b20 x9.2 x9.1 x24 hc25) (cwV 1 hts gX11_river_X8_beginAt rfl rfl rfl ⟨rfl, nd_X8_beginAt⟩ ⟨Nat.le_of_ble_eq_true rfl, Nat.le_of_ble_eq_true rfl⟩) hI (fun h => h.elim) (fun _ => ⟨trivial, trivial⟩) rfl hl.1 (Nat.le_of_ble_eq_true rfl) dX11_river_32 ⟨Nat.le_of_ble_eq_true rfl, Nat.le_of_ble_eq_true rfl⟩ (fun H locs hI => ?_)
    refine hq_aload_n hx hb dX11_river_35 rfl (lv_at hl 0 rfl) ?_
    refine W.eq (g2 := F0 m 36 ls [.ref b12]) (by rw [hq13]; rfl) ?_
    obtain ⟨k26, hf⟩ := chk_b hf
    refine hg_4_0 hx hb hts hin_X4 hown kl_82 hI (isk_k k26) dX11_river_36 ?_
    exact hret_i hx hb hr hlocks hI (by decide) (by decide) (fun _ => ⟨trivial, rfl⟩) (ret_e hK0 hf) dX11_river_39

theorem nd_X8_tellRuin : yX8_tellRuin.cls ≠ "java/lang/invoke/MethodHandle" ∧ yX8_tellRuin.cls ≠ "java/lang/invoke/VarHandle" ∧ (parseMethodDescriptor yX8_tellRuin.desc).map (fun d => d.parameters.length) = some 3 := by decide +kernel
set_option maxHeartbeats 4000000 in
set_option maxRecDepth 100000 in
theorem ch_X8_tellRuin (l : Launch) (D : va_G) (cy : Nat → ClassId) (h : Nat) (a1 : Int32) (a2 : Int32) (a3 : Int32) (s0 : HSt) (out : HSt) (hf : fh_X8_tellRuin h a1 a2 a3 s0 = some out) : CHv l D cy yX8_tellRuin wsX8_tellRuin { frames := 0, cells := 0, slots := 0, locals := 0 } 0 0 False True [.ref h, .int a1, .int a2, .int a3] s0 out := by
  refine Met.ofW (cc := cX8_tellRuin) (maxL := 5) (ret := none) (by decide) rfl ?_
  intro p e s m args below meth c s₁ B hml hv
  obtain ⟨rfl, hP, hK, hD0, hkx, hsz, hal⟩ := hv
  have hx := B.exec
  have hb := B.bytes
  have hr := B.returns
  have hts := atoms_spec (ws := wsX8_tellRuin) B.pre
  have hown : s.vm.findClass RX8 = some m.cls := findClass_of_methodNamed B.named
  have hlocks := B.notSynchronized
  have hI : HI D cy s s0 s0 s.heap [] 0 False True := ⟨hK, hP, hD0.weaken (fun k q hk _ => Or.inl (pl_mem hk)), va_S.rf, hsz.1, hkx, ⟨hsz, hal⟩, fun _ => rfl, Nat.le_refl _⟩
  have hin_X8 : ∀ w ∈ u_ws RX8 TX8 5, w ∈ wsX8_tellRuin := fun w hw => List.mem_cons_of_mem _ (List.mem_append_right _ hw)
  have kl_20 : Cond.fieldLink RX8 20 "HalfBridge$Site" "ruins" "[I" ∈ wsX8_tellRuin := by decide +kernel
  have kl_38 : Cond.fieldLink RX8 38 "HalfBridge$Site" "ruinsTold" "I" ∈ wsX8_tellRuin := by decide +kernel
  have hl := lv_entry ([.ref h, .int a1, .int a2, .int a3]) (n := 5) (Nat.le_of_ble_eq_true rfl)
  rw [lg_entry_eq]
  generalize (lg_sl ([.ref h, .int a1, .int a2, .int a3]) ++ List.replicate (5 - (lg_sl ([.ref h, .int a1, .int a2, .int a3])).length) Slot.unset).toArray = ls at hl ⊢
  have hl : lv_has ls 5 [(0, .ref h), (1, .int a1), (2, .int a2), (3, .int a3)] := hl
  obtain ⟨K0, hK0, hf⟩ := top_e hf
  have B_44_0 : ∀ (v3 : Int32) (v4 : Int32) (t0 : Int32) (t1 : Int32) (t2 : Nat) (st : HSt) (H : Heap) (locs : List Loc) (ls : Array Slot), HI D cy s s0 st H locs 0 False True → lv_has ls 5 [(0, .ref h), (3, .int v3), (4, .int v4)] → (fh_X8_tellRuin_j44 h v3 v4 t0 t1 t2 st).bind K0 = some out → W p l e (headSpec wsX8_tellRuin { frames := 0, cells := 0, slots := 0, locals := 0 }).room s m (([.ref h, .int a1, .int a2, .int a3] : List Value).toArray) below meth c H locs 0 0 (MQ below (HQv D cy s0 0 True out) ([.ref h, .int a1, .int a2, .int a3] : List Value).toArray s 0 0 (hF s0)) (F0 m 44 ls [.int t0, .int t1, .ref t2]) := by
    intro v3 v4 t0 t1 t2 st H locs ls hI hl hf
    unfold fh_X8_tellRuin_j44 at hf
    refine lv_iadd hx hb dX8_tellRuin_44 ?_
    obtain ⟨k10, hf⟩ := chk_b hf
    refine hp_8_2 hx hb hts hin_X8 hown kl_38 hI (isk_k k10) dX8_tellRuin_45 (fun H locs hI => ?_)
    refine lv_aload_n hx hb dX8_tellRuin_48 rfl (lv_at hl 0 rfl) ?_
    obtain ⟨k11, hf⟩ := chk_b hf
    refine hg_8_4 hx hb hts hin_X8 hown kl_20 hI (gK_sI.trans (isk_k k11)) dX8_tellRuin_49 ?_
    refine lv_iload hx hb dX8_tellRuin_52 (lv_at hl 2 rfl) ?_
    refine lv_iload_n hx hb dX8_tellRuin_54 rfl (lv_at hl 1 rfl) ?_
    obtain ⟨b12, hd13, hf⟩ := bnd_b hf
    obtain ⟨hq14, hk15⟩ := dr_e hd13
    refine W.eq (g2 := F0 m 55 ls [.int v3, .int v4, .ref b12]) (by rw [hq14]; rfl) ?_
    obtain ⟨k16, hf⟩ := chk_b hf
    refine hs_I hx hb hI (gK_sI.trans hk15) k16 dX8_tellRuin_55 (fun H locs hI => ?_)
    exact hret_v hx hb hr hlocks hI (by decide) (by decide) (fun _ => ⟨trivial, rfl⟩) (ret_e hK0 hf) dX8_tellRuin_56
  unfold fh_X8_tellRuin at hf
  refine lv_iconst (v := 2) hx hb dX8_tellRuin_0 (by decide) ?_
  refine lv_iload_n hx hb dX8_tellRuin_1 rfl (lv_at hl 2 rfl) ?_
  refine lv_imul hx hb dX8_tellRuin_2 ?_
  refine lv_iload_n hx hb dX8_tellRuin_3 rfl (lv_at hl 1 rfl) ?_
  refine lv_iadd hx hb dX8_tellRuin_4 ?_
  refine lv_istore (lv' := [(4, .int (((2 : Int32) * a2) + a1)), (0, .ref h), (1, .int a1), (2, .int a2), (3, .int a3)]) hx hb dX8_tellRuin_5 hl (by decide) rfl (fun ls hl => ?_)
  refine lv_iload hx hb dX8_tellRuin_7 (lv_at hl 0 rfl) ?_
  refine lv_if_lt (tgt := 56) hx hb dX8_tellRuin_9 (by decide) (fun c1 => ?_) (fun c1 => ?_)
  · replace hf := ifp c1 hf
    exact hret_v hx hb hr hlocks hI (by decide) (by decide) (fun _ => ⟨trivial, rfl⟩) (ret_e hK0 hf) dX8_tellRuin_56
  · replace hf := ifn c1 hf
    refine lv_iload hx hb dX8_tellRuin_12 (lv_at hl 0 rfl) ?_
    refine lv_aload_n hx hb dX8_tellRuin_14 rfl (lv_at hl 1 rfl) ?_
    obtain ⟨k2, hf⟩ := chk_b hf
    refine hg_8_4 hx hb hts hin_X8 hown kl_20 hI (isk_k k2) dX8_tellRuin_15 ?_
    obtain ⟨b3, hd4, hf⟩ := bnd_b hf
    obtain ⟨hq5, hk6⟩ := dr_e hd4
    refine W.eq (g2 := F0 m 18 ls [.ref b3, .int (((2 : Int32) * a2) + a1)]) (by rw [hq5]; rfl) ?_
    refine ha_22 hx hb hI hk6 dX8_tellRuin_18 ?_
    refine lv_icmp_ge (tgt := 56) hx hb dX8_tellRuin_19 (by decide) (fun c7 => ?_) (fun c7 => ?_)
    · replace hf := ifp c7 hf
      exact hret_v hx hb hr hlocks hI (by decide) (by decide) (fun _ => ⟨trivial, rfl⟩) (ret_e hK0 hf) dX8_tellRuin_56
    · replace hf := ifn c7 hf
      refine lv_aload_n hx hb dX8_tellRuin_22 rfl (lv_at hl 1 rfl) ?_
      refine lv_dup hx hb dX8_tellRuin_23 rfl ?_
      refine hg_8_2 hx hb hts hin_X8 hown kl_38 hI (isk_k k2) dX8_tellRuin_24 ?_
      refine lv_aload_n hx hb dX8_tellRuin_27 rfl (lv_at hl 1 rfl) ?_
      refine hg_8_4 hx hb hts hin_X8 hown kl_20 hI (isk_k k2) dX8_tellRuin_28 ?_
      refine lv_iload hx hb dX8_tellRuin_31 (lv_at hl 0 rfl) ?_
      refine W.eq (g2 := F0 m 33 ls [.int (((2 : Int32) * a2) + a1), .ref b3, .int (gI s0 802 h), .ref h]) (by rw [hq5]; rfl) ?_
      obtain ⟨k8, hf⟩ := chk_b hf
      refine hl_I hx hb hI hk6 k8 dX8_tellRuin_33 ?_
      refine lv_ldc (v := 100000) hx hb hown (hts (.constant RX8 23 (100000)) (by decide +kernel)) dX8_tellRuin_34 ?_
      refine lv_icmp_ne (tgt := 43) hx hb dX8_tellRuin_36 (by decide) (fun c9 => ?_) (fun c9 => ?_)
      · replace hf := ifn c9 hf
        refine lv_iconst (v := 0) hx hb dX8_tellRuin_43 (by decide) ?_
        exact B_44_0 a3 (((2 : Int32) * a2) + a1) (0 : Int32) (gI s0 802 h) h s0 s.heap [] ls hI (lv_sub hl [1, 4, 0] rfl) hf
      · replace hf := ifp c9 hf
        refine lv_iconst (v := 1) hx hb dX8_tellRuin_39 (by decide) ?_
        refine lv_goto (tgt := 44) hx hb dX8_tellRuin_40 (by decide) ?_
        exact B_44_0 a3 (((2 : Int32) * a2) + a1) (1 : Int32) (gI s0 802 h) h s0 s.heap [] ls hI (lv_sub hl [1, 4, 0] rfl) hf
