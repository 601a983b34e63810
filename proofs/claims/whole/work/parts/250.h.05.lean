theorem nd_X0_comesAgain : yX0_comesAgain.cls ≠ "java/lang/invoke/MethodHandle" ∧ yX0_comesAgain.cls ≠ "java/lang/invoke/VarHandle" ∧ (parseMethodDescriptor yX0_comesAgain.desc).map (fun d => d.parameters.length) = some 3 := by decide +kernel
set_option maxHeartbeats 4000000 in
set_option maxRecDepth 100000 in
theorem ch_X0_comesAgain (l : Launch) (D : va_G) (cy : Nat → ClassId) (h : Nat) (a1 : Option Nat) (a2 : Option Nat) (a3 : Option Nat) (s0 : HSt) (out : HSt × Int32) (hf : fh_X0_comesAgain h a1 a2 a3 s0 = some out) : CHi l D cy yX0_comesAgain wsX0_comesAgain { frames := 5, cells := 1, slots := 2709, locals := 144 } 1 2709 True False [.ref h, va_rf a1, va_rf a2, va_rf a3] s0 out := by
  refine Met.ofW (cc := cX0_comesAgain) (maxL := 6) (ret := (some .boolean)) (by decide) rfl ?_
  intro p e s m args below meth c s₁ B hml hv
  obtain ⟨rfl, hP, hK, hD0, hkx, hsz, hal⟩ := hv
  have hx := B.exec
  have hb := B.bytes
  have hr := B.returns
  have hts := atoms_spec (ws := wsX0_comesAgain) B.pre
  have hown : s.vm.findClass RX0 = some m.cls := findClass_of_methodNamed B.named
  have hlocks := B.notSynchronized
  have hI : HI D cy s s0 s0 s.heap [] 0 True True := ⟨hK, hP, hD0.weaken (fun k q hk _ => Or.inl (pl_mem hk)), va_S.rf, hsz.1, hkx, ⟨hsz, hal⟩, fun _ => rfl, Nat.le_refl _⟩
  have hin_X0 : ∀ w ∈ u_ws RX0 TX0 11, w ∈ wsX0_comesAgain := fun w hw => List.mem_cons_of_mem _ (List.mem_append_left _ (List.mem_append_left _ (List.mem_append_left _ (List.mem_append_left _ (List.mem_append_left _ (List.mem_append_right _ hw))))))
  have hin_X8 : ∀ w ∈ u_ws RX8 TX8 5, w ∈ wsX0_comesAgain := fun w hw => List.mem_cons_of_mem _ (List.mem_append_left _ (List.mem_append_left _ (List.mem_append_left _ (List.mem_append_left _ (List.mem_append_right _ hw)))))
  have hin_X9 : ∀ w ∈ u_ws RX9 TX9 5, w ∈ wsX0_comesAgain := fun w hw => List.mem_cons_of_mem _ (List.mem_append_left _ (List.mem_append_left _ (List.mem_append_left _ (List.mem_append_right _ hw))))
  have kl_20 : Cond.fieldLink RX0 20 "HalfBridge$Foresight" "spares" "[LHalfBridge$Span;" ∈ wsX0_comesAgain := by decide +kernel
  have kl_47 : Cond.fieldLink RX0 47 "HalfBridge$Span" "day" "I" ∈ wsX0_comesAgain := by decide +kernel
  have kl_72 : Cond.fieldLink RX0 72 "HalfBridge$Site" "span" "LHalfBridge$Span;" ∈ wsX0_comesAgain := by decide +kernel
  have kl_112 : Cond.fieldLink RX0 112 "HalfBridge$Foresight" "packed" "[J" ∈ wsX0_comesAgain := by decide +kernel
  have kl_124 : Cond.fieldLink RX0 124 "HalfBridge$Foresight" "leadIn" "I" ∈ wsX0_comesAgain := by decide +kernel
  have kl_127 : Cond.fieldLink RX0 127 "HalfBridge$Foresight" "period" "I" ∈ wsX0_comesAgain := by decide +kernel
  have hl := lv_entry ([.ref h, va_rf a1, va_rf a2, va_rf a3]) (n := 6) (by simp [lg_sl, cat_rf, cat_i, cat_l, cat_r])
  rw [lg_entry_eq]
  generalize (lg_sl ([.ref h, va_rf a1, va_rf a2, va_rf a3]) ++ List.replicate (6 - (lg_sl ([.ref h, va_rf a1, va_rf a2, va_rf a3])).length) Slot.unset).toArray = ls at hl ⊢
  have hl : lv_has ls 6 [(0, .ref h), (1, va_rf a1), (2, va_rf a2), (3, va_rf a3)] := (by simpa [lv_args, cat_rf, cat_i, cat_l, cat_r] using hl)
  obtain ⟨K0, hK0, hf⟩ := top_e hf
  have B_132 : ∀   (st : HSt) (H : Heap) (locs : List Loc) (ls : Array Slot), HI D cy s s0 st H locs 1 True False → lv_has ls 6 [] → (fh_X0_comesAgain_j132 h st).bind K0 = some out → W p l e (headSpec wsX0_comesAgain { frames := 5, cells := 1, slots := 2709, locals := 144 }).room s m (([.ref h, va_rf a1, va_rf a2, va_rf a3] : List Value).toArray) below meth c H locs 1 2709 (MQ below (HQi D cy s0 1 False out) ([.ref h, va_rf a1, va_rf a2, va_rf a3] : List Value).toArray s 1 2709 (hF s0)) (F0 m 132 ls []) := by
    intro st H locs ls hI hl hf
    unfold fh_X0_comesAgain_j132 at hf
    refine lv_iconst (v := 0) hx hb dX0_comesAgain_132 (by decide) ?_
    exact hret_z hx hb hr (by decide) hlocks hI (by decide) (by decide) (fun h => h.elim) (ret_e hK0 hf) dX0_comesAgain_133
  have L_36 : ∀ (v1 : Option Nat) (v2 : Option Nat) (v3 : Option Nat) (v4 : Option Nat) (n : Nat) (v5 : Int32) (st : HSt) (H : Heap) (locs : List Loc) (ls : Array Slot), HI D cy s s0 st H locs 1 True False → lv_has ls 6 [(0, .ref h), (1, va_rf v1), (2, va_rf v2), (3, va_rf v3), (4, va_rf v4), (5, .int v5)] → (iter (fun x : (Int32 × HSt) => fh_X0_comesAgain_s36 h v1 v2 v3 v4 x.1 x.2) n (v5, st)).bind (fun x => ((Sum.elim (fun o : HSt × Int32 => (some o : Option (HSt × Int32))) (fun x : (Int32 × HSt) => fh_X0_comesAgain_j132 h x.2)) x).bind K0) = some out → W p l e (headSpec wsX0_comesAgain { frames := 5, cells := 1, slots := 2709, locals := 144 }).room s m (([.ref h, va_rf a1, va_rf a2, va_rf a3] : List Value).toArray) below meth c H locs 1 2709 (MQ below (HQi D cy s0 1 False out) ([.ref h, va_rf a1, va_rf a2, va_rf a3] : List Value).toArray s 1 2709 (hF s0)) (F0 m 36 ls []) := by
    intro v1 v2 v3 v4 n
    induction n with
    | zero => intro v5 st H locs ls hI hl hf; exact (iter_0 hf).elim
    | succ n ih =>
      intro v5 st H locs ls hI hl hf
      obtain ⟨K1, hK1, hf⟩ := iter_e hf
      replace hf : (fh_X0_comesAgain_s36 h v1 v2 v3 v4 v5 st).bind K1 = some out := hf
      unfold fh_X0_comesAgain_s36 at hf
      refine lv_iload hx hb dX0_comesAgain_36 (lv_at hl 5 rfl) ?_
      refine lv_sipush (v := 300) hx hb dX0_comesAgain_38 (by decide) ?_
      refine lv_icmp_gt (tgt := 132) hx hb dX0_comesAgain_41 (by decide) (fun c24 => ?_) (fun c24 => ?_)
      · replace hf := ifp c24 hf
        replace hf := exit_b hK1 hf
        exact B_132  st H locs ls hI (lv_sub hl [] rfl) hf
      · replace hf := ifn c24 hf
        refine hq_aload hx hb dX0_comesAgain_44 (lv_at hl 4 rfl) ?_
        refine lv_aload_n hx hb dX0_comesAgain_46 rfl (lv_at hl 0 rfl) ?_
        obtain ⟨k25, hf⟩ := chk_b hf
        refine hg_0_10 hx hb hts hin_X0 hown kl_112 hI (isk_k k25) dX0_comesAgain_47 ?_
        refine lv_iload hx hb dX0_comesAgain_50 (lv_at hl 5 rfl) ?_
        refine lv_bipush (v := 9) hx hb dX0_comesAgain_52 (by decide) ?_
        refine lv_imul hx hb dX0_comesAgain_54 ?_
        obtain ⟨b26, hd27, hf⟩ := bnd_b hf
        obtain ⟨hq28, hk29⟩ := dr_e hd27
        refine W.eq (g2 := F0 m 55 ls [.int (v5 * (9 : Int32)), va_rf (gR st 10 h), .ref b26]) (by rw [hq28]; rfl) ?_
        obtain ⟨x30, hc31, hf⟩ := bnd_b hf
        refine hcall_Vv (ex2 := False) (As := [va_rf (gR st 10 h), .int (v5 * (9 : Int32))]) (rest := []) (n := 2) (by rw [hk29]; decide) (hC_10 hk29) rfl ⟨hx, hb, hml, hown, hts⟩ (ch_X9_pack l D cy b26 (gR st 10 h) (v5 * (9 : Int32)) st x30 hc31) (cwV 2 hts gX0_comesAgain_X9_pack rfl rfl rfl ⟨rfl, nd_X9_pack⟩ ⟨Nat.le_of_ble_eq_true rfl, Nat.le_of_ble_eq_true rfl⟩) hI (fun h => h.elim) (fun h => h.elim) rfl hl.1 (Nat.le_of_ble_eq_true rfl) dX0_comesAgain_55 ⟨Nat.le_of_ble_eq_true rfl, Nat.le_of_ble_eq_true rfl⟩ (fun H locs hI => ?_)
        refine lv_aload_n hx hb dX0_comesAgain_58 rfl (lv_at hl 0 rfl) ?_
        refine lv_aload_n hx hb dX0_comesAgain_59 rfl (lv_at hl 0 rfl) ?_
        refine lv_iload hx hb dX0_comesAgain_60 (lv_at hl 5 rfl) ?_
        obtain ⟨k32, hf⟩ := chk_b hf
        obtain ⟨x33, hc34, hf⟩ := bnd_b hf
        refine hcall_Vi (ex2 := False) (As := [.int v5]) (rest := [.ref h]) (n := 1) (by rw [(isk_k k32)]; decide) (hC_1 (isk_k k32)) rfl ⟨hx, hb, hml, hown, hts⟩ (ch_X0_firstLike l D cy h v5 x30 x33 hc34) (cwV 1 hts gX0_comesAgain_X0_firstLike rfl rfl rfl ⟨rfl, nd_X0_firstLike⟩ ⟨Nat.le_of_ble_eq_true rfl, Nat.le_of_ble_eq_true rfl⟩) hI (fun h => h.elim) (fun h => h.elim) rfl hl.1 (Nat.le_of_ble_eq_true rfl) dX0_comesAgain_62 ⟨Nat.le_of_ble_eq_true rfl, Nat.le_of_ble_eq_true rfl⟩ (fun H locs hI => ?_)
        obtain ⟨k35, hf⟩ := chk_b hf
        refine hp_0_4 hx hb hts hin_X0 hown kl_124 hI (isk_k k35) dX0_comesAgain_65 (fun H locs hI => ?_)
        refine lv_aload_n hx hb dX0_comesAgain_68 rfl (lv_at hl 0 rfl) ?_
        refine hg_0_4 hx hb hts hin_X0 hown kl_124 hI (gK_sI.trans (isk_k k35)) dX0_comesAgain_69 ?_
        refine lv_iload hx hb dX0_comesAgain_72 (lv_at hl 5 rfl) ?_
        refine lv_icmp_ge (tgt := 90) hx hb dX0_comesAgain_74 (by decide) (fun c36 => ?_) (fun c36 => ?_)
        · replace hf := ifp c36 hf
          refine hq_aload hx hb dX0_comesAgain_90 (lv_at hl 4 rfl) ?_
          refine W.eq (g2 := F0 m 92 ls [.ref b26]) (by rw [hq28]; rfl) ?_
          obtain ⟨k37, hf⟩ := chk_b hf
          obtain ⟨x38, hc39, hf⟩ := bnd_b hf
          refine hcall_Vi (ex2 := False) (As := []) (rest := []) (n := 0) (by rw [(gK_sI.trans (isk_k k37))]; decide) (hC_10 (gK_sI.trans (isk_k k37))) rfl ⟨hx, hb, hml, hown, hts⟩ (ch_X9_isMet l D cy b26 (sI x33.1 4 h x33.2) x38 hc39) (cwV 0 hts gX0_comesAgain_X9_isMet rfl rfl rfl ⟨rfl, nd_X9_isMet⟩ ⟨Nat.le_of_ble_eq_true rfl, Nat.le_of_ble_eq_true rfl⟩) hI (fun h => h.elim) (fun h => h.elim) rfl hl.1 (Nat.le_of_ble_eq_true rfl) dX0_comesAgain_92 ⟨Nat.le_of_ble_eq_true rfl, Nat.le_of_ble_eq_true rfl⟩ (fun H locs hI => ?_)
          refine lv_if_ne (tgt := 126) hx hb dX0_comesAgain_95 (by decide) (fun c40 => ?_) (fun c40 => ?_)
          · replace hf := ifn c40 hf
            refine lv_iinc (v := (v5 + 1)) (lv' := [(5, .int (v5 + 1)), (0, .ref h), (1, va_rf v1), (2, va_rf v2), (3, va_rf v3), (4, va_rf v4)]) hx hb dX0_comesAgain_126 hl (k := 5) rfl (ci_ _ (by decide)) (by decide) (by first | rfl | (simp [cat_rf, cat_i, cat_l, cat_r]; done) | (simp [cat_rf, cat_i, cat_l, cat_r]; decide)) (fun ls hl => ?_)
            refine lv_goto (tgt := 36) hx hb dX0_comesAgain_129 (by decide) ?_
            replace hf := cont_b hK1 hf
            exact ih (v5 + 1) x38.1 H locs ls hI (lv_sub hl [1, 2, 3, 4, 5, 0] rfl) hf
          · replace hf := ifp c40 hf
            refine lv_aload_n hx hb dX0_comesAgain_98 rfl (lv_at hl 0 rfl) ?_
            refine hq_aload hx hb dX0_comesAgain_99 (lv_at hl 4 rfl) ?_
            refine hq_aload_n hx hb dX0_comesAgain_101 rfl (lv_at hl 2 rfl) ?_
            refine hq_aload_n hx hb dX0_comesAgain_102 rfl (lv_at hl 3 rfl) ?_
            refine hq_aload_n hx hb dX0_comesAgain_103 rfl (lv_at hl 1 rfl) ?_
            refine lv_iconst (v := 0) hx hb dX0_comesAgain_104 (by decide) ?_
            refine hq_aload hx hb dX0_comesAgain_105 (lv_at hl 4 rfl) ?_
            refine W.eq (g2 := F0 m 107 ls [.ref b26, .int (0 : Int32), va_rf v1, va_rf v3, va_rf v2, va_rf v4, .ref h]) (by rw [hq28]; rfl) ?_
            obtain ⟨k41, hf⟩ := chk_b hf
            refine hg_9_1 hx hb hts hin_X9 hown kl_47 hI (isk_k k41) dX0_comesAgain_107 ?_
            obtain ⟨b42, hd43, hf⟩ := bnd_b hf
            obtain ⟨hq44, hk45⟩ := dr_e hd43
            refine W.eq (g2 := F0 m 110 ls [.int (gI x38.1 901 b26), .int (0 : Int32), .ref b42, va_rf v3, va_rf v2, va_rf v4, .ref h]) (by rw [hq44]; rfl) ?_
            obtain ⟨x46, hc47, hf⟩ := bnd_b hf
            refine hcall_Vi (ex2 := False) (As := [.int (0 : Int32), .int (gI x38.1 901 b26)]) (rest := [va_rf v3, va_rf v2, va_rf v4, .ref h]) (n := 2) (by rw [hk45]; decide) (hC_9 hk45) rfl ⟨hx, hb, hml, hown, hts⟩ (ch_X8_errorOn l D cy b42 (0 : Int32) (gI x38.1 901 b26) x38.1 x46 hc47) (cwV 2 hts gX0_comesAgain_X8_errorOn rfl rfl rfl ⟨rfl, nd_X8_errorOn⟩ ⟨Nat.le_of_ble_eq_true rfl, Nat.le_of_ble_eq_true rfl⟩) hI (fun h => h.elim) (fun h => h.elim) rfl hl.1 (by simp [cat_rf, cat_i, cat_l, cat_r]) dX0_comesAgain_110 ⟨Nat.le_of_ble_eq_true rfl, Nat.le_of_ble_eq_true rfl⟩ (fun H locs hI => ?_)
            refine hq_aload_n hx hb dX0_comesAgain_113 rfl (lv_at hl 1 rfl) ?_
            refine lv_iconst (v := 1) hx hb dX0_comesAgain_114 (by decide) ?_
            refine hq_aload hx hb dX0_comesAgain_115 (lv_at hl 4 rfl) ?_
            refine W.eq (g2 := F0 m 117 ls [.ref b26, .int (1 : Int32), va_rf v1, .int x46.2, va_rf v3, va_rf v2, va_rf v4, .ref h]) (by rw [hq28]; rfl) ?_
            obtain ⟨k48, hf⟩ := chk_b hf
            refine hg_9_1 hx hb hts hin_X9 hown kl_47 hI (isk_k k48) dX0_comesAgain_117 ?_
            refine W.eq (g2 := F0 m 120 ls [.int (gI x46.1 901 b26), .int (1 : Int32), .ref b42, .int x46.2, va_rf v3, va_rf v2, va_rf v4, .ref h]) (by rw [hq44]; rfl) ?_
            obtain ⟨k49, hf⟩ := chk_b hf
            obtain ⟨x50, hc51, hf⟩ := bnd_b hf
            refine hcall_Vi (ex2 := False) (As := [.int (1 : Int32), .int (gI x46.1 901 b26)]) (rest := [.int x46.2, va_rf v3, va_rf v2, va_rf v4, .ref h]) (n := 2) (by rw [(isk_k k49)]; decide) (hC_9 (isk_k k49)) rfl ⟨hx, hb, hml, hown, hts⟩ (ch_X8_errorOn l D cy b42 (1 : Int32) (gI x46.1 901 b26) x46.1 x50 hc51) (cwV 2 hts gX0_comesAgain_X8_errorOn rfl rfl rfl ⟨rfl, nd_X8_errorOn⟩ ⟨Nat.le_of_ble_eq_true rfl, Nat.le_of_ble_eq_true rfl⟩) hI (fun h => h.elim) (fun h => h.elim) rfl hl.1 (by simp [cat_rf, cat_i, cat_l, cat_r]) dX0_comesAgain_120 ⟨Nat.le_of_ble_eq_true rfl, Nat.le_of_ble_eq_true rfl⟩ (fun H locs hI => ?_)
            obtain ⟨k52, hf⟩ := chk_b hf
            obtain ⟨x53, hc54, hf⟩ := bnd_b hf
            refine hcall_Vv (ex2 := False) (As := [va_rf v4, va_rf v2, va_rf v3, .int x46.2, .int x50.2]) (rest := []) (n := 5) (by rw [(isk_k k52)]; decide) (hC_1 (isk_k k52)) rfl ⟨hx, hb, hml, hown, hts⟩ (ch_X0_actBoth l D cy h v4 v2 v3 x46.2 x50.2 x50.1 x53 hc54) (cwV 5 hts gX0_comesAgain_X0_actBoth rfl rfl rfl ⟨rfl, nd_X0_actBoth⟩ ⟨Nat.le_of_ble_eq_true rfl, Nat.le_of_ble_eq_true rfl⟩) hI (fun h => h.elim) (fun h => h.elim) rfl hl.1 (Nat.le_of_ble_eq_true rfl) dX0_comesAgain_123 ⟨Nat.le_of_ble_eq_true rfl, Nat.le_of_ble_eq_true rfl⟩ (fun H locs hI => ?_)
            refine lv_iinc (v := (v5 + 1)) (lv' := [(5, .int (v5 + 1)), (0, .ref h), (1, va_rf v1), (2, va_rf v2), (3, va_rf v3), (4, va_rf v4)]) hx hb dX0_comesAgain_126 hl (k := 5) rfl (ci_ _ (by decide)) (by decide) (by first | rfl | (simp [cat_rf, cat_i, cat_l, cat_r]; done) | (simp [cat_rf, cat_i, cat_l, cat_r]; decide)) (fun ls hl => ?_)
            refine lv_goto (tgt := 36) hx hb dX0_comesAgain_129 (by decide) ?_
            replace hf := cont_b hK1 hf
            exact ih (v5 + 1) x53 H locs ls hI (lv_sub hl [1, 2, 3, 4, 5, 0] rfl) hf
        · replace hf := ifn c36 hf
          refine lv_aload_n hx hb dX0_comesAgain_77 rfl (lv_at hl 0 rfl) ?_
          refine lv_iload hx hb dX0_comesAgain_78 (lv_at hl 5 rfl) ?_
          refine lv_aload_n hx hb dX0_comesAgain_80 rfl (lv_at hl 0 rfl) ?_
          refine hg_0_4 hx hb hts hin_X0 hown kl_124 hI (gK_sI.trans (isk_k k35)) dX0_comesAgain_81 ?_
          refine lv_isub hx hb dX0_comesAgain_84 ?_
          refine hp_0_5 hx hb hts hin_X0 hown kl_127 hI (gK_sI.trans (isk_k k35)) dX0_comesAgain_85 (fun H locs hI => ?_)
          refine lv_iconst (v := 1) hx hb dX0_comesAgain_88 (by decide) ?_
          replace hf := inl_b hK1 hf
          replace hf : Option.bind (some (sI (sI x33.1 4 h x33.2) 5 h (v5 - (gI (sI x33.1 4 h x33.2) 4 h)), (1 : Int32))) K0 = some out := hf
          exact hret_z hx hb hr (by decide) hlocks hI (by decide) (by decide) (fun h => h.elim) (ret_e hK0 hf) dX0_comesAgain_89
  have B_16 : ∀ (v1 : Option Nat) (v2 : Option Nat) (v3 : Option Nat)  (st : HSt) (H : Heap) (locs : List Loc) (ls : Array Slot), HI D cy s s0 st H locs 1 True False → lv_has ls 6 [(0, .ref h), (1, va_rf v1), (2, va_rf v2), (3, va_rf v3)] → (fh_X0_comesAgain_j16 h v1 v2 v3 st).bind K0 = some out → W p l e (headSpec wsX0_comesAgain { frames := 5, cells := 1, slots := 2709, locals := 144 }).room s m (([.ref h, va_rf a1, va_rf a2, va_rf a3] : List Value).toArray) below meth c H locs 1 2709 (MQ below (HQi D cy s0 1 False out) ([.ref h, va_rf a1, va_rf a2, va_rf a3] : List Value).toArray s 1 2709 (hF s0)) (F0 m 16 ls []) := by
    intro v1 v2 v3 st H locs ls hI hl hf
    unfold fh_X0_comesAgain_j16 at hf
    refine lv_aload_n hx hb dX0_comesAgain_16 rfl (lv_at hl 0 rfl) ?_
    obtain ⟨k8, hf⟩ := chk_b hf
    refine hg_0_6 hx hb hts hin_X0 hown kl_20 hI (isk_k k8) dX0_comesAgain_17 ?_
    refine lv_iconst (v := 0) hx hb dX0_comesAgain_20 (by decide) ?_
    obtain ⟨b9, hd10, hf⟩ := bnd_b hf
    obtain ⟨hq11, hk12⟩ := dr_e hd10
    refine W.eq (g2 := F0 m 21 ls [.int (0 : Int32), .ref b9]) (by rw [hq11]; rfl) ?_
    obtain ⟨k13, hf⟩ := chk_b hf
    refine hl_Span hx hb hI hk12 k13 dX0_comesAgain_21 ?_
    refine hq_astore (lv' := [(4, va_rf (gQ st b9 (0 : Int32).toNatClampNeg)), (0, .ref h), (1, va_rf v1), (2, va_rf v2), (3, va_rf v3)]) hx hb dX0_comesAgain_22 hl (by decide) (by first | rfl | (simp [cat_rf, cat_i, cat_l, cat_r]; done) | (simp [cat_rf, cat_i, cat_l, cat_r]; decide)) (fun ls hl => ?_)
    refine hq_aload hx hb dX0_comesAgain_24 (lv_at hl 0 rfl) ?_
    refine hq_aload_n hx hb dX0_comesAgain_26 rfl (lv_at hl 2 rfl) ?_
    obtain ⟨b14, hd15, hf⟩ := bnd_b hf
    obtain ⟨hq16, hk17⟩ := dr_e hd15
    refine W.eq (g2 := F0 m 27 ls [.ref b14, va_rf (gQ st b9 (0 : Int32).toNatClampNeg)]) (by rw [hq16]; rfl) ?_
    refine hg_8_0 hx hb hts hin_X8 hown kl_72 hI hk17 dX0_comesAgain_27 ?_
    obtain ⟨b18, hd19, hf⟩ := bnd_b hf
    obtain ⟨hq20, hk21⟩ := dr_e hd19
    refine W.eq (g2 := F0 m 30 ls [va_rf (gR st 800 b14), .ref b18]) (by rw [hq20]; rfl) ?_
    obtain ⟨x22, hc23, hf⟩ := bnd_b hf
    refine hcall_Vv (ex2 := False) (As := [va_rf (gR st 800 b14)]) (rest := []) (n := 1) (by rw [hk21]; decide) (hC_10 hk21) rfl ⟨hx, hb, hml, hown, hts⟩ (ch_X9_become l D cy b18 (gR st 800 b14) st x22 hc23) (cwV 1 hts gX0_comesAgain_X9_become rfl rfl rfl ⟨rfl, nd_X9_become⟩ ⟨Nat.le_of_ble_eq_true rfl, Nat.le_of_ble_eq_true rfl⟩) hI (fun h => h.elim) (fun h => h.elim) rfl hl.1 (Nat.le_of_ble_eq_true rfl) dX0_comesAgain_30 ⟨Nat.le_of_ble_eq_true rfl, Nat.le_of_ble_eq_true rfl⟩ (fun H locs hI => ?_)
    refine lv_iconst (v := 0) hx hb dX0_comesAgain_33 (by decide) ?_
    refine lv_istore (lv' := [(5, .int (0 : Int32)), (4, va_rf (gQ st b9 (0 : Int32).toNatClampNeg)), (0, .ref h), (1, va_rf v1), (2, va_rf v2), (3, va_rf v3)]) hx hb dX0_comesAgain_34 hl (by decide) (by first | rfl | (simp [cat_rf, cat_i, cat_l, cat_r]; done) | (simp [cat_rf, cat_i, cat_l, cat_r]; decide)) (fun ls hl => ?_)
    exact L_36 v1 v2 v3 (gQ st b9 (0 : Int32).toNatClampNeg) mFuel (0 : Int32) x22 H locs ls hI (lv_sub hl [2, 3, 4, 5, 1, 0] rfl) (asc_b hf)
  unfold fh_X0_comesAgain at hf
  refine lv_aload_n hx hb dX0_comesAgain_0 rfl (lv_at hl 0 rfl) ?_
  obtain ⟨k1, hf⟩ := chk_b hf
  refine hg_0_10 hx hb hts hin_X0 hown kl_112 hI (isk_k k1) dX0_comesAgain_1 ?_
  by_cases c2 : (gR s0 10 h) = none
  · replace hf := ifp c2 hf
    refine W.eq (g2 := F0 m 4 ls [.null]) (by rw [c2]; rfl) ?_
    refine lv_ifnonnullN hx hb dX0_comesAgain_4 ?_
    refine lv_aload_n hx hb dX0_comesAgain_7 rfl (lv_at hl 0 rfl) ?_
    refine lv_sipush (v := 2709) hx hb dX0_comesAgain_8 (by decide) ?_
    refine hn_J (N := 2709) hx hb hts (by decide +kernel) hI trivial trivial (by decide) rfl (by decide) (Nat.le_of_ble_eq_true rfl) (Nat.le_of_ble_eq_true rfl) dX0_comesAgain_11 (fun H hI => ?_)
    refine W.widen (k := 1) (n := 2709) (by decide) (by decide) ?_
    obtain ⟨x5, hx5, hf⟩ := bnd_b hf
    replace hx5 := Option.some.inj hx5
    rw [hx5] at hI
    have hk6 : gK x5 (gN s0) = 23 := by rw [← hx5]; exact nO_K
    obtain ⟨k7, hf⟩ := chk_b hf
    refine hp_0_10 (x := (some (gN s0))) hx hb hts hin_X0 hown kl_112 hI (isk_k k7) dX0_comesAgain_13 (fun H locs hI => ?_)
    replace hI := h_weak (cells2 := 1) hI
    exact B_16 a1 a2 a3 (sR x5 10 h (some (gN s0))) H locs ls hI (lv_sub hl [0, 1, 2, 3] rfl) hf
  · replace hf := ifn c2 hf
    obtain ⟨b3, hq4, hf⟩ := bnd_b hf
    refine W.eq (g2 := F0 m 4 ls [.ref b3]) (by rw [hq4]; rfl) ?_
    refine lv_ifnonnull (tgt := 16) hx hb dX0_comesAgain_4 (by decide) ?_
    refine W.widen (k := 1) (n := 2709) (by decide) (by decide) ?_
    replace hI := h_weak (cells2 := 1) hI
    exact B_16 a1 a2 a3 s0 s.heap [] ls hI (lv_sub hl [0, 1, 2, 3] rfl) hf

theorem nd_X9_endDay : yX9_endDay.cls ≠ "java/lang/invoke/MethodHandle" ∧ yX9_endDay.cls ≠ "java/lang/invoke/VarHandle" ∧ (parseMethodDescriptor yX9_endDay.desc).map (fun d => d.parameters.length) = some 0 := by decide +kernel
set_option maxHeartbeats 4000000 in
set_option maxRecDepth 100000 in
theorem ch_X9_endDay (l : Launch) (D : va_G) (cy : Nat → ClassId) (h : Nat)  (s0 : HSt) (out : HSt) (hf : fh_X9_endDay h s0 = some out) : CHv l D cy yX9_endDay wsX9_endDay { frames := 2, cells := 0, slots := 0, locals := 62 } 0 0 False True [.ref h] s0 out := by
  refine Met.ofW (cc := cX9_endDay) (maxL := 2) (ret := none) (by decide) rfl ?_
  intro p e s m args below meth c s₁ B hml hv
  obtain ⟨rfl, hP, hK, hD0, hkx, hsz, hal⟩ := hv
  have hx := B.exec
  have hb := B.bytes
  have hr := B.returns
  have hts := atoms_spec (ws := wsX9_endDay) B.pre
  have hown : s.vm.findClass RX9 = some m.cls := findClass_of_methodNamed B.named
  have hlocks := B.notSynchronized
  have hI : HI D cy s s0 s0 s.heap [] 0 False True := ⟨hK, hP, hD0.weaken (fun k q hk _ => Or.inl (pl_mem hk)), va_S.rf, hsz.1, hkx, ⟨hsz, hal⟩, fun _ => rfl, Nat.le_refl _⟩
  have hin_X4 : ∀ w ∈ u_ws RX4 TX4 9, w ∈ wsX9_endDay := fun w hw => List.mem_cons_of_mem _ (List.mem_append_right _ hw)
  have hin_X9 : ∀ w ∈ u_ws RX9 TX9 5, w ∈ wsX9_endDay := fun w hw => List.mem_cons_of_mem _ (List.mem_append_left _ (List.mem_append_right _ hw))
  have kl_12 : Cond.fieldLink RX9 12 "HalfBridge$Span" "river" "LHalfBridge$River;" ∈ wsX9_endDay := by decide +kernel
  have kl_26 : Cond.fieldLink RX9 26 "HalfBridge$Span" "day" "I" ∈ wsX9_endDay := by decide +kernel
  have kl_98 : Cond.fieldLink RX9 98 "HalfBridge$River" "floods" "I" ∈ wsX9_endDay := by decide +kernel
  have kl_101 : Cond.fieldLink RX9 101 "HalfBridge$River" "floodDay" "[I" ∈ wsX9_endDay := by decide +kernel
  have kl_104 : Cond.fieldLink RX9 104 "HalfBridge$River" "floodYards" "[I" ∈ wsX9_endDay := by decide +kernel
  have hl := lv_entry ([.ref h]) (n := 2) (Nat.le_of_ble_eq_true rfl)
  rw [lg_entry_eq]
  generalize (lg_sl ([.ref h]) ++ List.replicate (2 - (lg_sl ([.ref h])).length) Slot.unset).toArray = ls at hl ⊢
  have hl : lv_has ls 2 [(0, .ref h)] := hl
  obtain ⟨K0, hK0, hf⟩ := top_e hf
  have B_69 : ∀   (st : HSt) (H : Heap) (locs : List Loc) (ls : Array Slot), HI D cy s s0 st H locs 0 False True → lv_has ls 2 [(0, .ref h)] → (fh_X9_endDay_j69 h st).bind K0 = some out → W p l e (headSpec wsX9_endDay { frames := 2, cells := 0, slots := 0, locals := 62 }).room s m (([.ref h] : List Value).toArray) below meth c H locs 0 0 (MQ below (HQv D cy s0 0 True out) ([.ref h] : List Value).toArray s 0 0 (hF s0)) (F0 m 69 ls []) := by
    intro st H locs ls hI hl hf
    unfold fh_X9_endDay_j69 at hf
    refine lv_aload_n hx hb dX9_endDay_69 rfl (lv_at hl 0 rfl) ?_
    refine lv_dup hx hb dX9_endDay_70 rfl ?_
    obtain ⟨k1, hf⟩ := chk_b hf
    refine hg_9_1 hx hb hts hin_X9 hown kl_26 hI (isk_k k1) dX9_endDay_71 ?_
    refine lv_iconst (v := 1) hx hb dX9_endDay_74 (by decide) ?_
    refine lv_iadd hx hb dX9_endDay_75 ?_
    refine hp_9_1 hx hb hts hin_X9 hown kl_26 hI (isk_k k1) dX9_endDay_76 (fun H locs hI => ?_)
    exact hret_v hx hb hr hlocks hI (by decide) (by decide) (fun _ => ⟨trivial, rfl⟩) (ret_e hK0 hf) dX9_endDay_79
  have L_2 : ∀  (n : Nat) (v1 : Int32) (st : HSt) (H : Heap) (locs : List Loc) (ls : Array Slot), HI D cy s s0 st H locs 0 False True → lv_has ls 2 [(0, .ref h), (1, .int v1)] → (iter (fun x : (Int32 × HSt) => fh_X9_endDay_s2 h x.1 x.2) n (v1, st)).bind (fun x => ((Sum.elim (fun o : HSt => (some o : Option (HSt))) (fun x : (Int32 × HSt) => fh_X9_endDay_j69 h x.2)) x).bind K0) = some out → W p l e (headSpec wsX9_endDay { frames := 2, cells := 0, slots := 0, locals := 62 }).room s m (([.ref h] : List Value).toArray) below meth c H locs 0 0 (MQ below (HQv D cy s0 0 True out) ([.ref h] : List Value).toArray s 0 0 (hF s0)) (F0 m 2 ls []) := by
    intro n
    induction n with
    | zero => intro v1 st H locs ls hI hl hf; exact (iter_0 hf).elim
    | succ n ih =>
      intro v1 st H locs ls hI hl hf
      obtain ⟨K1, hK1, hf⟩ := iter_e hf
      replace hf : (fh_X9_endDay_s2 h v1 st).bind K1 = some out := hf
      unfold fh_X9_endDay_s2 at hf
      refine lv_iload_n hx hb dX9_endDay_2 rfl (lv_at hl 1 rfl) ?_
      refine lv_aload_n hx hb dX9_endDay_3 rfl (lv_at hl 0 rfl) ?_
      obtain ⟨k2, hf⟩ := chk_b hf
      refine hg_9_0 hx hb hts hin_X9 hown kl_12 hI (isk_k k2) dX9_endDay_4 ?_
      obtain ⟨b3, hd4, hf⟩ := bnd_b hf
      obtain ⟨hq5, hk6⟩ := dr_e hd4
      refine W.eq (g2 := F0 m 7 ls [.ref b3, .int v1]) (by rw [hq5]; rfl) ?_
      refine hg_4_3 hx hb hts hin_X4 hown kl_98 hI hk6 dX9_endDay_7 ?_
      refine lv_icmp_ge (tgt := 69) hx hb dX9_endDay_10 (by decide) (fun c7 => ?_) (fun c7 => ?_)
      · replace hf := ifp c7 hf
        replace hf := exit_b hK1 hf
        exact B_69  st H locs ls hI (lv_sub hl [0] rfl) hf
      · replace hf := ifn c7 hf
        refine lv_iload_n hx hb dX9_endDay_13 rfl (lv_at hl 1 rfl) ?_
        refine lv_bipush (v := 8) hx hb dX9_endDay_14 (by decide) ?_
        refine lv_icmp_ge (tgt := 69) hx hb dX9_endDay_16 (by decide) (fun c8 => ?_) (fun c8 => ?_)
        · replace hf := ifp c8 hf
          replace hf := exit_b hK1 hf
          exact B_69  st H locs ls hI (lv_sub hl [0] rfl) hf
        · replace hf := ifn c8 hf
          refine lv_aload_n hx hb dX9_endDay_19 rfl (lv_at hl 0 rfl) ?_
          refine hg_9_0 hx hb hts hin_X9 hown kl_12 hI (isk_k k2) dX9_endDay_20 ?_
          refine W.eq (g2 := F0 m 23 ls [.ref b3]) (by rw [hq5]; rfl) ?_
          refine hg_4_7 hx hb hts hin_X4 hown kl_101 hI hk6 dX9_endDay_23 ?_
          refine lv_iload_n hx hb dX9_endDay_26 rfl (lv_at hl 1 rfl) ?_
          obtain ⟨b9, hd10, hf⟩ := bnd_b hf
          obtain ⟨hq11, hk12⟩ := dr_e hd10
          refine W.eq (g2 := F0 m 27 ls [.int v1, .ref b9]) (by rw [hq11]; rfl) ?_
          obtain ⟨k13, hf⟩ := chk_b hf
          refine hl_I hx hb hI hk12 k13 dX9_endDay_27 ?_
          refine lv_aload_n hx hb dX9_endDay_28 rfl (lv_at hl 0 rfl) ?_
          refine hg_9_1 hx hb hts hin_X9 hown kl_26 hI (isk_k k2) dX9_endDay_29 ?_
          refine lv_icmp_ne (tgt := 63) hx hb dX9_endDay_32 (by decide) (fun c14 => ?_) (fun c14 => ?_)
          · replace hf := ifn c14 hf
            refine lv_iinc (v := (v1 + 1)) (lv' := [(1, .int (v1 + 1)), (0, .ref h)]) hx hb dX9_endDay_63 hl (k := 1) rfl (ci_ _ (by decide)) (by decide) rfl (fun ls hl => ?_)
            refine lv_goto (tgt := 2) hx hb dX9_endDay_66 (by decide) ?_
            replace hf := cont_b hK1 hf
            exact ih (v1 + 1) st H locs ls hI (lv_sub hl [1, 0] rfl) hf
          · replace hf := ifp c14 hf
            refine lv_aload_n hx hb dX9_endDay_35 rfl (lv_at hl 0 rfl) ?_
            refine lv_iconst (v := 0) hx hb dX9_endDay_36 (by decide) ?_
            refine lv_aload_n hx hb dX9_endDay_37 rfl (lv_at hl 0 rfl) ?_
            refine hg_9_0 hx hb hts hin_X9 hown kl_12 hI (isk_k k2) dX9_endDay_38 ?_
            refine W.eq (g2 := F0 m 41 ls [.ref b3, .int (0 : Int32), .ref h]) (by rw [hq5]; rfl) ?_
            refine hg_4_8 hx hb hts hin_X4 hown kl_104 hI hk6 dX9_endDay_41 ?_
            refine lv_iload_n hx hb dX9_endDay_44 rfl (lv_at hl 1 rfl) ?_
            obtain ⟨b15, hd16, hf⟩ := bnd_b hf
            obtain ⟨hq17, hk18⟩ := dr_e hd16
            refine W.eq (g2 := F0 m 45 ls [.int v1, .ref b15, .int (0 : Int32), .ref h]) (by rw [hq17]; rfl) ?_
            obtain ⟨k19, hf⟩ := chk_b hf
            refine hl_I hx hb hI hk18 k19 dX9_endDay_45 ?_
            obtain ⟨x20, hc21, hf⟩ := bnd_b hf
            refine hcall_Vv (ex2 := True) (As := [.int (0 : Int32), .int (gA st b15 v1.toNatClampNeg)]) (rest := []) (n := 2) (by rw [(isk_k k2)]; decide) (hC_10 (isk_k k2)) rfl ⟨hx, hb, hml, hown, hts⟩ (ch_X9_take l D cy h (0 : Int32) (gA st b15 v1.toNatClampNeg) st x20 hc21) (cwV 2 hts gX9_endDay_X9_take rfl rfl rfl ⟨rfl, nd_X9_take⟩ ⟨Nat.le_of_ble_eq_true rfl, Nat.le_of_ble_eq_true rfl⟩) hI (fun h => h.elim) (fun _ => ⟨trivial, trivial⟩) rfl hl.1 (Nat.le_of_ble_eq_true rfl) dX9_endDay_46 ⟨Nat.le_of_ble_eq_true rfl, Nat.le_of_ble_eq_true rfl⟩ (fun H locs hI => ?_)
            refine lv_aload_n hx hb dX9_endDay_49 rfl (lv_at hl 0 rfl) ?_
            refine lv_iconst (v := 1) hx hb dX9_endDay_50 (by decide) ?_
            refine lv_aload_n hx hb dX9_endDay_51 rfl (lv_at hl 0 rfl) ?_
            obtain ⟨k22, hf⟩ := chk_b hf
            refine hg_9_0 hx hb hts hin_X9 hown kl_12 hI (isk_k k22) dX9_endDay_52 ?_
            obtain ⟨b23, hd24, hf⟩ := bnd_b hf
            obtain ⟨hq25, hk26⟩ := dr_e hd24
            refine W.eq (g2 := F0 m 55 ls [.ref b23, .int (1 : Int32), .ref h]) (by rw [hq25]; rfl) ?_
            refine hg_4_8 hx hb hts hin_X4 hown kl_104 hI hk26 dX9_endDay_55 ?_
            refine lv_iload_n hx hb dX9_endDay_58 rfl (lv_at hl 1 rfl) ?_
            obtain ⟨b27, hd28, hf⟩ := bnd_b hf
            obtain ⟨hq29, hk30⟩ := dr_e hd28
            refine W.eq (g2 := F0 m 59 ls [.int v1, .ref b27, .int (1 : Int32), .ref h]) (by rw [hq29]; rfl) ?_
            obtain ⟨k31, hf⟩ := chk_b hf
            refine hl_I hx hb hI hk30 k31 dX9_endDay_59 ?_
            obtain ⟨x32, hc33, hf⟩ := bnd_b hf
            refine hcall_Vv (ex2 := True) (As := [.int (1 : Int32), .int (gA x20 b27 v1.toNatClampNeg)]) (rest := []) (n := 2) (by rw [(isk_k k22)]; decide) (hC_10 (isk_k k22)) rfl ⟨hx, hb, hml, hown, hts⟩ (ch_X9_take l D cy h (1 : Int32) (gA x20 b27 v1.toNatClampNeg) x20 x32 hc33) (cwV 2 hts gX9_endDay_X9_take rfl rfl rfl ⟨rfl, nd_X9_take⟩ ⟨Nat.le_of_ble_eq_true rfl, Nat.le_of_ble_eq_true rfl⟩) hI (fun h => h.elim) (fun _ => ⟨trivial, trivial⟩) rfl hl.1 (Nat.le_of_ble_eq_true rfl) dX9_endDay_60 ⟨Nat.le_of_ble_eq_true rfl, Nat.le_of_ble_eq_true rfl⟩ (fun H locs hI => ?_)
            refine lv_iinc (v := (v1 + 1)) (lv' := [(1, .int (v1 + 1)), (0, .ref h)]) hx hb dX9_endDay_63 hl (k := 1) rfl (ci_ _ (by decide)) (by decide) rfl (fun ls hl => ?_)
            refine lv_goto (tgt := 2) hx hb dX9_endDay_66 (by decide) ?_
            replace hf := cont_b hK1 hf
            exact ih (v1 + 1) x32 H locs ls hI (lv_sub hl [1, 0] rfl) hf
  unfold fh_X9_endDay at hf
  refine lv_iconst (v := 0) hx hb dX9_endDay_0 (by decide) ?_
  refine lv_istore_n (lv' := [(1, .int (0 : Int32)), (0, .ref h)]) hx hb dX9_endDay_1 rfl hl (by decide) rfl (fun ls hl => ?_)
  exact L_2  mFuel (0 : Int32) s0 s.heap [] ls hI (lv_sub hl [1, 0] rfl) (asc_b hf)

theorem nd_X0_go : yX0_go.cls ≠ "java/lang/invoke/MethodHandle" ∧ yX0_go.cls ≠ "java/lang/invoke/VarHandle" ∧ (parseMethodDescriptor yX0_go.desc).map (fun d => d.parameters.length) = some 5 := by decide +kernel
set_option maxHeartbeats 4000000 in
set_option maxRecDepth 100000 in
theorem ch_X0_go (l : Launch) (D : va_G) (cy : Nat → ClassId) (h : Nat) (a1 : Option Nat) (a2 : Option Nat) (a3 : Option Nat) (a4 : Option Nat) (a5 : Int32) (s0 : HSt) (out : HSt) (hf : fh_X0_go h a1 a2 a3 a4 a5 s0 = some out) : CHv l D cy yX0_go wsX0_go { frames := 5, cells := 0, slots := 0, locals := 144 } 0 0 False True [.ref h, va_rf a1, va_rf a2, va_rf a3, va_rf a4, .int a5] s0 out := by
  refine Met.ofW (cc := cX0_go) (maxL := 7) (ret := none) (by decide) rfl ?_
  intro p e s m args below meth c s₁ B hml hv
  obtain ⟨rfl, hP, hK, hD0, hkx, hsz, hal⟩ := hv
  have hx := B.exec
  have hb := B.bytes
  have hr := B.returns
  have hts := atoms_spec (ws := wsX0_go) B.pre
  have hown : s.vm.findClass RX0 = some m.cls := findClass_of_methodNamed B.named
  have hlocks := B.notSynchronized
  have hI : HI D cy s s0 s0 s.heap [] 0 False True := ⟨hK, hP, hD0.weaken (fun k q hk _ => Or.inl (pl_mem hk)), va_S.rf, hsz.1, hkx, ⟨hsz, hal⟩, fun _ => rfl, Nat.le_refl _⟩
  have hin_X9 : ∀ w ∈ u_ws RX9 TX9 5, w ∈ wsX0_go := fun w hw => List.mem_cons_of_mem _ (List.mem_append_left _ (List.mem_append_left _ (List.mem_append_left _ (List.mem_append_left _ (List.mem_append_left _ (List.mem_append_right _ hw))))))
  have kl_47 : Cond.fieldLink RX0 47 "HalfBridge$Span" "day" "I" ∈ wsX0_go := by decide +kernel
  have hl := lv_entry ([.ref h, va_rf a1, va_rf a2, va_rf a3, va_rf a4, .int a5]) (n := 7) (by simp [lg_sl, cat_rf, cat_i, cat_l, cat_r])
  rw [lg_entry_eq]
  generalize (lg_sl ([.ref h, va_rf a1, va_rf a2, va_rf a3, va_rf a4, .int a5]) ++ List.replicate (7 - (lg_sl ([.ref h, va_rf a1, va_rf a2, va_rf a3, va_rf a4, .int a5])).length) Slot.unset).toArray = ls at hl ⊢
  have hl : lv_has ls 7 [(0, .ref h), (1, va_rf a1), (2, va_rf a2), (3, va_rf a3), (4, va_rf a4), (5, .int a5)] := (by simpa [lv_args, cat_rf, cat_i, cat_l, cat_r] using hl)
  obtain ⟨K0, hK0, hf⟩ := top_e hf
  have B_53 : ∀   (st : HSt) (H : Heap) (locs : List Loc) (ls : Array Slot), HI D cy s s0 st H locs 0 False True → lv_has ls 7 [] → (fh_X0_go_j53 h st).bind K0 = some out → W p l e (headSpec wsX0_go { frames := 5, cells := 0, slots := 0, locals := 144 }).room s m (([.ref h, va_rf a1, va_rf a2, va_rf a3, va_rf a4, .int a5] : List Value).toArray) below meth c H locs 0 0 (MQ below (HQv D cy s0 0 True out) ([.ref h, va_rf a1, va_rf a2, va_rf a3, va_rf a4, .int a5] : List Value).toArray s 0 0 (hF s0)) (F0 m 53 ls []) := by
    intro st H locs ls hI hl hf
    unfold fh_X0_go_j53 at hf
    exact hret_v hx hb hr hlocks hI (by decide) (by decide) (fun _ => ⟨trivial, rfl⟩) (ret_e hK0 hf) dX0_go_53
  have L_3 : ∀ (v1 : Option Nat) (v2 : Option Nat) (v3 : Option Nat) (v4 : Option Nat) (v5 : Int32) (n : Nat) (v6 : Int32) (st : HSt) (H : Heap) (locs : List Loc) (ls : Array Slot), HI D cy s s0 st H locs 0 False True → lv_has ls 7 [(0, .ref h), (1, va_rf v1), (2, va_rf v2), (3, va_rf v3), (4, va_rf v4), (5, .int v5), (6, .int v6)] → (iter (fun x : (Int32 × HSt) => fh_X0_go_s3 h v1 v2 v3 v4 v5 x.1 x.2) n (v6, st)).bind (fun x => ((Sum.elim (fun o : HSt => (some o : Option (HSt))) (fun x : (Int32 × HSt) => fh_X0_go_j53 h x.2)) x).bind K0) = some out → W p l e (headSpec wsX0_go { frames := 5, cells := 0, slots := 0, locals := 144 }).room s m (([.ref h, va_rf a1, va_rf a2, va_rf a3, va_rf a4, .int a5] : List Value).toArray) below meth c H locs 0 0 (MQ below (HQv D cy s0 0 True out) ([.ref h, va_rf a1, va_rf a2, va_rf a3, va_rf a4, .int a5] : List Value).toArray s 0 0 (hF s0)) (F0 m 3 ls []) := by
    intro v1 v2 v3 v4 v5 n
    induction n with
    | zero => intro v6 st H locs ls hI hl hf; exact (iter_0 hf).elim
    | succ n ih =>
      intro v6 st H locs ls hI hl hf
      obtain ⟨K1, hK1, hf⟩ := iter_e hf
      replace hf : (fh_X0_go_s3 h v1 v2 v3 v4 v5 v6 st).bind K1 = some out := hf
      unfold fh_X0_go_s3 at hf
      refine lv_iload hx hb dX0_go_3 (lv_at hl 6 rfl) ?_
      refine lv_iload hx hb dX0_go_5 (lv_at hl 5 rfl) ?_
      refine lv_icmp_ge (tgt := 53) hx hb dX0_go_7 (by decide) (fun c1 => ?_) (fun c1 => ?_)
      · replace hf := ifp c1 hf
        replace hf := exit_b hK1 hf
        exact B_53  st H locs ls hI (lv_sub hl [] rfl) hf
      · replace hf := ifn c1 hf
        refine hq_aload_n hx hb dX0_go_10 rfl (lv_at hl 1 rfl) ?_
        obtain ⟨b2, hd3, hf⟩ := bnd_b hf
        obtain ⟨hq4, hk5⟩ := dr_e hd3
        refine W.eq (g2 := F0 m 11 ls [.ref b2]) (by rw [hq4]; rfl) ?_
        obtain ⟨x6, hc7, hf⟩ := bnd_b hf
        refine hcall_Vi (ex2 := True) (As := []) (rest := []) (n := 0) (by rw [hk5]; decide) (hC_10 hk5) rfl ⟨hx, hb, hml, hown, hts⟩ (ch_X9_isMet l D cy b2 st x6 hc7) (cwV 0 hts gX0_go_X9_isMet rfl rfl rfl ⟨rfl, nd_X9_isMet⟩ ⟨Nat.le_of_ble_eq_true rfl, Nat.le_of_ble_eq_true rfl⟩) hI (fun h => h.elim) (fun _ => ⟨trivial, trivial⟩) rfl hl.1 (Nat.le_of_ble_eq_true rfl) dX0_go_11 ⟨Nat.le_of_ble_eq_true rfl, Nat.le_of_ble_eq_true rfl⟩ (fun H locs hI => ?_)
        refine lv_if_ne (tgt := 53) hx hb dX0_go_14 (by decide) (fun c8 => ?_) (fun c8 => ?_)
        · replace hf := ifn c8 hf
          replace hf := exit_b hK1 hf
          exact B_53  x6.1 H locs ls hI (lv_sub hl [] rfl) hf
        · replace hf := ifp c8 hf
          refine lv_aload_n hx hb dX0_go_17 rfl (lv_at hl 0 rfl) ?_
          refine hq_aload_n hx hb dX0_go_18 rfl (lv_at hl 1 rfl) ?_
          refine hq_aload_n hx hb dX0_go_19 rfl (lv_at hl 3 rfl) ?_
          refine hq_aload hx hb dX0_go_20 (lv_at hl 4 rfl) ?_
          refine hq_aload_n hx hb dX0_go_22 rfl (lv_at hl 2 rfl) ?_
          refine lv_iconst (v := 0) hx hb dX0_go_23 (by decide) ?_
          refine hq_aload_n hx hb dX0_go_24 rfl (lv_at hl 1 rfl) ?_
          refine W.eq (g2 := F0 m 25 ls [.ref b2, .int (0 : Int32), va_rf v2, va_rf v4, va_rf v3, va_rf v1, .ref h]) (by rw [hq4]; rfl) ?_
          obtain ⟨k9, hf⟩ := chk_b hf
          refine hg_9_1 hx hb hts hin_X9 hown kl_47 hI (isk_k k9) dX0_go_25 ?_
          obtain ⟨b10, hd11, hf⟩ := bnd_b hf
          obtain ⟨hq12, hk13⟩ := dr_e hd11
          refine W.eq (g2 := F0 m 28 ls [.int (gI x6.1 901 b2), .int (0 : Int32), .ref b10, va_rf v4, va_rf v3, va_rf v1, .ref h]) (by rw [hq12]; rfl) ?_
          obtain ⟨x14, hc15, hf⟩ := bnd_b hf
          refine hcall_Vi (ex2 := True) (As := [.int (0 : Int32), .int (gI x6.1 901 b2)]) (rest := [va_rf v4, va_rf v3, va_rf v1, .ref h]) (n := 2) (by rw [hk13]; decide) (hC_9 hk13) rfl ⟨hx, hb, hml, hown, hts⟩ (ch_X8_errorOn l D cy b10 (0 : Int32) (gI x6.1 901 b2) x6.1 x14 hc15) (cwV 2 hts gX0_go_X8_errorOn rfl rfl rfl ⟨rfl, nd_X8_errorOn⟩ ⟨Nat.le_of_ble_eq_true rfl, Nat.le_of_ble_eq_true rfl⟩) hI (fun h => h.elim) (fun _ => ⟨trivial, trivial⟩) rfl hl.1 (by simp [cat_rf, cat_i, cat_l, cat_r]) dX0_go_28 ⟨Nat.le_of_ble_eq_true rfl, Nat.le_of_ble_eq_true rfl⟩ (fun H locs hI => ?_)
          refine hq_aload_n hx hb dX0_go_31 rfl (lv_at hl 2 rfl) ?_
          refine lv_iconst (v := 1) hx hb dX0_go_32 (by decide) ?_
          refine hq_aload_n hx hb dX0_go_33 rfl (lv_at hl 1 rfl) ?_
          refine W.eq (g2 := F0 m 34 ls [.ref b2, .int (1 : Int32), va_rf v2, .int x14.2, va_rf v4, va_rf v3, va_rf v1, .ref h]) (by rw [hq4]; rfl) ?_
          obtain ⟨k16, hf⟩ := chk_b hf
          refine hg_9_1 hx hb hts hin_X9 hown kl_47 hI (isk_k k16) dX0_go_34 ?_
          refine W.eq (g2 := F0 m 37 ls [.int (gI x14.1 901 b2), .int (1 : Int32), .ref b10, .int x14.2, va_rf v4, va_rf v3, va_rf v1, .ref h]) (by rw [hq12]; rfl) ?_
          obtain ⟨k17, hf⟩ := chk_b hf
          obtain ⟨x18, hc19, hf⟩ := bnd_b hf
          refine hcall_Vi (ex2 := True) (As := [.int (1 : Int32), .int (gI x14.1 901 b2)]) (rest := [.int x14.2, va_rf v4, va_rf v3, va_rf v1, .ref h]) (n := 2) (by rw [(isk_k k17)]; decide) (hC_9 (isk_k k17)) rfl ⟨hx, hb, hml, hown, hts⟩ (ch_X8_errorOn l D cy b10 (1 : Int32) (gI x14.1 901 b2) x14.1 x18 hc19) (cwV 2 hts gX0_go_X8_errorOn rfl rfl rfl ⟨rfl, nd_X8_errorOn⟩ ⟨Nat.le_of_ble_eq_true rfl, Nat.le_of_ble_eq_true rfl⟩) hI (fun h => h.elim) (fun _ => ⟨trivial, trivial⟩) rfl hl.1 (by simp [cat_rf, cat_i, cat_l, cat_r]) dX0_go_37 ⟨Nat.le_of_ble_eq_true rfl, Nat.le_of_ble_eq_true rfl⟩ (fun H locs hI => ?_)
          obtain ⟨k20, hf⟩ := chk_b hf
          obtain ⟨x21, hc22, hf⟩ := bnd_b hf
          refine hcall_Vv (ex2 := True) (As := [va_rf v1, va_rf v3, va_rf v4, .int x14.2, .int x18.2]) (rest := []) (n := 5) (by rw [(isk_k k20)]; decide) (hC_1 (isk_k k20)) rfl ⟨hx, hb, hml, hown, hts⟩ (ch_X0_actBoth l D cy h v1 v3 v4 x14.2 x18.2 x18.1 x21 hc22) (cwV 5 hts gX0_go_X0_actBoth rfl rfl rfl ⟨rfl, nd_X0_actBoth⟩ ⟨Nat.le_of_ble_eq_true rfl, Nat.le_of_ble_eq_true rfl⟩) hI (fun h => h.elim) (fun _ => ⟨trivial, trivial⟩) rfl hl.1 (Nat.le_of_ble_eq_true rfl) dX0_go_40 ⟨Nat.le_of_ble_eq_true rfl, Nat.le_of_ble_eq_true rfl⟩ (fun H locs hI => ?_)
          refine hq_aload_n hx hb dX0_go_43 rfl (lv_at hl 1 rfl) ?_
          refine W.eq (g2 := F0 m 44 ls [.ref b2]) (by rw [hq4]; rfl) ?_
          obtain ⟨k23, hf⟩ := chk_b hf
          obtain ⟨x24, hc25, hf⟩ := bnd_b hf
          refine hcall_Vv (ex2 := True) (As := []) (rest := []) (n := 0) (by rw [(isk_k k23)]; decide) (hC_10 (isk_k k23)) rfl ⟨hx, hb, hml, hown, hts⟩ (ch_X9_endDay l D cy b2 x21 x24 hc25) (cwV 0 hts gX0_go_X9_endDay rfl rfl rfl ⟨rfl, nd_X9_endDay⟩ ⟨Nat.le_of_ble_eq_true rfl, Nat.le_of_ble_eq_true rfl⟩) hI (fun h => h.elim) (fun _ => ⟨trivial, trivial⟩) rfl hl.1 (Nat.le_of_ble_eq_true rfl) dX0_go_44 ⟨Nat.le_of_ble_eq_true rfl, Nat.le_of_ble_eq_true rfl⟩ (fun H locs hI => ?_)
          refine lv_iinc (v := (v6 + 1)) (lv' := [(6, .int (v6 + 1)), (0, .ref h), (1, va_rf v1), (2, va_rf v2), (3, va_rf v3), (4, va_rf v4), (5, .int v5)]) hx hb dX0_go_47 hl (k := 6) rfl (ci_ _ (by decide)) (by decide) (by first | rfl | (simp [cat_rf, cat_i, cat_l, cat_r]; done) | (simp [cat_rf, cat_i, cat_l, cat_r]; decide)) (fun ls hl => ?_)
          refine lv_goto (tgt := 3) hx hb dX0_go_50 (by decide) ?_
          replace hf := cont_b hK1 hf
          exact ih (v6 + 1) x24 H locs ls hI (lv_sub hl [1, 2, 3, 4, 5, 6, 0] rfl) hf
  unfold fh_X0_go at hf
  refine lv_iconst (v := 0) hx hb dX0_go_0 (by decide) ?_
  refine lv_istore (lv' := [(6, .int (0 : Int32)), (0, .ref h), (1, va_rf a1), (2, va_rf a2), (3, va_rf a3), (4, va_rf a4), (5, .int a5)]) hx hb dX0_go_1 hl (by decide) (by first | rfl | (simp [cat_rf, cat_i, cat_l, cat_r]; done) | (simp [cat_rf, cat_i, cat_l, cat_r]; decide)) (fun ls hl => ?_)
  exact L_3 a1 a2 a3 a4 a5 mFuel (0 : Int32) s0 s.heap [] ls hI (lv_sub hl [1, 2, 3, 4, 5, 6, 0] rfl) (asc_b hf)

theorem nd_X3_init : yX3_init.cls ≠ "java/lang/invoke/MethodHandle" ∧ yX3_init.cls ≠ "java/lang/invoke/VarHandle" ∧ (parseMethodDescriptor yX3_init.desc).map (fun d => d.parameters.length) = some 0 := by decide +kernel
set_option maxHeartbeats 4000000 in
set_option maxRecDepth 100000 in
theorem ch_X3_init (l : Launch) (D : va_G) (cy : Nat → ClassId) (h : Nat)  (s0 : HSt) (out : HSt) (hf : fh_X3_init h s0 = some out) : CHv l D cy yX3_init wsX3_init { frames := 1, cells := 2, slots := 73, locals := 30 } 2 73 True True [.ref h] s0 out := by
  refine Met.ofW (cc := cX3_init) (maxL := 1) (ret := none) (by decide) rfl ?_
  intro p e s m args below meth c s₁ B hml hv
  obtain ⟨rfl, hP, hK, hD0, hkx, hsz, hal⟩ := hv
  have hx := B.exec
  have hb := B.bytes
  have hr := B.returns
  have hts := atoms_spec (ws := wsX3_init) B.pre
  have hown : s.vm.findClass RX3 = some m.cls := findClass_of_methodNamed B.named
  have hlocks := B.notSynchronized
  have hin0 : meth.name = "<init>" := (name_of_methodNamed B.named B.method).1
  have hI : HI D cy s s0 s0 s.heap [] 0 True True := ⟨hK, hP, hD0.weaken (fun k q hk _ => Or.inl (pl_mem hk)), va_S.rf, hsz.1, hkx, ⟨hsz, hal⟩, fun _ => rfl, Nat.le_refl _⟩
  have hin_X3 : ∀ w ∈ u_ws RX3 TX3 2, w ∈ wsX3_init := fun w hw => List.mem_cons_of_mem _ (List.mem_append_right _ hw)
  have kl_9 : Cond.fieldLink RX3 9 "HalfBridge$Looker" "words" "[J" ∈ wsX3_init := by decide +kernel
  have kl_15 : Cond.fieldLink RX3 15 "HalfBridge$Looker" "stack" "[J" ∈ wsX3_init := by decide +kernel
  have hl := lv_entry ([.ref h]) (n := 1) (Nat.le_of_ble_eq_true rfl)
  rw [lg_entry_eq]
  generalize (lg_sl ([.ref h]) ++ List.replicate (1 - (lg_sl ([.ref h])).length) Slot.unset).toArray = ls at hl ⊢
  have hl : lv_has ls 1 [(0, .ref h)] := hl
  obtain ⟨K0, hK0, hf⟩ := top_e hf
  unfold fh_X3_init at hf
  refine lv_aload_n hx hb dX3_init_0 rfl (lv_at hl 0 rfl) ?_
  refine W.objInit hx hb hown (hts (.methodLink RX3 1 objectInit) (by decide +kernel)) (hts (.instanceMethod objectInit) (by decide +kernel)) (hts (.code objectInit ⟨#[0xb1]⟩ 1 none) (by decide +kernel)) rfl (by rw [hml]; exact hl.1) rfl dX3_init_1 (Nat.le_of_ble_eq_true rfl) (Nat.le_of_ble_eq_true rfl) ?_
  refine W.eq (g2 := F0 m 4 ls []) rfl ?_
  refine lv_aload_n hx hb dX3_init_4 rfl (lv_at hl 0 rfl) ?_
  refine lv_bipush (v := 9) hx hb dX3_init_5 (by decide) ?_
  refine hn_J (N := 9) hx hb hts (by decide +kernel) hI trivial trivial (by decide) rfl (by decide) (Nat.le_of_ble_eq_true rfl) (Nat.le_of_ble_eq_true rfl) dX3_init_7 (fun H hI => ?_)
  refine W.widen (k := 1) (n := 9) (by decide) (by decide) ?_
  obtain ⟨x1, hx1, hf⟩ := bnd_b hf
  replace hx1 := Option.some.inj hx1
  rw [hx1] at hI
  have hk2 : gK x1 (gN s0) = 23 := by rw [← hx1]; exact nO_K
  obtain ⟨k3, hf⟩ := chk_b hf
  refine hp_3_0 (x := (some (gN s0))) hx hb hts hin_X3 hown kl_9 hI (isk_k k3) hin0 rfl dX3_init_9 (fun H locs hI => ?_)
  refine lv_aload_n hx hb dX3_init_12 rfl (lv_at hl 0 rfl) ?_
  refine lv_bipush (v := 64) hx hb dX3_init_13 (by decide) ?_
  refine hn_J (N := 64) hx hb hts (by decide +kernel) hI trivial trivial (by decide) rfl (by decide) (Nat.le_of_ble_eq_true rfl) (Nat.le_of_ble_eq_true rfl) dX3_init_15 (fun H hI => ?_)
  refine W.widen (k := 2) (n := 73) (by decide) (by decide) ?_
  obtain ⟨x4, hx4, hf⟩ := bnd_b hf
  replace hx4 := Option.some.inj hx4
  rw [hx4] at hI
  have hk5 : gK x4 (gN (sR x1 300 h (some (gN s0)))) = 23 := by rw [← hx4]; exact nO_K
  obtain ⟨k6, hf⟩ := chk_b hf
  refine hp_3_1 (x := (some (gN (sR x1 300 h (some (gN s0)))))) hx hb hts hin_X3 hown kl_15 hI (isk_k k6) hin0 rfl dX3_init_17 (fun H locs hI => ?_)
  exact hret_v hx hb hr hlocks hI (by decide) (by decide) (fun _ => ⟨trivial, rfl⟩) (ret_e hK0 hf) dX3_init_20

theorem nd_X4_init : yX4_init.cls ≠ "java/lang/invoke/MethodHandle" ∧ yX4_init.cls ≠ "java/lang/invoke/VarHandle" ∧ (parseMethodDescriptor yX4_init.desc).map (fun d => d.parameters.length) = some 0 := by decide +kernel
set_option maxHeartbeats 4000000 in
set_option maxRecDepth 100000 in
theorem ch_X4_init (l : Launch) (D : va_G) (cy : Nat → ClassId) (h : Nat)  (s0 : HSt) (out : HSt) (hf : fh_X4_init h s0 = some out) : CHv l D cy yX4_init wsX4_init { frames := 1, cells := 5, slots := 22, locals := 30 } 5 22 True True [.ref h] s0 out := by
  refine Met.ofW (cc := cX4_init) (maxL := 1) (ret := none) (by decide) rfl ?_
  intro p e s m args below meth c s₁ B hml hv
  obtain ⟨rfl, hP, hK, hD0, hkx, hsz, hal⟩ := hv
  have hx := B.exec
  have hb := B.bytes
  have hr := B.returns
  have hts := atoms_spec (ws := wsX4_init) B.pre
  have hown : s.vm.findClass RX4 = some m.cls := findClass_of_methodNamed B.named
  have hlocks := B.notSynchronized
  have hin0 : meth.name = "<init>" := (name_of_methodNamed B.named B.method).1
  have hI : HI D cy s s0 s0 s.heap [] 0 True True := ⟨hK, hP, hD0.weaken (fun k q hk _ => Or.inl (pl_mem hk)), va_S.rf, hsz.1, hkx, ⟨hsz, hal⟩, fun _ => rfl, Nat.le_refl _⟩
  have hin_X4 : ∀ w ∈ u_ws RX4 TX4 9, w ∈ wsX4_init := fun w hw => List.mem_cons_of_mem _ (List.mem_append_right _ hw)
  have kl_7 : Cond.fieldLink RX4 7 "HalfBridge$River" "bankLine" "[I" ∈ wsX4_init := by decide +kernel
  have kl_13 : Cond.fieldLink RX4 13 "HalfBridge$River" "bankHeight" "[I" ∈ wsX4_init := by decide +kernel
  have kl_16 : Cond.fieldLink RX4 16 "HalfBridge$River" "eyes" "[I" ∈ wsX4_init := by decide +kernel
  have kl_19 : Cond.fieldLink RX4 19 "HalfBridge$River" "floodDay" "[I" ∈ wsX4_init := by decide +kernel
  have kl_22 : Cond.fieldLink RX4 22 "HalfBridge$River" "floodYards" "[I" ∈ wsX4_init := by decide +kernel
  have hl := lv_entry ([.ref h]) (n := 1) (Nat.le_of_ble_eq_true rfl)
  rw [lg_entry_eq]
  generalize (lg_sl ([.ref h]) ++ List.replicate (1 - (lg_sl ([.ref h])).length) Slot.unset).toArray = ls at hl ⊢
  have hl : lv_has ls 1 [(0, .ref h)] := hl
  obtain ⟨K0, hK0, hf⟩ := top_e hf
  unfold fh_X4_init at hf
  refine lv_aload_n hx hb dX4_init_0 rfl (lv_at hl 0 rfl) ?_
  refine W.objInit hx hb hown (hts (.methodLink RX4 1 objectInit) (by decide +kernel)) (hts (.instanceMethod objectInit) (by decide +kernel)) (hts (.code objectInit ⟨#[0xb1]⟩ 1 none) (by decide +kernel)) rfl (by rw [hml]; exact hl.1) rfl dX4_init_1 (Nat.le_of_ble_eq_true rfl) (Nat.le_of_ble_eq_true rfl) ?_
  refine W.eq (g2 := F0 m 4 ls []) rfl ?_
  refine lv_aload_n hx hb dX4_init_4 rfl (lv_at hl 0 rfl) ?_
  refine lv_iconst (v := 2) hx hb dX4_init_5 (by decide) ?_
  refine hn_I (N := 2) hx hb hts (by decide +kernel) hI trivial trivial (by decide) rfl (by decide) (Nat.le_of_ble_eq_true rfl) (Nat.le_of_ble_eq_true rfl) dX4_init_6 (fun H hI => ?_)
  refine W.widen (k := 1) (n := 2) (by decide) (by decide) ?_
  obtain ⟨x1, hx1, hf⟩ := bnd_b hf
  replace hx1 := Option.some.inj hx1
  rw [hx1] at hI
  have hk2 : gK x1 (gN s0) = 22 := by rw [← hx1]; exact nO_K
  obtain ⟨k3, hf⟩ := chk_b hf
  refine hp_4_4 (x := (some (gN s0))) hx hb hts hin_X4 hown kl_7 hI (isk_k k3) hin0 rfl dX4_init_8 (fun H locs hI => ?_)
  refine lv_aload_n hx hb dX4_init_11 rfl (lv_at hl 0 rfl) ?_
  refine lv_iconst (v := 2) hx hb dX4_init_12 (by decide) ?_
  refine hn_I (N := 2) hx hb hts (by decide +kernel) hI trivial trivial (by decide) rfl (by decide) (Nat.le_of_ble_eq_true rfl) (Nat.le_of_ble_eq_true rfl) dX4_init_13 (fun H hI => ?_)
  refine W.widen (k := 2) (n := 4) (by decide) (by decide) ?_
  obtain ⟨x4, hx4, hf⟩ := bnd_b hf
  replace hx4 := Option.some.inj hx4
  rw [hx4] at hI
  have hk5 : gK x4 (gN (sR x1 404 h (some (gN s0)))) = 22 := by rw [← hx4]; exact nO_K
  obtain ⟨k6, hf⟩ := chk_b hf
  refine hp_4_5 (x := (some (gN (sR x1 404 h (some (gN s0)))))) hx hb hts hin_X4 hown kl_13 hI (isk_k k6) hin0 rfl dX4_init_15 (fun H locs hI => ?_)
  refine lv_aload_n hx hb dX4_init_18 rfl (lv_at hl 0 rfl) ?_
  refine lv_iconst (v := 2) hx hb dX4_init_19 (by decide) ?_
  refine hn_I (N := 2) hx hb hts (by decide +kernel) hI trivial trivial (by decide) rfl (by decide) (Nat.le_of_ble_eq_true rfl) (Nat.le_of_ble_eq_true rfl) dX4_init_20 (fun H hI => ?_)
  refine W.widen (k := 3) (n := 6) (by decide) (by decide) ?_
  obtain ⟨x7, hx7, hf⟩ := bnd_b hf
  replace hx7 := Option.some.inj hx7
  rw [hx7] at hI
  have hk8 : gK x7 (gN (sR x4 405 h (some (gN (sR x1 404 h (some (gN s0))))))) = 22 := by rw [← hx7]; exact nO_K
  obtain ⟨k9, hf⟩ := chk_b hf
  refine hp_4_6 (x := (some (gN (sR x4 405 h (some (gN (sR x1 404 h (some (gN s0))))))))) hx hb hts hin_X4 hown kl_16 hI (isk_k k9) hin0 rfl dX4_init_22 (fun H locs hI => ?_)
  obtain ⟨x10, hx10, hf⟩ := bnd_b hf
  replace hx10 := Option.some.inj hx10
  rw [hx10] at hI
  have hk11 : gK x10 (gN (sR x4 405 h (some (gN (sR x1 404 h (some (gN s0))))))) = 22 := by rw [← hx10]; exact (gK_sR.trans hk8)
  have hk12 : gK x10 h = 5 := by rw [← hx10]; exact (gK_sR.trans (isk_k k9))
  refine lv_aload_n hx hb dX4_init_25 rfl (lv_at hl 0 rfl) ?_
  refine lv_bipush (v := 8) hx hb dX4_init_26 (by decide) ?_
  refine hn_I (N := 8) hx hb hts (by decide +kernel) hI trivial trivial (by decide) rfl (by decide) (Nat.le_of_ble_eq_true rfl) (Nat.le_of_ble_eq_true rfl) dX4_init_28 (fun H hI => ?_)
  refine W.widen (k := 4) (n := 14) (by decide) (by decide) ?_
  obtain ⟨x13, hx13, hf⟩ := bnd_b hf
  replace hx13 := Option.some.inj hx13
  rw [hx13] at hI
  have hk14 : gK x13 (gN x10) = 22 := by rw [← hx13]; exact nO_K
  obtain ⟨k15, hf⟩ := chk_b hf
  refine hp_4_7 (x := (some (gN x10))) hx hb hts hin_X4 hown kl_19 hI (isk_k k15) hin0 rfl dX4_init_30 (fun H locs hI => ?_)
  refine lv_aload_n hx hb dX4_init_33 rfl (lv_at hl 0 rfl) ?_
  refine lv_bipush (v := 8) hx hb dX4_init_34 (by decide) ?_
  refine hn_I (N := 8) hx hb hts (by decide +kernel) hI trivial trivial (by decide) rfl (by decide) (Nat.le_of_ble_eq_true rfl) (Nat.le_of_ble_eq_true rfl) dX4_init_36 (fun H hI => ?_)
  refine W.widen (k := 5) (n := 22) (by decide) (by decide) ?_
  obtain ⟨x16, hx16, hf⟩ := bnd_b hf
  replace hx16 := Option.some.inj hx16
  rw [hx16] at hI
  have hk17 : gK x16 (gN (sR x13 407 h (some (gN x10)))) = 22 := by rw [← hx16]; exact nO_K
  obtain ⟨k18, hf⟩ := chk_b hf
  refine hp_4_8 (x := (some (gN (sR x13 407 h (some (gN x10)))))) hx hb hts hin_X4 hown kl_22 hI (isk_k k18) hin0 rfl dX4_init_38 (fun H locs hI => ?_)
  exact hret_v hx hb hr hlocks hI (by decide) (by decide) (fun _ => ⟨trivial, rfl⟩) (ret_e hK0 hf) dX4_init_41

theorem nd_X9_init : yX9_init.cls ≠ "java/lang/invoke/MethodHandle" ∧ yX9_init.cls ≠ "java/lang/invoke/VarHandle" ∧ (parseMethodDescriptor yX9_init.desc).map (fun d => d.parameters.length) = some 0 := by decide +kernel
set_option maxHeartbeats 4000000 in
set_option maxRecDepth 100000 in
theorem ch_X9_init (l : Launch) (D : va_G) (cy : Nat → ClassId) (h : Nat)  (s0 : HSt) (out : HSt) (hf : fh_X9_init h s0 = some out) : CHv l D cy yX9_init wsX9_init { frames := 2, cells := 9, slots := 193, locals := 50 } 9 193 True True [.ref h] s0 out := by
  refine Met.ofW (cc := cX9_init) (maxL := 1) (ret := none) (by decide) rfl ?_
  intro p e s m args below meth c s₁ B hml hv
  obtain ⟨rfl, hP, hK, hD0, hkx, hsz, hal⟩ := hv
  have hx := B.exec
  have hb := B.bytes
  have hr := B.returns
  have hts := atoms_spec (ws := wsX9_init) B.pre
  have hown : s.vm.findClass RX9 = some m.cls := findClass_of_methodNamed B.named
  have hlocks := B.notSynchronized
  have hin0 : meth.name = "<init>" := (name_of_methodNamed B.named B.method).1
  have hI : HI D cy s s0 s0 s.heap [] 0 True True := ⟨hK, hP, hD0.weaken (fun k q hk _ => Or.inl (pl_mem hk)), va_S.rf, hsz.1, hkx, ⟨hsz, hal⟩, fun _ => rfl, Nat.le_refl _⟩
  have hin_X4 : ∀ w ∈ u_ws RX4 TX4 9, w ∈ wsX9_init := fun w hw => List.mem_cons_of_mem _ (List.mem_append_left _ (List.mem_append_right _ hw))
  have hin_X9 : ∀ w ∈ u_ws RX9 TX9 5, w ∈ wsX9_init := fun w hw => List.mem_cons_of_mem _ (List.mem_append_right _ hw)
  have kl_12 : Cond.fieldLink RX9 12 "HalfBridge$Span" "river" "LHalfBridge$River;" ∈ wsX9_init := by decide +kernel
  have kl_16 : Cond.fieldLink RX9 16 "HalfBridge$Span" "yards" "[I" ∈ wsX9_init := by decide +kernel
  have kl_20 : Cond.fieldLink RX9 20 "HalfBridge$Span" "lines" "[I" ∈ wsX9_init := by decide +kernel
  have kl_23 : Cond.fieldLink RX9 23 "HalfBridge$Span" "heights" "[I" ∈ wsX9_init := by decide +kernel
  have hl := lv_entry ([.ref h]) (n := 1) (Nat.le_of_ble_eq_true rfl)
  rw [lg_entry_eq]
  generalize (lg_sl ([.ref h]) ++ List.replicate (1 - (lg_sl ([.ref h])).length) Slot.unset).toArray = ls at hl ⊢
  have hl : lv_has ls 1 [(0, .ref h)] := hl
  obtain ⟨K0, hK0, hf⟩ := top_e hf
  unfold fh_X9_init at hf
  refine lv_aload_n hx hb dX9_init_0 rfl (lv_at hl 0 rfl) ?_
  refine W.objInit hx hb hown (hts (.methodLink RX9 3 objectInit) (by decide +kernel)) (hts (.instanceMethod objectInit) (by decide +kernel)) (hts (.code objectInit ⟨#[0xb1]⟩ 1 none) (by decide +kernel)) rfl (by rw [hml]; exact hl.1) rfl dX9_init_1 (Nat.le_of_ble_eq_true rfl) (Nat.le_of_ble_eq_true rfl) ?_
  refine W.eq (g2 := F0 m 4 ls []) rfl ?_
  refine lv_aload_n hx hb dX9_init_4 rfl (lv_at hl 0 rfl) ?_
  refine hn_4 hx hb hts hin_X4 hown (by decide +kernel) (by decide +kernel) (by decide +kernel) hI trivial trivial (Nat.le_of_ble_eq_true rfl) (Nat.le_of_ble_eq_true rfl) dX9_init_5 (fun H hI => ?_)
  refine W.widen (k := 1) (n := 9) (by decide) (by decide) ?_
  obtain ⟨x1, hx1, hf⟩ := bnd_b hf
  replace hx1 := Option.some.inj hx1
  rw [hx1] at hI
  have hk2 : gK x1 (gN s0) = 5 := by rw [← hx1]; exact nO_K
  refine lv_dup hx hb dX9_init_8 rfl ?_
  obtain ⟨x3, hc4, hf⟩ := bnd_b hf
  refine hcall_Iv (ex2 := True) (As := []) (rest := [.ref (gN s0), .ref h]) (n := 0) ⟨hx, hb, hml, hown, hts⟩ (ch_X4_init l D cy (gN s0) x1 x3 hc4) (cwI 0 hts gX9_init_X4_init rfl rfl rfl (hts (.initialized RX4) (by decide +kernel)) (hts (.methodLink RX9 11 yX4_init) (by decide +kernel)) (hts (.instanceMethod yX4_init) (by decide +kernel)) rfl nd_X4_init ⟨Nat.le_of_ble_eq_true rfl, Nat.le_of_ble_eq_true rfl⟩) hI (fun h => ⟨trivial, trivial⟩) (fun _ => ⟨trivial, trivial⟩) rfl hl.1 (Nat.le_of_ble_eq_true rfl) dX9_init_9 ⟨Nat.le_of_ble_eq_true rfl, Nat.le_of_ble_eq_true rfl⟩ (fun H locs hI => ?_)
  obtain ⟨k5, hf⟩ := chk_b hf
  refine hp_9_0 (x := (some (gN s0))) hx hb hts hin_X9 hown kl_12 hI (isk_k k5) dX9_init_12 (fun H locs hI => ?_)
  refine lv_aload_n hx hb dX9_init_15 rfl (lv_at hl 0 rfl) ?_
  refine lv_iconst (v := 2) hx hb dX9_init_16 (by decide) ?_
  refine hn_I (N := 2) hx hb hts (by decide +kernel) hI trivial trivial (by decide) rfl (by decide) (Nat.le_of_ble_eq_true rfl) (Nat.le_of_ble_eq_true rfl) dX9_init_17 (fun H hI => ?_)
  refine W.widen (k := 7) (n := 33) (by decide) (by decide) ?_
  obtain ⟨x6, hx6, hf⟩ := bnd_b hf
  replace hx6 := Option.some.inj hx6
  rw [hx6] at hI
  have hk7 : gK x6 (gN (sR x3 900 h (some (gN s0)))) = 22 := by rw [← hx6]; exact nO_K
  obtain ⟨k8, hf⟩ := chk_b hf
  refine hp_9_2 (x := (some (gN (sR x3 900 h (some (gN s0)))))) hx hb hts hin_X9 hown kl_16 hI (isk_k k8) hin0 rfl dX9_init_19 (fun H locs hI => ?_)
  refine lv_aload_n hx hb dX9_init_22 rfl (lv_at hl 0 rfl) ?_
  refine lv_bipush (v := 80) hx hb dX9_init_23 (by decide) ?_
  refine hn_I (N := 80) hx hb hts (by decide +kernel) hI trivial trivial (by decide) rfl (by decide) (Nat.le_of_ble_eq_true rfl) (Nat.le_of_ble_eq_true rfl) dX9_init_25 (fun H hI => ?_)
  refine W.widen (k := 8) (n := 113) (by decide) (by decide) ?_
  obtain ⟨x9, hx9, hf⟩ := bnd_b hf
  replace hx9 := Option.some.inj hx9
  rw [hx9] at hI
  have hk10 : gK x9 (gN (sR x6 902 h (some (gN (sR x3 900 h (some (gN s0))))))) = 22 := by rw [← hx9]; exact nO_K
  obtain ⟨k11, hf⟩ := chk_b hf
  refine hp_9_3 (x := (some (gN (sR x6 902 h (some (gN (sR x3 900 h (some (gN s0))))))))) hx hb hts hin_X9 hown kl_20 hI (isk_k k11) hin0 rfl dX9_init_27 (fun H locs hI => ?_)
  obtain ⟨x12, hx12, hf⟩ := bnd_b hf
  replace hx12 := Option.some.inj hx12
  rw [hx12] at hI
  have hk13 : gK x12 (gN (sR x6 902 h (some (gN (sR x3 900 h (some (gN s0))))))) = 22 := by rw [← hx12]; exact (gK_sR.trans hk10)
  have hk14 : gK x12 h = 10 := by rw [← hx12]; exact (gK_sR.trans (isk_k k11))
  refine lv_aload_n hx hb dX9_init_30 rfl (lv_at hl 0 rfl) ?_
  refine lv_bipush (v := 80) hx hb dX9_init_31 (by decide) ?_
  refine hn_I (N := 80) hx hb hts (by decide +kernel) hI trivial trivial (by decide) rfl (by decide) (Nat.le_of_ble_eq_true rfl) (Nat.le_of_ble_eq_true rfl) dX9_init_33 (fun H hI => ?_)
  refine W.widen (k := 9) (n := 193) (by decide) (by decide) ?_
  obtain ⟨x15, hx15, hf⟩ := bnd_b hf
  replace hx15 := Option.some.inj hx15
  rw [hx15] at hI
  have hk16 : gK x15 (gN x12) = 22 := by rw [← hx15]; exact nO_K
  obtain ⟨k17, hf⟩ := chk_b hf
  refine hp_9_4 (x := (some (gN x12))) hx hb hts hin_X9 hown kl_23 hI (isk_k k17) hin0 rfl dX9_init_35 (fun H locs hI => ?_)
  exact hret_v hx hb hr hlocks hI (by decide) (by decide) (fun _ => ⟨trivial, rfl⟩) (ret_e hK0 hf) dX9_init_38
