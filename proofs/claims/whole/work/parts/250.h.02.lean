theorem nd_X3_worth : yX3_worth.cls ≠ "java/lang/invoke/MethodHandle" ∧ yX3_worth.cls ≠ "java/lang/invoke/VarHandle" ∧ (parseMethodDescriptor yX3_worth.desc).map (fun d => d.parameters.length) = some 3 := by decide +kernel
set_option maxHeartbeats 4000000 in
set_option maxRecDepth 100000 in
theorem ch_X3_worth (l : Launch) (D : va_G) (cy : Nat → ClassId) (h : Nat) (a1 : Option Nat) (a2 : Int32) (a3 : Int32) (s0 : HSt) (out : HSt × Int64) (hf : fh_X3_worth h a1 a2 a3 s0 = some out) : CHl l D cy yX3_worth wsX3_worth { frames := 1, cells := 0, slots := 0, locals := 40 } 0 0 False True [.ref h, va_rf a1, .int a2, .int a3] s0 out := by
  refine Met.ofW (cc := cX3_worth) (maxL := 7) (ret := (some .long)) (by decide) rfl ?_
  intro p e s m args below meth c s₁ B hml hv
  obtain ⟨rfl, hP, hK, hD0, hkx, hsz, hal⟩ := hv
  have hx := B.exec
  have hb := B.bytes
  have hr := B.returns
  have hts := atoms_spec (ws := wsX3_worth) B.pre
  have hown : s.vm.findClass RX3 = some m.cls := findClass_of_methodNamed B.named
  have hlocks := B.notSynchronized
  have hI : HI D cy s s0 s0 s.heap [] 0 False True := ⟨hK, hP, hD0.weaken (fun k q hk _ => Or.inl (pl_mem hk)), va_S.rf, hsz.1, hkx, ⟨hsz, hal⟩, fun _ => rfl, Nat.le_refl _⟩
  have hin_X3 : ∀ w ∈ u_ws RX3 TX3 2, w ∈ wsX3_worth := fun w hw => List.mem_cons_of_mem _ (List.mem_append_right _ hw)
  have kl_15 : Cond.fieldLink RX3 15 "HalfBridge$Looker" "stack" "[J" ∈ wsX3_worth := by decide +kernel
  have hl := lv_entry ([.ref h, va_rf a1, .int a2, .int a3]) (n := 7) (by simp [lg_sl, cat_rf, cat_i, cat_l, cat_r])
  rw [lg_entry_eq]
  generalize (lg_sl ([.ref h, va_rf a1, .int a2, .int a3]) ++ List.replicate (7 - (lg_sl ([.ref h, va_rf a1, .int a2, .int a3])).length) Slot.unset).toArray = ls at hl ⊢
  have hl : lv_has ls 7 [(0, .ref h), (1, va_rf a1), (2, .int a2), (3, .int a3)] := (by simpa [lv_args, cat_rf, cat_i, cat_l, cat_r] using hl)
  obtain ⟨K0, hK0, hf⟩ := top_e hf
  have B_166 : ∀ (v4 : Int32)  (st : HSt) (H : Heap) (locs : List Loc) (ls : Array Slot), HI D cy s s0 st H locs 0 False True → lv_has ls 7 [(0, .ref h), (4, .int v4)] → (fh_X3_worth_j166 h v4 st).bind K0 = some out → W p l e (headSpec wsX3_worth { frames := 1, cells := 0, slots := 0, locals := 40 }).room s m (([.ref h, va_rf a1, .int a2, .int a3] : List Value).toArray) below meth c H locs 0 0 (MQ below (HQl D cy s0 0 True out) ([.ref h, va_rf a1, .int a2, .int a3] : List Value).toArray s 0 0 (hF s0)) (F0 m 166 ls []) := by
    intro v4 st H locs ls hI hl hf
    unfold fh_X3_worth_j166 at hf
    refine lv_iload hx hb dX3_worth_166 (lv_at hl 1 rfl) ?_
    refine lv_iconst (v := 1) hx hb dX3_worth_168 (by decide) ?_
    refine lv_icmp_lt (tgt := 184) hx hb dX3_worth_169 (by decide) (fun c1 => ?_) (fun c1 => ?_)
    · replace hf := ifp c1 hf
      refine lv_lconst (v := 0) hx hb dX3_worth_184 (by decide) ?_
      exact hret_l hx hb hr hlocks hI (by decide) (by decide) (fun _ => ⟨trivial, rfl⟩) (ret_e hK0 hf) dX3_worth_185
    · replace hf := ifn c1 hf
      refine lv_aload_n hx hb dX3_worth_172 rfl (lv_at hl 0 rfl) ?_
      obtain ⟨k2, hf⟩ := chk_b hf
      refine hg_3_1 hx hb hts hin_X3 hown kl_15 hI (isk_k k2) dX3_worth_173 ?_
      refine lv_iload hx hb dX3_worth_176 (lv_at hl 1 rfl) ?_
      refine lv_iconst (v := 1) hx hb dX3_worth_178 (by decide) ?_
      refine lv_isub hx hb dX3_worth_179 ?_
      obtain ⟨b3, hd4, hf⟩ := bnd_b hf
      obtain ⟨hq5, hk6⟩ := dr_e hd4
      refine W.eq (g2 := F0 m 180 ls [.int (v4 - (1 : Int32)), .ref b3]) (by rw [hq5]; rfl) ?_
      obtain ⟨k7, hf⟩ := chk_b hf
      refine hl_J hx hb hI hk6 k7 dX3_worth_180 ?_
      refine lv_goto (tgt := 185) hx hb dX3_worth_181 (by decide) ?_
      exact hret_l hx hb hr hlocks hI (by decide) (by decide) (fun _ => ⟨trivial, rfl⟩) (ret_e hK0 hf) dX3_worth_185
  have L_10 : ∀ (v1 : Option Nat) (v3 : Int32) (n : Nat) (v4 : Int32) (v5 : Int32) (st : HSt) (H : Heap) (locs : List Loc) (ls : Array Slot), HI D cy s s0 st H locs 0 False True → lv_has ls 7 [(0, .ref h), (1, va_rf v1), (3, .int v3), (4, .int v4), (5, .int v5)] → (iter (fun x : (Int32 × Int32 × HSt) => fh_X3_worth_s10 h v1 v3 x.1 x.2.1 x.2.2) n (v4, v5, st)).bind (fun x => ((Sum.elim (fun o : HSt × Int64 => (some o : Option (HSt × Int64))) (fun x : (Int32 × Int32 × HSt) => fh_X3_worth_j166 h x.1 x.2.2)) x).bind K0) = some out → W p l e (headSpec wsX3_worth { frames := 1, cells := 0, slots := 0, locals := 40 }).room s m (([.ref h, va_rf a1, .int a2, .int a3] : List Value).toArray) below meth c H locs 0 0 (MQ below (HQl D cy s0 0 True out) ([.ref h, va_rf a1, .int a2, .int a3] : List Value).toArray s 0 0 (hF s0)) (F0 m 10 ls []) := by
    intro v1 v3 n
    induction n with
    | zero => intro v4 v5 st H locs ls hI hl hf; exact (iter_0 hf).elim
    | succ n ih =>
      intro v4 v5 st H locs ls hI hl hf
      obtain ⟨K1, hK1, hf⟩ := iter_e hf
      replace hf : (fh_X3_worth_s10 h v1 v3 v4 v5 st).bind K1 = some out := hf
      have B_10_80 : ∀ (v4 : Int32) (v5 : Int32) (v6 : Int32)  (st : HSt) (H : Heap) (locs : List Loc) (ls : Array Slot), HI D cy s s0 st H locs 0 False True → lv_has ls 7 [(0, .ref h), (1, va_rf v1), (3, .int v3), (4, .int v4), (5, .int v5), (6, .int v6)] → (fh_X3_worth_j80 h v1 v3 v4 v5 v6 st).bind K1 = some out → W p l e (headSpec wsX3_worth { frames := 1, cells := 0, slots := 0, locals := 40 }).room s m (([.ref h, va_rf a1, .int a2, .int a3] : List Value).toArray) below meth c H locs 0 0 (MQ below (HQl D cy s0 0 True out) ([.ref h, va_rf a1, .int a2, .int a3] : List Value).toArray s 0 0 (hF s0)) (F0 m 80 ls []) := by
        intro v4 v5 v6 st H locs ls hI hl hf
        unfold fh_X3_worth_j80 at hf
        refine lv_iload hx hb dX3_worth_80 (lv_at hl 3 rfl) ?_
        refine lv_aload_n hx hb dX3_worth_82 rfl (lv_at hl 0 rfl) ?_
        obtain ⟨k17, hf⟩ := chk_b hf
        refine hg_3_1 hx hb hts hin_X3 hown kl_15 hI (isk_k k17) dX3_worth_83 ?_
        obtain ⟨b18, hd19, hf⟩ := bnd_b hf
        obtain ⟨hq20, hk21⟩ := dr_e hd19
        refine W.eq (g2 := F0 m 86 ls [.ref b18, .int v4]) (by rw [hq20]; rfl) ?_
        refine ha_23 hx hb hI hk21 dX3_worth_86 ?_
        refine lv_icmp_ge (tgt := 160) hx hb dX3_worth_87 (by decide) (fun c22 => ?_) (fun c22 => ?_)
        · replace hf := ifp c22 hf
          refine lv_iinc (v := (v5 + 1)) (lv' := [(5, .int (v5 + 1)), (0, .ref h), (1, va_rf v1), (3, .int v3), (4, .int v4), (6, .int v6)]) hx hb dX3_worth_160 hl (k := 4) rfl (ci_ _ (by decide)) (by decide) (by first | rfl | (simp [cat_rf, cat_i, cat_l, cat_r]; done) | (simp [cat_rf, cat_i, cat_l, cat_r]; decide)) (fun ls hl => ?_)
          refine lv_goto (tgt := 10) hx hb dX3_worth_163 (by decide) ?_
          replace hf := cont_b hK1 hf
          exact ih v4 (v5 + 1) st H locs ls hI (lv_sub hl [1, 2, 3, 4, 0] rfl) hf
        · replace hf := ifn c22 hf
          refine lv_aload_n hx hb dX3_worth_90 rfl (lv_at hl 0 rfl) ?_
          refine hg_3_1 hx hb hts hin_X3 hown kl_15 hI (isk_k k17) dX3_worth_91 ?_
          refine lv_iload hx hb dX3_worth_94 (lv_at hl 3 rfl) ?_
          refine lv_iload hx hb dX3_worth_96 (lv_at hl 5 rfl) ?_
          refine lv_if_gt (tgt := 108) hx hb dX3_worth_98 (by decide) (fun c23 => ?_) (fun c23 => ?_)
          · replace hf := ifp c23 hf
            refine lv_aload_n hx hb dX3_worth_108 rfl (lv_at hl 0 rfl) ?_
            refine lv_iload hx hb dX3_worth_109 (lv_at hl 5 rfl) ?_
            obtain ⟨x24, hc25, hf⟩ := bnd_b hf
            refine hcall_Vl (ex2 := True) (As := [.int v6]) (rest := [.int v4, va_rf (gR st 301 h)]) (n := 1) (by rw [(isk_k k17)]; decide) (hC_4 (isk_k k17)) rfl ⟨hx, hb, hml, hown, hts⟩ (ch_X3_wordOf l D cy h v6 st x24 hc25) (cwV 1 hts gX3_worth_X3_wordOf rfl rfl rfl ⟨rfl, nd_X3_wordOf⟩ ⟨Nat.le_of_ble_eq_true rfl, Nat.le_of_ble_eq_true rfl⟩) hI (fun h => h.elim) (fun _ => ⟨trivial, trivial⟩) rfl hl.1 (by simp [cat_rf, cat_i, cat_l, cat_r]) dX3_worth_111 ⟨Nat.le_of_ble_eq_true rfl, Nat.le_of_ble_eq_true rfl⟩ (fun H locs hI => ?_)
            refine W.eq (g2 := F0 m 114 ls [.long x24.2, .int v4, .ref b18]) (by rw [hq20]; rfl) ?_
            obtain ⟨k26, hf⟩ := chk_b hf
            obtain ⟨k27, hf⟩ := chk_b hf
            refine hs_J hx hb hI (isk_k k26) k27 dX3_worth_114 (fun H locs hI => ?_)
            refine lv_iinc (v := (v4 + 1)) (lv' := [(4, .int (v4 + 1)), (0, .ref h), (1, va_rf v1), (3, .int v3), (5, .int v5), (6, .int v6)]) hx hb dX3_worth_115 hl (k := 3) rfl (ci_ _ (by decide)) (by decide) (by first | rfl | (simp [cat_rf, cat_i, cat_l, cat_r]; done) | (simp [cat_rf, cat_i, cat_l, cat_r]; decide)) (fun ls hl => ?_)
            refine lv_goto (tgt := 160) hx hb dX3_worth_118 (by decide) ?_
            refine lv_iinc (v := (v5 + 1)) (lv' := [(5, .int (v5 + 1)), (4, .int (v4 + 1)), (0, .ref h), (1, va_rf v1), (3, .int v3), (6, .int v6)]) hx hb dX3_worth_160 hl (k := 4) rfl (ci_ _ (by decide)) (by decide) (by first | rfl | (simp [cat_rf, cat_i, cat_l, cat_r]; done) | (simp [cat_rf, cat_i, cat_l, cat_r]; decide)) (fun ls hl => ?_)
            refine lv_goto (tgt := 10) hx hb dX3_worth_163 (by decide) ?_
            replace hf := cont_b hK1 hf
            exact ih (v4 + 1) (v5 + 1) (sJ x24.1 b18 v4.toNatClampNeg x24.2) H locs ls hI (lv_sub hl [2, 3, 4, 1, 0] rfl) hf
          · replace hf := ifn c23 hf
            refine lv_iload hx hb dX3_worth_101 (lv_at hl 5 rfl) ?_
            refine lv_ineg hx hb dX3_worth_103 ?_
            refine lv_i2l (v := ((-v6).toInt64)) hx hb dX3_worth_104 rfl ?_
            refine lv_goto (tgt := 114) hx hb dX3_worth_105 (by decide) ?_
            refine W.eq (g2 := F0 m 114 ls [.long ((-v6).toInt64), .int v4, .ref b18]) (by rw [hq20]; rfl) ?_
            obtain ⟨k28, hf⟩ := chk_b hf
            refine hs_J hx hb hI hk21 k28 dX3_worth_114 (fun H locs hI => ?_)
            refine lv_iinc (v := (v4 + 1)) (lv' := [(4, .int (v4 + 1)), (0, .ref h), (1, va_rf v1), (3, .int v3), (5, .int v5), (6, .int v6)]) hx hb dX3_worth_115 hl (k := 3) rfl (ci_ _ (by decide)) (by decide) (by first | rfl | (simp [cat_rf, cat_i, cat_l, cat_r]; done) | (simp [cat_rf, cat_i, cat_l, cat_r]; decide)) (fun ls hl => ?_)
            refine lv_goto (tgt := 160) hx hb dX3_worth_118 (by decide) ?_
            refine lv_iinc (v := (v5 + 1)) (lv' := [(5, .int (v5 + 1)), (4, .int (v4 + 1)), (0, .ref h), (1, va_rf v1), (3, .int v3), (6, .int v6)]) hx hb dX3_worth_160 hl (k := 4) rfl (ci_ _ (by decide)) (by decide) (by first | rfl | (simp [cat_rf, cat_i, cat_l, cat_r]; done) | (simp [cat_rf, cat_i, cat_l, cat_r]; decide)) (fun ls hl => ?_)
            refine lv_goto (tgt := 10) hx hb dX3_worth_163 (by decide) ?_
            replace hf := cont_b hK1 hf
            exact ih (v4 + 1) (v5 + 1) (sJ st b18 v4.toNatClampNeg ((-v6).toInt64)) H locs ls hI (lv_sub hl [2, 3, 4, 1, 0] rfl) hf
      unfold fh_X3_worth_s10 at hf
      refine lv_iload hx hb dX3_worth_10 (lv_at hl 4 rfl) ?_
      refine lv_iload_n hx hb dX3_worth_12 rfl (lv_at hl 2 rfl) ?_
      refine lv_icmp_ge (tgt := 166) hx hb dX3_worth_13 (by decide) (fun c8 => ?_) (fun c8 => ?_)
      · replace hf := ifp c8 hf
        replace hf := exit_b hK1 hf
        exact B_166 v4 st H locs ls hI (lv_sub hl [0, 3] rfl) hf
      · replace hf := ifn c8 hf
        refine lv_iload hx hb dX3_worth_16 (lv_at hl 4 rfl) ?_
        refine hq_aload_n hx hb dX3_worth_18 rfl (lv_at hl 1 rfl) ?_
        obtain ⟨b9, hd10, hf⟩ := bnd_b hf
        obtain ⟨hq11, hk12⟩ := dr_e hd10
        refine W.eq (g2 := F0 m 19 ls [.ref b9, .int v5]) (by rw [hq11]; rfl) ?_
        refine ha_22 hx hb hI hk12 dX3_worth_19 ?_
        refine lv_icmp_ge (tgt := 166) hx hb dX3_worth_20 (by decide) (fun c13 => ?_) (fun c13 => ?_)
        · replace hf := ifp c13 hf
          replace hf := exit_b hK1 hf
          exact B_166 v4 st H locs ls hI (lv_sub hl [0, 3] rfl) hf
        · replace hf := ifn c13 hf
          refine hq_aload_n hx hb dX3_worth_23 rfl (lv_at hl 1 rfl) ?_
          refine lv_iload hx hb dX3_worth_24 (lv_at hl 4 rfl) ?_
          refine W.eq (g2 := F0 m 26 ls [.int v5, .ref b9]) (by rw [hq11]; rfl) ?_
          obtain ⟨k14, hf⟩ := chk_b hf
          refine hl_I hx hb hI hk12 k14 dX3_worth_26 ?_
          refine lv_ineg hx hb dX3_worth_27 ?_
          refine lv_istore (lv' := [(6, .int (-(gA st b9 v5.toNatClampNeg))), (0, .ref h), (1, va_rf v1), (3, .int v3), (4, .int v4), (5, .int v5)]) hx hb dX3_worth_28 hl (by decide) (by first | rfl | (simp [cat_rf, cat_i, cat_l, cat_r]; done) | (simp [cat_rf, cat_i, cat_l, cat_r]; decide)) (fun ls hl => ?_)
          refine lv_iload hx hb dX3_worth_30 (lv_at hl 0 rfl) ?_
          refine lv_sipush (v := 269) hx hb dX3_worth_32 (by decide) ?_
          refine lv_icmp_ne (tgt := 67) hx hb dX3_worth_35 (by decide) (fun c15 => ?_) (fun c15 => ?_)
          · replace hf := ifn c15 hf
            refine lv_iload hx hb dX3_worth_67 (lv_at hl 0 rfl) ?_
            refine lv_if_le (tgt := 80) hx hb dX3_worth_69 (by decide) (fun c16 => ?_) (fun c16 => ?_)
            · replace hf := ifp c16 hf
              exact B_10_80 v4 v5 (-(gA st b9 v5.toNatClampNeg)) st H locs ls hI (lv_sub hl [1, 2, 3, 4, 5, 0] rfl) hf
            · replace hf := ifn c16 hf
              refine lv_iload hx hb dX3_worth_72 (lv_at hl 0 rfl) ?_
              refine lv_sipush (v := 270) hx hb dX3_worth_74 (by decide) ?_
              refine lv_icmp_lt (tgt := 121) hx hb dX3_worth_77 (by decide) (fun c29 => ?_) (fun c29 => ?_)
              · replace hf := ifp c29 hf
                refine lv_iload hx hb dX3_worth_121 (lv_at hl 4 rfl) ?_
                refine lv_iconst (v := 2) hx hb dX3_worth_123 (by decide) ?_
                refine lv_icmp_lt (tgt := 160) hx hb dX3_worth_124 (by decide) (fun c30 => ?_) (fun c30 => ?_)
                · replace hf := ifp c30 hf
                  refine lv_iinc (v := (v5 + 1)) (lv' := [(5, .int (v5 + 1)), (6, .int (-(gA st b9 v5.toNatClampNeg))), (0, .ref h), (1, va_rf v1), (3, .int v3), (4, .int v4)]) hx hb dX3_worth_160 hl (k := 5) rfl (ci_ _ (by decide)) (by decide) (by first | rfl | (simp [cat_rf, cat_i, cat_l, cat_r]; done) | (simp [cat_rf, cat_i, cat_l, cat_r]; decide)) (fun ls hl => ?_)
                  refine lv_goto (tgt := 10) hx hb dX3_worth_163 (by decide) ?_
                  replace hf := cont_b hK1 hf
                  exact ih v4 (v5 + 1) st H locs ls hI (lv_sub hl [2, 3, 4, 5, 0] rfl) hf
                · replace hf := ifn c30 hf
                  refine lv_iinc (v := (v4 + -1)) (lv' := [(4, .int (v4 + -1)), (6, .int (-(gA st b9 v5.toNatClampNeg))), (0, .ref h), (1, va_rf v1), (3, .int v3), (5, .int v5)]) hx hb dX3_worth_127 hl (k := 4) rfl (ci_ _ (by decide)) (by decide) (by first | rfl | (simp [cat_rf, cat_i, cat_l, cat_r]; done) | (simp [cat_rf, cat_i, cat_l, cat_r]; decide)) (fun ls hl => ?_)
                  refine lv_aload_n hx hb dX3_worth_130 rfl (lv_at hl 2 rfl) ?_
                  obtain ⟨k31, hf⟩ := chk_b hf
                  refine hg_3_1 hx hb hts hin_X3 hown kl_15 hI (isk_k k31) dX3_worth_131 ?_
                  refine lv_iload hx hb dX3_worth_134 (lv_at hl 0 rfl) ?_
                  refine lv_iconst (v := 1) hx hb dX3_worth_136 (by decide) ?_
                  refine lv_isub hx hb dX3_worth_137 ?_
                  refine lv_iload hx hb dX3_worth_138 (lv_at hl 1 rfl) ?_
                  refine lv_aload_n hx hb dX3_worth_140 rfl (lv_at hl 2 rfl) ?_
                  refine hg_3_1 hx hb hts hin_X3 hown kl_15 hI (isk_k k31) dX3_worth_141 ?_
                  refine lv_iload hx hb dX3_worth_144 (lv_at hl 0 rfl) ?_
                  refine lv_iconst (v := 1) hx hb dX3_worth_146 (by decide) ?_
                  refine lv_isub hx hb dX3_worth_147 ?_
                  obtain ⟨b32, hd33, hf⟩ := bnd_b hf
                  obtain ⟨hq34, hk35⟩ := dr_e hd33
                  refine W.eq (g2 := F0 m 148 ls [.int ((v4 + -1) - (1 : Int32)), .ref b32, .int (-(gA st b9 v5.toNatClampNeg)), .int ((v4 + -1) - (1 : Int32)), va_rf (gR st 301 h)]) (by rw [hq34]; rfl) ?_
                  obtain ⟨k36, hf⟩ := chk_b hf
                  refine hl_J hx hb hI hk35 k36 dX3_worth_148 ?_
                  refine lv_aload_n hx hb dX3_worth_149 rfl (lv_at hl 2 rfl) ?_
                  refine hg_3_1 hx hb hts hin_X3 hown kl_15 hI (isk_k k31) dX3_worth_150 ?_
                  refine lv_iload hx hb dX3_worth_153 (lv_at hl 0 rfl) ?_
                  refine W.eq (g2 := F0 m 155 ls [.int (v4 + -1), .ref b32, .long (gJ st b32 ((v4 + -1) - (1 : Int32)).toNatClampNeg), .int (-(gA st b9 v5.toNatClampNeg)), .int ((v4 + -1) - (1 : Int32)), va_rf (gR st 301 h)]) (by rw [hq34]; rfl) ?_
                  obtain ⟨k37, hf⟩ := chk_b hf
                  refine hl_J hx hb hI hk35 k37 dX3_worth_155 ?_
                  obtain ⟨x38, hc39, hf⟩ := bnd_b hf
                  refine hcall_Sl (ex2 := True) (As := [.int (-(gA st b9 v5.toNatClampNeg)), .long (gJ st b32 ((v4 + -1) - (1 : Int32)).toNatClampNeg), .long (gJ st b32 (v4 + -1).toNatClampNeg)]) (rest := [.int ((v4 + -1) - (1 : Int32)), va_rf (gR st 301 h)]) (n := 3) ⟨hx, hb, hml, hown, hts⟩ (ch_X3_joined l D cy (-(gA st b9 v5.toNatClampNeg)) (gJ st b32 ((v4 + -1) - (1 : Int32)).toNatClampNeg) (gJ st b32 (v4 + -1).toNatClampNeg) st x38 hc39) (va_cwS 3 hts gX3_worth_X3_joined rfl rfl rfl nd_X3_joined ⟨Nat.le_of_ble_eq_true rfl, Nat.le_of_ble_eq_true rfl⟩) hI (fun h => h.elim) (fun _ => ⟨trivial, trivial⟩) rfl hl.1 (by simp [cat_rf, cat_i, cat_l, cat_r]) dX3_worth_156 ⟨Nat.le_of_ble_eq_true rfl, Nat.le_of_ble_eq_true rfl⟩ (fun H locs hI => ?_)
                  refine W.eq (g2 := F0 m 159 ls [.long x38.2, .int ((v4 + -1) - (1 : Int32)), .ref b32]) (by rw [hq34]; rfl) ?_
                  obtain ⟨k40, hf⟩ := chk_b hf
                  obtain ⟨k41, hf⟩ := chk_b hf
                  refine hs_J hx hb hI (isk_k k40) k41 dX3_worth_159 (fun H locs hI => ?_)
                  refine lv_iinc (v := (v5 + 1)) (lv' := [(5, .int (v5 + 1)), (4, .int (v4 + -1)), (6, .int (-(gA st b9 v5.toNatClampNeg))), (0, .ref h), (1, va_rf v1), (3, .int v3)]) hx hb dX3_worth_160 hl (k := 5) rfl (ci_ _ (by decide)) (by decide) (by first | rfl | (simp [cat_rf, cat_i, cat_l, cat_r]; done) | (simp [cat_rf, cat_i, cat_l, cat_r]; decide)) (fun ls hl => ?_)
                  refine lv_goto (tgt := 10) hx hb dX3_worth_163 (by decide) ?_
                  replace hf := cont_b hK1 hf
                  exact ih (v4 + -1) (v5 + 1) (sJ x38.1 b32 ((v4 + -1) - (1 : Int32)).toNatClampNeg x38.2) H locs ls hI (lv_sub hl [3, 4, 5, 1, 0] rfl) hf
              · replace hf := ifn c29 hf
                exact B_10_80 v4 v5 (-(gA st b9 v5.toNatClampNeg)) st H locs ls hI (lv_sub hl [1, 2, 3, 4, 5, 0] rfl) hf
          · replace hf := ifp c15 hf
            refine lv_iload hx hb dX3_worth_38 (lv_at hl 4 rfl) ?_
            refine lv_iconst (v := 1) hx hb dX3_worth_40 (by decide) ?_
            refine lv_icmp_lt (tgt := 160) hx hb dX3_worth_41 (by decide) (fun c42 => ?_) (fun c42 => ?_)
            · replace hf := ifp c42 hf
              refine lv_iinc (v := (v5 + 1)) (lv' := [(5, .int (v5 + 1)), (6, .int (-(gA st b9 v5.toNatClampNeg))), (0, .ref h), (1, va_rf v1), (3, .int v3), (4, .int v4)]) hx hb dX3_worth_160 hl (k := 5) rfl (ci_ _ (by decide)) (by decide) (by first | rfl | (simp [cat_rf, cat_i, cat_l, cat_r]; done) | (simp [cat_rf, cat_i, cat_l, cat_r]; decide)) (fun ls hl => ?_)
              refine lv_goto (tgt := 10) hx hb dX3_worth_163 (by decide) ?_
              replace hf := cont_b hK1 hf
              exact ih v4 (v5 + 1) st H locs ls hI (lv_sub hl [2, 3, 4, 5, 0] rfl) hf
            · replace hf := ifn c42 hf
              refine lv_aload_n hx hb dX3_worth_44 rfl (lv_at hl 1 rfl) ?_
              obtain ⟨k43, hf⟩ := chk_b hf
              refine hg_3_1 hx hb hts hin_X3 hown kl_15 hI (isk_k k43) dX3_worth_45 ?_
              refine lv_iload hx hb dX3_worth_48 (lv_at hl 4 rfl) ?_
              refine lv_iconst (v := 1) hx hb dX3_worth_50 (by decide) ?_
              refine lv_isub hx hb dX3_worth_51 ?_
              refine lv_lconst (v := 1) hx hb dX3_worth_52 (by decide) ?_
              refine lv_aload_n hx hb dX3_worth_53 rfl (lv_at hl 1 rfl) ?_
              refine hg_3_1 hx hb hts hin_X3 hown kl_15 hI (isk_k k43) dX3_worth_54 ?_
              refine lv_iload hx hb dX3_worth_57 (lv_at hl 4 rfl) ?_
              refine lv_iconst (v := 1) hx hb dX3_worth_59 (by decide) ?_
              refine lv_isub hx hb dX3_worth_60 ?_
              obtain ⟨b44, hd45, hf⟩ := bnd_b hf
              obtain ⟨hq46, hk47⟩ := dr_e hd45
              refine W.eq (g2 := F0 m 61 ls [.int (v4 - (1 : Int32)), .ref b44, .long (1 : Int64), .int (v4 - (1 : Int32)), va_rf (gR st 301 h)]) (by rw [hq46]; rfl) ?_
              obtain ⟨k48, hf⟩ := chk_b hf
              refine hl_J hx hb hI hk47 k48 dX3_worth_61 ?_
              refine lv_lsub hx hb dX3_worth_62 ?_
              refine W.eq (g2 := F0 m 63 ls [.long ((1 : Int64) - (gJ st b44 (v4 - (1 : Int32)).toNatClampNeg)), .int (v4 - (1 : Int32)), .ref b44]) (by rw [hq46]; rfl) ?_
              obtain ⟨k49, hf⟩ := chk_b hf
              refine hs_J hx hb hI hk47 k49 dX3_worth_63 (fun H locs hI => ?_)
              obtain ⟨x50, hx50, hf⟩ := bnd_b hf
              replace hx50 := Option.some.inj hx50
              rw [hx50] at hI
              have hk51 : gK x50 b9 = 22 := by rw [← hx50]; exact (gK_sJ.trans hk12)
              have hk52 : gK x50 h = 4 := by rw [← hx50]; exact (gK_sJ.trans (isk_k k43))
              have hk53 : gK x50 b44 = 23 := by rw [← hx50]; exact (gK_sJ.trans hk47)
              refine lv_goto (tgt := 160) hx hb dX3_worth_64 (by decide) ?_
              refine lv_iinc (v := (v5 + 1)) (lv' := [(5, .int (v5 + 1)), (6, .int (-(gA st b9 v5.toNatClampNeg))), (0, .ref h), (1, va_rf v1), (3, .int v3), (4, .int v4)]) hx hb dX3_worth_160 hl (k := 5) rfl (ci_ _ (by decide)) (by decide) (by first | rfl | (simp [cat_rf, cat_i, cat_l, cat_r]; done) | (simp [cat_rf, cat_i, cat_l, cat_r]; decide)) (fun ls hl => ?_)
              refine lv_goto (tgt := 10) hx hb dX3_worth_163 (by decide) ?_
              replace hf := cont_b hK1 hf
              exact ih v4 (v5 + 1) x50 H locs ls hI (lv_sub hl [2, 3, 4, 5, 0] rfl) hf
  unfold fh_X3_worth at hf
  refine lv_iconst (v := 0) hx hb dX3_worth_0 (by decide) ?_
  refine lv_istore (lv' := [(4, .int (0 : Int32)), (0, .ref h), (1, va_rf a1), (2, .int a2), (3, .int a3)]) hx hb dX3_worth_1 hl (by decide) (by first | rfl | (simp [cat_rf, cat_i, cat_l, cat_r]; done) | (simp [cat_rf, cat_i, cat_l, cat_r]; decide)) (fun ls hl => ?_)
  refine lv_iconst (v := 0) hx hb dX3_worth_3 (by decide) ?_
  refine lv_iload_n hx hb dX3_worth_4 rfl (lv_at hl 3 rfl) ?_
  refine va_mmax hx hb (hml.trans hl.1.symm) hown (hts (.methodLink RX3 103 Lib.Math.max.name) (by decide +kernel)) (hts (.static Lib.Math.max.name) (by decide +kernel)) (hts (.initialized "java/lang/Math") (by decide +kernel)) (hts (.code Lib.Math.max.name Lib.Math.max.code 2 (some .int)) (by decide +kernel)) (Nat.le_of_ble_eq_true rfl) (Nat.le_of_ble_eq_true rfl) (Nat.le_of_ble_eq_true rfl) (Nat.le_of_ble_eq_true rfl) dX3_worth_5 ?_
  refine lv_istore (lv' := [(5, .int (if (0 : Int32) < a2 then a2 else (0 : Int32))), (4, .int (0 : Int32)), (0, .ref h), (1, va_rf a1), (2, .int a2), (3, .int a3)]) hx hb dX3_worth_8 hl (by decide) (by first | rfl | (simp [cat_rf, cat_i, cat_l, cat_r]; done) | (simp [cat_rf, cat_i, cat_l, cat_r]; decide)) (fun ls hl => ?_)
  exact L_10 a1 a3 mFuel (0 : Int32) (if (0 : Int32) < a2 then a2 else (0 : Int32)) s0 s.heap [] ls hI (lv_sub hl [2, 3, 5, 1, 0] rfl) (asc_b hf)

theorem nd_X3_someHolds : yX3_someHolds.cls ≠ "java/lang/invoke/MethodHandle" ∧ yX3_someHolds.cls ≠ "java/lang/invoke/VarHandle" ∧ (parseMethodDescriptor yX3_someHolds.desc).map (fun d => d.parameters.length) = some 2 := by decide +kernel
set_option maxHeartbeats 4000000 in
set_option maxRecDepth 100000 in
theorem ch_X3_someHolds (l : Launch) (D : va_G) (cy : Nat → ClassId) (h : Nat) (a1 : Option Nat) (a2 : Int32) (s0 : HSt) (out : HSt × Int32) (hf : fh_X3_someHolds h a1 a2 s0 = some out) : CHi l D cy yX3_someHolds wsX3_someHolds { frames := 2, cells := 0, slots := 0, locals := 66 } 0 0 False True [.ref h, va_rf a1, .int a2] s0 out := by
  refine Met.ofW (cc := cX3_someHolds) (maxL := 4) (ret := (some .boolean)) (by decide) rfl ?_
  intro p e s m args below meth c s₁ B hml hv
  obtain ⟨rfl, hP, hK, hD0, hkx, hsz, hal⟩ := hv
  have hx := B.exec
  have hb := B.bytes
  have hr := B.returns
  have hts := atoms_spec (ws := wsX3_someHolds) B.pre
  have hown : s.vm.findClass RX3 = some m.cls := findClass_of_methodNamed B.named
  have hlocks := B.notSynchronized
  have hI : HI D cy s s0 s0 s.heap [] 0 False True := ⟨hK, hP, hD0.weaken (fun k q hk _ => Or.inl (pl_mem hk)), va_S.rf, hsz.1, hkx, ⟨hsz, hal⟩, fun _ => rfl, Nat.le_refl _⟩
  have hin_X6 : ∀ w ∈ u_ws RX6 TX6 5, w ∈ wsX3_someHolds := fun w hw => List.mem_cons_of_mem _ (List.mem_append_left _ (List.mem_append_right _ hw))
  have kl_72 : Cond.fieldLink RX3 72 "HalfBridge$Rule" "clauses" "I" ∈ wsX3_someHolds := by decide +kernel
  have kl_77 : Cond.fieldLink RX3 77 "HalfBridge$Rule" "kinds" "[I" ∈ wsX3_someHolds := by decide +kernel
  have kl_81 : Cond.fieldLink RX3 81 "HalfBridge$Rule" "code" "[I" ∈ wsX3_someHolds := by decide +kernel
  have kl_84 : Cond.fieldLink RX3 84 "HalfBridge$Rule" "tests" "[I" ∈ wsX3_someHolds := by decide +kernel
  have kl_87 : Cond.fieldLink RX3 87 "HalfBridge$Rule" "starts" "[I" ∈ wsX3_someHolds := by decide +kernel
  have hl := lv_entry ([.ref h, va_rf a1, .int a2]) (n := 4) (by simp [lg_sl, cat_rf, cat_i, cat_l, cat_r])
  rw [lg_entry_eq]
  generalize (lg_sl ([.ref h, va_rf a1, .int a2]) ++ List.replicate (4 - (lg_sl ([.ref h, va_rf a1, .int a2])).length) Slot.unset).toArray = ls at hl ⊢
  have hl : lv_has ls 4 [(0, .ref h), (1, va_rf a1), (2, .int a2)] := (by simpa [lv_args, cat_rf, cat_i, cat_l, cat_r] using hl)
  obtain ⟨K0, hK0, hf⟩ := top_e hf
  have B_55 : ∀   (st : HSt) (H : Heap) (locs : List Loc) (ls : Array Slot), HI D cy s s0 st H locs 0 False True → lv_has ls 4 [] → (fh_X3_someHolds_j55 h st).bind K0 = some out → W p l e (headSpec wsX3_someHolds { frames := 2, cells := 0, slots := 0, locals := 66 }).room s m (([.ref h, va_rf a1, .int a2] : List Value).toArray) below meth c H locs 0 0 (MQ below (HQi D cy s0 0 True out) ([.ref h, va_rf a1, .int a2] : List Value).toArray s 0 0 (hF s0)) (F0 m 55 ls []) := by
    intro st H locs ls hI hl hf
    unfold fh_X3_someHolds_j55 at hf
    refine lv_iconst (v := 0) hx hb dX3_someHolds_55 (by decide) ?_
    exact hret_z hx hb hr (by decide) hlocks hI (by decide) (by decide) (fun _ => ⟨trivial, rfl⟩) (ret_e hK0 hf) dX3_someHolds_56
  have L_2 : ∀ (v1 : Option Nat) (v2 : Int32) (n : Nat) (v3 : Int32) (st : HSt) (H : Heap) (locs : List Loc) (ls : Array Slot), HI D cy s s0 st H locs 0 False True → lv_has ls 4 [(0, .ref h), (1, va_rf v1), (2, .int v2), (3, .int v3)] → (iter (fun x : (Int32 × HSt) => fh_X3_someHolds_s2 h v1 v2 x.1 x.2) n (v3, st)).bind (fun x => ((Sum.elim (fun o : HSt × Int32 => (some o : Option (HSt × Int32))) (fun x : (Int32 × HSt) => fh_X3_someHolds_j55 h x.2)) x).bind K0) = some out → W p l e (headSpec wsX3_someHolds { frames := 2, cells := 0, slots := 0, locals := 66 }).room s m (([.ref h, va_rf a1, .int a2] : List Value).toArray) below meth c H locs 0 0 (MQ below (HQi D cy s0 0 True out) ([.ref h, va_rf a1, .int a2] : List Value).toArray s 0 0 (hF s0)) (F0 m 2 ls []) := by
    intro v1 v2 n
    induction n with
    | zero => intro v3 st H locs ls hI hl hf; exact (iter_0 hf).elim
    | succ n ih =>
      intro v3 st H locs ls hI hl hf
      obtain ⟨K1, hK1, hf⟩ := iter_e hf
      replace hf : (fh_X3_someHolds_s2 h v1 v2 v3 st).bind K1 = some out := hf
      unfold fh_X3_someHolds_s2 at hf
      refine lv_iload_n hx hb dX3_someHolds_2 rfl (lv_at hl 3 rfl) ?_
      refine hq_aload_n hx hb dX3_someHolds_3 rfl (lv_at hl 1 rfl) ?_
      obtain ⟨b1, hd2, hf⟩ := bnd_b hf
      obtain ⟨hq3, hk4⟩ := dr_e hd2
      refine W.eq (g2 := F0 m 4 ls [.ref b1, .int v3]) (by rw [hq3]; rfl) ?_
      refine hg_6_0 hx hb hts hin_X6 hown kl_72 hI hk4 dX3_someHolds_4 ?_
      refine lv_icmp_ge (tgt := 55) hx hb dX3_someHolds_7 (by decide) (fun c5 => ?_) (fun c5 => ?_)
      · replace hf := ifp c5 hf
        replace hf := exit_b hK1 hf
        exact B_55  st H locs ls hI (lv_sub hl [] rfl) hf
      · replace hf := ifn c5 hf
        refine hq_aload_n hx hb dX3_someHolds_10 rfl (lv_at hl 1 rfl) ?_
        refine W.eq (g2 := F0 m 11 ls [.ref b1]) (by rw [hq3]; rfl) ?_
        refine hg_6_1 hx hb hts hin_X6 hown kl_77 hI hk4 dX3_someHolds_11 ?_
        refine lv_iload_n hx hb dX3_someHolds_14 rfl (lv_at hl 3 rfl) ?_
        obtain ⟨b6, hd7, hf⟩ := bnd_b hf
        obtain ⟨hq8, hk9⟩ := dr_e hd7
        refine W.eq (g2 := F0 m 15 ls [.int v3, .ref b6]) (by rw [hq8]; rfl) ?_
        obtain ⟨k10, hf⟩ := chk_b hf
        refine hl_I hx hb hI hk9 k10 dX3_someHolds_15 ?_
        refine lv_iload_n hx hb dX3_someHolds_16 rfl (lv_at hl 2 rfl) ?_
        refine lv_icmp_ne (tgt := 49) hx hb dX3_someHolds_17 (by decide) (fun c11 => ?_) (fun c11 => ?_)
        · replace hf := ifn c11 hf
          refine lv_iinc (v := (v3 + 1)) (lv' := [(3, .int (v3 + 1)), (0, .ref h), (1, va_rf v1), (2, .int v2)]) hx hb dX3_someHolds_49 hl (k := 3) rfl (ci_ _ (by decide)) (by decide) (by first | rfl | (simp [cat_rf, cat_i, cat_l, cat_r]; done) | (simp [cat_rf, cat_i, cat_l, cat_r]; decide)) (fun ls hl => ?_)
          refine lv_goto (tgt := 2) hx hb dX3_someHolds_52 (by decide) ?_
          replace hf := cont_b hK1 hf
          exact ih (v3 + 1) st H locs ls hI (lv_sub hl [1, 2, 3, 0] rfl) hf
        · replace hf := ifp c11 hf
          refine lv_aload_n hx hb dX3_someHolds_20 rfl (lv_at hl 0 rfl) ?_
          refine hq_aload_n hx hb dX3_someHolds_21 rfl (lv_at hl 1 rfl) ?_
          refine W.eq (g2 := F0 m 22 ls [.ref b1, .ref h]) (by rw [hq3]; rfl) ?_
          refine hg_6_4 hx hb hts hin_X6 hown kl_81 hI hk4 dX3_someHolds_22 ?_
          refine hq_aload_n hx hb dX3_someHolds_25 rfl (lv_at hl 1 rfl) ?_
          refine W.eq (g2 := F0 m 26 ls [.ref b1, va_rf (gR st 604 b1), .ref h]) (by rw [hq3]; rfl) ?_
          refine hg_6_3 hx hb hts hin_X6 hown kl_84 hI hk4 dX3_someHolds_26 ?_
          refine lv_iload_n hx hb dX3_someHolds_29 rfl (lv_at hl 3 rfl) ?_
          obtain ⟨b12, hd13, hf⟩ := bnd_b hf
          obtain ⟨hq14, hk15⟩ := dr_e hd13
          refine W.eq (g2 := F0 m 30 ls [.int v3, .ref b12, va_rf (gR st 604 b1), .ref h]) (by rw [hq14]; rfl) ?_
          obtain ⟨k16, hf⟩ := chk_b hf
          refine hl_I hx hb hI hk15 k16 dX3_someHolds_30 ?_
          refine hq_aload_n hx hb dX3_someHolds_31 rfl (lv_at hl 1 rfl) ?_
          refine W.eq (g2 := F0 m 32 ls [.ref b1, .int (gA st b12 v3.toNatClampNeg), va_rf (gR st 604 b1), .ref h]) (by rw [hq3]; rfl) ?_
          refine hg_6_2 hx hb hts hin_X6 hown kl_87 hI hk4 dX3_someHolds_32 ?_
          refine lv_iload_n hx hb dX3_someHolds_35 rfl (lv_at hl 3 rfl) ?_
          refine lv_iconst (v := 1) hx hb dX3_someHolds_36 (by decide) ?_
          refine lv_iadd hx hb dX3_someHolds_37 ?_
          obtain ⟨b17, hd18, hf⟩ := bnd_b hf
          obtain ⟨hq19, hk20⟩ := dr_e hd18
          refine W.eq (g2 := F0 m 38 ls [.int (v3 + (1 : Int32)), .ref b17, .int (gA st b12 v3.toNatClampNeg), va_rf (gR st 604 b1), .ref h]) (by rw [hq19]; rfl) ?_
          obtain ⟨k21, hf⟩ := chk_b hf
          refine hl_I hx hb hI hk20 k21 dX3_someHolds_38 ?_
          obtain ⟨k22, hf⟩ := chk_b hf
          obtain ⟨x23, hc24, hf⟩ := bnd_b hf
          refine hcall_Vl (ex2 := True) (As := [va_rf (gR st 604 b1), .int (gA st b12 v3.toNatClampNeg), .int (gA st b17 (v3 + (1 : Int32)).toNatClampNeg)]) (rest := []) (n := 3) (by rw [(isk_k k22)]; decide) (hC_4 (isk_k k22)) rfl ⟨hx, hb, hml, hown, hts⟩ (ch_X3_worth l D cy h (gR st 604 b1) (gA st b12 v3.toNatClampNeg) (gA st b17 (v3 + (1 : Int32)).toNatClampNeg) st x23 hc24) (cwV 3 hts gX3_someHolds_X3_worth rfl rfl rfl ⟨rfl, nd_X3_worth⟩ ⟨Nat.le_of_ble_eq_true rfl, Nat.le_of_ble_eq_true rfl⟩) hI (fun h => h.elim) (fun _ => ⟨trivial, trivial⟩) rfl hl.1 (Nat.le_of_ble_eq_true rfl) dX3_someHolds_39 ⟨Nat.le_of_ble_eq_true rfl, Nat.le_of_ble_eq_true rfl⟩ (fun H locs hI => ?_)
          refine lv_lconst (v := 0) hx hb dX3_someHolds_42 (by decide) ?_
          refine W.lcmp hx hb dX3_someHolds_43 ?_
          refine lv_if_eq (tgt := 49) hx hb dX3_someHolds_44 (by decide) (fun c25 => ?_) (fun c25 => ?_)
          · replace hf := ifp c25 hf
            refine lv_iinc (v := (v3 + 1)) (lv' := [(3, .int (v3 + 1)), (0, .ref h), (1, va_rf v1), (2, .int v2)]) hx hb dX3_someHolds_49 hl (k := 3) rfl (ci_ _ (by decide)) (by decide) (by first | rfl | (simp [cat_rf, cat_i, cat_l, cat_r]; done) | (simp [cat_rf, cat_i, cat_l, cat_r]; decide)) (fun ls hl => ?_)
            refine lv_goto (tgt := 2) hx hb dX3_someHolds_52 (by decide) ?_
            replace hf := cont_b hK1 hf
            exact ih (v3 + 1) x23.1 H locs ls hI (lv_sub hl [1, 2, 3, 0] rfl) hf
          · replace hf := ifn c25 hf
            refine lv_iconst (v := 1) hx hb dX3_someHolds_47 (by decide) ?_
            replace hf := inl_b hK1 hf
            replace hf : Option.bind (some (x23.1, (1 : Int32))) K0 = some out := hf
            exact hret_z hx hb hr (by decide) hlocks hI (by decide) (by decide) (fun _ => ⟨trivial, rfl⟩) (ret_e hK0 hf) dX3_someHolds_48
  unfold fh_X3_someHolds at hf
  refine lv_iconst (v := 0) hx hb dX3_someHolds_0 (by decide) ?_
  refine lv_istore_n (lv' := [(3, .int (0 : Int32)), (0, .ref h), (1, va_rf a1), (2, .int a2)]) hx hb dX3_someHolds_1 rfl hl (by decide) (by first | rfl | (simp [cat_rf, cat_i, cat_l, cat_r]; done) | (simp [cat_rf, cat_i, cat_l, cat_r]; decide)) (fun ls hl => ?_)
  exact L_2 a1 a2 mFuel (0 : Int32) s0 s.heap [] ls hI (lv_sub hl [1, 2, 3, 0] rfl) (asc_b hf)

theorem nd_X3_firstSum : yX3_firstSum.cls ≠ "java/lang/invoke/MethodHandle" ∧ yX3_firstSum.cls ≠ "java/lang/invoke/VarHandle" ∧ (parseMethodDescriptor yX3_firstSum.desc).map (fun d => d.parameters.length) = some 3 := by decide +kernel
set_option maxHeartbeats 4000000 in
set_option maxRecDepth 100000 in
theorem ch_X3_firstSum (l : Launch) (D : va_G) (cy : Nat → ClassId) (h : Nat) (a1 : Option Nat) (a2 : Int32) (a3 : Int32) (s0 : HSt) (out : HSt × Int32) (hf : fh_X3_firstSum h a1 a2 a3 s0 = some out) : CHi l D cy yX3_firstSum wsX3_firstSum { frames := 2, cells := 0, slots := 0, locals := 66 } 0 0 False True [.ref h, va_rf a1, .int a2, .int a3] s0 out := by
  refine Met.ofW (cc := cX3_firstSum) (maxL := 7) (ret := (some .int)) (by decide) rfl ?_
  intro p e s m args below meth c s₁ B hml hv
  obtain ⟨rfl, hP, hK, hD0, hkx, hsz, hal⟩ := hv
  have hx := B.exec
  have hb := B.bytes
  have hr := B.returns
  have hts := atoms_spec (ws := wsX3_firstSum) B.pre
  have hown : s.vm.findClass RX3 = some m.cls := findClass_of_methodNamed B.named
  have hlocks := B.notSynchronized
  have hI : HI D cy s s0 s0 s.heap [] 0 False True := ⟨hK, hP, hD0.weaken (fun k q hk _ => Or.inl (pl_mem hk)), va_S.rf, hsz.1, hkx, ⟨hsz, hal⟩, fun _ => rfl, Nat.le_refl _⟩
  have hin_X6 : ∀ w ∈ u_ws RX6 TX6 5, w ∈ wsX3_firstSum := fun w hw => List.mem_cons_of_mem _ (List.mem_append_left _ (List.mem_append_right _ hw))
  have kl_72 : Cond.fieldLink RX3 72 "HalfBridge$Rule" "clauses" "I" ∈ wsX3_firstSum := by decide +kernel
  have kl_77 : Cond.fieldLink RX3 77 "HalfBridge$Rule" "kinds" "[I" ∈ wsX3_firstSum := by decide +kernel
  have kl_81 : Cond.fieldLink RX3 81 "HalfBridge$Rule" "code" "[I" ∈ wsX3_firstSum := by decide +kernel
  have kl_84 : Cond.fieldLink RX3 84 "HalfBridge$Rule" "tests" "[I" ∈ wsX3_firstSum := by decide +kernel
  have kl_87 : Cond.fieldLink RX3 87 "HalfBridge$Rule" "starts" "[I" ∈ wsX3_firstSum := by decide +kernel
  have hl := lv_entry ([.ref h, va_rf a1, .int a2, .int a3]) (n := 7) (by simp [lg_sl, cat_rf, cat_i, cat_l, cat_r])
  rw [lg_entry_eq]
  generalize (lg_sl ([.ref h, va_rf a1, .int a2, .int a3]) ++ List.replicate (7 - (lg_sl ([.ref h, va_rf a1, .int a2, .int a3])).length) Slot.unset).toArray = ls at hl ⊢
  have hl : lv_has ls 7 [(0, .ref h), (1, va_rf a1), (2, .int a2), (3, .int a3)] := (by simpa [lv_args, cat_rf, cat_i, cat_l, cat_r] using hl)
  obtain ⟨K0, hK0, hf⟩ := top_e hf
  have B_103 : ∀   (st : HSt) (H : Heap) (locs : List Loc) (ls : Array Slot), HI D cy s s0 st H locs 0 False True → lv_has ls 7 [] → (fh_X3_firstSum_j103 h st).bind K0 = some out → W p l e (headSpec wsX3_firstSum { frames := 2, cells := 0, slots := 0, locals := 66 }).room s m (([.ref h, va_rf a1, .int a2, .int a3] : List Value).toArray) below meth c H locs 0 0 (MQ below (HQi D cy s0 0 True out) ([.ref h, va_rf a1, .int a2, .int a3] : List Value).toArray s 0 0 (hF s0)) (F0 m 103 ls []) := by
    intro st H locs ls hI hl hf
    unfold fh_X3_firstSum_j103 at hf
    refine lv_iconst (v := 0) hx hb dX3_firstSum_103 (by decide) ?_
    exact hret_i hx hb hr hlocks hI (by decide) (by decide) (fun _ => ⟨trivial, rfl⟩) (ret_e hK0 hf) dX3_firstSum_104
  have L_3 : ∀ (v1 : Option Nat) (v2 : Int32) (v3 : Int32) (n : Nat) (v4 : Int32) (st : HSt) (H : Heap) (locs : List Loc) (ls : Array Slot), HI D cy s s0 st H locs 0 False True → lv_has ls 7 [(0, .ref h), (1, va_rf v1), (2, .int v2), (3, .int v3), (4, .int v4)] → (iter (fun x : (Int32 × HSt) => fh_X3_firstSum_s3 h v1 v2 v3 x.1 x.2) n (v4, st)).bind (fun x => ((Sum.elim (fun o : HSt × Int32 => (some o : Option (HSt × Int32))) (fun x : (Int32 × HSt) => fh_X3_firstSum_j103 h x.2)) x).bind K0) = some out → W p l e (headSpec wsX3_firstSum { frames := 2, cells := 0, slots := 0, locals := 66 }).room s m (([.ref h, va_rf a1, .int a2, .int a3] : List Value).toArray) below meth c H locs 0 0 (MQ below (HQi D cy s0 0 True out) ([.ref h, va_rf a1, .int a2, .int a3] : List Value).toArray s 0 0 (hF s0)) (F0 m 3 ls []) := by
    intro v1 v2 v3 n
    induction n with
    | zero => intro v4 st H locs ls hI hl hf; exact (iter_0 hf).elim
    | succ n ih =>
      intro v4 st H locs ls hI hl hf
      obtain ⟨K1, hK1, hf⟩ := iter_e hf
      replace hf : (fh_X3_firstSum_s3 h v1 v2 v3 v4 st).bind K1 = some out := hf
      have B_3_67 : ∀ (v4 : Int32) (v5 : Int32)  (st : HSt) (H : Heap) (locs : List Loc) (ls : Array Slot), HI D cy s s0 st H locs 0 False True → lv_has ls 7 [(0, .ref h), (1, va_rf v1), (3, .int v3), (4, .int v4), (5, .int v5)] → (fh_X3_firstSum_j67 h v1 v3 v4 v5 st).bind K1 = some out → W p l e (headSpec wsX3_firstSum { frames := 2, cells := 0, slots := 0, locals := 66 }).room s m (([.ref h, va_rf a1, .int a2, .int a3] : List Value).toArray) below meth c H locs 0 0 (MQ below (HQi D cy s0 0 True out) ([.ref h, va_rf a1, .int a2, .int a3] : List Value).toArray s 0 0 (hF s0)) (F0 m 67 ls []) := by
        intro v4 v5 st H locs ls hI hl hf
        unfold fh_X3_firstSum_j67 at hf
        refine lv_iload_n hx hb dX3_firstSum_67 rfl (lv_at hl 2 rfl) ?_
        refine lv_ineg hx hb dX3_firstSum_68 ?_
        refine lv_i2l (v := ((-v3).toInt64)) hx hb dX3_firstSum_69 rfl ?_
        refine lv_iload_n hx hb dX3_firstSum_70 rfl (lv_at hl 2 rfl) ?_
        refine lv_i2l (v := (v3.toInt64)) hx hb dX3_firstSum_71 rfl ?_
        refine lv_aload_n hx hb dX3_firstSum_72 rfl (lv_at hl 0 rfl) ?_
        refine hq_aload_n hx hb dX3_firstSum_73 rfl (lv_at hl 1 rfl) ?_
        obtain ⟨b23, hd24, hf⟩ := bnd_b hf
        obtain ⟨hq25, hk26⟩ := dr_e hd24
        refine W.eq (g2 := F0 m 74 ls [.ref b23, .ref h, .long (v3.toInt64), .long ((-v3).toInt64)]) (by rw [hq25]; rfl) ?_
        refine hg_6_4 hx hb hts hin_X6 hown kl_81 hI hk26 dX3_firstSum_74 ?_
        refine hq_aload_n hx hb dX3_firstSum_77 rfl (lv_at hl 1 rfl) ?_
        refine W.eq (g2 := F0 m 78 ls [.ref b23, va_rf (gR st 604 b23), .ref h, .long (v3.toInt64), .long ((-v3).toInt64)]) (by rw [hq25]; rfl) ?_
        refine hg_6_2 hx hb hts hin_X6 hown kl_87 hI hk26 dX3_firstSum_78 ?_
        refine lv_iload hx hb dX3_firstSum_81 (lv_at hl 3 rfl) ?_
        obtain ⟨b27, hd28, hf⟩ := bnd_b hf
        obtain ⟨hq29, hk30⟩ := dr_e hd28
        refine W.eq (g2 := F0 m 83 ls [.int v4, .ref b27, va_rf (gR st 604 b23), .ref h, .long (v3.toInt64), .long ((-v3).toInt64)]) (by rw [hq29]; rfl) ?_
        obtain ⟨k31, hf⟩ := chk_b hf
        refine hl_I hx hb hI hk30 k31 dX3_firstSum_83 ?_
        refine lv_iload hx hb dX3_firstSum_84 (lv_at hl 4 rfl) ?_
        obtain ⟨k32, hf⟩ := chk_b hf
        obtain ⟨x33, hc34, hf⟩ := bnd_b hf
        refine hcall_Vl (ex2 := True) (As := [va_rf (gR st 604 b23), .int (gA st b27 v4.toNatClampNeg), .int v5]) (rest := [.long (v3.toInt64), .long ((-v3).toInt64)]) (n := 3) (by rw [(isk_k k32)]; decide) (hC_4 (isk_k k32)) rfl ⟨hx, hb, hml, hown, hts⟩ (ch_X3_worth l D cy h (gR st 604 b23) (gA st b27 v4.toNatClampNeg) v5 st x33 hc34) (cwV 3 hts gX3_firstSum_X3_worth rfl rfl rfl ⟨rfl, nd_X3_worth⟩ ⟨Nat.le_of_ble_eq_true rfl, Nat.le_of_ble_eq_true rfl⟩) hI (fun h => h.elim) (fun _ => ⟨trivial, trivial⟩) rfl hl.1 (Nat.le_of_ble_eq_true rfl) dX3_firstSum_86 ⟨Nat.le_of_ble_eq_true rfl, Nat.le_of_ble_eq_true rfl⟩ (fun H locs hI => ?_)
        refine va_mmin_long hx hb (hml.trans hl.1.symm) hown (hts (.methodLink RX3 94 Lib.MathLoose.min_long.x) (by decide +kernel)) (hts (.static Lib.MathLoose.min_long.x) (by decide +kernel)) (hts (.initialized "java/lang/Math") (by decide +kernel)) (hts (.code Lib.MathLoose.min_long.x Lib.MathLoose.min_long.code 4 (some .long)) (by decide +kernel)) (Nat.le_of_ble_eq_true rfl) (Nat.le_of_ble_eq_true rfl) (Nat.le_of_ble_eq_true rfl) (Nat.le_of_ble_eq_true rfl) dX3_firstSum_89 ?_
        refine va_mmax_long hx hb (hml.trans hl.1.symm) hown (hts (.methodLink RX3 100 Lib.MathLoose.max_long.x) (by decide +kernel)) (hts (.static Lib.MathLoose.max_long.x) (by decide +kernel)) (hts (.initialized "java/lang/Math") (by decide +kernel)) (hts (.code Lib.MathLoose.max_long.x Lib.MathLoose.max_long.code 4 (some .long)) (by decide +kernel)) (Nat.le_of_ble_eq_true rfl) (Nat.le_of_ble_eq_true rfl) (Nat.le_of_ble_eq_true rfl) (Nat.le_of_ble_eq_true rfl) dX3_firstSum_92 ?_
        refine lv_l2i (v := ((if (if x33.2 < (v3.toInt64) then x33.2 else (v3.toInt64)) < ((-v3).toInt64) then ((-v3).toInt64) else (if x33.2 < (v3.toInt64) then x33.2 else (v3.toInt64))).toInt32)) hx hb dX3_firstSum_95 rfl ?_
        replace hf := inl_b hK1 hf
        replace hf : Option.bind (some (x33.1, ((if (if x33.2 < (v3.toInt64) then x33.2 else (v3.toInt64)) < ((-v3).toInt64) then ((-v3).toInt64) else (if x33.2 < (v3.toInt64) then x33.2 else (v3.toInt64))).toInt32))) K0 = some out := hf
        exact hret_i hx hb hr hlocks hI (by decide) (by decide) (fun _ => ⟨trivial, rfl⟩) (ret_e hK0 hf) dX3_firstSum_96
      unfold fh_X3_firstSum_s3 at hf
      refine lv_iload hx hb dX3_firstSum_3 (lv_at hl 4 rfl) ?_
      refine hq_aload_n hx hb dX3_firstSum_5 rfl (lv_at hl 1 rfl) ?_
      obtain ⟨b1, hd2, hf⟩ := bnd_b hf
      obtain ⟨hq3, hk4⟩ := dr_e hd2
      refine W.eq (g2 := F0 m 6 ls [.ref b1, .int v4]) (by rw [hq3]; rfl) ?_
      refine hg_6_0 hx hb hts hin_X6 hown kl_72 hI hk4 dX3_firstSum_6 ?_
      refine lv_icmp_ge (tgt := 103) hx hb dX3_firstSum_9 (by decide) (fun c5 => ?_) (fun c5 => ?_)
      · replace hf := ifp c5 hf
        replace hf := exit_b hK1 hf
        exact B_103  st H locs ls hI (lv_sub hl [] rfl) hf
      · replace hf := ifn c5 hf
        refine hq_aload_n hx hb dX3_firstSum_12 rfl (lv_at hl 1 rfl) ?_
        refine W.eq (g2 := F0 m 13 ls [.ref b1]) (by rw [hq3]; rfl) ?_
        refine hg_6_3 hx hb hts hin_X6 hown kl_84 hI hk4 dX3_firstSum_13 ?_
        refine lv_iload hx hb dX3_firstSum_16 (lv_at hl 4 rfl) ?_
        obtain ⟨b6, hd7, hf⟩ := bnd_b hf
        obtain ⟨hq8, hk9⟩ := dr_e hd7
        refine W.eq (g2 := F0 m 18 ls [.int v4, .ref b6]) (by rw [hq8]; rfl) ?_
        obtain ⟨k10, hf⟩ := chk_b hf
        refine hl_I hx hb hI hk9 k10 dX3_firstSum_18 ?_
        refine lv_istore (lv' := [(5, .int (gA st b6 v4.toNatClampNeg)), (0, .ref h), (1, va_rf v1), (2, .int v2), (3, .int v3), (4, .int v4)]) hx hb dX3_firstSum_19 hl (by decide) (by first | rfl | (simp [cat_rf, cat_i, cat_l, cat_r]; done) | (simp [cat_rf, cat_i, cat_l, cat_r]; decide)) (fun ls hl => ?_)
        refine hq_aload_n hx hb dX3_firstSum_21 rfl (lv_at hl 2 rfl) ?_
        refine W.eq (g2 := F0 m 22 ls [.ref b1]) (by rw [hq3]; rfl) ?_
        refine hg_6_2 hx hb hts hin_X6 hown kl_87 hI hk4 dX3_firstSum_22 ?_
        refine lv_iload hx hb dX3_firstSum_25 (lv_at hl 5 rfl) ?_
        refine lv_iconst (v := 1) hx hb dX3_firstSum_27 (by decide) ?_
        refine lv_iadd hx hb dX3_firstSum_28 ?_
        obtain ⟨b11, hd12, hf⟩ := bnd_b hf
        obtain ⟨hq13, hk14⟩ := dr_e hd12
        refine W.eq (g2 := F0 m 29 ls [.int (v4 + (1 : Int32)), .ref b11]) (by rw [hq13]; rfl) ?_
        obtain ⟨k15, hf⟩ := chk_b hf
        refine hl_I hx hb hI hk14 k15 dX3_firstSum_29 ?_
        refine lv_istore (lv' := [(6, .int (gA st b11 (v4 + (1 : Int32)).toNatClampNeg)), (5, .int (gA st b6 v4.toNatClampNeg)), (0, .ref h), (1, va_rf v1), (2, .int v2), (3, .int v3), (4, .int v4)]) hx hb dX3_firstSum_30 hl (by decide) (by first | rfl | (simp [cat_rf, cat_i, cat_l, cat_r]; done) | (simp [cat_rf, cat_i, cat_l, cat_r]; decide)) (fun ls hl => ?_)
        refine hq_aload_n hx hb dX3_firstSum_32 rfl (lv_at hl 3 rfl) ?_
        refine W.eq (g2 := F0 m 33 ls [.ref b1]) (by rw [hq3]; rfl) ?_
        refine hg_6_1 hx hb hts hin_X6 hown kl_77 hI hk4 dX3_firstSum_33 ?_
        refine lv_iload hx hb dX3_firstSum_36 (lv_at hl 6 rfl) ?_
        obtain ⟨b16, hd17, hf⟩ := bnd_b hf
        obtain ⟨hq18, hk19⟩ := dr_e hd17
        refine W.eq (g2 := F0 m 38 ls [.int v4, .ref b16]) (by rw [hq18]; rfl) ?_
        obtain ⟨k20, hf⟩ := chk_b hf
        refine hl_I hx hb hI hk19 k20 dX3_firstSum_38 ?_
        refine lv_iload_n hx hb dX3_firstSum_39 rfl (lv_at hl 4 rfl) ?_
        refine lv_icmp_ne (tgt := 97) hx hb dX3_firstSum_40 (by decide) (fun c21 => ?_) (fun c21 => ?_)
        · replace hf := ifn c21 hf
          refine lv_iinc (v := (v4 + 1)) (lv' := [(4, .int (v4 + 1)), (6, .int (gA st b11 (v4 + (1 : Int32)).toNatClampNeg)), (5, .int (gA st b6 v4.toNatClampNeg)), (0, .ref h), (1, va_rf v1), (2, .int v2), (3, .int v3)]) hx hb dX3_firstSum_97 hl (k := 6) rfl (ci_ _ (by decide)) (by decide) (by first | rfl | (simp [cat_rf, cat_i, cat_l, cat_r]; done) | (simp [cat_rf, cat_i, cat_l, cat_r]; decide)) (fun ls hl => ?_)
          refine lv_goto (tgt := 3) hx hb dX3_firstSum_100 (by decide) ?_
          replace hf := cont_b hK1 hf
          exact ih (v4 + 1) st H locs ls hI (lv_sub hl [3, 4, 5, 6, 0] rfl) hf
        · replace hf := ifp c21 hf
          refine lv_iload hx hb dX3_firstSum_43 (lv_at hl 1 rfl) ?_
          refine lv_iload hx hb dX3_firstSum_45 (lv_at hl 0 rfl) ?_
          refine lv_icmp_eq (tgt := 67) hx hb dX3_firstSum_47 (by decide) (fun c22 => ?_) (fun c22 => ?_)
          · replace hf := ifp c22 hf
            exact B_3_67 v4 (gA st b6 v4.toNatClampNeg) st H locs ls hI (lv_sub hl [2, 3, 5, 6, 1] rfl) hf
          · replace hf := ifn c22 hf
            refine lv_aload_n hx hb dX3_firstSum_50 rfl (lv_at hl 2 rfl) ?_
            refine hq_aload_n hx hb dX3_firstSum_51 rfl (lv_at hl 3 rfl) ?_
            refine W.eq (g2 := F0 m 52 ls [.ref b1, .ref h]) (by rw [hq3]; rfl) ?_
            refine hg_6_4 hx hb hts hin_X6 hown kl_81 hI hk4 dX3_firstSum_52 ?_
            refine lv_iload hx hb dX3_firstSum_55 (lv_at hl 1 rfl) ?_
            refine lv_iload hx hb dX3_firstSum_57 (lv_at hl 0 rfl) ?_
            obtain ⟨k35, hf⟩ := chk_b hf
            obtain ⟨x36, hc37, hf⟩ := bnd_b hf
            refine hcall_Vl (ex2 := True) (As := [va_rf (gR st 604 b1), .int (gA st b6 v4.toNatClampNeg), .int (gA st b11 (v4 + (1 : Int32)).toNatClampNeg)]) (rest := []) (n := 3) (by rw [(isk_k k35)]; decide) (hC_4 (isk_k k35)) rfl ⟨hx, hb, hml, hown, hts⟩ (ch_X3_worth l D cy h (gR st 604 b1) (gA st b6 v4.toNatClampNeg) (gA st b11 (v4 + (1 : Int32)).toNatClampNeg) st x36 hc37) (cwV 3 hts gX3_firstSum_X3_worth rfl rfl rfl ⟨rfl, nd_X3_worth⟩ ⟨Nat.le_of_ble_eq_true rfl, Nat.le_of_ble_eq_true rfl⟩) hI (fun h => h.elim) (fun _ => ⟨trivial, trivial⟩) rfl hl.1 (Nat.le_of_ble_eq_true rfl) dX3_firstSum_59 ⟨Nat.le_of_ble_eq_true rfl, Nat.le_of_ble_eq_true rfl⟩ (fun H locs hI => ?_)
            refine lv_lconst (v := 0) hx hb dX3_firstSum_62 (by decide) ?_
            refine W.lcmp hx hb dX3_firstSum_63 ?_
            refine lv_if_eq (tgt := 97) hx hb dX3_firstSum_64 (by decide) (fun c38 => ?_) (fun c38 => ?_)
            · replace hf := ifp c38 hf
              refine lv_iinc (v := (v4 + 1)) (lv' := [(4, .int (v4 + 1)), (6, .int (gA st b11 (v4 + (1 : Int32)).toNatClampNeg)), (5, .int (gA st b6 v4.toNatClampNeg)), (0, .ref h), (1, va_rf v1), (2, .int v2), (3, .int v3)]) hx hb dX3_firstSum_97 hl (k := 6) rfl (ci_ _ (by decide)) (by decide) (by first | rfl | (simp [cat_rf, cat_i, cat_l, cat_r]; done) | (simp [cat_rf, cat_i, cat_l, cat_r]; decide)) (fun ls hl => ?_)
              refine lv_goto (tgt := 3) hx hb dX3_firstSum_100 (by decide) ?_
              replace hf := cont_b hK1 hf
              exact ih (v4 + 1) x36.1 H locs ls hI (lv_sub hl [3, 4, 5, 6, 0] rfl) hf
            · replace hf := ifn c38 hf
              exact B_3_67 v4 (gA st b6 v4.toNatClampNeg) x36.1 H locs ls hI (lv_sub hl [2, 3, 5, 6, 1] rfl) hf
  unfold fh_X3_firstSum at hf
  refine lv_iconst (v := 0) hx hb dX3_firstSum_0 (by decide) ?_
  refine lv_istore (lv' := [(4, .int (0 : Int32)), (0, .ref h), (1, va_rf a1), (2, .int a2), (3, .int a3)]) hx hb dX3_firstSum_1 hl (by decide) (by first | rfl | (simp [cat_rf, cat_i, cat_l, cat_r]; done) | (simp [cat_rf, cat_i, cat_l, cat_r]; decide)) (fun ls hl => ?_)
  exact L_3 a1 a2 a3 mFuel (0 : Int32) s0 s.heap [] ls hI (lv_sub hl [1, 2, 3, 4, 0] rfl) (asc_b hf)

theorem nd_X3_planOf : yX3_planOf.cls ≠ "java/lang/invoke/MethodHandle" ∧ yX3_planOf.cls ≠ "java/lang/invoke/VarHandle" ∧ (parseMethodDescriptor yX3_planOf.desc).map (fun d => d.parameters.length) = some 4 := by decide +kernel
set_option maxHeartbeats 4000000 in
set_option maxRecDepth 100000 in
theorem ch_X3_planOf (l : Launch) (D : va_G) (cy : Nat → ClassId) (h : Nat) (a1 : Option Nat) (a2 : Option Nat) (a3 : Int32) (a4 : Int32) (s0 : HSt) (out : HSt × Int32) (hf : fh_X3_planOf h a1 a2 a3 a4 s0 = some out) : CHi l D cy yX3_planOf wsX3_planOf { frames := 3, cells := 0, slots := 0, locals := 92 } 0 0 False True [.ref h, va_rf a1, va_rf a2, .int a3, .int a4] s0 out := by
  refine Met.ofW (cc := cX3_planOf) (maxL := 6) (ret := (some .int)) (by decide) rfl ?_
  intro p e s m args below meth c s₁ B hml hv
  obtain ⟨rfl, hP, hK, hD0, hkx, hsz, hal⟩ := hv
  have hx := B.exec
  have hb := B.bytes
  have hr := B.returns
  have hts := atoms_spec (ws := wsX3_planOf) B.pre
  have hown : s.vm.findClass RX3 = some m.cls := findClass_of_methodNamed B.named
  have hlocks := B.notSynchronized
  have hI : HI D cy s s0 s0 s.heap [] 0 False True := ⟨hK, hP, hD0.weaken (fun k q hk _ => Or.inl (pl_mem hk)), va_S.rf, hsz.1, hkx, ⟨hsz, hal⟩, fun _ => rfl, Nat.le_refl _⟩
  have hin_X4 : ∀ w ∈ u_ws RX4 TX4 9, w ∈ wsX3_planOf := fun w hw => List.mem_cons_of_mem _ (List.mem_append_left _ (List.mem_append_left _ (List.mem_append_right _ hw)))
  have hin_X9 : ∀ w ∈ u_ws RX9 TX9 5, w ∈ wsX3_planOf := fun w hw => List.mem_cons_of_mem _ (List.mem_append_left _ (List.mem_append_left _ (List.mem_append_left _ (List.mem_append_right _ hw))))
  have kl_32 : Cond.fieldLink RX3 32 "HalfBridge$Span" "river" "LHalfBridge$River;" ∈ wsX3_planOf := by decide +kernel
  have kl_36 : Cond.fieldLink RX3 36 "HalfBridge$River" "step" "I" ∈ wsX3_planOf := by decide +kernel
  have hl := lv_entry ([.ref h, va_rf a1, va_rf a2, .int a3, .int a4]) (n := 6) (by simp [lg_sl, cat_rf, cat_i, cat_l, cat_r])
  rw [lg_entry_eq]
  generalize (lg_sl ([.ref h, va_rf a1, va_rf a2, .int a3, .int a4]) ++ List.replicate (6 - (lg_sl ([.ref h, va_rf a1, va_rf a2, .int a3, .int a4])).length) Slot.unset).toArray = ls at hl ⊢
  have hl : lv_has ls 6 [(0, .ref h), (1, va_rf a1), (2, va_rf a2), (3, .int a3), (4, .int a4)] := (by simpa [lv_args, cat_rf, cat_i, cat_l, cat_r] using hl)
  obtain ⟨K0, hK0, hf⟩ := top_e hf
  unfold fh_X3_planOf at hf
  refine hq_aload_n hx hb dX3_planOf_0 rfl (lv_at hl 2 rfl) ?_
  by_cases c1 : a2 = none
  · replace hf := ifp c1 hf
    refine W.eq (g2 := F0 m 1 ls [.null]) (by rw [c1]; rfl) ?_
    refine lv_ifnonnullN hx hb dX3_planOf_1 ?_
    refine lv_iconst (v := 0) hx hb dX3_planOf_4 (by decide) ?_
    refine lv_iconst (v := 0) hx hb dX3_planOf_5 (by decide) ?_
    obtain ⟨x4, hc5, hf⟩ := bnd_b hf
    refine hcall_Si (ex2 := True) (As := [.int (0 : Int32), .int (0 : Int32)]) (rest := []) (n := 2) ⟨hx, hb, hml, hown, hts⟩ (ch_X9_planOfYard l D cy (0 : Int32) (0 : Int32) s0 x4 hc5) (va_cwS 2 hts gX3_planOf_X9_planOfYard rfl rfl rfl nd_X9_planOfYard ⟨Nat.le_of_ble_eq_true rfl, Nat.le_of_ble_eq_true rfl⟩) hI (fun h => h.elim) (fun _ => ⟨trivial, trivial⟩) rfl hl.1 (Nat.le_of_ble_eq_true rfl) dX3_planOf_6 ⟨Nat.le_of_ble_eq_true rfl, Nat.le_of_ble_eq_true rfl⟩ (fun H locs hI => ?_)
    exact hret_i hx hb hr hlocks hI (by decide) (by decide) (fun _ => ⟨trivial, rfl⟩) (ret_e hK0 hf) dX3_planOf_9
  · replace hf := ifn c1 hf
    obtain ⟨b2, hq3, hf⟩ := bnd_b hf
    refine W.eq (g2 := F0 m 1 ls [.ref b2]) (by rw [hq3]; rfl) ?_
    refine lv_ifnonnull (tgt := 10) hx hb dX3_planOf_1 (by decide) ?_
    refine lv_aload_n hx hb dX3_planOf_10 rfl (lv_at hl 0 rfl) ?_
    refine hq_aload_n hx hb dX3_planOf_11 rfl (lv_at hl 1 rfl) ?_
    refine lv_iload_n hx hb dX3_planOf_12 rfl (lv_at hl 3 rfl) ?_
    refine lv_iload hx hb dX3_planOf_13 (lv_at hl 4 rfl) ?_
    obtain ⟨k6, hf⟩ := chk_b hf
    obtain ⟨x7, hc8, hf⟩ := bnd_b hf
    refine hcall_Vv (ex2 := True) (As := [va_rf a1, .int a3, .int a4]) (rest := []) (n := 3) (by rw [(isk_k k6)]; decide) (hC_4 (isk_k k6)) rfl ⟨hx, hb, hml, hown, hts⟩ (ch_X3_look l D cy h a1 a3 a4 s0 x7 hc8) (cwV 3 hts gX3_planOf_X3_look rfl rfl rfl ⟨rfl, nd_X3_look⟩ ⟨Nat.le_of_ble_eq_true rfl, Nat.le_of_ble_eq_true rfl⟩) hI (fun h => h.elim) (fun _ => ⟨trivial, trivial⟩) rfl hl.1 (Nat.le_of_ble_eq_true rfl) dX3_planOf_15 ⟨Nat.le_of_ble_eq_true rfl, Nat.le_of_ble_eq_true rfl⟩ (fun H locs hI => ?_)
    refine lv_aload_n hx hb dX3_planOf_18 rfl (lv_at hl 0 rfl) ?_
    refine hq_aload_n hx hb dX3_planOf_19 rfl (lv_at hl 2 rfl) ?_
    refine lv_sipush (v := 265) hx hb dX3_planOf_20 (by decide) ?_
    obtain ⟨k9, hf⟩ := chk_b hf
    obtain ⟨x10, hc11, hf⟩ := bnd_b hf
    refine hcall_Vi (ex2 := True) (As := [va_rf a2, .int (265 : Int32)]) (rest := []) (n := 2) (by rw [(isk_k k9)]; decide) (hC_4 (isk_k k9)) rfl ⟨hx, hb, hml, hown, hts⟩ (ch_X3_someHolds l D cy h a2 (265 : Int32) x7 x10 hc11) (cwV 2 hts gX3_planOf_X3_someHolds rfl rfl rfl ⟨rfl, nd_X3_someHolds⟩ ⟨Nat.le_of_ble_eq_true rfl, Nat.le_of_ble_eq_true rfl⟩) hI (fun h => h.elim) (fun _ => ⟨trivial, trivial⟩) rfl hl.1 (Nat.le_of_ble_eq_true rfl) dX3_planOf_23 ⟨Nat.le_of_ble_eq_true rfl, Nat.le_of_ble_eq_true rfl⟩ (fun H locs hI => ?_)
    refine lv_if_eq (tgt := 31) hx hb dX3_planOf_26 (by decide) (fun c12 => ?_) (fun c12 => ?_)
    · replace hf := ifp c12 hf
      refine lv_aload_n hx hb dX3_planOf_31 rfl (lv_at hl 0 rfl) ?_
      refine hq_aload_n hx hb dX3_planOf_32 rfl (lv_at hl 2 rfl) ?_
      refine lv_sipush (v := 264) hx hb dX3_planOf_33 (by decide) ?_
      obtain ⟨k13, hf⟩ := chk_b hf
      obtain ⟨x14, hc15, hf⟩ := bnd_b hf
      refine hcall_Vi (ex2 := True) (As := [va_rf a2, .int (264 : Int32)]) (rest := []) (n := 2) (by rw [(isk_k k13)]; decide) (hC_4 (isk_k k13)) rfl ⟨hx, hb, hml, hown, hts⟩ (ch_X3_someHolds l D cy h a2 (264 : Int32) x10.1 x14 hc15) (cwV 2 hts gX3_planOf_X3_someHolds rfl rfl rfl ⟨rfl, nd_X3_someHolds⟩ ⟨Nat.le_of_ble_eq_true rfl, Nat.le_of_ble_eq_true rfl⟩) hI (fun h => h.elim) (fun _ => ⟨trivial, trivial⟩) rfl hl.1 (Nat.le_of_ble_eq_true rfl) dX3_planOf_36 ⟨Nat.le_of_ble_eq_true rfl, Nat.le_of_ble_eq_true rfl⟩ (fun H locs hI => ?_)
      refine lv_if_eq (tgt := 45) hx hb dX3_planOf_39 (by decide) (fun c16 => ?_) (fun c16 => ?_)
      · replace hf := ifp c16 hf
        refine hq_aload_n hx hb dX3_planOf_45 rfl (lv_at hl 1 rfl) ?_
        obtain ⟨b17, hd18, hf⟩ := bnd_b hf
        obtain ⟨hq19, hk20⟩ := dr_e hd18
        refine W.eq (g2 := F0 m 46 ls [.ref b17]) (by rw [hq19]; rfl) ?_
        refine hg_9_0 hx hb hts hin_X9 hown kl_32 hI hk20 dX3_planOf_46 ?_
        obtain ⟨b21, hd22, hf⟩ := bnd_b hf
        obtain ⟨hq23, hk24⟩ := dr_e hd22
        refine W.eq (g2 := F0 m 49 ls [.ref b21]) (by rw [hq23]; rfl) ?_
        refine hg_4_1 hx hb hts hin_X4 hown kl_36 hI hk24 dX3_planOf_49 ?_
        refine lv_istore (lv' := [(5, .int (gI x14.1 401 b21)), (0, .ref h), (1, va_rf a1), (2, va_rf a2), (3, .int a3), (4, .int a4)]) hx hb dX3_planOf_52 hl (by decide) (by first | rfl | (simp [cat_rf, cat_i, cat_l, cat_r]; done) | (simp [cat_rf, cat_i, cat_l, cat_r]; decide)) (fun ls hl => ?_)
        refine lv_aload_n hx hb dX3_planOf_54 rfl (lv_at hl 1 rfl) ?_
        refine hq_aload_n hx hb dX3_planOf_55 rfl (lv_at hl 3 rfl) ?_
        refine lv_sipush (v := 262) hx hb dX3_planOf_56 (by decide) ?_
        refine lv_iload hx hb dX3_planOf_59 (lv_at hl 0 rfl) ?_
        obtain ⟨k25, hf⟩ := chk_b hf
        obtain ⟨x26, hc27, hf⟩ := bnd_b hf
        refine hcall_Vi (ex2 := True) (As := [va_rf a2, .int (262 : Int32), .int (gI x14.1 401 b21)]) (rest := []) (n := 3) (by rw [(isk_k k25)]; decide) (hC_4 (isk_k k25)) rfl ⟨hx, hb, hml, hown, hts⟩ (ch_X3_firstSum l D cy h a2 (262 : Int32) (gI x14.1 401 b21) x14.1 x26 hc27) (cwV 3 hts gX3_planOf_X3_firstSum rfl rfl rfl ⟨rfl, nd_X3_firstSum⟩ ⟨Nat.le_of_ble_eq_true rfl, Nat.le_of_ble_eq_true rfl⟩) hI (fun h => h.elim) (fun _ => ⟨trivial, trivial⟩) rfl hl.1 (Nat.le_of_ble_eq_true rfl) dX3_planOf_61 ⟨Nat.le_of_ble_eq_true rfl, Nat.le_of_ble_eq_true rfl⟩ (fun H locs hI => ?_)
        refine lv_aload_n hx hb dX3_planOf_64 rfl (lv_at hl 1 rfl) ?_
        refine hq_aload_n hx hb dX3_planOf_65 rfl (lv_at hl 3 rfl) ?_
        refine lv_sipush (v := 263) hx hb dX3_planOf_66 (by decide) ?_
        refine lv_iload hx hb dX3_planOf_69 (lv_at hl 0 rfl) ?_
        obtain ⟨k28, hf⟩ := chk_b hf
        obtain ⟨x29, hc30, hf⟩ := bnd_b hf
        refine hcall_Vi (ex2 := True) (As := [va_rf a2, .int (263 : Int32), .int (gI x14.1 401 b21)]) (rest := [.int x26.2]) (n := 3) (by rw [(isk_k k28)]; decide) (hC_4 (isk_k k28)) rfl ⟨hx, hb, hml, hown, hts⟩ (ch_X3_firstSum l D cy h a2 (263 : Int32) (gI x14.1 401 b21) x26.1 x29 hc30) (cwV 3 hts gX3_planOf_X3_firstSum rfl rfl rfl ⟨rfl, nd_X3_firstSum⟩ ⟨Nat.le_of_ble_eq_true rfl, Nat.le_of_ble_eq_true rfl⟩) hI (fun h => h.elim) (fun _ => ⟨trivial, trivial⟩) rfl hl.1 (Nat.le_of_ble_eq_true rfl) dX3_planOf_71 ⟨Nat.le_of_ble_eq_true rfl, Nat.le_of_ble_eq_true rfl⟩ (fun H locs hI => ?_)
        obtain ⟨x31, hc32, hf⟩ := bnd_b hf
        refine hcall_Si (ex2 := True) (As := [.int x26.2, .int x29.2]) (rest := []) (n := 2) ⟨hx, hb, hml, hown, hts⟩ (ch_X9_planOfYard l D cy x26.2 x29.2 x29.1 x31 hc32) (va_cwS 2 hts gX3_planOf_X9_planOfYard rfl rfl rfl nd_X9_planOfYard ⟨Nat.le_of_ble_eq_true rfl, Nat.le_of_ble_eq_true rfl⟩) hI (fun h => h.elim) (fun _ => ⟨trivial, trivial⟩) rfl hl.1 (Nat.le_of_ble_eq_true rfl) dX3_planOf_74 ⟨Nat.le_of_ble_eq_true rfl, Nat.le_of_ble_eq_true rfl⟩ (fun H locs hI => ?_)
        exact hret_i hx hb hr hlocks hI (by decide) (by decide) (fun _ => ⟨trivial, rfl⟩) (ret_e hK0 hf) dX3_planOf_77
      · replace hf := ifn c16 hf
        refine lv_bipush (v := -2) hx hb dX3_planOf_42 (by decide) ?_
        exact hret_i hx hb hr hlocks hI (by decide) (by decide) (fun _ => ⟨trivial, rfl⟩) (ret_e hK0 hf) dX3_planOf_44
    · replace hf := ifn c12 hf
      refine lv_iconst (v := -1) hx hb dX3_planOf_29 (by decide) ?_
      exact hret_i hx hb hr hlocks hI (by decide) (by decide) (fun _ => ⟨trivial, rfl⟩) (ret_e hK0 hf) dX3_planOf_30
