theorem nd_X1_goDeeper : yX1_goDeeper.cls ≠ "java/lang/invoke/MethodHandle" ∧ yX1_goDeeper.cls ≠ "java/lang/invoke/VarHandle" ∧ (parseMethodDescriptor yX1_goDeeper.desc).map (fun d => d.parameters.length) = some 2 := by decide +kernel
set_option maxHeartbeats 4000000 in
set_option maxRecDepth 100000 in
theorem ch_X1_goDeeper (l : Launch) (D : va_G) (cy : Nat → ClassId) (nr : Nat) : ∀ (h : Nat) (a1 : Int32) (a2 : Int32) (s0 : HSt) (out : HSt), fh_X1_goDeeper nr h a1 a2 s0 = some out → CHv l D cy yX1_goDeeper wsX1_goDeeper { frames := 20 + nr * 6, cells := 0, slots := 0, locals := 400 + nr * 300 } 0 0 False True [.ref h, .int a1, .int a2] s0 out := by
  induction nr with
  | zero => intro h a1 a2 s0 out hf; exact absurd hf (by simp [fh_X1_goDeeper])
  | succ nr hrec =>
    intro h a1 a2 s0 out hf
    obtain ⟨rec, hrq⟩ : ∃ r, r = fh_X1_goDeeper nr := ⟨_, rfl⟩
    replace hf : fh_X1_goDeeperF (fh_X1_goDeeper nr) h a1 a2 s0 = some out := hf
    rw [← hrq] at hrec hf
    refine Met.ofW (cc := cX1_goDeeper) (maxL := 9) (ret := none) (by decide) rfl ?_
    intro p e s m args below meth c s₁ B hml hv
    obtain ⟨rfl, hP, hK, hD0, hkx, hsz, hal⟩ := hv
    have hx := B.exec
    have hb := B.bytes
    have hr := B.returns
    have hts := atoms_spec (ws := wsX1_goDeeper) B.pre
    have hown : s.vm.findClass RX1 = some m.cls := findClass_of_methodNamed B.named
    have hlocks := B.notSynchronized
    have hI : HI D cy s s0 s0 s.heap [] 0 False True := ⟨hK, hP, hD0.weaken (fun k q hk _ => Or.inl (pl_mem hk)), va_S.rf, hsz.1, hkx, ⟨hsz, hal⟩, fun _ => rfl, Nat.le_refl _⟩
    have hin_X1 : ∀ w ∈ u_ws RX1 TX1 12, w ∈ wsX1_goDeeper := fun w hw => List.mem_cons_of_mem _ (List.mem_append_left _ (List.mem_append_left _ (List.mem_append_left _ (List.mem_append_left _ (List.mem_append_left _ (List.mem_append_right _ hw))))))
    have hin_X4 : ∀ w ∈ u_ws RX4 TX4 9, w ∈ wsX1_goDeeper := fun w hw => List.mem_cons_of_mem _ (List.mem_append_left _ (List.mem_append_left _ (List.mem_append_left _ (List.mem_append_right _ hw))))
    have hin_X9 : ∀ w ∈ u_ws RX9 TX9 5, w ∈ wsX1_goDeeper := fun w hw => List.mem_cons_of_mem _ (List.mem_append_left _ (List.mem_append_left _ (List.mem_append_left _ (List.mem_append_left _ (List.mem_append_right _ hw)))))
    have kl_11 : Cond.fieldLink RX1 11 "HalfBridge$FreeHand" "turns" "[I" ∈ wsX1_goDeeper := by decide +kernel
    have kl_18 : Cond.fieldLink RX1 18 "HalfBridge$FreeHand" "looker" "LHalfBridge$Looker;" ∈ wsX1_goDeeper := by decide +kernel
    have kl_22 : Cond.fieldLink RX1 22 "HalfBridge$FreeHand" "spares" "[LHalfBridge$Span;" ∈ wsX1_goDeeper := by decide +kernel
    have kl_26 : Cond.fieldLink RX1 26 "HalfBridge$FreeHand" "isSpiteful" "Z" ∈ wsX1_goDeeper := by decide +kernel
    have kl_30 : Cond.fieldLink RX1 30 "HalfBridge$FreeHand" "days" "I" ∈ wsX1_goDeeper := by decide +kernel
    have kl_34 : Cond.fieldLink RX1 34 "HalfBridge$FreeHand" "purse" "I" ∈ wsX1_goDeeper := by decide +kernel
    have kl_45 : Cond.fieldLink RX1 45 "HalfBridge$FreeHand" "told" "LHalfBridge$Site;" ∈ wsX1_goDeeper := by decide +kernel
    have kl_49 : Cond.fieldLink RX1 49 "HalfBridge$FreeHand" "side" "I" ∈ wsX1_goDeeper := by decide +kernel
    have kl_52 : Cond.fieldLink RX1 52 "HalfBridge$FreeHand" "rule" "LHalfBridge$Rule;" ∈ wsX1_goDeeper := by decide +kernel
    have kl_86 : Cond.fieldLink RX1 86 "HalfBridge$Span" "day" "I" ∈ wsX1_goDeeper := by decide +kernel
    have kl_99 : Cond.fieldLink RX1 99 "HalfBridge$Span" "river" "LHalfBridge$River;" ∈ wsX1_goDeeper := by decide +kernel
    have kl_103 : Cond.fieldLink RX1 103 "HalfBridge$River" "step" "I" ∈ wsX1_goDeeper := by decide +kernel
    have hl := lv_entry ([.ref h, .int a1, .int a2]) (n := 9) (Nat.le_of_ble_eq_true rfl)
    rw [lg_entry_eq]
    generalize (lg_sl ([.ref h, .int a1, .int a2]) ++ List.replicate (9 - (lg_sl ([.ref h, .int a1, .int a2])).length) Slot.unset).toArray = ls at hl ⊢
    have hl : lv_has ls 9 [(0, .ref h), (1, .int a1), (2, .int a2)] := hl
    obtain ⟨K0, hK0, hf⟩ := top_e hf
    have B_203 : ∀   (st : HSt) (H : Heap) (locs : List Loc) (ls : Array Slot), HI D cy s s0 st H locs 0 False True → lv_has ls 9 [] → (fh_X1_goDeeper_j203 rec h st).bind K0 = some out → W p l e (headSpec wsX1_goDeeper { frames := (20 + (nr + 1) * 6), cells := 0, slots := 0, locals := (400 + (nr + 1) * 300) }).room s m (([.ref h, .int a1, .int a2] : List Value).toArray) below meth c H locs 0 0 (MQ below (HQv D cy s0 0 True out) ([.ref h, .int a1, .int a2] : List Value).toArray s 0 0 (hF s0)) (F0 m 203 ls []) := by
      intro st H locs ls hI hl hf
      unfold fh_X1_goDeeper_j203 at hf
      exact hret_v hx hb hr hlocks hI (by decide) (by decide) (fun _ => ⟨trivial, rfl⟩) (ret_e hK0 hf) dX1_goDeeper_203
    have L_111 : ∀ (v1 : Int32) (v2 : Int32) (v3 : Option Nat) (v5 : Int32) (v6 : Int32) (n : Nat) (v7 : Int32) (v8 : Int32) (st : HSt) (H : Heap) (locs : List Loc) (ls : Array Slot), HI D cy s s0 st H locs 0 False True → lv_has ls 9 [(0, .ref h), (1, .int v1), (2, .int v2), (3, va_rf v3), (5, .int v5), (6, .int v6), (7, .int v7), (8, .int v8)] → (iter (fun x : (Int32 × Int32 × HSt) => fh_X1_goDeeper_s111 rec h v1 v2 v3 v5 v6 x.1 x.2.1 x.2.2) n (v7, v8, st)).bind (fun x => ((Sum.elim (fun o : HSt => (some o : Option (HSt))) (fun x : (Int32 × Int32 × HSt) => fh_X1_goDeeper_j203 rec h x.2.2)) x).bind K0) = some out → W p l e (headSpec wsX1_goDeeper { frames := (20 + (nr + 1) * 6), cells := 0, slots := 0, locals := (400 + (nr + 1) * 300) }).room s m (([.ref h, .int a1, .int a2] : List Value).toArray) below meth c H locs 0 0 (MQ below (HQv D cy s0 0 True out) ([.ref h, .int a1, .int a2] : List Value).toArray s 0 0 (hF s0)) (F0 m 111 ls []) := by
      intro v1 v2 v3 v5 v6 n
      induction n with
      | zero => intro v7 v8 st H locs ls hI hl hf; exact (iter_0 hf).elim
      | succ n ih =>
        intro v7 v8 st H locs ls hI hl hf
        obtain ⟨K1, hK1, hf⟩ := iter_e hf
        replace hf : (fh_X1_goDeeper_s111 rec h v1 v2 v3 v5 v6 v7 v8 st).bind K1 = some out := hf
        have B_111_173_0 : ∀ (v7 : Int32) (v8 : Int32) (t0 : Int32) (t1 : Int32) (t2 : Option Nat) (st : HSt) (H : Heap) (locs : List Loc) (ls : Array Slot), HI D cy s s0 st H locs 0 False True → lv_has ls 9 [(0, .ref h), (1, .int v1), (2, .int v2), (3, va_rf v3), (5, .int v5), (6, .int v6), (7, .int v7), (8, .int v8)] → (fh_X1_goDeeper_j173 rec h v1 v2 v3 v5 v6 v7 v8 t0 t1 t2 st).bind K1 = some out → W p l e (headSpec wsX1_goDeeper { frames := (20 + (nr + 1) * 6), cells := 0, slots := 0, locals := (400 + (nr + 1) * 300) }).room s m (([.ref h, .int a1, .int a2] : List Value).toArray) below meth c H locs 0 0 (MQ below (HQv D cy s0 0 True out) ([.ref h, .int a1, .int a2] : List Value).toArray s 0 0 (hF s0)) (F0 m 173 ls [.int t0, .int t1, va_rf t2]) := by
          intro v7 v8 t0 t1 t2 st H locs ls hI hl hf
          unfold fh_X1_goDeeper_j173 at hf
          obtain ⟨b55, hd56, hf⟩ := bnd_b hf
          obtain ⟨hq57, hk58⟩ := dr_e hd56
          refine W.eq (g2 := F0 m 173 ls [.int t0, .int t1, .ref b55]) (by rw [hq57]; rfl) ?_
          obtain ⟨k59, hf⟩ := chk_b hf
          refine hs_I hx hb hI hk58 k59 dX1_goDeeper_173 (fun H locs hI => ?_)
          refine lv_aload_n hx hb dX1_goDeeper_174 rfl (lv_at hl 0 rfl) ?_
          refine lv_iload_n hx hb dX1_goDeeper_175 rfl (lv_at hl 1 rfl) ?_
          refine lv_iconst (v := 1) hx hb dX1_goDeeper_176 (by decide) ?_
          refine lv_iadd hx hb dX1_goDeeper_177 ?_
          refine lv_iload hx hb dX1_goDeeper_178 (lv_at hl 6 rfl) ?_
          refine lv_if_eq (tgt := 193) hx hb dX1_goDeeper_180 (by decide) (fun c60 => ?_) (fun c60 => ?_)
          · replace hf := ifp c60 hf
            refine lv_iload_n hx hb dX1_goDeeper_193 rfl (lv_at hl 2 rfl) ?_
            obtain ⟨k61, hf⟩ := chk_b hf
            obtain ⟨x62, hc63, hf⟩ := bnd_b hf
            refine hcall_Vv (ex2 := True) (As := [.int (v1 + (1 : Int32)), .int v2]) (rest := []) (n := 2) (by rw [(gK_sA.trans (isk_k k61))]; decide) (hC_2 (gK_sA.trans (isk_k k61))) rfl ⟨hx, hb, hml, hown, hts⟩ (hrec h (v1 + (1 : Int32)) v2 (sA st b55 t1.toNatClampNeg t0) x62 hc63) (cwV 2 hts gX1_goDeeper_X1_goDeeper rfl rfl rfl ⟨rfl, nd_X1_goDeeper⟩ ⟨(show (20 + nr * 6) + 1 ≤ (20 + (nr + 1) * 6) by omega), (show 8 + (9 + 11) + (400 + nr * 300) ≤ (400 + (nr + 1) * 300) by omega)⟩) hI (fun h => h.elim) (fun _ => ⟨trivial, trivial⟩) rfl hl.1 (Nat.le_of_ble_eq_true rfl) dX1_goDeeper_194 ⟨Nat.le_of_ble_eq_true rfl, Nat.le_of_ble_eq_true rfl⟩ (fun H locs hI => ?_)
            refine lv_iinc (v := (v8 + 1)) (lv' := [(8, .int (v8 + 1)), (0, .ref h), (1, .int v1), (2, .int v2), (3, va_rf v3), (5, .int v5), (6, .int v6), (7, .int v7)]) hx hb dX1_goDeeper_197 hl (k := 7) rfl (ci_ _ (by decide)) (by decide) (by first | rfl | (simp [cat_rf, cat_i, cat_l, cat_r]; done) | (simp [cat_rf, cat_i, cat_l, cat_r]; decide)) (fun ls hl => ?_)
            refine lv_goto (tgt := 111) hx hb dX1_goDeeper_200 (by decide) ?_
            replace hf := cont_b hK1 hf
            exact ih v7 (v8 + 1) x62 H locs ls hI (lv_sub hl [1, 2, 3, 4, 5, 6, 7, 0] rfl) hf
          · replace hf := ifn c60 hf
            refine lv_iload_n hx hb dX1_goDeeper_183 rfl (lv_at hl 2 rfl) ?_
            refine lv_iload hx hb dX1_goDeeper_184 (lv_at hl 7 rfl) ?_
            refine va_mabs hx hb (hml.trans hl.1.symm) hown (hts (.methodLink RX1 113 Lib.Math.abs.name) (by decide +kernel)) (hts (.static Lib.Math.abs.name) (by decide +kernel)) (hts (.initialized "java/lang/Math") (by decide +kernel)) (hts (.code Lib.Math.abs.name Lib.Math.abs.code 1 (some .int)) (by decide +kernel)) (show 1 ≤ (20 + (nr + 1) * 6) by omega) (Nat.le_trans (m := 40) (by simp [cat_rf, cat_i, cat_l, cat_r]) (show 40 ≤ (400 + (nr + 1) * 300) by omega)) (Nat.le_of_ble_eq_true rfl) (Nat.le_of_ble_eq_true rfl) dX1_goDeeper_186 ?_
            refine lv_iadd hx hb dX1_goDeeper_189 ?_
            refine lv_goto (tgt := 194) hx hb dX1_goDeeper_190 (by decide) ?_
            obtain ⟨k64, hf⟩ := chk_b hf
            obtain ⟨x65, hc66, hf⟩ := bnd_b hf
            refine hcall_Vv (ex2 := True) (As := [.int (v1 + (1 : Int32)), .int (v2 + (if 0 ≤ v8 then v8 else 0 - v8))]) (rest := []) (n := 2) (by rw [(gK_sA.trans (isk_k k64))]; decide) (hC_2 (gK_sA.trans (isk_k k64))) rfl ⟨hx, hb, hml, hown, hts⟩ (hrec h (v1 + (1 : Int32)) (v2 + (if 0 ≤ v8 then v8 else 0 - v8)) (sA st b55 t1.toNatClampNeg t0) x65 hc66) (cwV 2 hts gX1_goDeeper_X1_goDeeper rfl rfl rfl ⟨rfl, nd_X1_goDeeper⟩ ⟨(show (20 + nr * 6) + 1 ≤ (20 + (nr + 1) * 6) by omega), (show 8 + (9 + 11) + (400 + nr * 300) ≤ (400 + (nr + 1) * 300) by omega)⟩) hI (fun h => h.elim) (fun _ => ⟨trivial, trivial⟩) rfl hl.1 (Nat.le_of_ble_eq_true rfl) dX1_goDeeper_194 ⟨Nat.le_of_ble_eq_true rfl, Nat.le_of_ble_eq_true rfl⟩ (fun H locs hI => ?_)
            refine lv_iinc (v := (v8 + 1)) (lv' := [(8, .int (v8 + 1)), (0, .ref h), (1, .int v1), (2, .int v2), (3, va_rf v3), (5, .int v5), (6, .int v6), (7, .int v7)]) hx hb dX1_goDeeper_197 hl (k := 7) rfl (ci_ _ (by decide)) (by decide) (by first | rfl | (simp [cat_rf, cat_i, cat_l, cat_r]; done) | (simp [cat_rf, cat_i, cat_l, cat_r]; decide)) (fun ls hl => ?_)
            refine lv_goto (tgt := 111) hx hb dX1_goDeeper_200 (by decide) ?_
            replace hf := cont_b hK1 hf
            exact ih v7 (v8 + 1) x65 H locs ls hI (lv_sub hl [1, 2, 3, 4, 5, 6, 7, 0] rfl) hf
        unfold fh_X1_goDeeper_s111 at hf
        refine lv_iload hx hb dX1_goDeeper_111 (lv_at hl 7 rfl) ?_
        refine lv_iload hx hb dX1_goDeeper_113 (lv_at hl 5 rfl) ?_
        refine lv_icmp_gt (tgt := 203) hx hb dX1_goDeeper_115 (by decide) (fun c42 => ?_) (fun c42 => ?_)
        · replace hf := ifp c42 hf
          replace hf := exit_b hK1 hf
          exact B_203  st H locs ls hI (lv_sub hl [] rfl) hf
        · replace hf := ifn c42 hf
          refine lv_iload hx hb dX1_goDeeper_118 (lv_at hl 6 rfl) ?_
          refine lv_if_eq (tgt := 203) hx hb dX1_goDeeper_120 (by decide) (fun c43 => ?_) (fun c43 => ?_)
          · replace hf := ifp c43 hf
            replace hf := exit_b hK1 hf
            exact B_203  st H locs ls hI (lv_sub hl [] rfl) hf
          · replace hf := ifn c43 hf
            refine lv_iload_n hx hb dX1_goDeeper_123 rfl (lv_at hl 2 rfl) ?_
            refine lv_iload hx hb dX1_goDeeper_124 (lv_at hl 7 rfl) ?_
            refine va_mabs hx hb (hml.trans hl.1.symm) hown (hts (.methodLink RX1 113 Lib.Math.abs.name) (by decide +kernel)) (hts (.static Lib.Math.abs.name) (by decide +kernel)) (hts (.initialized "java/lang/Math") (by decide +kernel)) (hts (.code Lib.Math.abs.name Lib.Math.abs.code 1 (some .int)) (by decide +kernel)) (show 1 ≤ (20 + (nr + 1) * 6) by omega) (Nat.le_trans (m := 40) (by simp [cat_rf, cat_i, cat_l, cat_r]) (show 40 ≤ (400 + (nr + 1) * 300) by omega)) (Nat.le_of_ble_eq_true rfl) (Nat.le_of_ble_eq_true rfl) dX1_goDeeper_126 ?_
            refine lv_iadd hx hb dX1_goDeeper_129 ?_
            refine lv_aload_n hx hb dX1_goDeeper_130 rfl (lv_at hl 0 rfl) ?_
            obtain ⟨k44, hf⟩ := chk_b hf
            refine hg_1_11 hx hb hts hin_X1 hown kl_34 hI (isk_k k44) dX1_goDeeper_131 ?_
            refine lv_icmp_gt (tgt := 197) hx hb dX1_goDeeper_134 (by decide) (fun c45 => ?_) (fun c45 => ?_)
            · replace hf := ifp c45 hf
              refine lv_iinc (v := (v8 + 1)) (lv' := [(8, .int (v8 + 1)), (0, .ref h), (1, .int v1), (2, .int v2), (3, va_rf v3), (5, .int v5), (6, .int v6), (7, .int v7)]) hx hb dX1_goDeeper_197 hl (k := 7) rfl (ci_ _ (by decide)) (by decide) (by first | rfl | (simp [cat_rf, cat_i, cat_l, cat_r]; done) | (simp [cat_rf, cat_i, cat_l, cat_r]; decide)) (fun ls hl => ?_)
              refine lv_goto (tgt := 111) hx hb dX1_goDeeper_200 (by decide) ?_
              replace hf := cont_b hK1 hf
              exact ih v7 (v8 + 1) st H locs ls hI (lv_sub hl [1, 2, 3, 4, 5, 6, 7, 0] rfl) hf
            · replace hf := ifn c45 hf
              refine lv_aload_n hx hb dX1_goDeeper_137 rfl (lv_at hl 0 rfl) ?_
              refine hq_aload_n hx hb dX1_goDeeper_138 rfl (lv_at hl 3 rfl) ?_
              refine lv_aload_n hx hb dX1_goDeeper_139 rfl (lv_at hl 0 rfl) ?_
              refine hg_1_3 hx hb hts hin_X1 hown kl_22 hI (isk_k k44) dX1_goDeeper_140 ?_
              refine lv_iload_n hx hb dX1_goDeeper_143 rfl (lv_at hl 1 rfl) ?_
              refine lv_iconst (v := 1) hx hb dX1_goDeeper_144 (by decide) ?_
              refine lv_iadd hx hb dX1_goDeeper_145 ?_
              obtain ⟨b46, hd47, hf⟩ := bnd_b hf
              obtain ⟨hq48, hk49⟩ := dr_e hd47
              refine W.eq (g2 := F0 m 146 ls [.int (v1 + (1 : Int32)), .ref b46, va_rf v3, .ref h]) (by rw [hq48]; rfl) ?_
              obtain ⟨k50, hf⟩ := chk_b hf
              refine hl_Span hx hb hI hk49 k50 dX1_goDeeper_146 ?_
              refine lv_iload hx hb dX1_goDeeper_147 (lv_at hl 7 rfl) ?_
              refine lv_iload hx hb dX1_goDeeper_149 (lv_at hl 4 rfl) ?_
              obtain ⟨x51, hc52, hf⟩ := bnd_b hf
              refine hcall_Vi (ex2 := True) (As := [va_rf v3, va_rf (gQ st b46 (v1 + (1 : Int32)).toNatClampNeg), .int v8, .int v5]) (rest := []) (n := 4) (by rw [(isk_k k44)]; decide) (hC_2 (isk_k k44)) rfl ⟨hx, hb, hml, hown, hts⟩ (ch_X1_goDay l D cy h v3 (gQ st b46 (v1 + (1 : Int32)).toNatClampNeg) v8 v5 st x51 hc52) (cwV 4 hts gX1_goDeeper_X1_goDay rfl rfl rfl ⟨rfl, nd_X1_goDay⟩ ⟨(show 3 + 1 ≤ (20 + (nr + 1) * 6) by omega), (show 8 + (6 + 11) + 84 ≤ (400 + (nr + 1) * 300) by omega)⟩) hI (fun h => h.elim) (fun _ => ⟨trivial, trivial⟩) rfl hl.1 (Nat.le_of_ble_eq_true rfl) dX1_goDeeper_151 ⟨Nat.le_of_ble_eq_true rfl, Nat.le_of_ble_eq_true rfl⟩ (fun H locs hI => ?_)
              refine lv_istore (lv' := [(7, .int x51.2), (0, .ref h), (1, .int v1), (2, .int v2), (3, va_rf v3), (5, .int v5), (6, .int v6), (8, .int v8)]) hx hb dX1_goDeeper_154 hl (by decide) (by first | rfl | (simp [cat_rf, cat_i, cat_l, cat_r]; done) | (simp [cat_rf, cat_i, cat_l, cat_r]; decide)) (fun ls hl => ?_)
              refine lv_aload_n hx hb dX1_goDeeper_156 rfl (lv_at hl 1 rfl) ?_
              obtain ⟨k53, hf⟩ := chk_b hf
              refine hg_1_4 hx hb hts hin_X1 hown kl_11 hI (isk_k k53) dX1_goDeeper_157 ?_
              refine lv_iload_n hx hb dX1_goDeeper_160 rfl (lv_at hl 2 rfl) ?_
              refine lv_iload hx hb dX1_goDeeper_161 (lv_at hl 0 rfl) ?_
              refine lv_if_eq (tgt := 171) hx hb dX1_goDeeper_163 (by decide) (fun c54 => ?_) (fun c54 => ?_)
              · replace hf := ifp c54 hf
                refine lv_bipush (v := -100) hx hb dX1_goDeeper_171 (by decide) ?_
                exact B_111_173_0 x51.2 v8 (-100 : Int32) v1 (gR x51.1 104 h) x51.1 H locs ls hI (lv_sub hl [1, 2, 3, 4, 5, 6, 0, 7] rfl) hf
              · replace hf := ifn c54 hf
                refine lv_iload hx hb dX1_goDeeper_166 (lv_at hl 7 rfl) ?_
                refine lv_goto (tgt := 173) hx hb dX1_goDeeper_168 (by decide) ?_
                exact B_111_173_0 x51.2 v8 v8 v1 (gR x51.1 104 h) x51.1 H locs ls hI (lv_sub hl [1, 2, 3, 4, 5, 6, 0, 7] rfl) hf
    have B_53 : ∀ (v1 : Int32) (v2 : Int32) (v3 : Option Nat)  (st : HSt) (H : Heap) (locs : List Loc) (ls : Array Slot), HI D cy s s0 st H locs 0 False True → lv_has ls 9 [(0, .ref h), (1, .int v1), (2, .int v2), (3, va_rf v3)] → (fh_X1_goDeeper_j53 rec h v1 v2 v3 st).bind K0 = some out → W p l e (headSpec wsX1_goDeeper { frames := (20 + (nr + 1) * 6), cells := 0, slots := 0, locals := (400 + (nr + 1) * 300) }).room s m (([.ref h, .int a1, .int a2] : List Value).toArray) below meth c H locs 0 0 (MQ below (HQv D cy s0 0 True out) ([.ref h, .int a1, .int a2] : List Value).toArray s 0 0 (hF s0)) (F0 m 53 ls []) := by
      intro v1 v2 v3 st H locs ls hI hl hf
      unfold fh_X1_goDeeper_j53 at hf
      refine lv_iconst (v := 1) hx hb dX1_goDeeper_53 (by decide) ?_
      refine lv_aload_n hx hb dX1_goDeeper_54 rfl (lv_at hl 0 rfl) ?_
      obtain ⟨k20, hf⟩ := chk_b hf
      refine hg_1_8 hx hb hts hin_X1 hown kl_49 hI (isk_k k20) dX1_goDeeper_55 ?_
      refine lv_isub hx hb dX1_goDeeper_58 ?_
      refine lv_istore (lv' := [(4, .int ((1 : Int32) - (gI st 108 h))), (0, .ref h), (1, .int v1), (2, .int v2), (3, va_rf v3)]) hx hb dX1_goDeeper_59 hl (by decide) (by first | rfl | (simp [cat_rf, cat_i, cat_l, cat_r]; done) | (simp [cat_rf, cat_i, cat_l, cat_r]; decide)) (fun ls hl => ?_)
      refine lv_aload_n hx hb dX1_goDeeper_61 rfl (lv_at hl 1 rfl) ?_
      refine hg_1_2 hx hb hts hin_X1 hown kl_18 hI (isk_k k20) dX1_goDeeper_62 ?_
      refine hq_aload_n hx hb dX1_goDeeper_65 rfl (lv_at hl 4 rfl) ?_
      refine lv_aload_n hx hb dX1_goDeeper_66 rfl (lv_at hl 1 rfl) ?_
      refine hg_1_7 hx hb hts hin_X1 hown kl_52 hI (isk_k k20) dX1_goDeeper_67 ?_
      refine lv_iload hx hb dX1_goDeeper_70 (lv_at hl 0 rfl) ?_
      refine lv_aload_n hx hb dX1_goDeeper_72 rfl (lv_at hl 1 rfl) ?_
      refine hg_1_6 hx hb hts hin_X1 hown kl_45 hI (isk_k k20) dX1_goDeeper_73 ?_
      refine lv_iload hx hb dX1_goDeeper_76 (lv_at hl 0 rfl) ?_
      refine hq_aload_n hx hb dX1_goDeeper_78 rfl (lv_at hl 4 rfl) ?_
      obtain ⟨b21, hd22, hf⟩ := bnd_b hf
      obtain ⟨hq23, hk24⟩ := dr_e hd22
      refine W.eq (g2 := F0 m 79 ls [.ref b21, .int ((1 : Int32) - (gI st 108 h)), va_rf (gR st 106 h), .int ((1 : Int32) - (gI st 108 h)), va_rf (gR st 107 h), va_rf v3, va_rf (gR st 102 h)]) (by rw [hq23]; rfl) ?_
      refine hg_9_1 hx hb hts hin_X9 hown kl_86 hI hk24 dX1_goDeeper_79 ?_
      obtain ⟨b25, hd26, hf⟩ := bnd_b hf
      obtain ⟨hq27, hk28⟩ := dr_e hd26
      refine W.eq (g2 := F0 m 82 ls [.int (gI st 901 b21), .int ((1 : Int32) - (gI st 108 h)), .ref b25, .int ((1 : Int32) - (gI st 108 h)), va_rf (gR st 107 h), va_rf v3, va_rf (gR st 102 h)]) (by rw [hq27]; rfl) ?_
      obtain ⟨x29, hc30, hf⟩ := bnd_b hf
      refine hcall_Vi (ex2 := True) (As := [.int ((1 : Int32) - (gI st 108 h)), .int (gI st 901 b21)]) (rest := [.int ((1 : Int32) - (gI st 108 h)), va_rf (gR st 107 h), va_rf v3, va_rf (gR st 102 h)]) (n := 2) (by rw [hk28]; decide) (hC_9 hk28) rfl ⟨hx, hb, hml, hown, hts⟩ (ch_X8_errorOn l D cy b25 ((1 : Int32) - (gI st 108 h)) (gI st 901 b21) st x29 hc30) (cwV 2 hts gX1_goDeeper_X8_errorOn rfl rfl rfl ⟨rfl, nd_X8_errorOn⟩ ⟨(show 1 + 1 ≤ (20 + (nr + 1) * 6) by omega), (show 8 + (3 + 11) + 22 ≤ (400 + (nr + 1) * 300) by omega)⟩) hI (fun h => h.elim) (fun _ => ⟨trivial, trivial⟩) rfl hl.1 (by simp [cat_rf, cat_i, cat_l, cat_r]) dX1_goDeeper_82 ⟨Nat.le_of_ble_eq_true rfl, Nat.le_of_ble_eq_true rfl⟩ (fun H locs hI => ?_)
      obtain ⟨b31, hd32, hf⟩ := bnd_b hf
      obtain ⟨hq33, hk34⟩ := dr_e hd32
      refine W.eq (g2 := F0 m 85 ls [.int x29.2, .int ((1 : Int32) - (gI st 108 h)), va_rf (gR st 107 h), va_rf v3, .ref b31]) (by rw [hq33]; rfl) ?_
      obtain ⟨x35, hc36, hf⟩ := bnd_b hf
      refine hcall_Vi (ex2 := True) (As := [va_rf v3, va_rf (gR st 107 h), .int ((1 : Int32) - (gI st 108 h)), .int x29.2]) (rest := []) (n := 4) (by rw [hk34]; decide) (hC_4 hk34) rfl ⟨hx, hb, hml, hown, hts⟩ (ch_X3_planOf l D cy b31 v3 (gR st 107 h) ((1 : Int32) - (gI st 108 h)) x29.2 x29.1 x35 hc36) (cwV 4 hts gX1_goDeeper_X3_planOf rfl rfl rfl ⟨rfl, nd_X3_planOf⟩ ⟨(show 3 + 1 ≤ (20 + (nr + 1) * 6) by omega), (show 8 + (6 + 11) + 92 ≤ (400 + (nr + 1) * 300) by omega)⟩) hI (fun h => h.elim) (fun _ => ⟨trivial, trivial⟩) rfl hl.1 (Nat.le_of_ble_eq_true rfl) dX1_goDeeper_85 ⟨Nat.le_of_ble_eq_true rfl, Nat.le_of_ble_eq_true rfl⟩ (fun H locs hI => ?_)
      refine lv_istore (lv' := [(5, .int x35.2), (4, .int ((1 : Int32) - (gI st 108 h))), (0, .ref h), (1, .int v1), (2, .int v2), (3, va_rf v3)]) hx hb dX1_goDeeper_88 hl (by decide) (by first | rfl | (simp [cat_rf, cat_i, cat_l, cat_r]; done) | (simp [cat_rf, cat_i, cat_l, cat_r]; decide)) (fun ls hl => ?_)
      refine lv_iconst (v := 2) hx hb dX1_goDeeper_90 (by decide) ?_
      refine hq_aload_n hx hb dX1_goDeeper_91 rfl (lv_at hl 5 rfl) ?_
      refine W.eq (g2 := F0 m 92 ls [.ref b21, .int (2 : Int32)]) (by rw [hq23]; rfl) ?_
      obtain ⟨k37, hf⟩ := chk_b hf
      refine hg_9_0 hx hb hts hin_X9 hown kl_99 hI (isk_k k37) dX1_goDeeper_92 ?_
      obtain ⟨b38, hd39, hf⟩ := bnd_b hf
      obtain ⟨hq40, hk41⟩ := dr_e hd39
      refine W.eq (g2 := F0 m 95 ls [.ref b38, .int (2 : Int32)]) (by rw [hq40]; rfl) ?_
      refine hg_4_1 hx hb hts hin_X4 hown kl_103 hI hk41 dX1_goDeeper_95 ?_
      refine va_mmin hx hb (hml.trans hl.1.symm) hown (hts (.methodLink RX1 108 Lib.Math.min.name) (by decide +kernel)) (hts (.static Lib.Math.min.name) (by decide +kernel)) (hts (.initialized "java/lang/Math") (by decide +kernel)) (hts (.code Lib.Math.min.name Lib.Math.min.code 2 (some .int)) (by decide +kernel)) (show 1 ≤ (20 + (nr + 1) * 6) by omega) (Nat.le_trans (m := 40) (by simp [cat_rf, cat_i, cat_l, cat_r]) (show 40 ≤ (400 + (nr + 1) * 300) by omega)) (Nat.le_of_ble_eq_true rfl) (Nat.le_of_ble_eq_true rfl) dX1_goDeeper_98 ?_
      refine lv_istore (lv' := [(6, .int (if (gI x35.1 401 b38) < (2 : Int32) then (gI x35.1 401 b38) else (2 : Int32))), (5, .int x35.2), (4, .int ((1 : Int32) - (gI st 108 h))), (0, .ref h), (1, .int v1), (2, .int v2), (3, va_rf v3)]) hx hb dX1_goDeeper_101 hl (by decide) (by first | rfl | (simp [cat_rf, cat_i, cat_l, cat_r]; done) | (simp [cat_rf, cat_i, cat_l, cat_r]; decide)) (fun ls hl => ?_)
      refine lv_iconst (v := 1) hx hb dX1_goDeeper_103 (by decide) ?_
      refine lv_istore (lv' := [(7, .int (1 : Int32)), (6, .int (if (gI x35.1 401 b38) < (2 : Int32) then (gI x35.1 401 b38) else (2 : Int32))), (5, .int x35.2), (4, .int ((1 : Int32) - (gI st 108 h))), (0, .ref h), (1, .int v1), (2, .int v2), (3, va_rf v3)]) hx hb dX1_goDeeper_104 hl (by decide) (by first | rfl | (simp [cat_rf, cat_i, cat_l, cat_r]; done) | (simp [cat_rf, cat_i, cat_l, cat_r]; decide)) (fun ls hl => ?_)
      refine lv_iload hx hb dX1_goDeeper_106 (lv_at hl 1 rfl) ?_
      refine lv_ineg hx hb dX1_goDeeper_108 ?_
      refine lv_istore (lv' := [(8, .int (-(if (gI x35.1 401 b38) < (2 : Int32) then (gI x35.1 401 b38) else (2 : Int32)))), (7, .int (1 : Int32)), (6, .int (if (gI x35.1 401 b38) < (2 : Int32) then (gI x35.1 401 b38) else (2 : Int32))), (5, .int x35.2), (4, .int ((1 : Int32) - (gI st 108 h))), (0, .ref h), (1, .int v1), (2, .int v2), (3, va_rf v3)]) hx hb dX1_goDeeper_109 hl (by decide) (by first | rfl | (simp [cat_rf, cat_i, cat_l, cat_r]; done) | (simp [cat_rf, cat_i, cat_l, cat_r]; decide)) (fun ls hl => ?_)
      exact L_111 v1 v2 v3 x35.2 (if (gI x35.1 401 b38) < (2 : Int32) then (gI x35.1 401 b38) else (2 : Int32)) mFuel (1 : Int32) (-(if (gI x35.1 401 b38) < (2 : Int32) then (gI x35.1 401 b38) else (2 : Int32))) x35.1 H locs ls hI (lv_sub hl [5, 6, 7, 8, 3, 2, 1, 0] rfl) (asc_b hf)
    unfold fh_X1_goDeeperF at hf
    refine lv_aload_n hx hb dX1_goDeeper_0 rfl (lv_at hl 0 rfl) ?_
    obtain ⟨k1, hf⟩ := chk_b hf
    refine hg_1_3 hx hb hts hin_X1 hown kl_22 hI (isk_k k1) dX1_goDeeper_1 ?_
    refine lv_iload_n hx hb dX1_goDeeper_4 rfl (lv_at hl 1 rfl) ?_
    obtain ⟨b2, hd3, hf⟩ := bnd_b hf
    obtain ⟨hq4, hk5⟩ := dr_e hd3
    refine W.eq (g2 := F0 m 5 ls [.int a1, .ref b2]) (by rw [hq4]; rfl) ?_
    obtain ⟨k6, hf⟩ := chk_b hf
    refine hl_Span hx hb hI hk5 k6 dX1_goDeeper_5 ?_
    refine hq_astore_n (lv' := [(3, va_rf (gQ s0 b2 a1.toNatClampNeg)), (0, .ref h), (1, .int a1), (2, .int a2)]) hx hb dX1_goDeeper_6 rfl hl (by decide) (by first | rfl | (simp [cat_rf, cat_i, cat_l, cat_r]; done) | (simp [cat_rf, cat_i, cat_l, cat_r]; decide)) (fun ls hl => ?_)
    refine hq_aload_n hx hb dX1_goDeeper_7 rfl (lv_at hl 0 rfl) ?_
    obtain ⟨b7, hd8, hf⟩ := bnd_b hf
    obtain ⟨hq9, hk10⟩ := dr_e hd8
    refine W.eq (g2 := F0 m 8 ls [.ref b7]) (by rw [hq9]; rfl) ?_
    obtain ⟨x11, hc12, hf⟩ := bnd_b hf
    refine hcall_Vi (ex2 := True) (As := []) (rest := []) (n := 0) (by rw [hk10]; decide) (hC_10 hk10) rfl ⟨hx, hb, hml, hown, hts⟩ (ch_X9_isMet l D cy b7 s0 x11 hc12) (cwV 0 hts gX1_goDeeper_X9_isMet rfl rfl rfl ⟨rfl, nd_X9_isMet⟩ ⟨(show 1 + 1 ≤ (20 + (nr + 1) * 6) by omega), (show 8 + (1 + 11) + 20 ≤ (400 + (nr + 1) * 300) by omega)⟩) hI (fun h => h.elim) (fun _ => ⟨trivial, trivial⟩) rfl hl.1 (Nat.le_of_ble_eq_true rfl) dX1_goDeeper_8 ⟨Nat.le_of_ble_eq_true rfl, Nat.le_of_ble_eq_true rfl⟩ (fun H locs hI => ?_)
    refine lv_if_ne (tgt := 22) hx hb dX1_goDeeper_11 (by decide) (fun c13 => ?_) (fun c13 => ?_)
    · replace hf := ifn c13 hf
      refine lv_aload_n hx hb dX1_goDeeper_22 rfl (lv_at hl 1 rfl) ?_
      refine hq_aload_n hx hb dX1_goDeeper_23 rfl (lv_at hl 0 rfl) ?_
      refine lv_iload_n hx hb dX1_goDeeper_24 rfl (lv_at hl 2 rfl) ?_
      refine lv_iload_n hx hb dX1_goDeeper_25 rfl (lv_at hl 3 rfl) ?_
      obtain ⟨k14, hf⟩ := chk_b hf
      obtain ⟨x15, hc16, hf⟩ := bnd_b hf
      refine hcall_Vv (ex2 := True) (As := [va_rf (gQ s0 b2 a1.toNatClampNeg), .int a1, .int a2]) (rest := []) (n := 3) (by rw [(isk_k k14)]; decide) (hC_2 (isk_k k14)) rfl ⟨hx, hb, hml, hown, hts⟩ (ch_X1_weigh l D cy h (gQ s0 b2 a1.toNatClampNeg) a1 a2 x11.1 x15 hc16) (cwV 3 hts gX1_goDeeper_X1_weigh rfl rfl rfl ⟨rfl, nd_X1_weigh⟩ ⟨(show 3 + 1 ≤ (20 + (nr + 1) * 6) by omega), (show 8 + (5 + 11) + 80 ≤ (400 + (nr + 1) * 300) by omega)⟩) hI (fun h => h.elim) (fun _ => ⟨trivial, trivial⟩) rfl hl.1 (Nat.le_of_ble_eq_true rfl) dX1_goDeeper_26 ⟨Nat.le_of_ble_eq_true rfl, Nat.le_of_ble_eq_true rfl⟩ (fun H locs hI => ?_)
      exact hret_v hx hb hr hlocks hI (by decide) (by decide) (fun _ => ⟨trivial, rfl⟩) (ret_e hK0 hf) dX1_goDeeper_29
    · replace hf := ifp c13 hf
      refine lv_iload_n hx hb dX1_goDeeper_14 rfl (lv_at hl 2 rfl) ?_
      refine lv_aload_n hx hb dX1_goDeeper_15 rfl (lv_at hl 1 rfl) ?_
      obtain ⟨k17, hf⟩ := chk_b hf
      refine hg_1_9 hx hb hts hin_X1 hown kl_30 hI (isk_k k17) dX1_goDeeper_16 ?_
      refine lv_icmp_lt (tgt := 30) hx hb dX1_goDeeper_19 (by decide) (fun c18 => ?_) (fun c18 => ?_)
      · replace hf := ifp c18 hf
        refine lv_aload_n hx hb dX1_goDeeper_30 rfl (lv_at hl 1 rfl) ?_
        refine hg_1_10 hx hb hts hin_X1 hown kl_26 hI (isk_k k17) dX1_goDeeper_31 ?_
        refine lv_if_ne (tgt := 53) hx hb dX1_goDeeper_34 (by decide) (fun c19 => ?_) (fun c19 => ?_)
        · replace hf := ifn c19 hf
          exact B_53 a1 a2 (gQ s0 b2 a1.toNatClampNeg) x11.1 H locs ls hI (lv_sub hl [1, 2, 3, 0] rfl) hf
        · replace hf := ifp c19 hf
          refine hq_aload_n hx hb dX1_goDeeper_37 rfl (lv_at hl 0 rfl) ?_
          refine W.eq (g2 := F0 m 38 ls [.ref b7]) (by rw [hq9]; rfl) ?_
          obtain ⟨k67, hf⟩ := chk_b hf
          obtain ⟨x68, hc69, hf⟩ := bnd_b hf
          refine hcall_Vi (ex2 := True) (As := []) (rest := []) (n := 0) (by rw [(isk_k k67)]; decide) (hC_10 (isk_k k67)) rfl ⟨hx, hb, hml, hown, hts⟩ (ch_X9_gap l D cy b7 x11.1 x68 hc69) (cwV 0 hts gX1_goDeeper_X9_gap rfl rfl rfl ⟨rfl, nd_X9_gap⟩ ⟨(show 0 + 1 ≤ (20 + (nr + 1) * 6) by omega), (show 8 + (1 + 11) + 0 ≤ (400 + (nr + 1) * 300) by omega)⟩) hI (fun h => h.elim) (fun _ => ⟨trivial, trivial⟩) rfl hl.1 (Nat.le_of_ble_eq_true rfl) dX1_goDeeper_38 ⟨Nat.le_of_ble_eq_true rfl, Nat.le_of_ble_eq_true rfl⟩ (fun H locs hI => ?_)
          refine lv_iconst (v := 2) hx hb dX1_goDeeper_41 (by decide) ?_
          refine lv_aload_n hx hb dX1_goDeeper_42 rfl (lv_at hl 1 rfl) ?_
          obtain ⟨k70, hf⟩ := chk_b hf
          refine hg_1_9 hx hb hts hin_X1 hown kl_30 hI (isk_k k70) dX1_goDeeper_43 ?_
          refine lv_iload_n hx hb dX1_goDeeper_46 rfl (lv_at hl 2 rfl) ?_
          refine lv_isub hx hb dX1_goDeeper_47 ?_
          refine lv_imul hx hb dX1_goDeeper_48 ?_
          refine lv_icmp_le (tgt := 53) hx hb dX1_goDeeper_49 (by decide) (fun c71 => ?_) (fun c71 => ?_)
          · replace hf := ifp c71 hf
            exact B_53 a1 a2 (gQ s0 b2 a1.toNatClampNeg) x68.1 H locs ls hI (lv_sub hl [1, 2, 3, 0] rfl) hf
          · replace hf := ifn c71 hf
            exact hret_v hx hb hr hlocks hI (by decide) (by decide) (fun _ => ⟨trivial, rfl⟩) (ret_e hK0 hf) dX1_goDeeper_52
      · replace hf := ifn c18 hf
        refine lv_aload_n hx hb dX1_goDeeper_22 rfl (lv_at hl 1 rfl) ?_
        refine hq_aload_n hx hb dX1_goDeeper_23 rfl (lv_at hl 0 rfl) ?_
        refine lv_iload_n hx hb dX1_goDeeper_24 rfl (lv_at hl 2 rfl) ?_
        refine lv_iload_n hx hb dX1_goDeeper_25 rfl (lv_at hl 3 rfl) ?_
        obtain ⟨x72, hc73, hf⟩ := bnd_b hf
        refine hcall_Vv (ex2 := True) (As := [va_rf (gQ s0 b2 a1.toNatClampNeg), .int a1, .int a2]) (rest := []) (n := 3) (by rw [(isk_k k17)]; decide) (hC_2 (isk_k k17)) rfl ⟨hx, hb, hml, hown, hts⟩ (ch_X1_weigh l D cy h (gQ s0 b2 a1.toNatClampNeg) a1 a2 x11.1 x72 hc73) (cwV 3 hts gX1_goDeeper_X1_weigh rfl rfl rfl ⟨rfl, nd_X1_weigh⟩ ⟨(show 3 + 1 ≤ (20 + (nr + 1) * 6) by omega), (show 8 + (5 + 11) + 80 ≤ (400 + (nr + 1) * 300) by omega)⟩) hI (fun h => h.elim) (fun _ => ⟨trivial, trivial⟩) rfl hl.1 (Nat.le_of_ble_eq_true rfl) dX1_goDeeper_26 ⟨Nat.le_of_ble_eq_true rfl, Nat.le_of_ble_eq_true rfl⟩ (fun H locs hI => ?_)
        exact hret_v hx hb hr hlocks hI (by decide) (by decide) (fun _ => ⟨trivial, rfl⟩) (ret_e hK0 hf) dX1_goDeeper_29

theorem nd_X1_goSpiteful : yX1_goSpiteful.cls ≠ "java/lang/invoke/MethodHandle" ∧ yX1_goSpiteful.cls ≠ "java/lang/invoke/VarHandle" ∧ (parseMethodDescriptor yX1_goSpiteful.desc).map (fun d => d.parameters.length) = some 4 := by decide +kernel
set_option maxHeartbeats 4000000 in
set_option maxRecDepth 100000 in
theorem ch_X1_goSpiteful (l : Launch) (D : va_G) (cy : Nat → ClassId) (h : Nat) (a1 : Option Nat) (a2 : Int32) (a3 : Option Nat) (a4 : Int32) (s0 : HSt) (out : HSt) (hf : fh_X1_goSpiteful h a1 a2 a3 a4 s0 = some out) : CHv l D cy yX1_goSpiteful wsX1_goSpiteful { frames := 69, cells := 0, slots := 0, locals := 2828 } 0 0 False True [.ref h, va_rf a1, .int a2, va_rf a3, .int a4] s0 out := by
  refine Met.ofW (cc := cX1_goSpiteful) (maxL := 5) (ret := none) (by decide) rfl ?_
  intro p e s m args below meth c s₁ B hml hv
  obtain ⟨rfl, hP, hK, hD0, hkx, hsz, hal⟩ := hv
  have hx := B.exec
  have hb := B.bytes
  have hr := B.returns
  have hts := atoms_spec (ws := wsX1_goSpiteful) B.pre
  have hown : s.vm.findClass RX1 = some m.cls := findClass_of_methodNamed B.named
  have hlocks := B.notSynchronized
  have hI : HI D cy s s0 s0 s.heap [] 0 False True := ⟨hK, hP, hD0.weaken (fun k q hk _ => Or.inl (pl_mem hk)), va_S.rf, hsz.1, hkx, ⟨hsz, hal⟩, fun _ => rfl, Nat.le_refl _⟩
  have hin_X1 : ∀ w ∈ u_ws RX1 TX1 12, w ∈ wsX1_goSpiteful := fun w hw => List.mem_cons_of_mem _ (List.mem_append_left _ (List.mem_append_left _ (List.mem_append_left _ (List.mem_append_left _ (List.mem_append_left _ (List.mem_append_right _ hw))))))
  have kl_26 : Cond.fieldLink RX1 26 "HalfBridge$FreeHand" "isSpiteful" "Z" ∈ wsX1_goSpiteful := by decide +kernel
  have kl_30 : Cond.fieldLink RX1 30 "HalfBridge$FreeHand" "days" "I" ∈ wsX1_goSpiteful := by decide +kernel
  have kl_34 : Cond.fieldLink RX1 34 "HalfBridge$FreeHand" "purse" "I" ∈ wsX1_goSpiteful := by decide +kernel
  have hl := lv_entry ([.ref h, va_rf a1, .int a2, va_rf a3, .int a4]) (n := 5) (by simp [lg_sl, cat_rf, cat_i, cat_l, cat_r])
  rw [lg_entry_eq]
  generalize (lg_sl ([.ref h, va_rf a1, .int a2, va_rf a3, .int a4]) ++ List.replicate (5 - (lg_sl ([.ref h, va_rf a1, .int a2, va_rf a3, .int a4])).length) Slot.unset).toArray = ls at hl ⊢
  have hl : lv_has ls 5 [(0, .ref h), (1, va_rf a1), (2, .int a2), (3, va_rf a3), (4, .int a4)] := (by simpa [lv_args, cat_rf, cat_i, cat_l, cat_r] using hl)
  obtain ⟨K0, hK0, hf⟩ := top_e hf
  unfold fh_X1_goSpiteful at hf
  refine lv_aload_n hx hb dX1_goSpiteful_0 rfl (lv_at hl 0 rfl) ?_
  refine lv_iconst (v := 1) hx hb dX1_goSpiteful_1 (by decide) ?_
  obtain ⟨k1, hf⟩ := chk_b hf
  refine hp_1_10 hx hb hts hin_X1 hown kl_26 hI (isk_k k1) (by decide) dX1_goSpiteful_2 (fun H locs hI => ?_)
  refine lv_aload_n hx hb dX1_goSpiteful_5 rfl (lv_at hl 0 rfl) ?_
  refine lv_iconst (v := 4) hx hb dX1_goSpiteful_6 (by decide) ?_
  refine hp_1_9 hx hb hts hin_X1 hown kl_30 hI (gK_sI.trans (isk_k k1)) dX1_goSpiteful_7 (fun H locs hI => ?_)
  refine lv_aload_n hx hb dX1_goSpiteful_10 rfl (lv_at hl 0 rfl) ?_
  refine lv_iload hx hb dX1_goSpiteful_11 (lv_at hl 4 rfl) ?_
  refine hp_1_11 hx hb hts hin_X1 hown kl_34 hI (gK_sI.trans (gK_sI.trans (isk_k k1))) dX1_goSpiteful_13 (fun H locs hI => ?_)
  refine lv_aload_n hx hb dX1_goSpiteful_16 rfl (lv_at hl 0 rfl) ?_
  refine hq_aload_n hx hb dX1_goSpiteful_17 rfl (lv_at hl 1 rfl) ?_
  refine lv_iload_n hx hb dX1_goSpiteful_18 rfl (lv_at hl 2 rfl) ?_
  refine hq_aload_n hx hb dX1_goSpiteful_19 rfl (lv_at hl 3 rfl) ?_
  obtain ⟨x2, hc3, hf⟩ := bnd_b hf
  refine hcall_Vv (ex2 := True) (As := [va_rf a1, .int a2, va_rf a3]) (rest := []) (n := 3) (by rw [(gK_sI.trans (gK_sI.trans (gK_sI.trans (isk_k k1))))]; decide) (hC_2 (gK_sI.trans (gK_sI.trans (gK_sI.trans (isk_k k1))))) rfl ⟨hx, hb, hml, hown, hts⟩ (ch_X1_beginBy l D cy h a1 a2 a3 (sI (sI (sI s0 110 h (1 : Int32)) 109 h (4 : Int32)) 111 h a4) x2 hc3) (cwV 3 hts gX1_goSpiteful_X1_beginBy rfl rfl rfl ⟨rfl, nd_X1_beginBy⟩ ⟨Nat.le_of_ble_eq_true rfl, Nat.le_of_ble_eq_true rfl⟩) hI (fun h => h.elim) (fun _ => ⟨trivial, trivial⟩) rfl hl.1 (Nat.le_of_ble_eq_true rfl) dX1_goSpiteful_20 ⟨Nat.le_of_ble_eq_true rfl, Nat.le_of_ble_eq_true rfl⟩ (fun H locs hI => ?_)
  refine lv_aload_n hx hb dX1_goSpiteful_23 rfl (lv_at hl 0 rfl) ?_
  refine lv_iconst (v := 0) hx hb dX1_goSpiteful_24 (by decide) ?_
  refine lv_iconst (v := 0) hx hb dX1_goSpiteful_25 (by decide) ?_
  obtain ⟨k4, hf⟩ := chk_b hf
  obtain ⟨x5, hc6, hf⟩ := bnd_b hf
  refine hcall_Vv (ex2 := True) (As := [.int (0 : Int32), .int (0 : Int32)]) (rest := []) (n := 2) (by rw [(isk_k k4)]; decide) (hC_2 (isk_k k4)) rfl ⟨hx, hb, hml, hown, hts⟩ (ch_X1_goDeeper l D cy 8 h (0 : Int32) (0 : Int32) x2 x5 hc6) (cwV 2 hts gX1_goSpiteful_X1_goDeeper rfl rfl rfl ⟨rfl, nd_X1_goDeeper⟩ ⟨Nat.le_of_ble_eq_true rfl, Nat.le_of_ble_eq_true rfl⟩) hI (fun h => h.elim) (fun _ => ⟨trivial, trivial⟩) rfl hl.1 (Nat.le_of_ble_eq_true rfl) dX1_goSpiteful_26 ⟨Nat.le_of_ble_eq_true rfl, Nat.le_of_ble_eq_true rfl⟩ (fun H locs hI => ?_)
  exact hret_v hx hb hr hlocks hI (by decide) (by decide) (fun _ => ⟨trivial, rfl⟩) (ret_e hK0 hf) dX1_goSpiteful_29

theorem nd_X1_goStraight : yX1_goStraight.cls ≠ "java/lang/invoke/MethodHandle" ∧ yX1_goStraight.cls ≠ "java/lang/invoke/VarHandle" ∧ (parseMethodDescriptor yX1_goStraight.desc).map (fun d => d.parameters.length) = some 3 := by decide +kernel
set_option maxHeartbeats 4000000 in
set_option maxRecDepth 100000 in
theorem ch_X1_goStraight (l : Launch) (D : va_G) (cy : Nat → ClassId) (h : Nat) (a1 : Option Nat) (a2 : Int32) (a3 : Option Nat) (s0 : HSt) (out : HSt) (hf : fh_X1_goStraight h a1 a2 a3 s0 = some out) : CHv l D cy yX1_goStraight wsX1_goStraight { frames := 69, cells := 0, slots := 0, locals := 2828 } 0 0 False True [.ref h, va_rf a1, .int a2, va_rf a3] s0 out := by
  refine Met.ofW (cc := cX1_goStraight) (maxL := 4) (ret := none) (by decide) rfl ?_
  intro p e s m args below meth c s₁ B hml hv
  obtain ⟨rfl, hP, hK, hD0, hkx, hsz, hal⟩ := hv
  have hx := B.exec
  have hb := B.bytes
  have hr := B.returns
  have hts := atoms_spec (ws := wsX1_goStraight) B.pre
  have hown : s.vm.findClass RX1 = some m.cls := findClass_of_methodNamed B.named
  have hlocks := B.notSynchronized
  have hI : HI D cy s s0 s0 s.heap [] 0 False True := ⟨hK, hP, hD0.weaken (fun k q hk _ => Or.inl (pl_mem hk)), va_S.rf, hsz.1, hkx, ⟨hsz, hal⟩, fun _ => rfl, Nat.le_refl _⟩
  have hin_X1 : ∀ w ∈ u_ws RX1 TX1 12, w ∈ wsX1_goStraight := fun w hw => List.mem_cons_of_mem _ (List.mem_append_left _ (List.mem_append_left _ (List.mem_append_left _ (List.mem_append_left _ (List.mem_append_left _ (List.mem_append_right _ hw))))))
  have kl_26 : Cond.fieldLink RX1 26 "HalfBridge$FreeHand" "isSpiteful" "Z" ∈ wsX1_goStraight := by decide +kernel
  have kl_30 : Cond.fieldLink RX1 30 "HalfBridge$FreeHand" "days" "I" ∈ wsX1_goStraight := by decide +kernel
  have kl_34 : Cond.fieldLink RX1 34 "HalfBridge$FreeHand" "purse" "I" ∈ wsX1_goStraight := by decide +kernel
  have hl := lv_entry ([.ref h, va_rf a1, .int a2, va_rf a3]) (n := 4) (by simp [lg_sl, cat_rf, cat_i, cat_l, cat_r])
  rw [lg_entry_eq]
  generalize (lg_sl ([.ref h, va_rf a1, .int a2, va_rf a3]) ++ List.replicate (4 - (lg_sl ([.ref h, va_rf a1, .int a2, va_rf a3])).length) Slot.unset).toArray = ls at hl ⊢
  have hl : lv_has ls 4 [(0, .ref h), (1, va_rf a1), (2, .int a2), (3, va_rf a3)] := (by simpa [lv_args, cat_rf, cat_i, cat_l, cat_r] using hl)
  obtain ⟨K0, hK0, hf⟩ := top_e hf
  unfold fh_X1_goStraight at hf
  refine lv_aload_n hx hb dX1_goStraight_0 rfl (lv_at hl 0 rfl) ?_
  refine lv_iconst (v := 0) hx hb dX1_goStraight_1 (by decide) ?_
  obtain ⟨k1, hf⟩ := chk_b hf
  refine hp_1_10 hx hb hts hin_X1 hown kl_26 hI (isk_k k1) (by decide) dX1_goStraight_2 (fun H locs hI => ?_)
  refine lv_aload_n hx hb dX1_goStraight_5 rfl (lv_at hl 0 rfl) ?_
  refine lv_bipush (v := 6) hx hb dX1_goStraight_6 (by decide) ?_
  refine hp_1_9 hx hb hts hin_X1 hown kl_30 hI (gK_sI.trans (isk_k k1)) dX1_goStraight_8 (fun H locs hI => ?_)
  refine lv_aload_n hx hb dX1_goStraight_11 rfl (lv_at hl 0 rfl) ?_
  refine lv_bipush (v := 12) hx hb dX1_goStraight_12 (by decide) ?_
  refine hp_1_11 hx hb hts hin_X1 hown kl_34 hI (gK_sI.trans (gK_sI.trans (isk_k k1))) dX1_goStraight_14 (fun H locs hI => ?_)
  refine lv_aload_n hx hb dX1_goStraight_17 rfl (lv_at hl 0 rfl) ?_
  refine hq_aload_n hx hb dX1_goStraight_18 rfl (lv_at hl 1 rfl) ?_
  refine lv_iload_n hx hb dX1_goStraight_19 rfl (lv_at hl 2 rfl) ?_
  refine hq_aload_n hx hb dX1_goStraight_20 rfl (lv_at hl 3 rfl) ?_
  obtain ⟨x2, hc3, hf⟩ := bnd_b hf
  refine hcall_Vv (ex2 := True) (As := [va_rf a1, .int a2, va_rf a3]) (rest := []) (n := 3) (by rw [(gK_sI.trans (gK_sI.trans (gK_sI.trans (isk_k k1))))]; decide) (hC_2 (gK_sI.trans (gK_sI.trans (gK_sI.trans (isk_k k1))))) rfl ⟨hx, hb, hml, hown, hts⟩ (ch_X1_beginBy l D cy h a1 a2 a3 (sI (sI (sI s0 110 h (0 : Int32)) 109 h (6 : Int32)) 111 h (12 : Int32)) x2 hc3) (cwV 3 hts gX1_goStraight_X1_beginBy rfl rfl rfl ⟨rfl, nd_X1_beginBy⟩ ⟨Nat.le_of_ble_eq_true rfl, Nat.le_of_ble_eq_true rfl⟩) hI (fun h => h.elim) (fun _ => ⟨trivial, trivial⟩) rfl hl.1 (Nat.le_of_ble_eq_true rfl) dX1_goStraight_21 ⟨Nat.le_of_ble_eq_true rfl, Nat.le_of_ble_eq_true rfl⟩ (fun H locs hI => ?_)
  refine lv_aload_n hx hb dX1_goStraight_24 rfl (lv_at hl 0 rfl) ?_
  refine lv_iconst (v := 0) hx hb dX1_goStraight_25 (by decide) ?_
  refine lv_iconst (v := 0) hx hb dX1_goStraight_26 (by decide) ?_
  obtain ⟨k4, hf⟩ := chk_b hf
  obtain ⟨x5, hc6, hf⟩ := bnd_b hf
  refine hcall_Vv (ex2 := True) (As := [.int (0 : Int32), .int (0 : Int32)]) (rest := []) (n := 2) (by rw [(isk_k k4)]; decide) (hC_2 (isk_k k4)) rfl ⟨hx, hb, hml, hown, hts⟩ (ch_X1_goDeeper l D cy 8 h (0 : Int32) (0 : Int32) x2 x5 hc6) (cwV 2 hts gX1_goStraight_X1_goDeeper rfl rfl rfl ⟨rfl, nd_X1_goDeeper⟩ ⟨Nat.le_of_ble_eq_true rfl, Nat.le_of_ble_eq_true rfl⟩) hI (fun h => h.elim) (fun _ => ⟨trivial, trivial⟩) rfl hl.1 (Nat.le_of_ble_eq_true rfl) dX1_goStraight_27 ⟨Nat.le_of_ble_eq_true rfl, Nat.le_of_ble_eq_true rfl⟩ (fun H locs hI => ?_)
  exact hret_v hx hb hr hlocks hI (by decide) (by decide) (fun _ => ⟨trivial, rfl⟩) (ret_e hK0 hf) dX1_goStraight_30

theorem nd_X10_fail : yX10_fail.cls ≠ "java/lang/invoke/MethodHandle" ∧ yX10_fail.cls ≠ "java/lang/invoke/VarHandle" ∧ (parseMethodDescriptor yX10_fail.desc).map (fun d => d.parameters.length) = some 1 := by decide +kernel
set_option maxHeartbeats 4000000 in
set_option maxRecDepth 100000 in
theorem ch_X10_fail (l : Launch) (D : va_G) (cy : Nat → ClassId) (h : Nat) (a1 : Int32) (s0 : HSt) (out : HSt) (hf : fh_X10_fail h a1 s0 = some out) : CHv l D cy yX10_fail wsX10_fail { frames := 0, cells := 0, slots := 0, locals := 0 } 0 0 False True [.ref h, .int a1] s0 out := by
  refine Met.ofW (cc := cX10_fail) (maxL := 2) (ret := none) (by decide) rfl ?_
  intro p e s m args below meth c s₁ B hml hv
  obtain ⟨rfl, hP, hK, hD0, hkx, hsz, hal⟩ := hv
  have hx := B.exec
  have hb := B.bytes
  have hr := B.returns
  have hts := atoms_spec (ws := wsX10_fail) B.pre
  have hown : s.vm.findClass RX10 = some m.cls := findClass_of_methodNamed B.named
  have hlocks := B.notSynchronized
  have hI : HI D cy s s0 s0 s.heap [] 0 False True := ⟨hK, hP, hD0.weaken (fun k q hk _ => Or.inl (pl_mem hk)), va_S.rf, hsz.1, hkx, ⟨hsz, hal⟩, fun _ => rfl, Nat.le_refl _⟩
  have hin_X10 : ∀ w ∈ u_ws RX10 TX10 6, w ∈ wsX10_fail := fun w hw => List.mem_cons_of_mem _ (List.mem_append_right _ hw)
  have kl_15 : Cond.fieldLink RX10 15 "HalfBridge$Tokens" "places" "[I" ∈ wsX10_fail := by decide +kernel
  have kl_21 : Cond.fieldLink RX10 21 "HalfBridge$Tokens" "size" "I" ∈ wsX10_fail := by decide +kernel
  have kl_25 : Cond.fieldLink RX10 25 "HalfBridge$Tokens" "at" "I" ∈ wsX10_fail := by decide +kernel
  have kl_28 : Cond.fieldLink RX10 28 "HalfBridge$Tokens" "fault" "I" ∈ wsX10_fail := by decide +kernel
  have hl := lv_entry ([.ref h, .int a1]) (n := 2) (Nat.le_of_ble_eq_true rfl)
  rw [lg_entry_eq]
  generalize (lg_sl ([.ref h, .int a1]) ++ List.replicate (2 - (lg_sl ([.ref h, .int a1])).length) Slot.unset).toArray = ls at hl ⊢
  have hl : lv_has ls 2 [(0, .ref h), (1, .int a1)] := hl
  obtain ⟨K0, hK0, hf⟩ := top_e hf
  unfold fh_X10_fail at hf
  refine lv_aload_n hx hb dX10_fail_0 rfl (lv_at hl 0 rfl) ?_
  obtain ⟨k1, hf⟩ := chk_b hf
  refine hg_10_5 hx hb hts hin_X10 hown kl_28 hI (isk_k k1) dX10_fail_1 ?_
  refine lv_if_ne (tgt := 38) hx hb dX10_fail_4 (by decide) (fun c2 => ?_) (fun c2 => ?_)
  · replace hf := ifn c2 hf
    exact hret_v hx hb hr hlocks hI (by decide) (by decide) (fun _ => ⟨trivial, rfl⟩) (ret_e hK0 hf) dX10_fail_38
  · replace hf := ifp c2 hf
    refine lv_aload_n hx hb dX10_fail_7 rfl (lv_at hl 0 rfl) ?_
    refine hg_10_4 hx hb hts hin_X10 hown kl_25 hI (isk_k k1) dX10_fail_8 ?_
    refine lv_aload_n hx hb dX10_fail_11 rfl (lv_at hl 0 rfl) ?_
    refine hg_10_3 hx hb hts hin_X10 hown kl_21 hI (isk_k k1) dX10_fail_12 ?_
    refine lv_icmp_ge (tgt := 38) hx hb dX10_fail_15 (by decide) (fun c3 => ?_) (fun c3 => ?_)
    · replace hf := ifp c3 hf
      exact hret_v hx hb hr hlocks hI (by decide) (by decide) (fun _ => ⟨trivial, rfl⟩) (ret_e hK0 hf) dX10_fail_38
    · replace hf := ifn c3 hf
      refine lv_aload_n hx hb dX10_fail_18 rfl (lv_at hl 0 rfl) ?_
      refine lv_iconst (v := 1) hx hb dX10_fail_19 (by decide) ?_
      refine lv_bipush (v := 8) hx hb dX10_fail_20 (by decide) ?_
      refine lv_aload_n hx hb dX10_fail_22 rfl (lv_at hl 0 rfl) ?_
      refine hg_10_1 hx hb hts hin_X10 hown kl_15 hI (isk_k k1) dX10_fail_23 ?_
      refine lv_aload_n hx hb dX10_fail_26 rfl (lv_at hl 0 rfl) ?_
      refine hg_10_4 hx hb hts hin_X10 hown kl_25 hI (isk_k k1) dX10_fail_27 ?_
      obtain ⟨b4, hd5, hf⟩ := bnd_b hf
      obtain ⟨hq6, hk7⟩ := dr_e hd5
      refine W.eq (g2 := F0 m 30 ls [.int (gI s0 1004 h), .ref b4, .int (8 : Int32), .int (1 : Int32), .ref h]) (by rw [hq6]; rfl) ?_
      obtain ⟨k8, hf⟩ := chk_b hf
      refine hl_I hx hb hI hk7 k8 dX10_fail_30 ?_
      refine lv_imul hx hb dX10_fail_31 ?_
      refine lv_iadd hx hb dX10_fail_32 ?_
      refine lv_iload_n hx hb dX10_fail_33 rfl (lv_at hl 1 rfl) ?_
      refine lv_iadd hx hb dX10_fail_34 ?_
      refine hp_10_5 hx hb hts hin_X10 hown kl_28 hI (isk_k k1) dX10_fail_35 (fun H locs hI => ?_)
      obtain ⟨x9, hx9, hf⟩ := bnd_b hf
      replace hx9 := Option.some.inj hx9
      rw [hx9] at hI
      have hk10 : gK x9 h = 11 := by rw [← hx9]; exact (gK_sI.trans (isk_k k1))
      have hk11 : gK x9 b4 = 22 := by rw [← hx9]; exact (gK_sI.trans hk7)
      exact hret_v hx hb hr hlocks hI (by decide) (by decide) (fun _ => ⟨trivial, rfl⟩) (ret_e hK0 hf) dX10_fail_38

theorem nd_X10_init : yX10_init.cls ≠ "java/lang/invoke/MethodHandle" ∧ yX10_init.cls ≠ "java/lang/invoke/VarHandle" ∧ (parseMethodDescriptor yX10_init.desc).map (fun d => d.parameters.length) = some 0 := by decide +kernel
set_option maxHeartbeats 4000000 in
set_option maxRecDepth 100000 in
theorem ch_X10_init (l : Launch) (D : va_G) (cy : Nat → ClassId) (h : Nat)  (s0 : HSt) (out : HSt) (hf : fh_X10_init h s0 = some out) : CHv l D cy yX10_init wsX10_init { frames := 1, cells := 3, slots := 1203, locals := 30 } 3 1203 True True [.ref h] s0 out := by
  refine Met.ofW (cc := cX10_init) (maxL := 1) (ret := none) (by decide) rfl ?_
  intro p e s m args below meth c s₁ B hml hv
  obtain ⟨rfl, hP, hK, hD0, hkx, hsz, hal⟩ := hv
  have hx := B.exec
  have hb := B.bytes
  have hr := B.returns
  have hts := atoms_spec (ws := wsX10_init) B.pre
  have hown : s.vm.findClass RX10 = some m.cls := findClass_of_methodNamed B.named
  have hlocks := B.notSynchronized
  have hin0 : meth.name = "<init>" := (name_of_methodNamed B.named B.method).1
  have hI : HI D cy s s0 s0 s.heap [] 0 True True := ⟨hK, hP, hD0.weaken (fun k q hk _ => Or.inl (pl_mem hk)), va_S.rf, hsz.1, hkx, ⟨hsz, hal⟩, fun _ => rfl, Nat.le_refl _⟩
  have hin_X10 : ∀ w ∈ u_ws RX10 TX10 6, w ∈ wsX10_init := fun w hw => List.mem_cons_of_mem _ (List.mem_append_right _ hw)
  have kl_9 : Cond.fieldLink RX10 9 "HalfBridge$Tokens" "kinds" "[I" ∈ wsX10_init := by decide +kernel
  have kl_15 : Cond.fieldLink RX10 15 "HalfBridge$Tokens" "places" "[I" ∈ wsX10_init := by decide +kernel
  have kl_18 : Cond.fieldLink RX10 18 "HalfBridge$Tokens" "values" "[I" ∈ wsX10_init := by decide +kernel
  have hl := lv_entry ([.ref h]) (n := 1) (Nat.le_of_ble_eq_true rfl)
  rw [lg_entry_eq]
  generalize (lg_sl ([.ref h]) ++ List.replicate (1 - (lg_sl ([.ref h])).length) Slot.unset).toArray = ls at hl ⊢
  have hl : lv_has ls 1 [(0, .ref h)] := hl
  obtain ⟨K0, hK0, hf⟩ := top_e hf
  unfold fh_X10_init at hf
  refine lv_aload_n hx hb dX10_init_0 rfl (lv_at hl 0 rfl) ?_
  refine W.objInit hx hb hown (hts (.methodLink RX10 3 objectInit) (by decide +kernel)) (hts (.instanceMethod objectInit) (by decide +kernel)) (hts (.code objectInit ⟨#[0xb1]⟩ 1 none) (by decide +kernel)) rfl (by rw [hml]; exact hl.1) rfl dX10_init_1 (Nat.le_of_ble_eq_true rfl) (Nat.le_of_ble_eq_true rfl) ?_
  refine W.eq (g2 := F0 m 4 ls []) rfl ?_
  refine lv_aload_n hx hb dX10_init_4 rfl (lv_at hl 0 rfl) ?_
  refine lv_sipush (v := 401) hx hb dX10_init_5 (by decide) ?_
  refine hn_I (N := 401) hx hb hts (by decide +kernel) hI trivial trivial (by decide) rfl (by decide) (Nat.le_of_ble_eq_true rfl) (Nat.le_of_ble_eq_true rfl) dX10_init_8 (fun H hI => ?_)
  refine W.widen (k := 1) (n := 401) (by decide) (by decide) ?_
  obtain ⟨x1, hx1, hf⟩ := bnd_b hf
  replace hx1 := Option.some.inj hx1
  rw [hx1] at hI
  have hk2 : gK x1 (gN s0) = 22 := by rw [← hx1]; exact nO_K
  obtain ⟨k3, hf⟩ := chk_b hf
  refine hp_10_0 (x := (some (gN s0))) hx hb hts hin_X10 hown kl_9 hI (isk_k k3) hin0 rfl dX10_init_10 (fun H locs hI => ?_)
  refine lv_aload_n hx hb dX10_init_13 rfl (lv_at hl 0 rfl) ?_
  refine lv_sipush (v := 401) hx hb dX10_init_14 (by decide) ?_
  refine hn_I (N := 401) hx hb hts (by decide +kernel) hI trivial trivial (by decide) rfl (by decide) (Nat.le_of_ble_eq_true rfl) (Nat.le_of_ble_eq_true rfl) dX10_init_17 (fun H hI => ?_)
  refine W.widen (k := 2) (n := 802) (by decide) (by decide) ?_
  obtain ⟨x4, hx4, hf⟩ := bnd_b hf
  replace hx4 := Option.some.inj hx4
  rw [hx4] at hI
  have hk5 : gK x4 (gN (sR x1 1000 h (some (gN s0)))) = 22 := by rw [← hx4]; exact nO_K
  obtain ⟨k6, hf⟩ := chk_b hf
  refine hp_10_1 (x := (some (gN (sR x1 1000 h (some (gN s0)))))) hx hb hts hin_X10 hown kl_15 hI (isk_k k6) hin0 rfl dX10_init_19 (fun H locs hI => ?_)
  refine lv_aload_n hx hb dX10_init_22 rfl (lv_at hl 0 rfl) ?_
  refine lv_sipush (v := 401) hx hb dX10_init_23 (by decide) ?_
  refine hn_I (N := 401) hx hb hts (by decide +kernel) hI trivial trivial (by decide) rfl (by decide) (Nat.le_of_ble_eq_true rfl) (Nat.le_of_ble_eq_true rfl) dX10_init_26 (fun H hI => ?_)
  refine W.widen (k := 3) (n := 1203) (by decide) (by decide) ?_
  obtain ⟨x7, hx7, hf⟩ := bnd_b hf
  replace hx7 := Option.some.inj hx7
  rw [hx7] at hI
  have hk8 : gK x7 (gN (sR x4 1001 h (some (gN (sR x1 1000 h (some (gN s0))))))) = 22 := by rw [← hx7]; exact nO_K
  obtain ⟨k9, hf⟩ := chk_b hf
  refine hp_10_2 (x := (some (gN (sR x4 1001 h (some (gN (sR x1 1000 h (some (gN s0))))))))) hx hb hts hin_X10 hown kl_18 hI (isk_k k9) hin0 rfl dX10_init_28 (fun H locs hI => ?_)
  obtain ⟨x10, hx10, hf⟩ := bnd_b hf
  replace hx10 := Option.some.inj hx10
  rw [hx10] at hI
  have hk11 : gK x10 (gN (sR x4 1001 h (some (gN (sR x1 1000 h (some (gN s0))))))) = 22 := by rw [← hx10]; exact (gK_sR.trans hk8)
  have hk12 : gK x10 h = 11 := by rw [← hx10]; exact (gK_sR.trans (isk_k k9))
  exact hret_v hx hb hr hlocks hI (by decide) (by decide) (fun _ => ⟨trivial, rfl⟩) (ret_e hK0 hf) dX10_init_31

theorem nd_X10_isDigit : yX10_isDigit.cls ≠ "java/lang/invoke/MethodHandle" ∧ yX10_isDigit.cls ≠ "java/lang/invoke/VarHandle" ∧ (parseMethodDescriptor yX10_isDigit.desc).map (fun d => d.parameters.length) = some 1 := by decide +kernel
set_option maxHeartbeats 4000000 in
set_option maxRecDepth 100000 in
theorem ch_X10_isDigit (l : Launch) (D : va_G) (cy : Nat → ClassId) (a0 : Int32) (s0 : HSt) (out : HSt × Int32) (hf : fh_X10_isDigit a0 s0 = some out) : CHi l D cy yX10_isDigit wsX10_isDigit { frames := 0, cells := 0, slots := 0, locals := 0 } 0 0 False True [.int a0] s0 out := by
  refine Met.ofW (cc := cX10_isDigit) (maxL := 1) (ret := (some .boolean)) (by decide) rfl ?_
  intro p e s m args below meth c s₁ B hml hv
  obtain ⟨rfl, hP, hK, hD0, hkx, hsz, hal⟩ := hv
  have hx := B.exec
  have hb := B.bytes
  have hr := B.returns
  have hts := atoms_spec (ws := wsX10_isDigit) B.pre
  have hown : s.vm.findClass RX10 = some m.cls := findClass_of_methodNamed B.named
  have hlocks := B.notSynchronized
  have hI : HI D cy s s0 s0 s.heap [] 0 False True := ⟨hK, hP, hD0.weaken (fun k q hk _ => Or.inl (pl_mem hk)), va_S.rf, hsz.1, hkx, ⟨hsz, hal⟩, fun _ => rfl, Nat.le_refl _⟩
  have hl := lv_entry ([.int a0]) (n := 1) (Nat.le_of_ble_eq_true rfl)
  rw [lg_entry_eq]
  generalize (lg_sl ([.int a0]) ++ List.replicate (1 - (lg_sl ([.int a0])).length) Slot.unset).toArray = ls at hl ⊢
  have hl : lv_has ls 1 [(0, .int a0)] := hl
  obtain ⟨K0, hK0, hf⟩ := top_e hf
  unfold fh_X10_isDigit at hf
  refine lv_iload_n hx hb dX10_isDigit_0 rfl (lv_at hl 0 rfl) ?_
  refine lv_bipush (v := 48) hx hb dX10_isDigit_1 (by decide) ?_
  refine lv_icmp_lt (tgt := 16) hx hb dX10_isDigit_3 (by decide) (fun c1 => ?_) (fun c1 => ?_)
  · replace hf := ifp c1 hf
    refine lv_iconst (v := 0) hx hb dX10_isDigit_16 (by decide) ?_
    exact hret_z hx hb hr (by decide) hlocks hI (by decide) (by decide) (fun _ => ⟨trivial, rfl⟩) (ret_e hK0 hf) dX10_isDigit_17
  · replace hf := ifn c1 hf
    refine lv_iload_n hx hb dX10_isDigit_6 rfl (lv_at hl 0 rfl) ?_
    refine lv_bipush (v := 57) hx hb dX10_isDigit_7 (by decide) ?_
    refine lv_icmp_gt (tgt := 16) hx hb dX10_isDigit_9 (by decide) (fun c2 => ?_) (fun c2 => ?_)
    · replace hf := ifp c2 hf
      refine lv_iconst (v := 0) hx hb dX10_isDigit_16 (by decide) ?_
      exact hret_z hx hb hr (by decide) hlocks hI (by decide) (by decide) (fun _ => ⟨trivial, rfl⟩) (ret_e hK0 hf) dX10_isDigit_17
    · replace hf := ifn c2 hf
      refine lv_iconst (v := 1) hx hb dX10_isDigit_12 (by decide) ?_
      refine lv_goto (tgt := 17) hx hb dX10_isDigit_13 (by decide) ?_
      exact hret_z hx hb hr (by decide) hlocks hI (by decide) (by decide) (fun _ => ⟨trivial, rfl⟩) (ret_e hK0 hf) dX10_isDigit_17

theorem nd_X10_isLetter : yX10_isLetter.cls ≠ "java/lang/invoke/MethodHandle" ∧ yX10_isLetter.cls ≠ "java/lang/invoke/VarHandle" ∧ (parseMethodDescriptor yX10_isLetter.desc).map (fun d => d.parameters.length) = some 1 := by decide +kernel
set_option maxHeartbeats 4000000 in
set_option maxRecDepth 100000 in
theorem ch_X10_isLetter (l : Launch) (D : va_G) (cy : Nat → ClassId) (a0 : Int32) (s0 : HSt) (out : HSt × Int32) (hf : fh_X10_isLetter a0 s0 = some out) : CHi l D cy yX10_isLetter wsX10_isLetter { frames := 0, cells := 0, slots := 0, locals := 0 } 0 0 False True [.int a0] s0 out := by
  refine Met.ofW (cc := cX10_isLetter) (maxL := 1) (ret := (some .boolean)) (by decide) rfl ?_
  intro p e s m args below meth c s₁ B hml hv
  obtain ⟨rfl, hP, hK, hD0, hkx, hsz, hal⟩ := hv
  have hx := B.exec
  have hb := B.bytes
  have hr := B.returns
  have hts := atoms_spec (ws := wsX10_isLetter) B.pre
  have hown : s.vm.findClass RX10 = some m.cls := findClass_of_methodNamed B.named
  have hlocks := B.notSynchronized
  have hI : HI D cy s s0 s0 s.heap [] 0 False True := ⟨hK, hP, hD0.weaken (fun k q hk _ => Or.inl (pl_mem hk)), va_S.rf, hsz.1, hkx, ⟨hsz, hal⟩, fun _ => rfl, Nat.le_refl _⟩
  have hl := lv_entry ([.int a0]) (n := 1) (Nat.le_of_ble_eq_true rfl)
  rw [lg_entry_eq]
  generalize (lg_sl ([.int a0]) ++ List.replicate (1 - (lg_sl ([.int a0])).length) Slot.unset).toArray = ls at hl ⊢
  have hl : lv_has ls 1 [(0, .int a0)] := hl
  obtain ⟨K0, hK0, hf⟩ := top_e hf
  unfold fh_X10_isLetter at hf
  refine lv_iload_n hx hb dX10_isLetter_0 rfl (lv_at hl 0 rfl) ?_
  refine lv_bipush (v := 97) hx hb dX10_isLetter_1 (by decide) ?_
  refine lv_icmp_lt (tgt := 16) hx hb dX10_isLetter_3 (by decide) (fun c1 => ?_) (fun c1 => ?_)
  · replace hf := ifp c1 hf
    refine lv_iconst (v := 0) hx hb dX10_isLetter_16 (by decide) ?_
    exact hret_z hx hb hr (by decide) hlocks hI (by decide) (by decide) (fun _ => ⟨trivial, rfl⟩) (ret_e hK0 hf) dX10_isLetter_17
  · replace hf := ifn c1 hf
    refine lv_iload_n hx hb dX10_isLetter_6 rfl (lv_at hl 0 rfl) ?_
    refine lv_bipush (v := 122) hx hb dX10_isLetter_7 (by decide) ?_
    refine lv_icmp_gt (tgt := 16) hx hb dX10_isLetter_9 (by decide) (fun c2 => ?_) (fun c2 => ?_)
    · replace hf := ifp c2 hf
      refine lv_iconst (v := 0) hx hb dX10_isLetter_16 (by decide) ?_
      exact hret_z hx hb hr (by decide) hlocks hI (by decide) (by decide) (fun _ => ⟨trivial, rfl⟩) (ret_e hK0 hf) dX10_isLetter_17
    · replace hf := ifn c2 hf
      refine lv_iconst (v := 1) hx hb dX10_isLetter_12 (by decide) ?_
      refine lv_goto (tgt := 17) hx hb dX10_isLetter_13 (by decide) ?_
      exact hret_z hx hb hr (by decide) hlocks hI (by decide) (by decide) (fun _ => ⟨trivial, rfl⟩) (ret_e hK0 hf) dX10_isLetter_17
