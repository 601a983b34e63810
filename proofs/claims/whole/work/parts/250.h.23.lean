theorem nd_X11_tried : yX11_tried.cls ≠ "java/lang/invoke/MethodHandle" ∧ yX11_tried.cls ≠ "java/lang/invoke/VarHandle" ∧ (parseMethodDescriptor yX11_tried.desc).map (fun d => d.parameters.length) = some 6 := by decide +kernel
set_option maxHeartbeats 4000000 in
set_option maxRecDepth 100000 in
theorem ch_X11_tried (l : Launch) (D : va_G) (cy : Nat → ClassId) (h : Nat) (a1 : Int32) (a2 : Int32) (a3 : Int32) (a4 : Int32) (a5 : Int32) (a6 : Int32) (s0 : HSt) (out : HSt × Int32) (hf : fh_X11_tried h a1 a2 a3 a4 a5 a6 s0 = some out) : CHi l D cy yX11_tried wsX11_tried { frames := 6, cells := 0, slots := 0, locals := 171 } 0 0 False True [.ref h, .int a1, .int a2, .int a3, .int a4, .int a5, .int a6] s0 out := by
  refine Met.ofW (cc := cX11_tried) (maxL := 11) (ret := (some .int)) (by decide) rfl ?_
  intro p e s m args below meth c s₁ B hml hv
  obtain ⟨rfl, hP, hK, hD0, hkx, hsz, hal⟩ := hv
  have hx := B.exec
  have hb := B.bytes
  have hr := B.returns
  have hts := atoms_spec (ws := wsX11_tried) B.pre
  have hown : s.vm.findClass RX11 = some m.cls := findClass_of_methodNamed B.named
  have hlocks := B.notSynchronized
  have hI : HI D cy s s0 s0 s.heap [] 0 False True := ⟨hK, hP, hD0.weaken (fun k q hk _ => Or.inl (pl_mem hk)), va_S.rf, hsz.1, hkx, ⟨hsz, hal⟩, fun _ => rfl, Nat.le_refl _⟩
  have hin_X0 : ∀ w ∈ u_ws RX0 TX0 11, w ∈ wsX11_tried := fun w hw => List.mem_cons_of_mem _ (List.mem_append_left _ (List.mem_append_left _ (List.mem_append_left _ (List.mem_append_left _ (List.mem_append_right _ hw)))))
  have hin_X11 : ∀ w ∈ u_ws RX11 TX11 10, w ∈ wsX11_tried := fun w hw => List.mem_cons_of_mem _ (List.mem_append_left _ (List.mem_append_left _ (List.mem_append_left _ (List.mem_append_left _ (List.mem_append_left _ (List.mem_append_left _ (List.mem_append_right _ hw)))))))
  have hin_X8 : ∀ w ∈ u_ws RX8 TX8 5, w ∈ wsX11_tried := fun w hw => List.mem_cons_of_mem _ (List.mem_append_left _ (List.mem_append_left _ (List.mem_append_left _ (List.mem_append_left _ (List.mem_append_left _ (List.mem_append_right _ hw))))))
  have kl_22 : Cond.fieldLink RX11 22 "HalfBridge" "site" "LHalfBridge$Site;" ∈ wsX11_tried := by decide +kernel
  have kl_56 : Cond.fieldLink RX11 56 "HalfBridge" "foresight" "LHalfBridge$Foresight;" ∈ wsX11_tried := by decide +kernel
  have kl_265 : Cond.fieldLink RX11 265 "HalfBridge$Site" "x" "I" ∈ wsX11_tried := by decide +kernel
  have kl_268 : Cond.fieldLink RX11 268 "HalfBridge$Foresight" "x" "I" ∈ wsX11_tried := by decide +kernel
  have hl := lv_entry ([.ref h, .int a1, .int a2, .int a3, .int a4, .int a5, .int a6]) (n := 11) (Nat.le_of_ble_eq_true rfl)
  rw [lg_entry_eq]
  generalize (lg_sl ([.ref h, .int a1, .int a2, .int a3, .int a4, .int a5, .int a6]) ++ List.replicate (11 - (lg_sl ([.ref h, .int a1, .int a2, .int a3, .int a4, .int a5, .int a6])).length) Slot.unset).toArray = ls at hl ⊢
  have hl : lv_has ls 11 [(0, .ref h), (1, .int a1), (2, .int a2), (3, .int a3), (4, .int a4), (5, .int a5), (6, .int a6)] := hl
  obtain ⟨K0, hK0, hf⟩ := top_e hf
  have B_152 : ∀ (v6 : Int32) (v7 : Int32) (v8 : Int32)  (st : HSt) (H : Heap) (locs : List Loc) (ls : Array Slot), HI D cy s s0 st H locs 0 False True → lv_has ls 11 [(6, .int v6), (7, .int v7), (8, .int v8)] → (fh_X11_tried_j152 h v6 v7 v8 st).bind K0 = some out → W p l e (headSpec wsX11_tried { frames := 6, cells := 0, slots := 0, locals := 171 }).room s m (([.ref h, .int a1, .int a2, .int a3, .int a4, .int a5, .int a6] : List Value).toArray) below meth c H locs 0 0 (MQ below (HQi D cy s0 0 True out) ([.ref h, .int a1, .int a2, .int a3, .int a4, .int a5, .int a6] : List Value).toArray s 0 0 (hF s0)) (F0 m 152 ls []) := by
    intro v6 v7 v8 st H locs ls hI hl hf
    unfold fh_X11_tried_j152 at hf
    refine lv_iload hx hb dX11_tried_152 (lv_at hl 0 rfl) ?_
    refine lv_if_ne (tgt := 162) hx hb dX11_tried_154 (by decide) (fun c26 => ?_) (fun c26 => ?_)
    · replace hf := ifn c26 hf
      refine lv_iload hx hb dX11_tried_162 (lv_at hl 2 rfl) ?_
      exact hret_i hx hb hr hlocks hI (by decide) (by decide) (fun _ => ⟨trivial, rfl⟩) (ret_e hK0 hf) dX11_tried_164
    · replace hf := ifp c26 hf
      refine lv_iload hx hb dX11_tried_157 (lv_at hl 1 rfl) ?_
      refine lv_goto (tgt := 164) hx hb dX11_tried_159 (by decide) ?_
      exact hret_i hx hb hr hlocks hI (by decide) (by decide) (fun _ => ⟨trivial, rfl⟩) (ret_e hK0 hf) dX11_tried_164
  have L_77 : ∀ (v1 : Int32) (v2 : Int32) (v3 : Int32) (v4 : Int32) (v5 : Int32) (v6 : Int32) (n : Nat) (v7 : Int32) (v8 : Int32) (v9 : Int32) (st : HSt) (H : Heap) (locs : List Loc) (ls : Array Slot), HI D cy s s0 st H locs 0 False True → lv_has ls 11 [(0, .ref h), (1, .int v1), (2, .int v2), (3, .int v3), (4, .int v4), (5, .int v5), (6, .int v6), (7, .int v7), (8, .int v8), (9, .int v9)] → (iter (fun x : (Int32 × Int32 × Int32 × HSt) => fh_X11_tried_s77 h v1 v2 v3 v4 v5 v6 x.1 x.2.1 x.2.2.1 x.2.2.2) n (v7, v8, v9, st)).bind (fun x => ((Sum.elim (fun o : HSt × Int32 => (some o : Option (HSt × Int32))) (fun x : (Int32 × Int32 × Int32 × HSt) => fh_X11_tried_j152 h v6 x.1 x.2.1 x.2.2.2)) x).bind K0) = some out → W p l e (headSpec wsX11_tried { frames := 6, cells := 0, slots := 0, locals := 171 }).room s m (([.ref h, .int a1, .int a2, .int a3, .int a4, .int a5, .int a6] : List Value).toArray) below meth c H locs 0 0 (MQ below (HQi D cy s0 0 True out) ([.ref h, .int a1, .int a2, .int a3, .int a4, .int a5, .int a6] : List Value).toArray s 0 0 (hF s0)) (F0 m 77 ls []) := by
    intro v1 v2 v3 v4 v5 v6 n
    induction n with
    | zero => intro v7 v8 v9 st H locs ls hI hl hf; exact (iter_0 hf).elim
    | succ n ih =>
      intro v7 v8 v9 st H locs ls hI hl hf
      obtain ⟨K1, hK1, hf⟩ := iter_e hf
      replace hf : (fh_X11_tried_s77 h v1 v2 v3 v4 v5 v6 v7 v8 v9 st).bind K1 = some out := hf
      have B_77_125_0 : ∀ (v8 : Int32) (v9 : Int32) (v10 : Option Nat) (t0 : Int32) (t1 : Int32) (st : HSt) (H : Heap) (locs : List Loc) (ls : Array Slot), HI D cy s s0 st H locs 0 False True → lv_has ls 11 [(0, .ref h), (1, .int v1), (2, .int v2), (3, .int v3), (4, .int v4), (5, .int v5), (6, .int v6), (8, .int v8), (9, .int v9), (10, va_rf v10)] → (fh_X11_tried_j125 h v1 v2 v3 v4 v5 v6 v8 v9 v10 t0 t1 st).bind K1 = some out → W p l e (headSpec wsX11_tried { frames := 6, cells := 0, slots := 0, locals := 171 }).room s m (([.ref h, .int a1, .int a2, .int a3, .int a4, .int a5, .int a6] : List Value).toArray) below meth c H locs 0 0 (MQ below (HQi D cy s0 0 True out) ([.ref h, .int a1, .int a2, .int a3, .int a4, .int a5, .int a6] : List Value).toArray s 0 0 (hF s0)) (F0 m 125 ls [.int t0, .int t1]) := by
        intro v8 v9 v10 t0 t1 st H locs ls hI hl hf
        unfold fh_X11_tried_j125 at hf
        refine lv_iadd hx hb dX11_tried_125 ?_
        refine lv_istore (lv' := [(7, .int (t1 + t0)), (0, .ref h), (1, .int v1), (2, .int v2), (3, .int v3), (4, .int v4), (5, .int v5), (6, .int v6), (8, .int v8), (9, .int v9), (10, va_rf v10)]) hx hb dX11_tried_126 hl (by decide) (by first | rfl | (simp [cat_rf, cat_i, cat_l, cat_r]; done) | (simp [cat_rf, cat_i, cat_l, cat_r]; decide)) (fun ls hl => ?_)
        refine lv_iload hx hb dX11_tried_128 (lv_at hl 8 rfl) ?_
        refine hq_aload hx hb dX11_tried_130 (lv_at hl 10 rfl) ?_
        refine lv_iconst (v := 0) hx hb dX11_tried_132 (by decide) ?_
        obtain ⟨b47, hd48, hf⟩ := bnd_b hf
        obtain ⟨hq49, hk50⟩ := dr_e hd48
        refine W.eq (g2 := F0 m 133 ls [.int (0 : Int32), .ref b47, .int v8]) (by rw [hq49]; rfl) ?_
        obtain ⟨x51, hc52, hf⟩ := bnd_b hf
        refine hcall_Vi (ex2 := True) (As := [.int (0 : Int32)]) (rest := [.int v8]) (n := 1) (by rw [hk50]; decide) (hC_10 hk50) rfl ⟨hx, hb, hml, hown, hts⟩ (ch_X9_yardsOf l D cy b47 (0 : Int32) st x51 hc52) (cwV 1 hts gX11_tried_X9_yardsOf rfl rfl rfl ⟨rfl, nd_X9_yardsOf⟩ ⟨Nat.le_of_ble_eq_true rfl, Nat.le_of_ble_eq_true rfl⟩) hI (fun h => h.elim) (fun _ => ⟨trivial, trivial⟩) rfl hl.1 (Nat.le_of_ble_eq_true rfl) dX11_tried_133 ⟨Nat.le_of_ble_eq_true rfl, Nat.le_of_ble_eq_true rfl⟩ (fun H locs hI => ?_)
        refine hq_aload hx hb dX11_tried_136 (lv_at hl 10 rfl) ?_
        refine lv_iconst (v := 1) hx hb dX11_tried_138 (by decide) ?_
        refine W.eq (g2 := F0 m 139 ls [.int (1 : Int32), .ref b47, .int x51.2, .int v8]) (by rw [hq49]; rfl) ?_
        obtain ⟨k53, hf⟩ := chk_b hf
        obtain ⟨x54, hc55, hf⟩ := bnd_b hf
        refine hcall_Vi (ex2 := True) (As := [.int (1 : Int32)]) (rest := [.int x51.2, .int v8]) (n := 1) (by rw [(isk_k k53)]; decide) (hC_10 (isk_k k53)) rfl ⟨hx, hb, hml, hown, hts⟩ (ch_X9_yardsOf l D cy b47 (1 : Int32) x51.1 x54 hc55) (cwV 1 hts gX11_tried_X9_yardsOf rfl rfl rfl ⟨rfl, nd_X9_yardsOf⟩ ⟨Nat.le_of_ble_eq_true rfl, Nat.le_of_ble_eq_true rfl⟩) hI (fun h => h.elim) (fun _ => ⟨trivial, trivial⟩) rfl hl.1 (Nat.le_of_ble_eq_true rfl) dX11_tried_139 ⟨Nat.le_of_ble_eq_true rfl, Nat.le_of_ble_eq_true rfl⟩ (fun H locs hI => ?_)
        refine lv_iadd hx hb dX11_tried_142 ?_
        refine lv_iadd hx hb dX11_tried_143 ?_
        refine lv_istore (lv' := [(8, .int (v8 + (x51.2 + x54.2))), (7, .int (t1 + t0)), (0, .ref h), (1, .int v1), (2, .int v2), (3, .int v3), (4, .int v4), (5, .int v5), (6, .int v6), (9, .int v9), (10, va_rf v10)]) hx hb dX11_tried_144 hl (by decide) (by first | rfl | (simp [cat_rf, cat_i, cat_l, cat_r]; done) | (simp [cat_rf, cat_i, cat_l, cat_r]; decide)) (fun ls hl => ?_)
        refine lv_iinc (v := (v9 + 1)) (lv' := [(9, .int (v9 + 1)), (8, .int (v8 + (x51.2 + x54.2))), (7, .int (t1 + t0)), (0, .ref h), (1, .int v1), (2, .int v2), (3, .int v3), (4, .int v4), (5, .int v5), (6, .int v6), (10, va_rf v10)]) hx hb dX11_tried_146 hl (k := 9) rfl (ci_ _ (by decide)) (by decide) (by first | rfl | (simp [cat_rf, cat_i, cat_l, cat_r]; done) | (simp [cat_rf, cat_i, cat_l, cat_r]; decide)) (fun ls hl => ?_)
        refine lv_goto (tgt := 77) hx hb dX11_tried_149 (by decide) ?_
        replace hf := cont_b hK1 hf
        exact ih (t1 + t0) (v8 + (x51.2 + x54.2)) (v9 + 1) x54.1 H locs ls hI (lv_sub hl [3, 4, 5, 6, 7, 8, 9, 2, 1, 0] rfl) hf
      unfold fh_X11_tried_s77 at hf
      refine lv_iload hx hb dX11_tried_77 (lv_at hl 9 rfl) ?_
      refine lv_iload_n hx hb dX11_tried_79 rfl (lv_at hl 3 rfl) ?_
      refine lv_icmp_ge (tgt := 152) hx hb dX11_tried_80 (by decide) (fun c27 => ?_) (fun c27 => ?_)
      · replace hf := ifp c27 hf
        replace hf := exit_b hK1 hf
        exact B_152 v6 v7 v8 st H locs ls hI (lv_sub hl [6, 7, 8] rfl) hf
      · replace hf := ifn c27 hf
        refine lv_aload_n hx hb dX11_tried_83 rfl (lv_at hl 0 rfl) ?_
        obtain ⟨k28, hf⟩ := chk_b hf
        refine hg_11_9 hx hb hts hin_X11 hown kl_56 hI (isk_k k28) dX11_tried_84 ?_
        refine lv_aload_n hx hb dX11_tried_87 rfl (lv_at hl 0 rfl) ?_
        refine hg_11_4 hx hb hts hin_X11 hown kl_22 hI (isk_k k28) dX11_tried_88 ?_
        refine lv_aload_n hx hb dX11_tried_91 rfl (lv_at hl 0 rfl) ?_
        refine lv_iload_n hx hb dX11_tried_92 rfl (lv_at hl 1 rfl) ?_
        obtain ⟨x29, hc30, hf⟩ := bnd_b hf
        refine hcall_Vq (ex2 := True) (As := [.int v1]) (rest := [va_rf (gR st 1104 h), va_rf (gR st 1109 h)]) (n := 1) (by rw [(isk_k k28)]; decide) (hC_12 (isk_k k28)) rfl ⟨hx, hb, hml, hown, hts⟩ (ch_X11_ruleOf l D cy h v1 st x29 hc30) (cwV 1 hts gX11_tried_X11_ruleOf rfl rfl rfl ⟨rfl, nd_X11_ruleOf⟩ ⟨Nat.le_of_ble_eq_true rfl, Nat.le_of_ble_eq_true rfl⟩) hI (fun h => h.elim) (fun _ => ⟨trivial, trivial⟩) rfl hl.1 (by simp [cat_rf, cat_i, cat_l, cat_r]) dX11_tried_93 ⟨Nat.le_of_ble_eq_true rfl, Nat.le_of_ble_eq_true rfl⟩ (fun H locs hI => ?_)
        refine lv_aload_n hx hb dX11_tried_96 rfl (lv_at hl 0 rfl) ?_
        refine lv_iload_n hx hb dX11_tried_97 rfl (lv_at hl 2 rfl) ?_
        obtain ⟨k31, hf⟩ := chk_b hf
        obtain ⟨x32, hc33, hf⟩ := bnd_b hf
        refine hcall_Vq (ex2 := True) (As := [.int v2]) (rest := [va_rf x29.2, va_rf (gR st 1104 h), va_rf (gR st 1109 h)]) (n := 1) (by rw [(isk_k k31)]; decide) (hC_12 (isk_k k31)) rfl ⟨hx, hb, hml, hown, hts⟩ (ch_X11_ruleOf l D cy h v2 x29.1 x32 hc33) (cwV 1 hts gX11_tried_X11_ruleOf rfl rfl rfl ⟨rfl, nd_X11_ruleOf⟩ ⟨Nat.le_of_ble_eq_true rfl, Nat.le_of_ble_eq_true rfl⟩) hI (fun h => h.elim) (fun _ => ⟨trivial, trivial⟩) rfl hl.1 (by simp [cat_rf, cat_i, cat_l, cat_r]) dX11_tried_98 ⟨Nat.le_of_ble_eq_true rfl, Nat.le_of_ble_eq_true rfl⟩ (fun H locs hI => ?_)
        refine lv_iload hx hb dX11_tried_101 (lv_at hl 4 rfl) ?_
        refine lv_iload hx hb dX11_tried_103 (lv_at hl 5 rfl) ?_
        obtain ⟨b34, hd35, hf⟩ := bnd_b hf
        obtain ⟨hq36, hk37⟩ := dr_e hd35
        refine W.eq (g2 := F0 m 105 ls [.int v5, .int v4, va_rf x32.2, va_rf x29.2, va_rf (gR st 1104 h), .ref b34]) (by rw [hq36]; rfl) ?_
        obtain ⟨x38, hc39, hf⟩ := bnd_b hf
        refine hcall_Vq (ex2 := True) (As := [va_rf (gR st 1104 h), va_rf x29.2, va_rf x32.2, .int v4, .int v5]) (rest := []) (n := 5) (by rw [hk37]; decide) (hC_1 hk37) rfl ⟨hx, hb, hml, hown, hts⟩ (ch_X0_spanTried l D cy b34 (gR st 1104 h) x29.2 x32.2 v4 v5 x32.1 x38 hc39) (cwV 5 hts gX11_tried_X0_spanTried rfl rfl rfl ⟨rfl, nd_X0_spanTried⟩ ⟨Nat.le_of_ble_eq_true rfl, Nat.le_of_ble_eq_true rfl⟩) hI (fun h => h.elim) (fun _ => ⟨trivial, trivial⟩) rfl hl.1 (Nat.le_of_ble_eq_true rfl) dX11_tried_105 ⟨Nat.le_of_ble_eq_true rfl, Nat.le_of_ble_eq_true rfl⟩ (fun H locs hI => ?_)
        refine hq_astore (lv' := [(10, va_rf x38.2), (0, .ref h), (1, .int v1), (2, .int v2), (3, .int v3), (4, .int v4), (5, .int v5), (6, .int v6), (7, .int v7), (8, .int v8), (9, .int v9)]) hx hb dX11_tried_108 hl (by decide) (by first | rfl | (simp [cat_rf, cat_i, cat_l, cat_r]; done) | (simp [cat_rf, cat_i, cat_l, cat_r]; decide)) (fun ls hl => ?_)
        refine lv_iload hx hb dX11_tried_110 (lv_at hl 8 rfl) ?_
        refine hq_aload hx hb dX11_tried_112 (lv_at hl 0 rfl) ?_
        obtain ⟨b40, hd41, hf⟩ := bnd_b hf
        obtain ⟨hq42, hk43⟩ := dr_e hd41
        refine W.eq (g2 := F0 m 114 ls [.ref b40, .int v7]) (by rw [hq42]; rfl) ?_
        obtain ⟨x44, hc45, hf⟩ := bnd_b hf
        refine hcall_Vi (ex2 := True) (As := []) (rest := [.int v7]) (n := 0) (by rw [hk43]; decide) (hC_10 hk43) rfl ⟨hx, hb, hml, hown, hts⟩ (ch_X9_isInTime l D cy b40 x38.1 x44 hc45) (cwV 0 hts gX11_tried_X9_isInTime rfl rfl rfl ⟨rfl, nd_X9_isInTime⟩ ⟨Nat.le_of_ble_eq_true rfl, Nat.le_of_ble_eq_true rfl⟩) hI (fun h => h.elim) (fun _ => ⟨trivial, trivial⟩) rfl hl.1 (Nat.le_of_ble_eq_true rfl) dX11_tried_114 ⟨Nat.le_of_ble_eq_true rfl, Nat.le_of_ble_eq_true rfl⟩ (fun H locs hI => ?_)
        refine lv_if_eq (tgt := 124) hx hb dX11_tried_117 (by decide) (fun c46 => ?_) (fun c46 => ?_)
        · replace hf := ifp c46 hf
          refine lv_iconst (v := 0) hx hb dX11_tried_124 (by decide) ?_
          exact B_77_125_0 v8 v9 x38.2 (0 : Int32) v7 x44.1 H locs ls hI (lv_sub hl [1, 2, 3, 4, 5, 6, 7, 9, 10, 0] rfl) hf
        · replace hf := ifn c46 hf
          refine lv_iconst (v := 1) hx hb dX11_tried_120 (by decide) ?_
          refine lv_goto (tgt := 125) hx hb dX11_tried_121 (by decide) ?_
          exact B_77_125_0 v8 v9 x38.2 (1 : Int32) v7 x44.1 H locs ls hI (lv_sub hl [1, 2, 3, 4, 5, 6, 7, 9, 10, 0] rfl) hf
  unfold fh_X11_tried at hf
  refine lv_aload_n hx hb dX11_tried_0 rfl (lv_at hl 0 rfl) ?_
  refine lv_iload_n hx hb dX11_tried_1 rfl (lv_at hl 1 rfl) ?_
  refine lv_iload_n hx hb dX11_tried_2 rfl (lv_at hl 2 rfl) ?_
  obtain ⟨k1, hf⟩ := chk_b hf
  obtain ⟨x2, hc3, hf⟩ := bnd_b hf
  refine hcall_Vi (ex2 := True) (As := [.int a1, .int a2]) (rest := []) (n := 2) (by rw [(isk_k k1)]; decide) (hC_12 (isk_k k1)) rfl ⟨hx, hb, hml, hown, hts⟩ (ch_X11_areRulesAtRiver l D cy h a1 a2 s0 x2 hc3) (cwV 2 hts gX11_tried_X11_areRulesAtRiver rfl rfl rfl ⟨rfl, nd_X11_areRulesAtRiver⟩ ⟨Nat.le_of_ble_eq_true rfl, Nat.le_of_ble_eq_true rfl⟩) hI (fun h => h.elim) (fun _ => ⟨trivial, trivial⟩) rfl hl.1 (Nat.le_of_ble_eq_true rfl) dX11_tried_3 ⟨Nat.le_of_ble_eq_true rfl, Nat.le_of_ble_eq_true rfl⟩ (fun H locs hI => ?_)
  refine lv_if_eq (tgt := 52) hx hb dX11_tried_6 (by decide) (fun c4 => ?_) (fun c4 => ?_)
  · replace hf := ifp c4 hf
    refine lv_iconst (v := -1) hx hb dX11_tried_52 (by decide) ?_
    exact hret_i hx hb hr hlocks hI (by decide) (by decide) (fun _ => ⟨trivial, rfl⟩) (ret_e hK0 hf) dX11_tried_53
  · replace hf := ifn c4 hf
    refine lv_iload_n hx hb dX11_tried_9 rfl (lv_at hl 3 rfl) ?_
    refine lv_iconst (v := 1) hx hb dX11_tried_10 (by decide) ?_
    refine lv_bipush (v := 20) hx hb dX11_tried_11 (by decide) ?_
    obtain ⟨x5, hc6, hf⟩ := bnd_b hf
    refine hcall_Si (ex2 := True) (As := [.int a3, .int (1 : Int32), .int (20 : Int32)]) (rest := []) (n := 3) ⟨hx, hb, hml, hown, hts⟩ (ch_X11_isWithin l D cy a3 (1 : Int32) (20 : Int32) x2.1 x5 hc6) (va_cwS 3 hts gX11_tried_X11_isWithin rfl rfl rfl nd_X11_isWithin ⟨Nat.le_of_ble_eq_true rfl, Nat.le_of_ble_eq_true rfl⟩) hI (fun h => h.elim) (fun _ => ⟨trivial, trivial⟩) rfl hl.1 (Nat.le_of_ble_eq_true rfl) dX11_tried_13 ⟨Nat.le_of_ble_eq_true rfl, Nat.le_of_ble_eq_true rfl⟩ (fun H locs hI => ?_)
    refine lv_if_eq (tgt := 52) hx hb dX11_tried_16 (by decide) (fun c7 => ?_) (fun c7 => ?_)
    · replace hf := ifp c7 hf
      refine lv_iconst (v := -1) hx hb dX11_tried_52 (by decide) ?_
      exact hret_i hx hb hr hlocks hI (by decide) (by decide) (fun _ => ⟨trivial, rfl⟩) (ret_e hK0 hf) dX11_tried_53
    · replace hf := ifn c7 hf
      refine lv_iload hx hb dX11_tried_19 (lv_at hl 4 rfl) ?_
      refine lv_iconst (v := 1) hx hb dX11_tried_21 (by decide) ?_
      refine lv_sipush (v := 200) hx hb dX11_tried_22 (by decide) ?_
      obtain ⟨x8, hc9, hf⟩ := bnd_b hf
      refine hcall_Si (ex2 := True) (As := [.int a4, .int (1 : Int32), .int (200 : Int32)]) (rest := []) (n := 3) ⟨hx, hb, hml, hown, hts⟩ (ch_X11_isWithin l D cy a4 (1 : Int32) (200 : Int32) x5.1 x8 hc9) (va_cwS 3 hts gX11_tried_X11_isWithin rfl rfl rfl nd_X11_isWithin ⟨Nat.le_of_ble_eq_true rfl, Nat.le_of_ble_eq_true rfl⟩) hI (fun h => h.elim) (fun _ => ⟨trivial, trivial⟩) rfl hl.1 (Nat.le_of_ble_eq_true rfl) dX11_tried_25 ⟨Nat.le_of_ble_eq_true rfl, Nat.le_of_ble_eq_true rfl⟩ (fun H locs hI => ?_)
      refine lv_if_eq (tgt := 52) hx hb dX11_tried_28 (by decide) (fun c10 => ?_) (fun c10 => ?_)
      · replace hf := ifp c10 hf
        refine lv_iconst (v := -1) hx hb dX11_tried_52 (by decide) ?_
        exact hret_i hx hb hr hlocks hI (by decide) (by decide) (fun _ => ⟨trivial, rfl⟩) (ret_e hK0 hf) dX11_tried_53
      · replace hf := ifn c10 hf
        refine lv_iload hx hb dX11_tried_31 (lv_at hl 5 rfl) ?_
        refine lv_iconst (v := 0) hx hb dX11_tried_33 (by decide) ?_
        refine lv_bipush (v := 100) hx hb dX11_tried_34 (by decide) ?_
        obtain ⟨x11, hc12, hf⟩ := bnd_b hf
        refine hcall_Si (ex2 := True) (As := [.int a5, .int (0 : Int32), .int (100 : Int32)]) (rest := []) (n := 3) ⟨hx, hb, hml, hown, hts⟩ (ch_X11_isWithin l D cy a5 (0 : Int32) (100 : Int32) x8.1 x11 hc12) (va_cwS 3 hts gX11_tried_X11_isWithin rfl rfl rfl nd_X11_isWithin ⟨Nat.le_of_ble_eq_true rfl, Nat.le_of_ble_eq_true rfl⟩) hI (fun h => h.elim) (fun _ => ⟨trivial, trivial⟩) rfl hl.1 (Nat.le_of_ble_eq_true rfl) dX11_tried_36 ⟨Nat.le_of_ble_eq_true rfl, Nat.le_of_ble_eq_true rfl⟩ (fun H locs hI => ?_)
        refine lv_if_eq (tgt := 52) hx hb dX11_tried_39 (by decide) (fun c13 => ?_) (fun c13 => ?_)
        · replace hf := ifp c13 hf
          refine lv_iconst (v := -1) hx hb dX11_tried_52 (by decide) ?_
          exact hret_i hx hb hr hlocks hI (by decide) (by decide) (fun _ => ⟨trivial, rfl⟩) (ret_e hK0 hf) dX11_tried_53
        · replace hf := ifn c13 hf
          refine lv_iload hx hb dX11_tried_42 (lv_at hl 6 rfl) ?_
          refine lv_iconst (v := 0) hx hb dX11_tried_44 (by decide) ?_
          refine lv_iconst (v := 1) hx hb dX11_tried_45 (by decide) ?_
          obtain ⟨x14, hc15, hf⟩ := bnd_b hf
          refine hcall_Si (ex2 := True) (As := [.int a6, .int (0 : Int32), .int (1 : Int32)]) (rest := []) (n := 3) ⟨hx, hb, hml, hown, hts⟩ (ch_X11_isWithin l D cy a6 (0 : Int32) (1 : Int32) x11.1 x14 hc15) (va_cwS 3 hts gX11_tried_X11_isWithin rfl rfl rfl nd_X11_isWithin ⟨Nat.le_of_ble_eq_true rfl, Nat.le_of_ble_eq_true rfl⟩) hI (fun h => h.elim) (fun _ => ⟨trivial, trivial⟩) rfl hl.1 (Nat.le_of_ble_eq_true rfl) dX11_tried_46 ⟨Nat.le_of_ble_eq_true rfl, Nat.le_of_ble_eq_true rfl⟩ (fun H locs hI => ?_)
          refine lv_if_ne (tgt := 54) hx hb dX11_tried_49 (by decide) (fun c16 => ?_) (fun c16 => ?_)
          · replace hf := ifn c16 hf
            refine lv_iconst (v := 0) hx hb dX11_tried_54 (by decide) ?_
            refine lv_istore (lv' := [(7, .int (0 : Int32)), (0, .ref h), (1, .int a1), (2, .int a2), (3, .int a3), (4, .int a4), (5, .int a5), (6, .int a6)]) hx hb dX11_tried_55 hl (by decide) rfl (fun ls hl => ?_)
            refine lv_iconst (v := 0) hx hb dX11_tried_57 (by decide) ?_
            refine lv_istore (lv' := [(8, .int (0 : Int32)), (7, .int (0 : Int32)), (0, .ref h), (1, .int a1), (2, .int a2), (3, .int a3), (4, .int a4), (5, .int a5), (6, .int a6)]) hx hb dX11_tried_58 hl (by decide) rfl (fun ls hl => ?_)
            refine lv_aload_n hx hb dX11_tried_60 rfl (lv_at hl 2 rfl) ?_
            obtain ⟨k17, hf⟩ := chk_b hf
            refine hg_11_9 hx hb hts hin_X11 hown kl_56 hI (isk_k k17) dX11_tried_61 ?_
            refine lv_aload_n hx hb dX11_tried_64 rfl (lv_at hl 2 rfl) ?_
            refine hg_11_4 hx hb hts hin_X11 hown kl_22 hI (isk_k k17) dX11_tried_65 ?_
            obtain ⟨b18, hd19, hf⟩ := bnd_b hf
            obtain ⟨hq20, hk21⟩ := dr_e hd19
            refine W.eq (g2 := F0 m 68 ls [.ref b18, va_rf (gR x14.1 1109 h)]) (by rw [hq20]; rfl) ?_
            refine hg_8_1 hx hb hts hin_X8 hown kl_265 hI hk21 dX11_tried_68 ?_
            obtain ⟨b22, hd23, hf⟩ := bnd_b hf
            obtain ⟨hq24, hk25⟩ := dr_e hd23
            refine W.eq (g2 := F0 m 71 ls [.int (gI x14.1 801 b18), .ref b22]) (by rw [hq24]; rfl) ?_
            refine hp_0_3 hx hb hts hin_X0 hown kl_268 hI hk25 dX11_tried_71 (fun H locs hI => ?_)
            refine lv_iconst (v := 0) hx hb dX11_tried_74 (by decide) ?_
            refine lv_istore (lv' := [(9, .int (0 : Int32)), (8, .int (0 : Int32)), (7, .int (0 : Int32)), (0, .ref h), (1, .int a1), (2, .int a2), (3, .int a3), (4, .int a4), (5, .int a5), (6, .int a6)]) hx hb dX11_tried_75 hl (by decide) rfl (fun ls hl => ?_)
            exact L_77 a1 a2 a3 a4 a5 a6 mFuel (0 : Int32) (0 : Int32) (0 : Int32) (sI x14.1 3 b22 (gI x14.1 801 b18)) H locs ls hI (lv_sub hl [3, 4, 5, 6, 7, 8, 9, 2, 1, 0] rfl) (asc_b hf)
          · replace hf := ifp c16 hf
            refine lv_iconst (v := -1) hx hb dX11_tried_52 (by decide) ?_
            exact hret_i hx hb hr hlocks hI (by decide) (by decide) (fun _ => ⟨trivial, rfl⟩) (ret_e hK0 hf) dX11_tried_53

theorem nd_X11_whatever : yX11_whatever.cls ≠ "java/lang/invoke/MethodHandle" ∧ yX11_whatever.cls ≠ "java/lang/invoke/VarHandle" ∧ (parseMethodDescriptor yX11_whatever.desc).map (fun d => d.parameters.length) = some 6 := by decide +kernel
set_option maxHeartbeats 4000000 in
set_option maxRecDepth 100000 in
theorem ch_X11_whatever (l : Launch) (D : va_G) (cy : Nat → ClassId) (h : Nat) (a1 : Int32) (a2 : Int32) (a3 : Int32) (a4 : Int32) (a5 : Int32) (a6 : Int32) (s0 : HSt) (out : HSt × Int32) (hf : fh_X11_whatever h a1 a2 a3 a4 a5 a6 s0 = some out) : CHi l D cy yX11_whatever wsX11_whatever { frames := 6, cells := 0, slots := 0, locals := 170 } 0 0 False True [.ref h, .int a1, .int a2, .int a3, .int a4, .int a5, .int a6] s0 out := by
  refine Met.ofW (cc := cX11_whatever) (maxL := 10) (ret := (some .int)) (by decide) rfl ?_
  intro p e s m args below meth c s₁ B hml hv
  obtain ⟨rfl, hP, hK, hD0, hkx, hsz, hal⟩ := hv
  have hx := B.exec
  have hb := B.bytes
  have hr := B.returns
  have hts := atoms_spec (ws := wsX11_whatever) B.pre
  have hown : s.vm.findClass RX11 = some m.cls := findClass_of_methodNamed B.named
  have hlocks := B.notSynchronized
  have hI : HI D cy s s0 s0 s.heap [] 0 False True := ⟨hK, hP, hD0.weaken (fun k q hk _ => Or.inl (pl_mem hk)), va_S.rf, hsz.1, hkx, ⟨hsz, hal⟩, fun _ => rfl, Nat.le_refl _⟩
  have hin_X11 : ∀ w ∈ u_ws RX11 TX11 10, w ∈ wsX11_whatever := fun w hw => List.mem_cons_of_mem _ (List.mem_append_left _ (List.mem_append_left _ (List.mem_append_left _ (List.mem_append_left _ (List.mem_append_left _ (List.mem_append_left _ (List.mem_append_right _ hw)))))))
  have kl_22 : Cond.fieldLink RX11 22 "HalfBridge" "site" "LHalfBridge$Site;" ∈ wsX11_whatever := by decide +kernel
  have kl_56 : Cond.fieldLink RX11 56 "HalfBridge" "foresight" "LHalfBridge$Foresight;" ∈ wsX11_whatever := by decide +kernel
  have hl := lv_entry ([.ref h, .int a1, .int a2, .int a3, .int a4, .int a5, .int a6]) (n := 10) (Nat.le_of_ble_eq_true rfl)
  rw [lg_entry_eq]
  generalize (lg_sl ([.ref h, .int a1, .int a2, .int a3, .int a4, .int a5, .int a6]) ++ List.replicate (10 - (lg_sl ([.ref h, .int a1, .int a2, .int a3, .int a4, .int a5, .int a6])).length) Slot.unset).toArray = ls at hl ⊢
  have hl : lv_has ls 10 [(0, .ref h), (1, .int a1), (2, .int a2), (3, .int a3), (4, .int a4), (5, .int a5), (6, .int a6)] := hl
  obtain ⟨K0, hK0, hf⟩ := top_e hf
  have B_140 : ∀ (v8 : Int32)  (st : HSt) (H : Heap) (locs : List Loc) (ls : Array Slot), HI D cy s s0 st H locs 0 False True → lv_has ls 10 [(8, .int v8)] → (fh_X11_whatever_j140 h v8 st).bind K0 = some out → W p l e (headSpec wsX11_whatever { frames := 6, cells := 0, slots := 0, locals := 170 }).room s m (([.ref h, .int a1, .int a2, .int a3, .int a4, .int a5, .int a6] : List Value).toArray) below meth c H locs 0 0 (MQ below (HQi D cy s0 0 True out) ([.ref h, .int a1, .int a2, .int a3, .int a4, .int a5, .int a6] : List Value).toArray s 0 0 (hF s0)) (F0 m 140 ls []) := by
    intro v8 st H locs ls hI hl hf
    unfold fh_X11_whatever_j140 at hf
    refine lv_iload hx hb dX11_whatever_140 (lv_at hl 0 rfl) ?_
    exact hret_i hx hb hr hlocks hI (by decide) (by decide) (fun _ => ⟨trivial, rfl⟩) (ret_e hK0 hf) dX11_whatever_142
  have L_81 : ∀ (v1 : Int32) (v2 : Int32) (v3 : Int32) (v4 : Int32) (v5 : Int32) (v6 : Int32) (v7 : Int32) (n : Nat) (v8 : Int32) (v9 : Int32) (st : HSt) (H : Heap) (locs : List Loc) (ls : Array Slot), HI D cy s s0 st H locs 0 False True → lv_has ls 10 [(0, .ref h), (1, .int v1), (2, .int v2), (3, .int v3), (4, .int v4), (5, .int v5), (6, .int v6), (7, .int v7), (8, .int v8), (9, .int v9)] → (iter (fun x : (Int32 × Int32 × HSt) => fh_X11_whatever_s81 h v1 v2 v3 v4 v5 v6 v7 x.1 x.2.1 x.2.2) n (v8, v9, st)).bind (fun x => ((Sum.elim (fun o : HSt × Int32 => (some o : Option (HSt × Int32))) (fun x : (Int32 × Int32 × HSt) => fh_X11_whatever_j140 h x.1 x.2.2)) x).bind K0) = some out → W p l e (headSpec wsX11_whatever { frames := 6, cells := 0, slots := 0, locals := 170 }).room s m (([.ref h, .int a1, .int a2, .int a3, .int a4, .int a5, .int a6] : List Value).toArray) below meth c H locs 0 0 (MQ below (HQi D cy s0 0 True out) ([.ref h, .int a1, .int a2, .int a3, .int a4, .int a5, .int a6] : List Value).toArray s 0 0 (hF s0)) (F0 m 81 ls []) := by
    intro v1 v2 v3 v4 v5 v6 v7 n
    induction n with
    | zero => intro v8 v9 st H locs ls hI hl hf; exact (iter_0 hf).elim
    | succ n ih =>
      intro v8 v9 st H locs ls hI hl hf
      obtain ⟨K1, hK1, hf⟩ := iter_e hf
      replace hf : (fh_X11_whatever_s81 h v1 v2 v3 v4 v5 v6 v7 v8 v9 st).bind K1 = some out := hf
      unfold fh_X11_whatever_s81 at hf
      refine lv_iload hx hb dX11_whatever_81 (lv_at hl 9 rfl) ?_
      refine lv_iload hx hb dX11_whatever_83 (lv_at hl 7 rfl) ?_
      refine lv_icmp_ge (tgt := 140) hx hb dX11_whatever_85 (by decide) (fun c17 => ?_) (fun c17 => ?_)
      · replace hf := ifp c17 hf
        replace hf := exit_b hK1 hf
        exact B_140 v8 st H locs ls hI (lv_sub hl [8] rfl) hf
      · replace hf := ifn c17 hf
        refine lv_aload_n hx hb dX11_whatever_88 rfl (lv_at hl 0 rfl) ?_
        obtain ⟨k18, hf⟩ := chk_b hf
        refine hg_11_9 hx hb hts hin_X11 hown kl_56 hI (isk_k k18) dX11_whatever_89 ?_
        refine lv_iload hx hb dX11_whatever_92 (lv_at hl 4 rfl) ?_
        refine lv_iload hx hb dX11_whatever_94 (lv_at hl 9 rfl) ?_
        refine lv_iload hx hb dX11_whatever_96 (lv_at hl 5 rfl) ?_
        refine lv_iload hx hb dX11_whatever_98 (lv_at hl 6 rfl) ?_
        obtain ⟨b19, hd20, hf⟩ := bnd_b hf
        obtain ⟨hq21, hk22⟩ := dr_e hd20
        refine W.eq (g2 := F0 m 100 ls [.int v6, .int v5, .int v9, .int v4, .ref b19]) (by rw [hq21]; rfl) ?_
        obtain ⟨x23, hc24, hf⟩ := bnd_b hf
        refine hcall_Vv (ex2 := True) (As := [.int v4, .int v9, .int v5, .int v6]) (rest := []) (n := 4) (by rw [hk22]; decide) (hC_1 hk22) rfl ⟨hx, hb, hml, hown, hts⟩ (ch_X0_tellRow l D cy b19 v4 v9 v5 v6 st x23 hc24) (cwV 4 hts gX11_whatever_X0_tellRow rfl rfl rfl ⟨rfl, nd_X0_tellRow⟩ ⟨Nat.le_of_ble_eq_true rfl, Nat.le_of_ble_eq_true rfl⟩) hI (fun h => h.elim) (fun _ => ⟨trivial, trivial⟩) rfl hl.1 (Nat.le_of_ble_eq_true rfl) dX11_whatever_100 ⟨Nat.le_of_ble_eq_true rfl, Nat.le_of_ble_eq_true rfl⟩ (fun H locs hI => ?_)
        refine lv_aload_n hx hb dX11_whatever_103 rfl (lv_at hl 0 rfl) ?_
        obtain ⟨k25, hf⟩ := chk_b hf
        refine hg_11_9 hx hb hts hin_X11 hown kl_56 hI (isk_k k25) dX11_whatever_104 ?_
        refine lv_aload_n hx hb dX11_whatever_107 rfl (lv_at hl 0 rfl) ?_
        refine hg_11_4 hx hb hts hin_X11 hown kl_22 hI (isk_k k25) dX11_whatever_108 ?_
        refine lv_aload_n hx hb dX11_whatever_111 rfl (lv_at hl 0 rfl) ?_
        refine lv_iload_n hx hb dX11_whatever_112 rfl (lv_at hl 1 rfl) ?_
        obtain ⟨x26, hc27, hf⟩ := bnd_b hf
        refine hcall_Vq (ex2 := True) (As := [.int v1]) (rest := [va_rf (gR x23 1104 h), va_rf (gR x23 1109 h)]) (n := 1) (by rw [(isk_k k25)]; decide) (hC_12 (isk_k k25)) rfl ⟨hx, hb, hml, hown, hts⟩ (ch_X11_ruleOf l D cy h v1 x23 x26 hc27) (cwV 1 hts gX11_whatever_X11_ruleOf rfl rfl rfl ⟨rfl, nd_X11_ruleOf⟩ ⟨Nat.le_of_ble_eq_true rfl, Nat.le_of_ble_eq_true rfl⟩) hI (fun h => h.elim) (fun _ => ⟨trivial, trivial⟩) rfl hl.1 (by simp [cat_rf, cat_i, cat_l, cat_r]) dX11_whatever_113 ⟨Nat.le_of_ble_eq_true rfl, Nat.le_of_ble_eq_true rfl⟩ (fun H locs hI => ?_)
        refine lv_aload_n hx hb dX11_whatever_116 rfl (lv_at hl 0 rfl) ?_
        refine lv_iload_n hx hb dX11_whatever_117 rfl (lv_at hl 2 rfl) ?_
        obtain ⟨k28, hf⟩ := chk_b hf
        obtain ⟨x29, hc30, hf⟩ := bnd_b hf
        refine hcall_Vq (ex2 := True) (As := [.int v2]) (rest := [va_rf x26.2, va_rf (gR x23 1104 h), va_rf (gR x23 1109 h)]) (n := 1) (by rw [(isk_k k28)]; decide) (hC_12 (isk_k k28)) rfl ⟨hx, hb, hml, hown, hts⟩ (ch_X11_ruleOf l D cy h v2 x26.1 x29 hc30) (cwV 1 hts gX11_whatever_X11_ruleOf rfl rfl rfl ⟨rfl, nd_X11_ruleOf⟩ ⟨Nat.le_of_ble_eq_true rfl, Nat.le_of_ble_eq_true rfl⟩) hI (fun h => h.elim) (fun _ => ⟨trivial, trivial⟩) rfl hl.1 (by simp [cat_rf, cat_i, cat_l, cat_r]) dX11_whatever_118 ⟨Nat.le_of_ble_eq_true rfl, Nat.le_of_ble_eq_true rfl⟩ (fun H locs hI => ?_)
        refine lv_iload_n hx hb dX11_whatever_121 rfl (lv_at hl 3 rfl) ?_
        obtain ⟨b31, hd32, hf⟩ := bnd_b hf
        obtain ⟨hq33, hk34⟩ := dr_e hd32
        refine W.eq (g2 := F0 m 122 ls [.int v3, va_rf x29.2, va_rf x26.2, va_rf (gR x23 1104 h), .ref b31]) (by rw [hq33]; rfl) ?_
        obtain ⟨x35, hc36, hf⟩ := bnd_b hf
        refine hcall_Vq (ex2 := True) (As := [va_rf (gR x23 1104 h), va_rf x26.2, va_rf x29.2, .int v3]) (rest := []) (n := 4) (by rw [hk34]; decide) (hC_1 hk34) rfl ⟨hx, hb, hml, hown, hts⟩ (ch_X0_spanByRow l D cy b31 (gR x23 1104 h) x26.2 x29.2 v3 x29.1 x35 hc36) (cwV 4 hts gX11_whatever_X0_spanByRow rfl rfl rfl ⟨rfl, nd_X0_spanByRow⟩ ⟨Nat.le_of_ble_eq_true rfl, Nat.le_of_ble_eq_true rfl⟩) hI (fun h => h.elim) (fun _ => ⟨trivial, trivial⟩) rfl hl.1 (Nat.le_of_ble_eq_true rfl) dX11_whatever_122 ⟨Nat.le_of_ble_eq_true rfl, Nat.le_of_ble_eq_true rfl⟩ (fun H locs hI => ?_)
        obtain ⟨b37, hd38, hf⟩ := bnd_b hf
        obtain ⟨hq39, hk40⟩ := dr_e hd38
        refine W.eq (g2 := F0 m 125 ls [.ref b37]) (by rw [hq39]; rfl) ?_
        obtain ⟨x41, hc42, hf⟩ := bnd_b hf
        refine hcall_Vi (ex2 := True) (As := []) (rest := []) (n := 0) (by rw [hk40]; decide) (hC_10 hk40) rfl ⟨hx, hb, hml, hown, hts⟩ (ch_X9_isInTime l D cy b37 x35.1 x41 hc42) (cwV 0 hts gX11_whatever_X9_isInTime rfl rfl rfl ⟨rfl, nd_X9_isInTime⟩ ⟨Nat.le_of_ble_eq_true rfl, Nat.le_of_ble_eq_true rfl⟩) hI (fun h => h.elim) (fun _ => ⟨trivial, trivial⟩) rfl hl.1 (Nat.le_of_ble_eq_true rfl) dX11_whatever_125 ⟨Nat.le_of_ble_eq_true rfl, Nat.le_of_ble_eq_true rfl⟩ (fun H locs hI => ?_)
        refine lv_if_eq (tgt := 134) hx hb dX11_whatever_128 (by decide) (fun c43 => ?_) (fun c43 => ?_)
        · replace hf := ifp c43 hf
          refine lv_iinc (v := (v9 + 1)) (lv' := [(9, .int (v9 + 1)), (0, .ref h), (1, .int v1), (2, .int v2), (3, .int v3), (4, .int v4), (5, .int v5), (6, .int v6), (7, .int v7), (8, .int v8)]) hx hb dX11_whatever_134 hl (k := 9) rfl (ci_ _ (by decide)) (by decide) rfl (fun ls hl => ?_)
          refine lv_goto (tgt := 81) hx hb dX11_whatever_137 (by decide) ?_
          replace hf := cont_b hK1 hf
          exact ih v8 (v9 + 1) x41.1 H locs ls hI (lv_sub hl [1, 2, 3, 4, 5, 6, 7, 8, 9, 0] rfl) hf
        · replace hf := ifn c43 hf
          refine lv_iinc (v := (v8 + 1)) (lv' := [(8, .int (v8 + 1)), (0, .ref h), (1, .int v1), (2, .int v2), (3, .int v3), (4, .int v4), (5, .int v5), (6, .int v6), (7, .int v7), (9, .int v9)]) hx hb dX11_whatever_131 hl (k := 8) rfl (ci_ _ (by decide)) (by decide) rfl (fun ls hl => ?_)
          refine lv_iinc (v := (v9 + 1)) (lv' := [(9, .int (v9 + 1)), (8, .int (v8 + 1)), (0, .ref h), (1, .int v1), (2, .int v2), (3, .int v3), (4, .int v4), (5, .int v5), (6, .int v6), (7, .int v7)]) hx hb dX11_whatever_134 hl (k := 9) rfl (ci_ _ (by decide)) (by decide) rfl (fun ls hl => ?_)
          refine lv_goto (tgt := 81) hx hb dX11_whatever_137 (by decide) ?_
          replace hf := cont_b hK1 hf
          exact ih (v8 + 1) (v9 + 1) x41.1 H locs ls hI (lv_sub hl [2, 3, 4, 5, 6, 7, 8, 9, 1, 0] rfl) hf
  have B_75 : ∀ (v1 : Int32) (v2 : Int32) (v3 : Int32) (v4 : Int32) (v5 : Int32) (v6 : Int32) (v7 : Int32)  (st : HSt) (H : Heap) (locs : List Loc) (ls : Array Slot), HI D cy s s0 st H locs 0 False True → lv_has ls 10 [(0, .ref h), (1, .int v1), (2, .int v2), (3, .int v3), (4, .int v4), (5, .int v5), (6, .int v6), (7, .int v7)] → (fh_X11_whatever_j75 h v1 v2 v3 v4 v5 v6 v7 st).bind K0 = some out → W p l e (headSpec wsX11_whatever { frames := 6, cells := 0, slots := 0, locals := 170 }).room s m (([.ref h, .int a1, .int a2, .int a3, .int a4, .int a5, .int a6] : List Value).toArray) below meth c H locs 0 0 (MQ below (HQi D cy s0 0 True out) ([.ref h, .int a1, .int a2, .int a3, .int a4, .int a5, .int a6] : List Value).toArray s 0 0 (hF s0)) (F0 m 75 ls []) := by
    intro v1 v2 v3 v4 v5 v6 v7 st H locs ls hI hl hf
    unfold fh_X11_whatever_j75 at hf
    refine lv_iconst (v := 0) hx hb dX11_whatever_75 (by decide) ?_
    refine lv_istore (lv' := [(8, .int (0 : Int32)), (0, .ref h), (1, .int v1), (2, .int v2), (3, .int v3), (4, .int v4), (5, .int v5), (6, .int v6), (7, .int v7)]) hx hb dX11_whatever_76 hl (by decide) rfl (fun ls hl => ?_)
    refine lv_iconst (v := 0) hx hb dX11_whatever_78 (by decide) ?_
    refine lv_istore (lv' := [(9, .int (0 : Int32)), (8, .int (0 : Int32)), (0, .ref h), (1, .int v1), (2, .int v2), (3, .int v3), (4, .int v4), (5, .int v5), (6, .int v6), (7, .int v7)]) hx hb dX11_whatever_79 hl (by decide) rfl (fun ls hl => ?_)
    exact L_81 v1 v2 v3 v4 v5 v6 v7 mFuel (0 : Int32) (0 : Int32) st H locs ls hI (lv_sub hl [2, 3, 4, 5, 6, 7, 8, 9, 1, 0] rfl) (asc_b hf)
  have L_56 : ∀ (v1 : Int32) (v2 : Int32) (v3 : Int32) (v4 : Int32) (v5 : Int32) (v6 : Int32) (n : Nat) (v7 : Int32) (v8 : Int32) (st : HSt) (H : Heap) (locs : List Loc) (ls : Array Slot), HI D cy s s0 st H locs 0 False True → lv_has ls 10 [(0, .ref h), (1, .int v1), (2, .int v2), (3, .int v3), (4, .int v4), (5, .int v5), (6, .int v6), (7, .int v7), (8, .int v8)] → (iter (fun x : (Int32 × Int32 × HSt) => fh_X11_whatever_s56 h v1 v2 v3 v4 v5 v6 x.1 x.2.1 x.2.2) n (v7, v8, st)).bind (fun x => ((Sum.elim (fun o : HSt × Int32 => (some o : Option (HSt × Int32))) (fun x : (Int32 × Int32 × HSt) => fh_X11_whatever_j75 h v1 v2 v3 v4 v5 v6 x.1 x.2.2)) x).bind K0) = some out → W p l e (headSpec wsX11_whatever { frames := 6, cells := 0, slots := 0, locals := 170 }).room s m (([.ref h, .int a1, .int a2, .int a3, .int a4, .int a5, .int a6] : List Value).toArray) below meth c H locs 0 0 (MQ below (HQi D cy s0 0 True out) ([.ref h, .int a1, .int a2, .int a3, .int a4, .int a5, .int a6] : List Value).toArray s 0 0 (hF s0)) (F0 m 56 ls []) := by
    intro v1 v2 v3 v4 v5 v6 n
    induction n with
    | zero => intro v7 v8 st H locs ls hI hl hf; exact (iter_0 hf).elim
    | succ n ih =>
      intro v7 v8 st H locs ls hI hl hf
      obtain ⟨K1, hK1, hf⟩ := iter_e hf
      replace hf : (fh_X11_whatever_s56 h v1 v2 v3 v4 v5 v6 v7 v8 st).bind K1 = some out := hf
      unfold fh_X11_whatever_s56 at hf
      refine lv_iload hx hb dX11_whatever_56 (lv_at hl 8 rfl) ?_
      refine lv_iload hx hb dX11_whatever_58 (lv_at hl 5 rfl) ?_
      refine lv_icmp_ge (tgt := 75) hx hb dX11_whatever_60 (by decide) (fun c44 => ?_) (fun c44 => ?_)
      · replace hf := ifp c44 hf
        replace hf := exit_b hK1 hf
        exact B_75 v1 v2 v3 v4 v5 v6 v7 st H locs ls hI (lv_sub hl [0, 1, 2, 3, 4, 5, 6, 7] rfl) hf
      · replace hf := ifn c44 hf
        refine lv_iload hx hb dX11_whatever_63 (lv_at hl 7 rfl) ?_
        refine lv_iconst (v := 3) hx hb dX11_whatever_65 (by decide) ?_
        refine lv_imul hx hb dX11_whatever_66 ?_
        refine lv_istore (lv' := [(7, .int (v7 * (3 : Int32))), (0, .ref h), (1, .int v1), (2, .int v2), (3, .int v3), (4, .int v4), (5, .int v5), (6, .int v6), (8, .int v8)]) hx hb dX11_whatever_67 hl (by decide) rfl (fun ls hl => ?_)
        refine lv_iinc (v := (v8 + 1)) (lv' := [(8, .int (v8 + 1)), (7, .int (v7 * (3 : Int32))), (0, .ref h), (1, .int v1), (2, .int v2), (3, .int v3), (4, .int v4), (5, .int v5), (6, .int v6)]) hx hb dX11_whatever_69 hl (k := 8) rfl (ci_ _ (by decide)) (by decide) rfl (fun ls hl => ?_)
        refine lv_goto (tgt := 56) hx hb dX11_whatever_72 (by decide) ?_
        replace hf := cont_b hK1 hf
        exact ih (v7 * (3 : Int32)) (v8 + 1) st H locs ls hI (lv_sub hl [2, 3, 4, 5, 6, 7, 8, 1, 0] rfl) hf
  unfold fh_X11_whatever at hf
  refine lv_aload_n hx hb dX11_whatever_0 rfl (lv_at hl 0 rfl) ?_
  refine lv_iload_n hx hb dX11_whatever_1 rfl (lv_at hl 1 rfl) ?_
  refine lv_iload_n hx hb dX11_whatever_2 rfl (lv_at hl 2 rfl) ?_
  obtain ⟨k1, hf⟩ := chk_b hf
  obtain ⟨x2, hc3, hf⟩ := bnd_b hf
  refine hcall_Vi (ex2 := True) (As := [.int a1, .int a2]) (rest := []) (n := 2) (by rw [(isk_k k1)]; decide) (hC_12 (isk_k k1)) rfl ⟨hx, hb, hml, hown, hts⟩ (ch_X11_areRulesAtRiver l D cy h a1 a2 s0 x2 hc3) (cwV 2 hts gX11_whatever_X11_areRulesAtRiver rfl rfl rfl ⟨rfl, nd_X11_areRulesAtRiver⟩ ⟨Nat.le_of_ble_eq_true rfl, Nat.le_of_ble_eq_true rfl⟩) hI (fun h => h.elim) (fun _ => ⟨trivial, trivial⟩) rfl hl.1 (Nat.le_of_ble_eq_true rfl) dX11_whatever_3 ⟨Nat.le_of_ble_eq_true rfl, Nat.le_of_ble_eq_true rfl⟩ (fun H locs hI => ?_)
  refine lv_if_eq (tgt := 48) hx hb dX11_whatever_6 (by decide) (fun c4 => ?_) (fun c4 => ?_)
  · replace hf := ifp c4 hf
    refine lv_iconst (v := -1) hx hb dX11_whatever_48 (by decide) ?_
    exact hret_i hx hb hr hlocks hI (by decide) (by decide) (fun _ => ⟨trivial, rfl⟩) (ret_e hK0 hf) dX11_whatever_49
  · replace hf := ifn c4 hf
    refine lv_iload_n hx hb dX11_whatever_9 rfl (lv_at hl 3 rfl) ?_
    refine lv_iconst (v := 0) hx hb dX11_whatever_10 (by decide) ?_
    refine lv_bipush (v := 60) hx hb dX11_whatever_11 (by decide) ?_
    obtain ⟨x5, hc6, hf⟩ := bnd_b hf
    refine hcall_Si (ex2 := True) (As := [.int a3, .int (0 : Int32), .int (60 : Int32)]) (rest := []) (n := 3) ⟨hx, hb, hml, hown, hts⟩ (ch_X11_isWithin l D cy a3 (0 : Int32) (60 : Int32) x2.1 x5 hc6) (va_cwS 3 hts gX11_whatever_X11_isWithin rfl rfl rfl nd_X11_isWithin ⟨Nat.le_of_ble_eq_true rfl, Nat.le_of_ble_eq_true rfl⟩) hI (fun h => h.elim) (fun _ => ⟨trivial, trivial⟩) rfl hl.1 (Nat.le_of_ble_eq_true rfl) dX11_whatever_13 ⟨Nat.le_of_ble_eq_true rfl, Nat.le_of_ble_eq_true rfl⟩ (fun H locs hI => ?_)
    refine lv_if_eq (tgt := 48) hx hb dX11_whatever_16 (by decide) (fun c7 => ?_) (fun c7 => ?_)
    · replace hf := ifp c7 hf
      refine lv_iconst (v := -1) hx hb dX11_whatever_48 (by decide) ?_
      exact hret_i hx hb hr hlocks hI (by decide) (by decide) (fun _ => ⟨trivial, rfl⟩) (ret_e hK0 hf) dX11_whatever_49
    · replace hf := ifn c7 hf
      refine lv_iload hx hb dX11_whatever_19 (lv_at hl 4 rfl) ?_
      obtain ⟨x8, hc9, hf⟩ := bnd_b hf
      refine hcall_Si (ex2 := True) (As := [.int a4]) (rest := []) (n := 1) ⟨hx, hb, hml, hown, hts⟩ (ch_X11_isSide l D cy a4 x5.1 x8 hc9) (va_cwS 1 hts gX11_whatever_X11_isSide rfl rfl rfl nd_X11_isSide ⟨Nat.le_of_ble_eq_true rfl, Nat.le_of_ble_eq_true rfl⟩) hI (fun h => h.elim) (fun _ => ⟨trivial, trivial⟩) rfl hl.1 (Nat.le_of_ble_eq_true rfl) dX11_whatever_21 ⟨Nat.le_of_ble_eq_true rfl, Nat.le_of_ble_eq_true rfl⟩ (fun H locs hI => ?_)
      refine lv_if_eq (tgt := 48) hx hb dX11_whatever_24 (by decide) (fun c10 => ?_) (fun c10 => ?_)
      · replace hf := ifp c10 hf
        refine lv_iconst (v := -1) hx hb dX11_whatever_48 (by decide) ?_
        exact hret_i hx hb hr hlocks hI (by decide) (by decide) (fun _ => ⟨trivial, rfl⟩) (ret_e hK0 hf) dX11_whatever_49
      · replace hf := ifn c10 hf
        refine lv_iload hx hb dX11_whatever_27 (lv_at hl 5 rfl) ?_
        refine lv_iconst (v := 0) hx hb dX11_whatever_29 (by decide) ?_
        refine lv_iconst (v := 3) hx hb dX11_whatever_30 (by decide) ?_
        obtain ⟨x11, hc12, hf⟩ := bnd_b hf
        refine hcall_Si (ex2 := True) (As := [.int a5, .int (0 : Int32), .int (3 : Int32)]) (rest := []) (n := 3) ⟨hx, hb, hml, hown, hts⟩ (ch_X11_isWithin l D cy a5 (0 : Int32) (3 : Int32) x8.1 x11 hc12) (va_cwS 3 hts gX11_whatever_X11_isWithin rfl rfl rfl nd_X11_isWithin ⟨Nat.le_of_ble_eq_true rfl, Nat.le_of_ble_eq_true rfl⟩) hI (fun h => h.elim) (fun _ => ⟨trivial, trivial⟩) rfl hl.1 (Nat.le_of_ble_eq_true rfl) dX11_whatever_31 ⟨Nat.le_of_ble_eq_true rfl, Nat.le_of_ble_eq_true rfl⟩ (fun H locs hI => ?_)
        refine lv_if_eq (tgt := 48) hx hb dX11_whatever_34 (by decide) (fun c13 => ?_) (fun c13 => ?_)
        · replace hf := ifp c13 hf
          refine lv_iconst (v := -1) hx hb dX11_whatever_48 (by decide) ?_
          exact hret_i hx hb hr hlocks hI (by decide) (by decide) (fun _ => ⟨trivial, rfl⟩) (ret_e hK0 hf) dX11_whatever_49
        · replace hf := ifn c13 hf
          refine lv_iload hx hb dX11_whatever_37 (lv_at hl 6 rfl) ?_
          refine lv_iconst (v := 1) hx hb dX11_whatever_39 (by decide) ?_
          refine lv_bipush (v := 9) hx hb dX11_whatever_40 (by decide) ?_
          obtain ⟨x14, hc15, hf⟩ := bnd_b hf
          refine hcall_Si (ex2 := True) (As := [.int a6, .int (1 : Int32), .int (9 : Int32)]) (rest := []) (n := 3) ⟨hx, hb, hml, hown, hts⟩ (ch_X11_isWithin l D cy a6 (1 : Int32) (9 : Int32) x11.1 x14 hc15) (va_cwS 3 hts gX11_whatever_X11_isWithin rfl rfl rfl nd_X11_isWithin ⟨Nat.le_of_ble_eq_true rfl, Nat.le_of_ble_eq_true rfl⟩) hI (fun h => h.elim) (fun _ => ⟨trivial, trivial⟩) rfl hl.1 (Nat.le_of_ble_eq_true rfl) dX11_whatever_42 ⟨Nat.le_of_ble_eq_true rfl, Nat.le_of_ble_eq_true rfl⟩ (fun H locs hI => ?_)
          refine lv_if_ne (tgt := 50) hx hb dX11_whatever_45 (by decide) (fun c16 => ?_) (fun c16 => ?_)
          · replace hf := ifn c16 hf
            refine lv_iconst (v := 1) hx hb dX11_whatever_50 (by decide) ?_
            refine lv_istore (lv' := [(7, .int (1 : Int32)), (0, .ref h), (1, .int a1), (2, .int a2), (3, .int a3), (4, .int a4), (5, .int a5), (6, .int a6)]) hx hb dX11_whatever_51 hl (by decide) rfl (fun ls hl => ?_)
            refine lv_iconst (v := 0) hx hb dX11_whatever_53 (by decide) ?_
            refine lv_istore (lv' := [(8, .int (0 : Int32)), (7, .int (1 : Int32)), (0, .ref h), (1, .int a1), (2, .int a2), (3, .int a3), (4, .int a4), (5, .int a5), (6, .int a6)]) hx hb dX11_whatever_54 hl (by decide) rfl (fun ls hl => ?_)
            exact L_56 a1 a2 a3 a4 a5 a6 mFuel (1 : Int32) (0 : Int32) x14.1 H locs ls hI (lv_sub hl [2, 3, 4, 5, 6, 7, 8, 1, 0] rfl) (asc_b hf)
          · replace hf := ifp c16 hf
            refine lv_iconst (v := -1) hx hb dX11_whatever_48 (by decide) ?_
            exact hret_i hx hb hr hlocks hI (by decide) (by decide) (fun _ => ⟨trivial, rfl⟩) (ret_e hK0 hf) dX11_whatever_49

theorem nd_X11_yard : yX11_yard.cls ≠ "java/lang/invoke/MethodHandle" ∧ yX11_yard.cls ≠ "java/lang/invoke/VarHandle" ∧ (parseMethodDescriptor yX11_yard.desc).map (fun d => d.parameters.length) = some 3 := by decide +kernel
set_option maxHeartbeats 4000000 in
set_option maxRecDepth 100000 in
theorem ch_X11_yard (l : Launch) (D : va_G) (cy : Nat → ClassId) (h : Nat) (a1 : Int32) (a2 : Int32) (a3 : Int32) (s0 : HSt) (out : HSt × Int32) (hf : fh_X11_yard h a1 a2 a3 s0 = some out) : CHi l D cy yX11_yard wsX11_yard { frames := 1, cells := 0, slots := 0, locals := 22 } 0 0 False True [.ref h, .int a1, .int a2, .int a3] s0 out := by
  refine Met.ofW (cc := cX11_yard) (maxL := 5) (ret := (some .int)) (by decide) rfl ?_
  intro p e s m args below meth c s₁ B hml hv
  obtain ⟨rfl, hP, hK, hD0, hkx, hsz, hal⟩ := hv
  have hx := B.exec
  have hb := B.bytes
  have hr := B.returns
  have hts := atoms_spec (ws := wsX11_yard) B.pre
  have hown : s.vm.findClass RX11 = some m.cls := findClass_of_methodNamed B.named
  have hlocks := B.notSynchronized
  have hI : HI D cy s s0 s0 s.heap [] 0 False True := ⟨hK, hP, hD0.weaken (fun k q hk _ => Or.inl (pl_mem hk)), va_S.rf, hsz.1, hkx, ⟨hsz, hal⟩, fun _ => rfl, Nat.le_refl _⟩
  have hin_X11 : ∀ w ∈ u_ws RX11 TX11 10, w ∈ wsX11_yard := fun w hw => List.mem_cons_of_mem _ (List.mem_append_left _ (List.mem_append_left _ (List.mem_append_left _ (List.mem_append_right _ hw))))
  have hin_X8 : ∀ w ∈ u_ws RX8 TX8 5, w ∈ wsX11_yard := fun w hw => List.mem_cons_of_mem _ (List.mem_append_left _ (List.mem_append_left _ (List.mem_append_right _ hw)))
  have kl_22 : Cond.fieldLink RX11 22 "HalfBridge" "site" "LHalfBridge$Site;" ∈ wsX11_yard := by decide +kernel
  have kl_93 : Cond.fieldLink RX11 93 "HalfBridge$Site" "span" "LHalfBridge$Span;" ∈ wsX11_yard := by decide +kernel
  have hl := lv_entry ([.ref h, .int a1, .int a2, .int a3]) (n := 5) (Nat.le_of_ble_eq_true rfl)
  rw [lg_entry_eq]
  generalize (lg_sl ([.ref h, .int a1, .int a2, .int a3]) ++ List.replicate (5 - (lg_sl ([.ref h, .int a1, .int a2, .int a3])).length) Slot.unset).toArray = ls at hl ⊢
  have hl : lv_has ls 5 [(0, .ref h), (1, .int a1), (2, .int a2), (3, .int a3)] := hl
  obtain ⟨K0, hK0, hf⟩ := top_e hf
  unfold fh_X11_yard at hf
  refine lv_aload_n hx hb dX11_yard_0 rfl (lv_at hl 0 rfl) ?_
  obtain ⟨k1, hf⟩ := chk_b hf
  refine hg_11_4 hx hb hts hin_X11 hown kl_22 hI (isk_k k1) dX11_yard_1 ?_
  obtain ⟨b2, hd3, hf⟩ := bnd_b hf
  obtain ⟨hq4, hk5⟩ := dr_e hd3
  refine W.eq (g2 := F0 m 4 ls [.ref b2]) (by rw [hq4]; rfl) ?_
  refine hg_8_0 hx hb hts hin_X8 hown kl_93 hI hk5 dX11_yard_4 ?_
  refine hq_astore (lv' := [(4, va_rf (gR s0 800 b2)), (0, .ref h), (1, .int a1), (2, .int a2), (3, .int a3)]) hx hb dX11_yard_7 hl (by decide) (by first | rfl | (simp [cat_rf, cat_i, cat_l, cat_r]; done) | (simp [cat_rf, cat_i, cat_l, cat_r]; decide)) (fun ls hl => ?_)
  refine lv_iload_n hx hb dX11_yard_9 rfl (lv_at hl 2 rfl) ?_
  obtain ⟨x6, hc7, hf⟩ := bnd_b hf
  refine hcall_Si (ex2 := True) (As := [.int a1]) (rest := []) (n := 1) ⟨hx, hb, hml, hown, hts⟩ (ch_X11_isSide l D cy a1 s0 x6 hc7) (va_cwS 1 hts gX11_yard_X11_isSide rfl rfl rfl nd_X11_isSide ⟨Nat.le_of_ble_eq_true rfl, Nat.le_of_ble_eq_true rfl⟩) hI (fun h => h.elim) (fun _ => ⟨trivial, trivial⟩) rfl hl.1 (Nat.le_of_ble_eq_true rfl) dX11_yard_10 ⟨Nat.le_of_ble_eq_true rfl, Nat.le_of_ble_eq_true rfl⟩ (fun H locs hI => ?_)
  refine lv_if_eq (tgt := 30) hx hb dX11_yard_13 (by decide) (fun c8 => ?_) (fun c8 => ?_)
  · replace hf := ifp c8 hf
    refine lv_ldc (v := -100000) hx hb hown (hts (.constant RX11 107 (-100000)) (by decide +kernel)) dX11_yard_30 ?_
    exact hret_i hx hb hr hlocks hI (by decide) (by decide) (fun _ => ⟨trivial, rfl⟩) (ret_e hK0 hf) dX11_yard_32
  · replace hf := ifn c8 hf
    refine lv_iload_n hx hb dX11_yard_16 rfl (lv_at hl 3 rfl) ?_
    refine lv_if_lt (tgt := 30) hx hb dX11_yard_17 (by decide) (fun c9 => ?_) (fun c9 => ?_)
    · replace hf := ifp c9 hf
      refine lv_ldc (v := -100000) hx hb hown (hts (.constant RX11 107 (-100000)) (by decide +kernel)) dX11_yard_30 ?_
      exact hret_i hx hb hr hlocks hI (by decide) (by decide) (fun _ => ⟨trivial, rfl⟩) (ret_e hK0 hf) dX11_yard_32
    · replace hf := ifn c9 hf
      refine lv_iload_n hx hb dX11_yard_20 rfl (lv_at hl 3 rfl) ?_
      refine hq_aload hx hb dX11_yard_21 (lv_at hl 0 rfl) ?_
      refine lv_iload_n hx hb dX11_yard_23 rfl (lv_at hl 2 rfl) ?_
      obtain ⟨b10, hd11, hf⟩ := bnd_b hf
      obtain ⟨hq12, hk13⟩ := dr_e hd11
      refine W.eq (g2 := F0 m 24 ls [.int a1, .ref b10, .int a2]) (by rw [hq12]; rfl) ?_
      obtain ⟨x14, hc15, hf⟩ := bnd_b hf
      refine hcall_Vi (ex2 := True) (As := [.int a1]) (rest := [.int a2]) (n := 1) (by rw [hk13]; decide) (hC_10 hk13) rfl ⟨hx, hb, hml, hown, hts⟩ (ch_X9_yardsOf l D cy b10 a1 x6.1 x14 hc15) (cwV 1 hts gX11_yard_X9_yardsOf rfl rfl rfl ⟨rfl, nd_X9_yardsOf⟩ ⟨Nat.le_of_ble_eq_true rfl, Nat.le_of_ble_eq_true rfl⟩) hI (fun h => h.elim) (fun _ => ⟨trivial, trivial⟩) rfl hl.1 (Nat.le_of_ble_eq_true rfl) dX11_yard_24 ⟨Nat.le_of_ble_eq_true rfl, Nat.le_of_ble_eq_true rfl⟩ (fun H locs hI => ?_)
      refine lv_icmp_lt (tgt := 33) hx hb dX11_yard_27 (by decide) (fun c16 => ?_) (fun c16 => ?_)
      · replace hf := ifp c16 hf
        refine lv_iload_n hx hb dX11_yard_33 rfl (lv_at hl 4 rfl) ?_
        by_cases c17 : a3 = 0
        · replace hf := ifp c17 hf
          refine lv_tableIn (off := 30) (tgt := 64) hx hb dX11_yard_34 (by rw [c17]; decide) (by rw [c17]; decide) (by rw [c17]; rfl) (by decide) ?_
          refine hq_aload hx hb dX11_yard_64 (lv_at hl 0 rfl) ?_
          refine lv_iload_n hx hb dX11_yard_66 rfl (lv_at hl 2 rfl) ?_
          refine lv_iload_n hx hb dX11_yard_67 rfl (lv_at hl 3 rfl) ?_
          refine W.eq (g2 := F0 m 68 ls [.int a2, .int a1, .ref b10]) (by rw [hq12]; rfl) ?_
          obtain ⟨k21, hf⟩ := chk_b hf
          obtain ⟨x22, hc23, hf⟩ := bnd_b hf
          refine hcall_Vi (ex2 := True) (As := [.int a1, .int a2]) (rest := []) (n := 2) (by rw [(isk_k k21)]; decide) (hC_10 (isk_k k21)) rfl ⟨hx, hb, hml, hown, hts⟩ (ch_X9_lineAt l D cy b10 a1 a2 x14.1 x22 hc23) (cwV 2 hts gX11_yard_X9_lineAt rfl rfl rfl ⟨rfl, nd_X9_lineAt⟩ ⟨Nat.le_of_ble_eq_true rfl, Nat.le_of_ble_eq_true rfl⟩) hI (fun h => h.elim) (fun _ => ⟨trivial, trivial⟩) rfl hl.1 (Nat.le_of_ble_eq_true rfl) dX11_yard_68 ⟨Nat.le_of_ble_eq_true rfl, Nat.le_of_ble_eq_true rfl⟩ (fun H locs hI => ?_)
          exact hret_i hx hb hr hlocks hI (by decide) (by decide) (fun _ => ⟨trivial, rfl⟩) (ret_e hK0 hf) dX11_yard_71
        replace hf := ifn c17 hf
        by_cases c18 : a3 = 1
        · replace hf := ifp c18 hf
          refine lv_tableIn (off := 38) (tgt := 72) hx hb dX11_yard_34 (by rw [c18]; decide) (by rw [c18]; decide) (by rw [c18]; rfl) (by decide) ?_
          refine hq_aload hx hb dX11_yard_72 (lv_at hl 0 rfl) ?_
          refine lv_iload_n hx hb dX11_yard_74 rfl (lv_at hl 2 rfl) ?_
          refine lv_iload_n hx hb dX11_yard_75 rfl (lv_at hl 3 rfl) ?_
          refine W.eq (g2 := F0 m 76 ls [.int a2, .int a1, .ref b10]) (by rw [hq12]; rfl) ?_
          obtain ⟨k24, hf⟩ := chk_b hf
          obtain ⟨x25, hc26, hf⟩ := bnd_b hf
          refine hcall_Vi (ex2 := True) (As := [.int a1, .int a2]) (rest := []) (n := 2) (by rw [(isk_k k24)]; decide) (hC_10 (isk_k k24)) rfl ⟨hx, hb, hml, hown, hts⟩ (ch_X9_heightAt l D cy b10 a1 a2 x14.1 x25 hc26) (cwV 2 hts gX11_yard_X9_heightAt rfl rfl rfl ⟨rfl, nd_X9_heightAt⟩ ⟨Nat.le_of_ble_eq_true rfl, Nat.le_of_ble_eq_true rfl⟩) hI (fun h => h.elim) (fun _ => ⟨trivial, trivial⟩) rfl hl.1 (Nat.le_of_ble_eq_true rfl) dX11_yard_76 ⟨Nat.le_of_ble_eq_true rfl, Nat.le_of_ble_eq_true rfl⟩ (fun H locs hI => ?_)
          exact hret_i hx hb hr hlocks hI (by decide) (by decide) (fun _ => ⟨trivial, rfl⟩) (ret_e hK0 hf) dX11_yard_79
        replace hf := ifn c18 hf
        by_cases c19 : a3 = 2
        · replace hf := ifp c19 hf
          refine lv_tableIn (off := 46) (tgt := 80) hx hb dX11_yard_34 (by rw [c19]; decide) (by rw [c19]; decide) (by rw [c19]; rfl) (by decide) ?_
          refine hq_aload hx hb dX11_yard_80 (lv_at hl 0 rfl) ?_
          refine lv_iload_n hx hb dX11_yard_82 rfl (lv_at hl 2 rfl) ?_
          refine lv_iload_n hx hb dX11_yard_83 rfl (lv_at hl 3 rfl) ?_
          refine W.eq (g2 := F0 m 84 ls [.int a2, .int a1, .ref b10]) (by rw [hq12]; rfl) ?_
          obtain ⟨k27, hf⟩ := chk_b hf
          obtain ⟨x28, hc29, hf⟩ := bnd_b hf
          refine hcall_Vi (ex2 := True) (As := [.int a1, .int a2]) (rest := []) (n := 2) (by rw [(isk_k k27)]; decide) (hC_10 (isk_k k27)) rfl ⟨hx, hb, hml, hown, hts⟩ (ch_X9_lineAt l D cy b10 a1 a2 x14.1 x28 hc29) (cwV 2 hts gX11_yard_X9_lineAt rfl rfl rfl ⟨rfl, nd_X9_lineAt⟩ ⟨Nat.le_of_ble_eq_true rfl, Nat.le_of_ble_eq_true rfl⟩) hI (fun h => h.elim) (fun _ => ⟨trivial, trivial⟩) rfl hl.1 (Nat.le_of_ble_eq_true rfl) dX11_yard_84 ⟨Nat.le_of_ble_eq_true rfl, Nat.le_of_ble_eq_true rfl⟩ (fun H locs hI => ?_)
          refine hq_aload hx hb dX11_yard_87 (lv_at hl 0 rfl) ?_
          refine lv_iload_n hx hb dX11_yard_89 rfl (lv_at hl 2 rfl) ?_
          refine lv_iload_n hx hb dX11_yard_90 rfl (lv_at hl 3 rfl) ?_
          refine lv_iconst (v := 1) hx hb dX11_yard_91 (by decide) ?_
          refine lv_isub hx hb dX11_yard_92 ?_
          refine W.eq (g2 := F0 m 93 ls [.int (a2 - (1 : Int32)), .int a1, .ref b10, .int x28.2]) (by rw [hq12]; rfl) ?_
          obtain ⟨k30, hf⟩ := chk_b hf
          obtain ⟨x31, hc32, hf⟩ := bnd_b hf
          refine hcall_Vi (ex2 := True) (As := [.int a1, .int (a2 - (1 : Int32))]) (rest := [.int x28.2]) (n := 2) (by rw [(isk_k k30)]; decide) (hC_10 (isk_k k30)) rfl ⟨hx, hb, hml, hown, hts⟩ (ch_X9_lineAt l D cy b10 a1 (a2 - (1 : Int32)) x28.1 x31 hc32) (cwV 2 hts gX11_yard_X9_lineAt rfl rfl rfl ⟨rfl, nd_X9_lineAt⟩ ⟨Nat.le_of_ble_eq_true rfl, Nat.le_of_ble_eq_true rfl⟩) hI (fun h => h.elim) (fun _ => ⟨trivial, trivial⟩) rfl hl.1 (Nat.le_of_ble_eq_true rfl) dX11_yard_93 ⟨Nat.le_of_ble_eq_true rfl, Nat.le_of_ble_eq_true rfl⟩ (fun H locs hI => ?_)
          refine lv_isub hx hb dX11_yard_96 ?_
          exact hret_i hx hb hr hlocks hI (by decide) (by decide) (fun _ => ⟨trivial, rfl⟩) (ret_e hK0 hf) dX11_yard_97
        replace hf := ifn c19 hf
        by_cases c20 : a3 = 3
        · replace hf := ifp c20 hf
          refine lv_tableIn (off := 64) (tgt := 98) hx hb dX11_yard_34 (by rw [c20]; decide) (by rw [c20]; decide) (by rw [c20]; rfl) (by decide) ?_
          refine hq_aload hx hb dX11_yard_98 (lv_at hl 0 rfl) ?_
          refine lv_iload_n hx hb dX11_yard_100 rfl (lv_at hl 2 rfl) ?_
          refine lv_iload_n hx hb dX11_yard_101 rfl (lv_at hl 3 rfl) ?_
          refine W.eq (g2 := F0 m 102 ls [.int a2, .int a1, .ref b10]) (by rw [hq12]; rfl) ?_
          obtain ⟨k33, hf⟩ := chk_b hf
          obtain ⟨x34, hc35, hf⟩ := bnd_b hf
          refine hcall_Vi (ex2 := True) (As := [.int a1, .int a2]) (rest := []) (n := 2) (by rw [(isk_k k33)]; decide) (hC_10 (isk_k k33)) rfl ⟨hx, hb, hml, hown, hts⟩ (ch_X9_heightAt l D cy b10 a1 a2 x14.1 x34 hc35) (cwV 2 hts gX11_yard_X9_heightAt rfl rfl rfl ⟨rfl, nd_X9_heightAt⟩ ⟨Nat.le_of_ble_eq_true rfl, Nat.le_of_ble_eq_true rfl⟩) hI (fun h => h.elim) (fun _ => ⟨trivial, trivial⟩) rfl hl.1 (Nat.le_of_ble_eq_true rfl) dX11_yard_102 ⟨Nat.le_of_ble_eq_true rfl, Nat.le_of_ble_eq_true rfl⟩ (fun H locs hI => ?_)
          refine hq_aload hx hb dX11_yard_105 (lv_at hl 0 rfl) ?_
          refine lv_iload_n hx hb dX11_yard_107 rfl (lv_at hl 2 rfl) ?_
          refine lv_iload_n hx hb dX11_yard_108 rfl (lv_at hl 3 rfl) ?_
          refine lv_iconst (v := 1) hx hb dX11_yard_109 (by decide) ?_
          refine lv_isub hx hb dX11_yard_110 ?_
          refine W.eq (g2 := F0 m 111 ls [.int (a2 - (1 : Int32)), .int a1, .ref b10, .int x34.2]) (by rw [hq12]; rfl) ?_
          obtain ⟨k36, hf⟩ := chk_b hf
          obtain ⟨x37, hc38, hf⟩ := bnd_b hf
          refine hcall_Vi (ex2 := True) (As := [.int a1, .int (a2 - (1 : Int32))]) (rest := [.int x34.2]) (n := 2) (by rw [(isk_k k36)]; decide) (hC_10 (isk_k k36)) rfl ⟨hx, hb, hml, hown, hts⟩ (ch_X9_heightAt l D cy b10 a1 (a2 - (1 : Int32)) x34.1 x37 hc38) (cwV 2 hts gX11_yard_X9_heightAt rfl rfl rfl ⟨rfl, nd_X9_heightAt⟩ ⟨Nat.le_of_ble_eq_true rfl, Nat.le_of_ble_eq_true rfl⟩) hI (fun h => h.elim) (fun _ => ⟨trivial, trivial⟩) rfl hl.1 (Nat.le_of_ble_eq_true rfl) dX11_yard_111 ⟨Nat.le_of_ble_eq_true rfl, Nat.le_of_ble_eq_true rfl⟩ (fun H locs hI => ?_)
          refine lv_isub hx hb dX11_yard_114 ?_
          exact hret_i hx hb hr hlocks hI (by decide) (by decide) (fun _ => ⟨trivial, rfl⟩) (ret_e hK0 hf) dX11_yard_115
        replace hf := ifn c20 hf
        refine lv_tableOut (tgt := 116) hx hb dX11_yard_34 (tsw_out (fun k k1 k2 => ?_)) (by decide) ?_
        · rcases (show k = 0 ∨ k = 1 ∨ k = 2 ∨ k = 3 by omega) with rfl | rfl | rfl | rfl
          · exact c17
          · exact c18
          · exact c19
          · exact c20
        · refine lv_ldc (v := -100000) hx hb hown (hts (.constant RX11 107 (-100000)) (by decide +kernel)) dX11_yard_116 ?_
          exact hret_i hx hb hr hlocks hI (by decide) (by decide) (fun _ => ⟨trivial, rfl⟩) (ret_e hK0 hf) dX11_yard_118
      · replace hf := ifn c16 hf
        refine lv_ldc (v := -100000) hx hb hown (hts (.constant RX11 107 (-100000)) (by decide +kernel)) dX11_yard_30 ?_
        exact hret_i hx hb hr hlocks hI (by decide) (by decide) (fun _ => ⟨trivial, rfl⟩) (ret_e hK0 hf) dX11_yard_32
