theorem nd_X11_build : yX11_build.cls ≠ "java/lang/invoke/MethodHandle" ∧ yX11_build.cls ≠ "java/lang/invoke/VarHandle" ∧ (parseMethodDescriptor yX11_build.desc).map (fun d => d.parameters.length) = some 3 := by decide +kernel
set_option maxHeartbeats 4000000 in
set_option maxRecDepth 100000 in
theorem ch_X11_build (l : Launch) (D : va_G) (cy : Nat → ClassId) (h : Nat) (a1 : Int32) (a2 : Int32) (a3 : Int32) (s0 : HSt) (out : HSt × Int32) (hf : fh_X11_build h a1 a2 a3 s0 = some out) : CHi l D cy yX11_build wsX11_build { frames := 2, cells := 0, slots := 0, locals := 46 } 0 0 False True [.ref h, .int a1, .int a2, .int a3] s0 out := by
  refine Met.ofW (cc := cX11_build) (maxL := 5) (ret := (some .boolean)) (by decide) rfl ?_
  intro p e s m args below meth c s₁ B hml hv
  obtain ⟨rfl, hP, hK, hD0, hkx, hsz, hal⟩ := hv
  have hx := B.exec
  have hb := B.bytes
  have hr := B.returns
  have hts := atoms_spec (ws := wsX11_build) B.pre
  have hown : s.vm.findClass RX11 = some m.cls := findClass_of_methodNamed B.named
  have hlocks := B.notSynchronized
  have hI : HI D cy s s0 s0 s.heap [] 0 False True := ⟨hK, hP, hD0.weaken (fun k q hk _ => Or.inl (pl_mem hk)), va_S.rf, hsz.1, hkx, ⟨hsz, hal⟩, fun _ => rfl, Nat.le_refl _⟩
  have hin_X11 : ∀ w ∈ u_ws RX11 TX11 10, w ∈ wsX11_build := fun w hw => List.mem_cons_of_mem _ (List.mem_append_left _ (List.mem_append_left _ (List.mem_append_left _ (List.mem_append_right _ hw))))
  have hin_X4 : ∀ w ∈ u_ws RX4 TX4 9, w ∈ wsX11_build := fun w hw => List.mem_cons_of_mem _ (List.mem_append_right _ hw)
  have hin_X8 : ∀ w ∈ u_ws RX8 TX8 5, w ∈ wsX11_build := fun w hw => List.mem_cons_of_mem _ (List.mem_append_left _ (List.mem_append_left _ (List.mem_append_right _ hw)))
  have hin_X9 : ∀ w ∈ u_ws RX9 TX9 5, w ∈ wsX11_build := fun w hw => List.mem_cons_of_mem _ (List.mem_append_left _ (List.mem_append_right _ hw))
  have kl_22 : Cond.fieldLink RX11 22 "HalfBridge" "site" "LHalfBridge$Site;" ∈ wsX11_build := by decide +kernel
  have kl_93 : Cond.fieldLink RX11 93 "HalfBridge$Site" "span" "LHalfBridge$Span;" ∈ wsX11_build := by decide +kernel
  have kl_140 : Cond.fieldLink RX11 140 "HalfBridge$Span" "river" "LHalfBridge$River;" ∈ wsX11_build := by decide +kernel
  have kl_156 : Cond.fieldLink RX11 156 "HalfBridge$River" "step" "I" ∈ wsX11_build := by decide +kernel
  have hl := lv_entry ([.ref h, .int a1, .int a2, .int a3]) (n := 5) (Nat.le_of_ble_eq_true rfl)
  rw [lg_entry_eq]
  generalize (lg_sl ([.ref h, .int a1, .int a2, .int a3]) ++ List.replicate (5 - (lg_sl ([.ref h, .int a1, .int a2, .int a3])).length) Slot.unset).toArray = ls at hl ⊢
  have hl : lv_has ls 5 [(0, .ref h), (1, .int a1), (2, .int a2), (3, .int a3)] := hl
  obtain ⟨K0, hK0, hf⟩ := top_e hf
  unfold fh_X11_build at hf
  refine lv_aload_n hx hb dX11_build_0 rfl (lv_at hl 0 rfl) ?_
  obtain ⟨k1, hf⟩ := chk_b hf
  refine hg_11_4 hx hb hts hin_X11 hown kl_22 hI (isk_k k1) dX11_build_1 ?_
  obtain ⟨b2, hd3, hf⟩ := bnd_b hf
  obtain ⟨hq4, hk5⟩ := dr_e hd3
  refine W.eq (g2 := F0 m 4 ls [.ref b2]) (by rw [hq4]; rfl) ?_
  refine hg_8_0 hx hb hts hin_X8 hown kl_93 hI hk5 dX11_build_4 ?_
  obtain ⟨b6, hd7, hf⟩ := bnd_b hf
  obtain ⟨hq8, hk9⟩ := dr_e hd7
  refine W.eq (g2 := F0 m 7 ls [.ref b6]) (by rw [hq8]; rfl) ?_
  refine hg_9_0 hx hb hts hin_X9 hown kl_140 hI hk9 dX11_build_7 ?_
  obtain ⟨b10, hd11, hf⟩ := bnd_b hf
  obtain ⟨hq12, hk13⟩ := dr_e hd11
  refine W.eq (g2 := F0 m 10 ls [.ref b10]) (by rw [hq12]; rfl) ?_
  refine hg_4_1 hx hb hts hin_X4 hown kl_156 hI hk13 dX11_build_10 ?_
  refine lv_istore (lv' := [(4, .int (gI s0 401 b10)), (0, .ref h), (1, .int a1), (2, .int a2), (3, .int a3)]) hx hb dX11_build_13 hl (by decide) rfl (fun ls hl => ?_)
  refine lv_aload_n hx hb dX11_build_15 rfl (lv_at hl 1 rfl) ?_
  obtain ⟨x14, hc15, hf⟩ := bnd_b hf
  refine hcall_Vi (ex2 := True) (As := []) (rest := []) (n := 0) (by rw [(isk_k k1)]; decide) (hC_12 (isk_k k1)) rfl ⟨hx, hb, hml, hown, hts⟩ (ch_X11_hasRiver l D cy h s0 x14 hc15) (cwV 0 hts gX11_build_X11_hasRiver rfl rfl rfl ⟨rfl, nd_X11_hasRiver⟩ ⟨Nat.le_of_ble_eq_true rfl, Nat.le_of_ble_eq_true rfl⟩) hI (fun h => h.elim) (fun _ => ⟨trivial, trivial⟩) rfl hl.1 (Nat.le_of_ble_eq_true rfl) dX11_build_16 ⟨Nat.le_of_ble_eq_true rfl, Nat.le_of_ble_eq_true rfl⟩ (fun H locs hI => ?_)
  refine lv_if_eq (tgt := 53) hx hb dX11_build_19 (by decide) (fun c16 => ?_) (fun c16 => ?_)
  · replace hf := ifp c16 hf
    refine lv_iconst (v := 0) hx hb dX11_build_53 (by decide) ?_
    exact hret_z hx hb hr (by decide) hlocks hI (by decide) (by decide) (fun _ => ⟨trivial, rfl⟩) (ret_e hK0 hf) dX11_build_54
  · replace hf := ifn c16 hf
    refine lv_iload_n hx hb dX11_build_22 rfl (lv_at hl 2 rfl) ?_
    obtain ⟨x17, hc18, hf⟩ := bnd_b hf
    refine hcall_Si (ex2 := True) (As := [.int a1]) (rest := []) (n := 1) ⟨hx, hb, hml, hown, hts⟩ (ch_X11_isSide l D cy a1 x14.1 x17 hc18) (va_cwS 1 hts gX11_build_X11_isSide rfl rfl rfl nd_X11_isSide ⟨Nat.le_of_ble_eq_true rfl, Nat.le_of_ble_eq_true rfl⟩) hI (fun h => h.elim) (fun _ => ⟨trivial, trivial⟩) rfl hl.1 (Nat.le_of_ble_eq_true rfl) dX11_build_23 ⟨Nat.le_of_ble_eq_true rfl, Nat.le_of_ble_eq_true rfl⟩ (fun H locs hI => ?_)
    refine lv_if_eq (tgt := 53) hx hb dX11_build_26 (by decide) (fun c19 => ?_) (fun c19 => ?_)
    · replace hf := ifp c19 hf
      refine lv_iconst (v := 0) hx hb dX11_build_53 (by decide) ?_
      exact hret_z hx hb hr (by decide) hlocks hI (by decide) (by decide) (fun _ => ⟨trivial, rfl⟩) (ret_e hK0 hf) dX11_build_54
    · replace hf := ifn c19 hf
      refine lv_iload_n hx hb dX11_build_29 rfl (lv_at hl 3 rfl) ?_
      refine lv_iload hx hb dX11_build_30 (lv_at hl 0 rfl) ?_
      refine lv_ineg hx hb dX11_build_32 ?_
      refine lv_iload hx hb dX11_build_33 (lv_at hl 0 rfl) ?_
      obtain ⟨x20, hc21, hf⟩ := bnd_b hf
      refine hcall_Si (ex2 := True) (As := [.int a2, .int (-(gI s0 401 b10)), .int (gI s0 401 b10)]) (rest := []) (n := 3) ⟨hx, hb, hml, hown, hts⟩ (ch_X11_isWithin l D cy a2 (-(gI s0 401 b10)) (gI s0 401 b10) x17.1 x20 hc21) (va_cwS 3 hts gX11_build_X11_isWithin rfl rfl rfl nd_X11_isWithin ⟨Nat.le_of_ble_eq_true rfl, Nat.le_of_ble_eq_true rfl⟩) hI (fun h => h.elim) (fun _ => ⟨trivial, trivial⟩) rfl hl.1 (Nat.le_of_ble_eq_true rfl) dX11_build_35 ⟨Nat.le_of_ble_eq_true rfl, Nat.le_of_ble_eq_true rfl⟩ (fun H locs hI => ?_)
      refine lv_if_eq (tgt := 53) hx hb dX11_build_38 (by decide) (fun c22 => ?_) (fun c22 => ?_)
      · replace hf := ifp c22 hf
        refine lv_iconst (v := 0) hx hb dX11_build_53 (by decide) ?_
        exact hret_z hx hb hr (by decide) hlocks hI (by decide) (by decide) (fun _ => ⟨trivial, rfl⟩) (ret_e hK0 hf) dX11_build_54
      · replace hf := ifn c22 hf
        refine lv_iload_n hx hb dX11_build_41 rfl (lv_at hl 4 rfl) ?_
        refine lv_iload hx hb dX11_build_42 (lv_at hl 0 rfl) ?_
        refine lv_ineg hx hb dX11_build_44 ?_
        refine lv_iload hx hb dX11_build_45 (lv_at hl 0 rfl) ?_
        obtain ⟨x23, hc24, hf⟩ := bnd_b hf
        refine hcall_Si (ex2 := True) (As := [.int a3, .int (-(gI s0 401 b10)), .int (gI s0 401 b10)]) (rest := []) (n := 3) ⟨hx, hb, hml, hown, hts⟩ (ch_X11_isWithin l D cy a3 (-(gI s0 401 b10)) (gI s0 401 b10) x20.1 x23 hc24) (va_cwS 3 hts gX11_build_X11_isWithin rfl rfl rfl nd_X11_isWithin ⟨Nat.le_of_ble_eq_true rfl, Nat.le_of_ble_eq_true rfl⟩) hI (fun h => h.elim) (fun _ => ⟨trivial, trivial⟩) rfl hl.1 (Nat.le_of_ble_eq_true rfl) dX11_build_47 ⟨Nat.le_of_ble_eq_true rfl, Nat.le_of_ble_eq_true rfl⟩ (fun H locs hI => ?_)
        refine lv_if_ne (tgt := 55) hx hb dX11_build_50 (by decide) (fun c25 => ?_) (fun c25 => ?_)
        · replace hf := ifn c25 hf
          refine lv_aload_n hx hb dX11_build_55 rfl (lv_at hl 1 rfl) ?_
          obtain ⟨k26, hf⟩ := chk_b hf
          refine hg_11_4 hx hb hts hin_X11 hown kl_22 hI (isk_k k26) dX11_build_56 ?_
          obtain ⟨b27, hd28, hf⟩ := bnd_b hf
          obtain ⟨hq29, hk30⟩ := dr_e hd28
          refine W.eq (g2 := F0 m 59 ls [.ref b27]) (by rw [hq29]; rfl) ?_
          refine hg_8_0 hx hb hts hin_X8 hown kl_93 hI hk30 dX11_build_59 ?_
          refine lv_iload_n hx hb dX11_build_62 rfl (lv_at hl 2 rfl) ?_
          refine lv_iload_n hx hb dX11_build_63 rfl (lv_at hl 3 rfl) ?_
          refine lv_iload_n hx hb dX11_build_64 rfl (lv_at hl 4 rfl) ?_
          obtain ⟨b31, hd32, hf⟩ := bnd_b hf
          obtain ⟨hq33, hk34⟩ := dr_e hd32
          refine W.eq (g2 := F0 m 65 ls [.int a3, .int a2, .int a1, .ref b31]) (by rw [hq33]; rfl) ?_
          obtain ⟨x35, hc36, hf⟩ := bnd_b hf
          refine hcall_Vi (ex2 := True) (As := [.int a1, .int a2, .int a3]) (rest := []) (n := 3) (by rw [hk34]; decide) (hC_10 hk34) rfl ⟨hx, hb, hml, hown, hts⟩ (ch_X9_add l D cy b31 a1 a2 a3 x23.1 x35 hc36) (cwV 3 hts gX11_build_X9_add rfl rfl rfl ⟨rfl, nd_X9_add⟩ ⟨Nat.le_of_ble_eq_true rfl, Nat.le_of_ble_eq_true rfl⟩) hI (fun h => h.elim) (fun _ => ⟨trivial, trivial⟩) rfl hl.1 (Nat.le_of_ble_eq_true rfl) dX11_build_65 ⟨Nat.le_of_ble_eq_true rfl, Nat.le_of_ble_eq_true rfl⟩ (fun H locs hI => ?_)
          obtain ⟨k37, hf⟩ := chk_b hf
          exact hret_z hx hb hr (isb_nar k37) hlocks hI (by decide) (by decide) (fun _ => ⟨trivial, rfl⟩) (ret_e hK0 hf) dX11_build_68
        · replace hf := ifp c25 hf
          refine lv_iconst (v := 0) hx hb dX11_build_53 (by decide) ?_
          exact hret_z hx hb hr (by decide) hlocks hI (by decide) (by decide) (fun _ => ⟨trivial, rfl⟩) (ret_e hK0 hf) dX11_build_54

theorem nd_X11_count : yX11_count.cls ≠ "java/lang/invoke/MethodHandle" ∧ yX11_count.cls ≠ "java/lang/invoke/VarHandle" ∧ (parseMethodDescriptor yX11_count.desc).map (fun d => d.parameters.length) = some 1 := by decide +kernel
set_option maxHeartbeats 4000000 in
set_option maxRecDepth 100000 in
theorem ch_X11_count (l : Launch) (D : va_G) (cy : Nat → ClassId) (h : Nat) (a1 : Int32) (s0 : HSt) (out : HSt × Int32) (hf : fh_X11_count h a1 s0 = some out) : CHi l D cy yX11_count wsX11_count { frames := 1, cells := 0, slots := 0, locals := 20 } 0 0 False True [.ref h, .int a1] s0 out := by
  refine Met.ofW (cc := cX11_count) (maxL := 3) (ret := (some .int)) (by decide) rfl ?_
  intro p e s m args below meth c s₁ B hml hv
  obtain ⟨rfl, hP, hK, hD0, hkx, hsz, hal⟩ := hv
  have hx := B.exec
  have hb := B.bytes
  have hr := B.returns
  have hts := atoms_spec (ws := wsX11_count) B.pre
  have hown : s.vm.findClass RX11 = some m.cls := findClass_of_methodNamed B.named
  have hlocks := B.notSynchronized
  have hI : HI D cy s s0 s0 s.heap [] 0 False True := ⟨hK, hP, hD0.weaken (fun k q hk _ => Or.inl (pl_mem hk)), va_S.rf, hsz.1, hkx, ⟨hsz, hal⟩, fun _ => rfl, Nat.le_refl _⟩
  have hin_X11 : ∀ w ∈ u_ws RX11 TX11 10, w ∈ wsX11_count := fun w hw => List.mem_cons_of_mem _ (List.mem_append_left _ (List.mem_append_left _ (List.mem_append_left _ (List.mem_append_right _ hw))))
  have hin_X4 : ∀ w ∈ u_ws RX4 TX4 9, w ∈ wsX11_count := fun w hw => List.mem_cons_of_mem _ (List.mem_append_right _ hw)
  have hin_X8 : ∀ w ∈ u_ws RX8 TX8 5, w ∈ wsX11_count := fun w hw => List.mem_cons_of_mem _ (List.mem_append_left _ (List.mem_append_left _ (List.mem_append_right _ hw)))
  have hin_X9 : ∀ w ∈ u_ws RX9 TX9 5, w ∈ wsX11_count := fun w hw => List.mem_cons_of_mem _ (List.mem_append_left _ (List.mem_append_right _ hw))
  have kl_22 : Cond.fieldLink RX11 22 "HalfBridge" "site" "LHalfBridge$Site;" ∈ wsX11_count := by decide +kernel
  have kl_60 : Cond.fieldLink RX11 60 "HalfBridge" "tapeSize" "I" ∈ wsX11_count := by decide +kernel
  have kl_82 : Cond.fieldLink RX11 82 "HalfBridge$River" "wide" "I" ∈ wsX11_count := by decide +kernel
  have kl_87 : Cond.fieldLink RX11 87 "HalfBridge" "ruleCount" "I" ∈ wsX11_count := by decide +kernel
  have kl_93 : Cond.fieldLink RX11 93 "HalfBridge$Site" "span" "LHalfBridge$Span;" ∈ wsX11_count := by decide +kernel
  have kl_119 : Cond.fieldLink RX11 119 "HalfBridge$Span" "day" "I" ∈ wsX11_count := by decide +kernel
  have kl_140 : Cond.fieldLink RX11 140 "HalfBridge$Span" "river" "LHalfBridge$River;" ∈ wsX11_count := by decide +kernel
  have kl_156 : Cond.fieldLink RX11 156 "HalfBridge$River" "step" "I" ∈ wsX11_count := by decide +kernel
  have kl_265 : Cond.fieldLink RX11 265 "HalfBridge$Site" "x" "I" ∈ wsX11_count := by decide +kernel
  have kl_276 : Cond.fieldLink RX11 276 "HalfBridge$River" "floods" "I" ∈ wsX11_count := by decide +kernel
  have kl_279 : Cond.fieldLink RX11 279 "HalfBridge$River" "inches" "I" ∈ wsX11_count := by decide +kernel
  have kl_282 : Cond.fieldLink RX11 282 "HalfBridge$Site" "ruinsTold" "I" ∈ wsX11_count := by decide +kernel
  have hl := lv_entry ([.ref h, .int a1]) (n := 3) (Nat.le_of_ble_eq_true rfl)
  rw [lg_entry_eq]
  generalize (lg_sl ([.ref h, .int a1]) ++ List.replicate (3 - (lg_sl ([.ref h, .int a1])).length) Slot.unset).toArray = ls at hl ⊢
  have hl : lv_has ls 3 [(0, .ref h), (1, .int a1)] := hl
  obtain ⟨K0, hK0, hf⟩ := top_e hf
  unfold fh_X11_count at hf
  refine lv_aload_n hx hb dX11_count_0 rfl (lv_at hl 0 rfl) ?_
  obtain ⟨k1, hf⟩ := chk_b hf
  refine hg_11_4 hx hb hts hin_X11 hown kl_22 hI (isk_k k1) dX11_count_1 ?_
  obtain ⟨b2, hd3, hf⟩ := bnd_b hf
  obtain ⟨hq4, hk5⟩ := dr_e hd3
  refine W.eq (g2 := F0 m 4 ls [.ref b2]) (by rw [hq4]; rfl) ?_
  refine hg_8_0 hx hb hts hin_X8 hown kl_93 hI hk5 dX11_count_4 ?_
  refine hq_astore_n (lv' := [(2, va_rf (gR s0 800 b2)), (0, .ref h), (1, .int a1)]) hx hb dX11_count_7 rfl hl (by decide) (by first | rfl | (simp [cat_rf, cat_i, cat_l, cat_r]; done) | (simp [cat_rf, cat_i, cat_l, cat_r]; decide)) (fun ls hl => ?_)
  refine lv_iload_n hx hb dX11_count_8 rfl (lv_at hl 2 rfl) ?_
  by_cases c6 : a1 = 0
  · replace hf := ifp c6 hf
    refine lv_tableIn (off := 55) (tgt := 64) hx hb dX11_count_9 (by rw [c6]; decide) (by rw [c6]; decide) (by rw [c6]; rfl) (by decide) ?_
    refine hq_aload_n hx hb dX11_count_64 rfl (lv_at hl 0 rfl) ?_
    obtain ⟨b16, hd17, hf⟩ := bnd_b hf
    obtain ⟨hq18, hk19⟩ := dr_e hd17
    refine W.eq (g2 := F0 m 65 ls [.ref b16]) (by rw [hq18]; rfl) ?_
    refine hg_9_0 hx hb hts hin_X9 hown kl_140 hI hk19 dX11_count_65 ?_
    obtain ⟨b20, hd21, hf⟩ := bnd_b hf
    obtain ⟨hq22, hk23⟩ := dr_e hd21
    refine W.eq (g2 := F0 m 68 ls [.ref b20]) (by rw [hq22]; rfl) ?_
    refine hg_4_0 hx hb hts hin_X4 hown kl_82 hI hk23 dX11_count_68 ?_
    exact hret_i hx hb hr hlocks hI (by decide) (by decide) (fun _ => ⟨trivial, rfl⟩) (ret_e hK0 hf) dX11_count_71
  replace hf := ifn c6 hf
  by_cases c7 : a1 = 1
  · replace hf := ifp c7 hf
    refine lv_tableIn (off := 63) (tgt := 72) hx hb dX11_count_9 (by rw [c7]; decide) (by rw [c7]; decide) (by rw [c7]; rfl) (by decide) ?_
    refine hq_aload_n hx hb dX11_count_72 rfl (lv_at hl 0 rfl) ?_
    obtain ⟨b24, hd25, hf⟩ := bnd_b hf
    obtain ⟨hq26, hk27⟩ := dr_e hd25
    refine W.eq (g2 := F0 m 73 ls [.ref b24]) (by rw [hq26]; rfl) ?_
    obtain ⟨x28, hc29, hf⟩ := bnd_b hf
    refine hcall_Vi (ex2 := True) (As := []) (rest := []) (n := 0) (by rw [hk27]; decide) (hC_10 hk27) rfl ⟨hx, hb, hml, hown, hts⟩ (ch_X9_gap l D cy b24 s0 x28 hc29) (cwV 0 hts gX11_count_X9_gap rfl rfl rfl ⟨rfl, nd_X9_gap⟩ ⟨Nat.le_of_ble_eq_true rfl, Nat.le_of_ble_eq_true rfl⟩) hI (fun h => h.elim) (fun _ => ⟨trivial, trivial⟩) rfl hl.1 (Nat.le_of_ble_eq_true rfl) dX11_count_73 ⟨Nat.le_of_ble_eq_true rfl, Nat.le_of_ble_eq_true rfl⟩ (fun H locs hI => ?_)
    exact hret_i hx hb hr hlocks hI (by decide) (by decide) (fun _ => ⟨trivial, rfl⟩) (ret_e hK0 hf) dX11_count_76
  replace hf := ifn c7 hf
  by_cases c8 : a1 = 2
  · replace hf := ifp c8 hf
    refine lv_tableIn (off := 68) (tgt := 77) hx hb dX11_count_9 (by rw [c8]; decide) (by rw [c8]; decide) (by rw [c8]; rfl) (by decide) ?_
    refine hq_aload_n hx hb dX11_count_77 rfl (lv_at hl 0 rfl) ?_
    obtain ⟨b30, hd31, hf⟩ := bnd_b hf
    obtain ⟨hq32, hk33⟩ := dr_e hd31
    refine W.eq (g2 := F0 m 78 ls [.ref b30]) (by rw [hq32]; rfl) ?_
    refine hg_9_1 hx hb hts hin_X9 hown kl_119 hI hk33 dX11_count_78 ?_
    exact hret_i hx hb hr hlocks hI (by decide) (by decide) (fun _ => ⟨trivial, rfl⟩) (ret_e hK0 hf) dX11_count_81
  replace hf := ifn c8 hf
  by_cases c9 : a1 = 3
  · replace hf := ifp c9 hf
    refine lv_tableIn (off := 73) (tgt := 82) hx hb dX11_count_9 (by rw [c9]; decide) (by rw [c9]; decide) (by rw [c9]; rfl) (by decide) ?_
    refine lv_aload_n hx hb dX11_count_82 rfl (lv_at hl 1 rfl) ?_
    refine hg_11_3 hx hb hts hin_X11 hown kl_87 hI (isk_k k1) dX11_count_83 ?_
    exact hret_i hx hb hr hlocks hI (by decide) (by decide) (fun _ => ⟨trivial, rfl⟩) (ret_e hK0 hf) dX11_count_86
  replace hf := ifn c9 hf
  by_cases c10 : a1 = 4
  · replace hf := ifp c10 hf
    refine lv_tableIn (off := 78) (tgt := 87) hx hb dX11_count_9 (by rw [c10]; decide) (by rw [c10]; decide) (by rw [c10]; rfl) (by decide) ?_
    refine hq_aload_n hx hb dX11_count_87 rfl (lv_at hl 0 rfl) ?_
    obtain ⟨b34, hd35, hf⟩ := bnd_b hf
    obtain ⟨hq36, hk37⟩ := dr_e hd35
    refine W.eq (g2 := F0 m 88 ls [.ref b34]) (by rw [hq36]; rfl) ?_
    refine hg_9_0 hx hb hts hin_X9 hown kl_140 hI hk37 dX11_count_88 ?_
    obtain ⟨b38, hd39, hf⟩ := bnd_b hf
    obtain ⟨hq40, hk41⟩ := dr_e hd39
    refine W.eq (g2 := F0 m 91 ls [.ref b38]) (by rw [hq40]; rfl) ?_
    refine hg_4_3 hx hb hts hin_X4 hown kl_276 hI hk41 dX11_count_91 ?_
    exact hret_i hx hb hr hlocks hI (by decide) (by decide) (fun _ => ⟨trivial, rfl⟩) (ret_e hK0 hf) dX11_count_94
  replace hf := ifn c10 hf
  by_cases c11 : a1 = 5
  · replace hf := ifp c11 hf
    refine lv_tableIn (off := 86) (tgt := 95) hx hb dX11_count_9 (by rw [c11]; decide) (by rw [c11]; decide) (by rw [c11]; rfl) (by decide) ?_
    refine hq_aload_n hx hb dX11_count_95 rfl (lv_at hl 0 rfl) ?_
    obtain ⟨b42, hd43, hf⟩ := bnd_b hf
    obtain ⟨hq44, hk45⟩ := dr_e hd43
    refine W.eq (g2 := F0 m 96 ls [.ref b42]) (by rw [hq44]; rfl) ?_
    refine hg_9_0 hx hb hts hin_X9 hown kl_140 hI hk45 dX11_count_96 ?_
    obtain ⟨b46, hd47, hf⟩ := bnd_b hf
    obtain ⟨hq48, hk49⟩ := dr_e hd47
    refine W.eq (g2 := F0 m 99 ls [.ref b46]) (by rw [hq48]; rfl) ?_
    refine hg_4_1 hx hb hts hin_X4 hown kl_156 hI hk49 dX11_count_99 ?_
    exact hret_i hx hb hr hlocks hI (by decide) (by decide) (fun _ => ⟨trivial, rfl⟩) (ret_e hK0 hf) dX11_count_102
  replace hf := ifn c11 hf
  by_cases c12 : a1 = 6
  · replace hf := ifp c12 hf
    refine lv_tableIn (off := 94) (tgt := 103) hx hb dX11_count_9 (by rw [c12]; decide) (by rw [c12]; decide) (by rw [c12]; rfl) (by decide) ?_
    refine hq_aload_n hx hb dX11_count_103 rfl (lv_at hl 0 rfl) ?_
    obtain ⟨b50, hd51, hf⟩ := bnd_b hf
    obtain ⟨hq52, hk53⟩ := dr_e hd51
    refine W.eq (g2 := F0 m 104 ls [.ref b50]) (by rw [hq52]; rfl) ?_
    refine hg_9_0 hx hb hts hin_X9 hown kl_140 hI hk53 dX11_count_104 ?_
    obtain ⟨b54, hd55, hf⟩ := bnd_b hf
    obtain ⟨hq56, hk57⟩ := dr_e hd55
    refine W.eq (g2 := F0 m 107 ls [.ref b54]) (by rw [hq56]; rfl) ?_
    refine hg_4_2 hx hb hts hin_X4 hown kl_279 hI hk57 dX11_count_107 ?_
    exact hret_i hx hb hr hlocks hI (by decide) (by decide) (fun _ => ⟨trivial, rfl⟩) (ret_e hK0 hf) dX11_count_110
  replace hf := ifn c12 hf
  by_cases c13 : a1 = 7
  · replace hf := ifp c13 hf
    refine lv_tableIn (off := 102) (tgt := 111) hx hb dX11_count_9 (by rw [c13]; decide) (by rw [c13]; decide) (by rw [c13]; rfl) (by decide) ?_
    refine lv_aload_n hx hb dX11_count_111 rfl (lv_at hl 1 rfl) ?_
    refine hg_11_4 hx hb hts hin_X11 hown kl_22 hI (isk_k k1) dX11_count_112 ?_
    refine W.eq (g2 := F0 m 115 ls [.ref b2]) (by rw [hq4]; rfl) ?_
    refine hg_8_2 hx hb hts hin_X8 hown kl_282 hI hk5 dX11_count_115 ?_
    exact hret_i hx hb hr hlocks hI (by decide) (by decide) (fun _ => ⟨trivial, rfl⟩) (ret_e hK0 hf) dX11_count_118
  replace hf := ifn c13 hf
  by_cases c14 : a1 = 8
  · replace hf := ifp c14 hf
    refine lv_tableIn (off := 110) (tgt := 119) hx hb dX11_count_9 (by rw [c14]; decide) (by rw [c14]; decide) (by rw [c14]; rfl) (by decide) ?_
    refine lv_aload_n hx hb dX11_count_119 rfl (lv_at hl 1 rfl) ?_
    refine hg_11_4 hx hb hts hin_X11 hown kl_22 hI (isk_k k1) dX11_count_120 ?_
    refine W.eq (g2 := F0 m 123 ls [.ref b2]) (by rw [hq4]; rfl) ?_
    refine hg_8_1 hx hb hts hin_X8 hown kl_265 hI hk5 dX11_count_123 ?_
    exact hret_i hx hb hr hlocks hI (by decide) (by decide) (fun _ => ⟨trivial, rfl⟩) (ret_e hK0 hf) dX11_count_126
  replace hf := ifn c14 hf
  by_cases c15 : a1 = 9
  · replace hf := ifp c15 hf
    refine lv_tableIn (off := 118) (tgt := 127) hx hb dX11_count_9 (by rw [c15]; decide) (by rw [c15]; decide) (by rw [c15]; rfl) (by decide) ?_
    refine lv_aload_n hx hb dX11_count_127 rfl (lv_at hl 1 rfl) ?_
    refine hg_11_1 hx hb hts hin_X11 hown kl_60 hI (isk_k k1) dX11_count_128 ?_
    exact hret_i hx hb hr hlocks hI (by decide) (by decide) (fun _ => ⟨trivial, rfl⟩) (ret_e hK0 hf) dX11_count_131
  replace hf := ifn c15 hf
  refine lv_tableOut (tgt := 132) hx hb dX11_count_9 (tsw_out (fun k k1 k2 => ?_)) (by decide) ?_
  · rcases (show k = 0 ∨ k = 1 ∨ k = 2 ∨ k = 3 ∨ k = 4 ∨ k = 5 ∨ k = 6 ∨ k = 7 ∨ k = 8 ∨ k = 9 by omega) with rfl | rfl | rfl | rfl | rfl | rfl | rfl | rfl | rfl | rfl
    · exact c6
    · exact c7
    · exact c8
    · exact c9
    · exact c10
    · exact c11
    · exact c12
    · exact c13
    · exact c14
    · exact c15
  · refine lv_iconst (v := -1) hx hb dX11_count_132 (by decide) ?_
    exact hret_i hx hb hr hlocks hI (by decide) (by decide) (fun _ => ⟨trivial, rfl⟩) (ret_e hK0 hf) dX11_count_133

theorem nd_X11_end : yX11_end.cls ≠ "java/lang/invoke/MethodHandle" ∧ yX11_end.cls ≠ "java/lang/invoke/VarHandle" ∧ (parseMethodDescriptor yX11_end.desc).map (fun d => d.parameters.length) = some 1 := by decide +kernel
set_option maxHeartbeats 4000000 in
set_option maxRecDepth 100000 in
theorem ch_X11_end (l : Launch) (D : va_G) (cy : Nat → ClassId) (h : Nat) (a1 : Int32) (s0 : HSt) (out : HSt × Int32) (hf : fh_X11_end h a1 s0 = some out) : CHi l D cy yX11_end wsX11_end { frames := 0, cells := 0, slots := 0, locals := 0 } 0 0 False True [.ref h, .int a1] s0 out := by
  refine Met.ofW (cc := cX11_end) (maxL := 2) (ret := (some .int)) (by decide) rfl ?_
  intro p e s m args below meth c s₁ B hml hv
  obtain ⟨rfl, hP, hK, hD0, hkx, hsz, hal⟩ := hv
  have hx := B.exec
  have hb := B.bytes
  have hr := B.returns
  have hts := atoms_spec (ws := wsX11_end) B.pre
  have hown : s.vm.findClass RX11 = some m.cls := findClass_of_methodNamed B.named
  have hlocks := B.notSynchronized
  have hI : HI D cy s s0 s0 s.heap [] 0 False True := ⟨hK, hP, hD0.weaken (fun k q hk _ => Or.inl (pl_mem hk)), va_S.rf, hsz.1, hkx, ⟨hsz, hal⟩, fun _ => rfl, Nat.le_refl _⟩
  have hin_X11 : ∀ w ∈ u_ws RX11 TX11 10, w ∈ wsX11_end := fun w hw => List.mem_cons_of_mem _ (List.mem_append_right _ hw)
  have kl_60 : Cond.fieldLink RX11 60 "HalfBridge" "tapeSize" "I" ∈ wsX11_end := by decide +kernel
  have hl := lv_entry ([.ref h, .int a1]) (n := 2) (Nat.le_of_ble_eq_true rfl)
  rw [lg_entry_eq]
  generalize (lg_sl ([.ref h, .int a1]) ++ List.replicate (2 - (lg_sl ([.ref h, .int a1])).length) Slot.unset).toArray = ls at hl ⊢
  have hl : lv_has ls 2 [(0, .ref h), (1, .int a1)] := hl
  obtain ⟨K0, hK0, hf⟩ := top_e hf
  unfold fh_X11_end at hf
  refine lv_iload_n hx hb dX11_end_0 rfl (lv_at hl 1 rfl) ?_
  refine lv_if_lt (tgt := 12) hx hb dX11_end_1 (by decide) (fun c1 => ?_) (fun c1 => ?_)
  · replace hf := ifp c1 hf
    refine lv_iconst (v := -1) hx hb dX11_end_12 (by decide) ?_
    exact hret_i hx hb hr hlocks hI (by decide) (by decide) (fun _ => ⟨trivial, rfl⟩) (ret_e hK0 hf) dX11_end_13
  · replace hf := ifn c1 hf
    refine lv_iload_n hx hb dX11_end_4 rfl (lv_at hl 1 rfl) ?_
    refine lv_aload_n hx hb dX11_end_5 rfl (lv_at hl 0 rfl) ?_
    obtain ⟨k2, hf⟩ := chk_b hf
    refine hg_11_1 hx hb hts hin_X11 hown kl_60 hI (isk_k k2) dX11_end_6 ?_
    refine lv_icmp_le (tgt := 14) hx hb dX11_end_9 (by decide) (fun c3 => ?_) (fun c3 => ?_)
    · replace hf := ifp c3 hf
      refine lv_aload_n hx hb dX11_end_14 rfl (lv_at hl 0 rfl) ?_
      refine lv_iload_n hx hb dX11_end_15 rfl (lv_at hl 1 rfl) ?_
      refine hp_11_1 hx hb hts hin_X11 hown kl_60 hI (isk_k k2) dX11_end_16 (fun H locs hI => ?_)
      refine lv_iload_n hx hb dX11_end_19 rfl (lv_at hl 1 rfl) ?_
      exact hret_i hx hb hr hlocks hI (by decide) (by decide) (fun _ => ⟨trivial, rfl⟩) (ret_e hK0 hf) dX11_end_20
    · replace hf := ifn c3 hf
      refine lv_iconst (v := -1) hx hb dX11_end_12 (by decide) ?_
      exact hret_i hx hb hr hlocks hI (by decide) (by decide) (fun _ => ⟨trivial, rfl⟩) (ret_e hK0 hf) dX11_end_13

theorem nd_X8_tellError : yX8_tellError.cls ≠ "java/lang/invoke/MethodHandle" ∧ yX8_tellError.cls ≠ "java/lang/invoke/VarHandle" ∧ (parseMethodDescriptor yX8_tellError.desc).map (fun d => d.parameters.length) = some 3 := by decide +kernel
set_option maxHeartbeats 4000000 in
set_option maxRecDepth 100000 in
theorem ch_X8_tellError (l : Launch) (D : va_G) (cy : Nat → ClassId) (h : Nat) (a1 : Int32) (a2 : Int32) (a3 : Int32) (s0 : HSt) (out : HSt × Int32) (hf : fh_X8_tellError h a1 a2 a3 s0 = some out) : CHi l D cy yX8_tellError wsX8_tellError { frames := 2, cells := 0, slots := 0, locals := 44 } 0 0 False True [.ref h, .int a1, .int a2, .int a3] s0 out := by
  refine Met.ofW (cc := cX8_tellError) (maxL := 5) (ret := (some .int)) (by decide) rfl ?_
  intro p e s m args below meth c s₁ B hml hv
  obtain ⟨rfl, hP, hK, hD0, hkx, hsz, hal⟩ := hv
  have hx := B.exec
  have hb := B.bytes
  have hr := B.returns
  have hts := atoms_spec (ws := wsX8_tellError) B.pre
  have hown : s.vm.findClass RX8 = some m.cls := findClass_of_methodNamed B.named
  have hlocks := B.notSynchronized
  have hI : HI D cy s s0 s0 s.heap [] 0 False True := ⟨hK, hP, hD0.weaken (fun k q hk _ => Or.inl (pl_mem hk)), va_S.rf, hsz.1, hkx, ⟨hsz, hal⟩, fun _ => rfl, Nat.le_refl _⟩
  have hin_X8 : ∀ w ∈ u_ws RX8 TX8 5, w ∈ wsX8_tellError := fun w hw => List.mem_cons_of_mem _ (List.mem_append_right _ hw)
  have kl_16 : Cond.fieldLink RX8 16 "HalfBridge$Site" "errors" "[I" ∈ wsX8_tellError := by decide +kernel
  have hl := lv_entry ([.ref h, .int a1, .int a2, .int a3]) (n := 5) (Nat.le_of_ble_eq_true rfl)
  rw [lg_entry_eq]
  generalize (lg_sl ([.ref h, .int a1, .int a2, .int a3]) ++ List.replicate (5 - (lg_sl ([.ref h, .int a1, .int a2, .int a3])).length) Slot.unset).toArray = ls at hl ⊢
  have hl : lv_has ls 5 [(0, .ref h), (1, .int a1), (2, .int a2), (3, .int a3)] := hl
  obtain ⟨K0, hK0, hf⟩ := top_e hf
  unfold fh_X8_tellError at hf
  refine lv_aload_n hx hb dX8_tellError_0 rfl (lv_at hl 0 rfl) ?_
  refine lv_iload_n hx hb dX8_tellError_1 rfl (lv_at hl 1 rfl) ?_
  refine lv_iload_n hx hb dX8_tellError_2 rfl (lv_at hl 2 rfl) ?_
  obtain ⟨k1, hf⟩ := chk_b hf
  obtain ⟨x2, hc3, hf⟩ := bnd_b hf
  refine hcall_Vi (ex2 := True) (As := [.int a1, .int a2]) (rest := []) (n := 2) (by rw [(isk_k k1)]; decide) (hC_9 (isk_k k1)) rfl ⟨hx, hb, hml, hown, hts⟩ (ch_X8_errorOn l D cy h a1 a2 s0 x2 hc3) (cwV 2 hts gX8_tellError_X8_errorOn rfl rfl rfl ⟨rfl, nd_X8_errorOn⟩ ⟨Nat.le_of_ble_eq_true rfl, Nat.le_of_ble_eq_true rfl⟩) hI (fun h => h.elim) (fun _ => ⟨trivial, trivial⟩) rfl hl.1 (Nat.le_of_ble_eq_true rfl) dX8_tellError_3 ⟨Nat.le_of_ble_eq_true rfl, Nat.le_of_ble_eq_true rfl⟩ (fun H locs hI => ?_)
  refine lv_istore (lv' := [(4, .int x2.2), (0, .ref h), (1, .int a1), (2, .int a2), (3, .int a3)]) hx hb dX8_tellError_6 hl (by decide) rfl (fun ls hl => ?_)
  refine lv_aload_n hx hb dX8_tellError_8 rfl (lv_at hl 1 rfl) ?_
  obtain ⟨k4, hf⟩ := chk_b hf
  refine hg_8_3 hx hb hts hin_X8 hown kl_16 hI (isk_k k4) dX8_tellError_9 ?_
  refine lv_iload_n hx hb dX8_tellError_12 rfl (lv_at hl 2 rfl) ?_
  refine lv_bipush (v := 8) hx hb dX8_tellError_13 (by decide) ?_
  refine lv_imul hx hb dX8_tellError_15 ?_
  refine lv_iload_n hx hb dX8_tellError_16 rfl (lv_at hl 3 rfl) ?_
  refine lv_bipush (v := 8) hx hb dX8_tellError_17 (by decide) ?_
  obtain ⟨x5, hc6, hf⟩ := bnd_b hf
  refine hcall_Si (ex2 := True) (As := [.int a2, .int (8 : Int32)]) (rest := [.int (a1 * (8 : Int32)), va_rf (gR x2.1 803 h)]) (n := 2) ⟨hx, hb, hml, hown, hts⟩ (ch_J9_floorMod_7cf53 l D cy a2 (8 : Int32) x2.1 x5 hc6) (va_cwS 2 hts gX8_tellError_J9_floorMod_7cf53 rfl rfl rfl nd_J9_floorMod_7cf53 ⟨Nat.le_of_ble_eq_true rfl, Nat.le_of_ble_eq_true rfl⟩) hI (fun h => h.elim) (fun _ => ⟨trivial, trivial⟩) rfl hl.1 (by simp [cat_rf, cat_i, cat_l, cat_r]) dX8_tellError_19 ⟨Nat.le_of_ble_eq_true rfl, Nat.le_of_ble_eq_true rfl⟩ (fun H locs hI => ?_)
  refine lv_iadd hx hb dX8_tellError_22 ?_
  refine lv_iload_n hx hb dX8_tellError_23 rfl (lv_at hl 4 rfl) ?_
  obtain ⟨b7, hd8, hf⟩ := bnd_b hf
  obtain ⟨hq9, hk10⟩ := dr_e hd8
  refine W.eq (g2 := F0 m 24 ls [.int a3, .int ((a1 * (8 : Int32)) + x5.2), .ref b7]) (by rw [hq9]; rfl) ?_
  obtain ⟨k11, hf⟩ := chk_b hf
  refine hs_I hx hb hI hk10 k11 dX8_tellError_24 (fun H locs hI => ?_)
  refine lv_iload hx hb dX8_tellError_25 (lv_at hl 0 rfl) ?_
  exact hret_i hx hb hr hlocks hI (by decide) (by decide) (fun _ => ⟨trivial, rfl⟩) (ret_e hK0 hf) dX8_tellError_27

theorem nd_X11_err : yX11_err.cls ≠ "java/lang/invoke/MethodHandle" ∧ yX11_err.cls ≠ "java/lang/invoke/VarHandle" ∧ (parseMethodDescriptor yX11_err.desc).map (fun d => d.parameters.length) = some 3 := by decide +kernel
set_option maxHeartbeats 4000000 in
set_option maxRecDepth 100000 in
theorem ch_X11_err (l : Launch) (D : va_G) (cy : Nat → ClassId) (h : Nat) (a1 : Int32) (a2 : Int32) (a3 : Int32) (s0 : HSt) (out : HSt × Int32) (hf : fh_X11_err h a1 a2 a3 s0 = some out) : CHi l D cy yX11_err wsX11_err { frames := 3, cells := 0, slots := 0, locals := 68 } 0 0 False True [.ref h, .int a1, .int a2, .int a3] s0 out := by
  refine Met.ofW (cc := cX11_err) (maxL := 4) (ret := (some .int)) (by decide) rfl ?_
  intro p e s m args below meth c s₁ B hml hv
  obtain ⟨rfl, hP, hK, hD0, hkx, hsz, hal⟩ := hv
  have hx := B.exec
  have hb := B.bytes
  have hr := B.returns
  have hts := atoms_spec (ws := wsX11_err) B.pre
  have hown : s.vm.findClass RX11 = some m.cls := findClass_of_methodNamed B.named
  have hlocks := B.notSynchronized
  have hI : HI D cy s s0 s0 s.heap [] 0 False True := ⟨hK, hP, hD0.weaken (fun k q hk _ => Or.inl (pl_mem hk)), va_S.rf, hsz.1, hkx, ⟨hsz, hal⟩, fun _ => rfl, Nat.le_refl _⟩
  have hin_X11 : ∀ w ∈ u_ws RX11 TX11 10, w ∈ wsX11_err := fun w hw => List.mem_cons_of_mem _ (List.mem_append_left _ (List.mem_append_left _ (List.mem_append_left _ (List.mem_append_right _ hw))))
  have kl_22 : Cond.fieldLink RX11 22 "HalfBridge" "site" "LHalfBridge$Site;" ∈ wsX11_err := by decide +kernel
  have hl := lv_entry ([.ref h, .int a1, .int a2, .int a3]) (n := 4) (Nat.le_of_ble_eq_true rfl)
  rw [lg_entry_eq]
  generalize (lg_sl ([.ref h, .int a1, .int a2, .int a3]) ++ List.replicate (4 - (lg_sl ([.ref h, .int a1, .int a2, .int a3])).length) Slot.unset).toArray = ls at hl ⊢
  have hl : lv_has ls 4 [(0, .ref h), (1, .int a1), (2, .int a2), (3, .int a3)] := hl
  obtain ⟨K0, hK0, hf⟩ := top_e hf
  unfold fh_X11_err at hf
  refine lv_aload_n hx hb dX11_err_0 rfl (lv_at hl 0 rfl) ?_
  obtain ⟨k1, hf⟩ := chk_b hf
  obtain ⟨x2, hc3, hf⟩ := bnd_b hf
  refine hcall_Vi (ex2 := True) (As := []) (rest := []) (n := 0) (by rw [(isk_k k1)]; decide) (hC_12 (isk_k k1)) rfl ⟨hx, hb, hml, hown, hts⟩ (ch_X11_hasRiver l D cy h s0 x2 hc3) (cwV 0 hts gX11_err_X11_hasRiver rfl rfl rfl ⟨rfl, nd_X11_hasRiver⟩ ⟨Nat.le_of_ble_eq_true rfl, Nat.le_of_ble_eq_true rfl⟩) hI (fun h => h.elim) (fun _ => ⟨trivial, trivial⟩) rfl hl.1 (Nat.le_of_ble_eq_true rfl) dX11_err_1 ⟨Nat.le_of_ble_eq_true rfl, Nat.le_of_ble_eq_true rfl⟩ (fun H locs hI => ?_)
  refine lv_if_eq (tgt := 35) hx hb dX11_err_4 (by decide) (fun c4 => ?_) (fun c4 => ?_)
  · replace hf := ifp c4 hf
    refine lv_ldc (v := -100000) hx hb hown (hts (.constant RX11 107 (-100000)) (by decide +kernel)) dX11_err_35 ?_
    exact hret_i hx hb hr hlocks hI (by decide) (by decide) (fun _ => ⟨trivial, rfl⟩) (ret_e hK0 hf) dX11_err_37
  · replace hf := ifn c4 hf
    refine lv_iload_n hx hb dX11_err_7 rfl (lv_at hl 1 rfl) ?_
    obtain ⟨x5, hc6, hf⟩ := bnd_b hf
    refine hcall_Si (ex2 := True) (As := [.int a1]) (rest := []) (n := 1) ⟨hx, hb, hml, hown, hts⟩ (ch_X11_isSide l D cy a1 x2.1 x5 hc6) (va_cwS 1 hts gX11_err_X11_isSide rfl rfl rfl nd_X11_isSide ⟨Nat.le_of_ble_eq_true rfl, Nat.le_of_ble_eq_true rfl⟩) hI (fun h => h.elim) (fun _ => ⟨trivial, trivial⟩) rfl hl.1 (Nat.le_of_ble_eq_true rfl) dX11_err_8 ⟨Nat.le_of_ble_eq_true rfl, Nat.le_of_ble_eq_true rfl⟩ (fun H locs hI => ?_)
    refine lv_if_eq (tgt := 35) hx hb dX11_err_11 (by decide) (fun c7 => ?_) (fun c7 => ?_)
    · replace hf := ifp c7 hf
      refine lv_ldc (v := -100000) hx hb hown (hts (.constant RX11 107 (-100000)) (by decide +kernel)) dX11_err_35 ?_
      exact hret_i hx hb hr hlocks hI (by decide) (by decide) (fun _ => ⟨trivial, rfl⟩) (ret_e hK0 hf) dX11_err_37
    · replace hf := ifn c7 hf
      refine lv_iload_n hx hb dX11_err_14 rfl (lv_at hl 2 rfl) ?_
      refine lv_iconst (v := 0) hx hb dX11_err_15 (by decide) ?_
      refine lv_bipush (v := 7) hx hb dX11_err_16 (by decide) ?_
      obtain ⟨x8, hc9, hf⟩ := bnd_b hf
      refine hcall_Si (ex2 := True) (As := [.int a2, .int (0 : Int32), .int (7 : Int32)]) (rest := []) (n := 3) ⟨hx, hb, hml, hown, hts⟩ (ch_X11_isWithin l D cy a2 (0 : Int32) (7 : Int32) x5.1 x8 hc9) (va_cwS 3 hts gX11_err_X11_isWithin rfl rfl rfl nd_X11_isWithin ⟨Nat.le_of_ble_eq_true rfl, Nat.le_of_ble_eq_true rfl⟩) hI (fun h => h.elim) (fun _ => ⟨trivial, trivial⟩) rfl hl.1 (Nat.le_of_ble_eq_true rfl) dX11_err_18 ⟨Nat.le_of_ble_eq_true rfl, Nat.le_of_ble_eq_true rfl⟩ (fun H locs hI => ?_)
      refine lv_if_eq (tgt := 35) hx hb dX11_err_21 (by decide) (fun c10 => ?_) (fun c10 => ?_)
      · replace hf := ifp c10 hf
        refine lv_ldc (v := -100000) hx hb hown (hts (.constant RX11 107 (-100000)) (by decide +kernel)) dX11_err_35 ?_
        exact hret_i hx hb hr hlocks hI (by decide) (by decide) (fun _ => ⟨trivial, rfl⟩) (ret_e hK0 hf) dX11_err_37
      · replace hf := ifn c10 hf
        refine lv_iload_n hx hb dX11_err_24 rfl (lv_at hl 3 rfl) ?_
        refine lv_bipush (v := -9) hx hb dX11_err_25 (by decide) ?_
        refine lv_bipush (v := 9) hx hb dX11_err_27 (by decide) ?_
        obtain ⟨x11, hc12, hf⟩ := bnd_b hf
        refine hcall_Si (ex2 := True) (As := [.int a3, .int (-9 : Int32), .int (9 : Int32)]) (rest := []) (n := 3) ⟨hx, hb, hml, hown, hts⟩ (ch_X11_isWithin l D cy a3 (-9 : Int32) (9 : Int32) x8.1 x11 hc12) (va_cwS 3 hts gX11_err_X11_isWithin rfl rfl rfl nd_X11_isWithin ⟨Nat.le_of_ble_eq_true rfl, Nat.le_of_ble_eq_true rfl⟩) hI (fun h => h.elim) (fun _ => ⟨trivial, trivial⟩) rfl hl.1 (Nat.le_of_ble_eq_true rfl) dX11_err_29 ⟨Nat.le_of_ble_eq_true rfl, Nat.le_of_ble_eq_true rfl⟩ (fun H locs hI => ?_)
        refine lv_if_ne (tgt := 38) hx hb dX11_err_32 (by decide) (fun c13 => ?_) (fun c13 => ?_)
        · replace hf := ifn c13 hf
          refine lv_aload_n hx hb dX11_err_38 rfl (lv_at hl 0 rfl) ?_
          obtain ⟨k14, hf⟩ := chk_b hf
          refine hg_11_4 hx hb hts hin_X11 hown kl_22 hI (isk_k k14) dX11_err_39 ?_
          refine lv_iload_n hx hb dX11_err_42 rfl (lv_at hl 1 rfl) ?_
          refine lv_iload_n hx hb dX11_err_43 rfl (lv_at hl 2 rfl) ?_
          refine lv_iload_n hx hb dX11_err_44 rfl (lv_at hl 3 rfl) ?_
          obtain ⟨b15, hd16, hf⟩ := bnd_b hf
          obtain ⟨hq17, hk18⟩ := dr_e hd16
          refine W.eq (g2 := F0 m 45 ls [.int a3, .int a2, .int a1, .ref b15]) (by rw [hq17]; rfl) ?_
          obtain ⟨x19, hc20, hf⟩ := bnd_b hf
          refine hcall_Vi (ex2 := True) (As := [.int a1, .int a2, .int a3]) (rest := []) (n := 3) (by rw [hk18]; decide) (hC_9 hk18) rfl ⟨hx, hb, hml, hown, hts⟩ (ch_X8_tellError l D cy b15 a1 a2 a3 x11.1 x19 hc20) (cwV 3 hts gX11_err_X8_tellError rfl rfl rfl ⟨rfl, nd_X8_tellError⟩ ⟨Nat.le_of_ble_eq_true rfl, Nat.le_of_ble_eq_true rfl⟩) hI (fun h => h.elim) (fun _ => ⟨trivial, trivial⟩) rfl hl.1 (Nat.le_of_ble_eq_true rfl) dX11_err_45 ⟨Nat.le_of_ble_eq_true rfl, Nat.le_of_ble_eq_true rfl⟩ (fun H locs hI => ?_)
          exact hret_i hx hb hr hlocks hI (by decide) (by decide) (fun _ => ⟨trivial, rfl⟩) (ret_e hK0 hf) dX11_err_48
        · replace hf := ifp c13 hf
          refine lv_ldc (v := -100000) hx hb hown (hts (.constant RX11 107 (-100000)) (by decide +kernel)) dX11_err_35 ?_
          exact hret_i hx hb hr hlocks hI (by decide) (by decide) (fun _ => ⟨trivial, rfl⟩) (ret_e hK0 hf) dX11_err_37

theorem nd_X9_hasLine : yX9_hasLine.cls ≠ "java/lang/invoke/MethodHandle" ∧ yX9_hasLine.cls ≠ "java/lang/invoke/VarHandle" ∧ (parseMethodDescriptor yX9_hasLine.desc).map (fun d => d.parameters.length) = some 3 := by decide +kernel
set_option maxHeartbeats 4000000 in
set_option maxRecDepth 100000 in
theorem ch_X9_hasLine (l : Launch) (D : va_G) (cy : Nat → ClassId) (h : Nat) (a1 : Int32) (a2 : Int32) (a3 : Int32) (s0 : HSt) (out : HSt × Int32) (hf : fh_X9_hasLine h a1 a2 a3 s0 = some out) : CHi l D cy yX9_hasLine wsX9_hasLine { frames := 1, cells := 0, slots := 0, locals := 22 } 0 0 False True [.ref h, .int a1, .int a2, .int a3] s0 out := by
  refine Met.ofW (cc := cX9_hasLine) (maxL := 4) (ret := (some .boolean)) (by decide) rfl ?_
  intro p e s m args below meth c s₁ B hml hv
  obtain ⟨rfl, hP, hK, hD0, hkx, hsz, hal⟩ := hv
  have hx := B.exec
  have hb := B.bytes
  have hr := B.returns
  have hts := atoms_spec (ws := wsX9_hasLine) B.pre
  have hown : s.vm.findClass RX9 = some m.cls := findClass_of_methodNamed B.named
  have hlocks := B.notSynchronized
  have hI : HI D cy s s0 s0 s.heap [] 0 False True := ⟨hK, hP, hD0.weaken (fun k q hk _ => Or.inl (pl_mem hk)), va_S.rf, hsz.1, hkx, ⟨hsz, hal⟩, fun _ => rfl, Nat.le_refl _⟩
  have hin_X9 : ∀ w ∈ u_ws RX9 TX9 5, w ∈ wsX9_hasLine := fun w hw => List.mem_cons_of_mem _ (List.mem_append_left _ (List.mem_append_right _ hw))
  have kl_16 : Cond.fieldLink RX9 16 "HalfBridge$Span" "yards" "[I" ∈ wsX9_hasLine := by decide +kernel
  have hl := lv_entry ([.ref h, .int a1, .int a2, .int a3]) (n := 4) (Nat.le_of_ble_eq_true rfl)
  rw [lg_entry_eq]
  generalize (lg_sl ([.ref h, .int a1, .int a2, .int a3]) ++ List.replicate (4 - (lg_sl ([.ref h, .int a1, .int a2, .int a3])).length) Slot.unset).toArray = ls at hl ⊢
  have hl : lv_has ls 4 [(0, .ref h), (1, .int a1), (2, .int a2), (3, .int a3)] := hl
  obtain ⟨K0, hK0, hf⟩ := top_e hf
  unfold fh_X9_hasLine at hf
  refine lv_iload_n hx hb dX9_hasLine_0 rfl (lv_at hl 2 rfl) ?_
  refine lv_aload_n hx hb dX9_hasLine_1 rfl (lv_at hl 0 rfl) ?_
  obtain ⟨k1, hf⟩ := chk_b hf
  refine hg_9_2 hx hb hts hin_X9 hown kl_16 hI (isk_k k1) dX9_hasLine_2 ?_
  refine lv_iload_n hx hb dX9_hasLine_5 rfl (lv_at hl 1 rfl) ?_
  obtain ⟨b2, hd3, hf⟩ := bnd_b hf
  obtain ⟨hq4, hk5⟩ := dr_e hd3
  refine W.eq (g2 := F0 m 6 ls [.int a1, .ref b2, .int a2]) (by rw [hq4]; rfl) ?_
  obtain ⟨k6, hf⟩ := chk_b hf
  refine hl_I hx hb hI hk5 k6 dX9_hasLine_6 ?_
  refine lv_icmp_ge (tgt := 24) hx hb dX9_hasLine_7 (by decide) (fun c7 => ?_) (fun c7 => ?_)
  · replace hf := ifp c7 hf
    refine lv_iconst (v := 0) hx hb dX9_hasLine_24 (by decide) ?_
    exact hret_z hx hb hr (by decide) hlocks hI (by decide) (by decide) (fun _ => ⟨trivial, rfl⟩) (ret_e hK0 hf) dX9_hasLine_25
  · replace hf := ifn c7 hf
    refine lv_aload_n hx hb dX9_hasLine_10 rfl (lv_at hl 0 rfl) ?_
    refine lv_iload_n hx hb dX9_hasLine_11 rfl (lv_at hl 1 rfl) ?_
    refine lv_iload_n hx hb dX9_hasLine_12 rfl (lv_at hl 2 rfl) ?_
    obtain ⟨x8, hc9, hf⟩ := bnd_b hf
    refine hcall_Vi (ex2 := True) (As := [.int a1, .int a2]) (rest := []) (n := 2) (by rw [(isk_k k1)]; decide) (hC_10 (isk_k k1)) rfl ⟨hx, hb, hml, hown, hts⟩ (ch_X9_lineAt l D cy h a1 a2 s0 x8 hc9) (cwV 2 hts gX9_hasLine_X9_lineAt rfl rfl rfl ⟨rfl, nd_X9_lineAt⟩ ⟨Nat.le_of_ble_eq_true rfl, Nat.le_of_ble_eq_true rfl⟩) hI (fun h => h.elim) (fun _ => ⟨trivial, trivial⟩) rfl hl.1 (Nat.le_of_ble_eq_true rfl) dX9_hasLine_13 ⟨Nat.le_of_ble_eq_true rfl, Nat.le_of_ble_eq_true rfl⟩ (fun H locs hI => ?_)
    refine lv_iload_n hx hb dX9_hasLine_16 rfl (lv_at hl 3 rfl) ?_
    refine lv_icmp_ne (tgt := 24) hx hb dX9_hasLine_17 (by decide) (fun c10 => ?_) (fun c10 => ?_)
    · replace hf := ifn c10 hf
      refine lv_iconst (v := 0) hx hb dX9_hasLine_24 (by decide) ?_
      exact hret_z hx hb hr (by decide) hlocks hI (by decide) (by decide) (fun _ => ⟨trivial, rfl⟩) (ret_e hK0 hf) dX9_hasLine_25
    · replace hf := ifp c10 hf
      refine lv_iconst (v := 1) hx hb dX9_hasLine_20 (by decide) ?_
      refine lv_goto (tgt := 25) hx hb dX9_hasLine_21 (by decide) ?_
      exact hret_z hx hb hr (by decide) hlocks hI (by decide) (by decide) (fun _ => ⟨trivial, rfl⟩) (ret_e hK0 hf) dX9_hasLine_25

theorem nd_X8_areRuinsOf : yX8_areRuinsOf.cls ≠ "java/lang/invoke/MethodHandle" ∧ yX8_areRuinsOf.cls ≠ "java/lang/invoke/VarHandle" ∧ (parseMethodDescriptor yX8_areRuinsOf.desc).map (fun d => d.parameters.length) = some 1 := by decide +kernel
set_option maxHeartbeats 4000000 in
set_option maxRecDepth 100000 in
theorem ch_X8_areRuinsOf (l : Launch) (D : va_G) (cy : Nat → ClassId) (h : Nat) (a1 : Option Nat) (s0 : HSt) (out : HSt × Int32) (hf : fh_X8_areRuinsOf h a1 s0 = some out) : CHi l D cy yX8_areRuinsOf wsX8_areRuinsOf { frames := 2, cells := 0, slots := 0, locals := 45 } 0 0 False True [.ref h, va_rf a1] s0 out := by
  refine Met.ofW (cc := cX8_areRuinsOf) (maxL := 4) (ret := (some .boolean)) (by decide) rfl ?_
  intro p e s m args below meth c s₁ B hml hv
  obtain ⟨rfl, hP, hK, hD0, hkx, hsz, hal⟩ := hv
  have hx := B.exec
  have hb := B.bytes
  have hr := B.returns
  have hts := atoms_spec (ws := wsX8_areRuinsOf) B.pre
  have hown : s.vm.findClass RX8 = some m.cls := findClass_of_methodNamed B.named
  have hlocks := B.notSynchronized
  have hI : HI D cy s s0 s0 s.heap [] 0 False True := ⟨hK, hP, hD0.weaken (fun k q hk _ => Or.inl (pl_mem hk)), va_S.rf, hsz.1, hkx, ⟨hsz, hal⟩, fun _ => rfl, Nat.le_refl _⟩
  have hin_X8 : ∀ w ∈ u_ws RX8 TX8 5, w ∈ wsX8_areRuinsOf := fun w hw => List.mem_cons_of_mem _ (List.mem_append_left _ (List.mem_append_left _ (List.mem_append_right _ hw)))
  have kl_20 : Cond.fieldLink RX8 20 "HalfBridge$Site" "ruins" "[I" ∈ wsX8_areRuinsOf := by decide +kernel
  have kl_38 : Cond.fieldLink RX8 38 "HalfBridge$Site" "ruinsTold" "I" ∈ wsX8_areRuinsOf := by decide +kernel
  have hl := lv_entry ([.ref h, va_rf a1]) (n := 4) (by simp [lg_sl, cat_rf, cat_i, cat_l, cat_r])
  rw [lg_entry_eq]
  generalize (lg_sl ([.ref h, va_rf a1]) ++ List.replicate (4 - (lg_sl ([.ref h, va_rf a1])).length) Slot.unset).toArray = ls at hl ⊢
  have hl : lv_has ls 4 [(0, .ref h), (1, va_rf a1)] := (by simpa [lv_args, cat_rf, cat_i, cat_l, cat_r] using hl)
  obtain ⟨K0, hK0, hf⟩ := top_e hf
  have B_62 : ∀   (st : HSt) (H : Heap) (locs : List Loc) (ls : Array Slot), HI D cy s s0 st H locs 0 False True → lv_has ls 4 [] → (fh_X8_areRuinsOf_j62 h st).bind K0 = some out → W p l e (headSpec wsX8_areRuinsOf { frames := 2, cells := 0, slots := 0, locals := 45 }).room s m (([.ref h, va_rf a1] : List Value).toArray) below meth c H locs 0 0 (MQ below (HQi D cy s0 0 True out) ([.ref h, va_rf a1] : List Value).toArray s 0 0 (hF s0)) (F0 m 62 ls []) := by
    intro st H locs ls hI hl hf
    unfold fh_X8_areRuinsOf_j62 at hf
    refine lv_iconst (v := 1) hx hb dX8_areRuinsOf_62 (by decide) ?_
    exact hret_z hx hb hr (by decide) hlocks hI (by decide) (by decide) (fun _ => ⟨trivial, rfl⟩) (ret_e hK0 hf) dX8_areRuinsOf_63
  have L_4 : ∀ (v1 : Option Nat) (n : Nat) (v2 : Int32) (v3 : Int32) (st : HSt) (H : Heap) (locs : List Loc) (ls : Array Slot), HI D cy s s0 st H locs 0 False True → lv_has ls 4 [(0, .ref h), (1, va_rf v1), (2, .int v2), (3, .int v3)] → (iter (fun x : (Int32 × Int32 × HSt) => fh_X8_areRuinsOf_s4 h v1 x.1 x.2.1 x.2.2) n (v2, v3, st)).bind (fun x => ((Sum.elim (fun o : HSt × Int32 => (some o : Option (HSt × Int32))) (fun x : (Int32 × Int32 × HSt) => fh_X8_areRuinsOf_j62 h x.2.2)) x).bind K0) = some out → W p l e (headSpec wsX8_areRuinsOf { frames := 2, cells := 0, slots := 0, locals := 45 }).room s m (([.ref h, va_rf a1] : List Value).toArray) below meth c H locs 0 0 (MQ below (HQi D cy s0 0 True out) ([.ref h, va_rf a1] : List Value).toArray s 0 0 (hF s0)) (F0 m 4 ls []) := by
    intro v1 n
    induction n with
    | zero => intro v2 v3 st H locs ls hI hl hf; exact (iter_0 hf).elim
    | succ n ih =>
      intro v2 v3 st H locs ls hI hl hf
      obtain ⟨K1, hK1, hf⟩ := iter_e hf
      replace hf : (fh_X8_areRuinsOf_s4 h v1 v2 v3 st).bind K1 = some out := hf
      unfold fh_X8_areRuinsOf_s4 at hf
      refine lv_iload_n hx hb dX8_areRuinsOf_4 rfl (lv_at hl 3 rfl) ?_
      refine lv_aload_n hx hb dX8_areRuinsOf_5 rfl (lv_at hl 0 rfl) ?_
      obtain ⟨k1, hf⟩ := chk_b hf
      refine hg_8_4 hx hb hts hin_X8 hown kl_20 hI (isk_k k1) dX8_areRuinsOf_6 ?_
      obtain ⟨b2, hd3, hf⟩ := bnd_b hf
      obtain ⟨hq4, hk5⟩ := dr_e hd3
      refine W.eq (g2 := F0 m 9 ls [.ref b2, .int v3]) (by rw [hq4]; rfl) ?_
      refine ha_22 hx hb hI hk5 dX8_areRuinsOf_9 ?_
      refine lv_icmp_ge (tgt := 62) hx hb dX8_areRuinsOf_10 (by decide) (fun c6 => ?_) (fun c6 => ?_)
      · replace hf := ifp c6 hf
        replace hf := exit_b hK1 hf
        exact B_62  st H locs ls hI (lv_sub hl [] rfl) hf
      · replace hf := ifn c6 hf
        refine lv_iload_n hx hb dX8_areRuinsOf_13 rfl (lv_at hl 2 rfl) ?_
        refine lv_aload_n hx hb dX8_areRuinsOf_14 rfl (lv_at hl 0 rfl) ?_
        refine hg_8_2 hx hb hts hin_X8 hown kl_38 hI (isk_k k1) dX8_areRuinsOf_15 ?_
        refine lv_icmp_ge (tgt := 62) hx hb dX8_areRuinsOf_18 (by decide) (fun c7 => ?_) (fun c7 => ?_)
        · replace hf := ifp c7 hf
          replace hf := exit_b hK1 hf
          exact B_62  st H locs ls hI (lv_sub hl [] rfl) hf
        · replace hf := ifn c7 hf
          refine lv_aload_n hx hb dX8_areRuinsOf_21 rfl (lv_at hl 0 rfl) ?_
          refine hg_8_4 hx hb hts hin_X8 hown kl_20 hI (isk_k k1) dX8_areRuinsOf_22 ?_
          refine lv_iload_n hx hb dX8_areRuinsOf_25 rfl (lv_at hl 3 rfl) ?_
          refine W.eq (g2 := F0 m 26 ls [.int v3, .ref b2]) (by rw [hq4]; rfl) ?_
          obtain ⟨k8, hf⟩ := chk_b hf
          refine hl_I hx hb hI hk5 k8 dX8_areRuinsOf_26 ?_
          refine lv_ldc (v := 100000) hx hb hown (hts (.constant RX8 23 (100000)) (by decide +kernel)) dX8_areRuinsOf_27 ?_
          refine lv_icmp_eq (tgt := 56) hx hb dX8_areRuinsOf_29 (by decide) (fun c9 => ?_) (fun c9 => ?_)
          · replace hf := ifp c9 hf
            refine lv_iinc (v := (v3 + 1)) (lv' := [(3, .int (v3 + 1)), (0, .ref h), (1, va_rf v1), (2, .int v2)]) hx hb dX8_areRuinsOf_56 hl (k := 3) rfl (ci_ _ (by decide)) (by decide) (by first | rfl | (simp [cat_rf, cat_i, cat_l, cat_r]; done) | (simp [cat_rf, cat_i, cat_l, cat_r]; decide)) (fun ls hl => ?_)
            refine lv_goto (tgt := 4) hx hb dX8_areRuinsOf_59 (by decide) ?_
            replace hf := cont_b hK1 hf
            exact ih v2 (v3 + 1) st H locs ls hI (lv_sub hl [1, 2, 3, 0] rfl) hf
          · replace hf := ifn c9 hf
            refine lv_iinc (v := (v2 + 1)) (lv' := [(2, .int (v2 + 1)), (0, .ref h), (1, va_rf v1), (3, .int v3)]) hx hb dX8_areRuinsOf_32 hl (k := 2) rfl (ci_ _ (by decide)) (by decide) (by first | rfl | (simp [cat_rf, cat_i, cat_l, cat_r]; done) | (simp [cat_rf, cat_i, cat_l, cat_r]; decide)) (fun ls hl => ?_)
            refine hq_aload_n hx hb dX8_areRuinsOf_35 rfl (lv_at hl 2 rfl) ?_
            refine lv_iload_n hx hb dX8_areRuinsOf_36 rfl (lv_at hl 3 rfl) ?_
            refine lv_iconst (v := 2) hx hb dX8_areRuinsOf_37 (by decide) ?_
            refine lv_irem hx hb dX8_areRuinsOf_38 (by decide) ?_
            refine lv_iload_n hx hb dX8_areRuinsOf_39 rfl (lv_at hl 3 rfl) ?_
            refine lv_iconst (v := 2) hx hb dX8_areRuinsOf_40 (by decide) ?_
            refine lv_idiv hx hb dX8_areRuinsOf_41 (by decide) ?_
            refine lv_aload_n hx hb dX8_areRuinsOf_42 rfl (lv_at hl 1 rfl) ?_
            refine hg_8_4 hx hb hts hin_X8 hown kl_20 hI (isk_k k1) dX8_areRuinsOf_43 ?_
            refine lv_iload_n hx hb dX8_areRuinsOf_46 rfl (lv_at hl 3 rfl) ?_
            refine W.eq (g2 := F0 m 47 ls [.int v3, .ref b2, .int (v3 / (2 : Int32)), .int (v3 - v3 / (2 : Int32) * (2 : Int32)), va_rf v1]) (by rw [hq4]; rfl) ?_
            obtain ⟨k10, hf⟩ := chk_b hf
            refine hl_I hx hb hI hk5 k10 dX8_areRuinsOf_47 ?_
            obtain ⟨b11, hd12, hf⟩ := bnd_b hf
            obtain ⟨hq13, hk14⟩ := dr_e hd12
            refine W.eq (g2 := F0 m 48 ls [.int (gA st b2 v3.toNatClampNeg), .int (v3 / (2 : Int32)), .int (v3 - v3 / (2 : Int32) * (2 : Int32)), .ref b11]) (by rw [hq13]; rfl) ?_
            obtain ⟨x15, hc16, hf⟩ := bnd_b hf
            refine hcall_Vi (ex2 := True) (As := [.int (v3 - v3 / (2 : Int32) * (2 : Int32)), .int (v3 / (2 : Int32)), .int (gA st b2 v3.toNatClampNeg)]) (rest := []) (n := 3) (by rw [hk14]; decide) (hC_10 hk14) rfl ⟨hx, hb, hml, hown, hts⟩ (ch_X9_hasLine l D cy b11 (v3 - v3 / (2 : Int32) * (2 : Int32)) (v3 / (2 : Int32)) (gA st b2 v3.toNatClampNeg) st x15 hc16) (cwV 3 hts gX8_areRuinsOf_X9_hasLine rfl rfl rfl ⟨rfl, nd_X9_hasLine⟩ ⟨Nat.le_of_ble_eq_true rfl, Nat.le_of_ble_eq_true rfl⟩) hI (fun h => h.elim) (fun _ => ⟨trivial, trivial⟩) rfl hl.1 (Nat.le_of_ble_eq_true rfl) dX8_areRuinsOf_48 ⟨Nat.le_of_ble_eq_true rfl, Nat.le_of_ble_eq_true rfl⟩ (fun H locs hI => ?_)
            refine lv_if_ne (tgt := 56) hx hb dX8_areRuinsOf_51 (by decide) (fun c17 => ?_) (fun c17 => ?_)
            · replace hf := ifn c17 hf
              refine lv_iinc (v := (v3 + 1)) (lv' := [(3, .int (v3 + 1)), (2, .int (v2 + 1)), (0, .ref h), (1, va_rf v1)]) hx hb dX8_areRuinsOf_56 hl (k := 3) rfl (ci_ _ (by decide)) (by decide) (by first | rfl | (simp [cat_rf, cat_i, cat_l, cat_r]; done) | (simp [cat_rf, cat_i, cat_l, cat_r]; decide)) (fun ls hl => ?_)
              refine lv_goto (tgt := 4) hx hb dX8_areRuinsOf_59 (by decide) ?_
              replace hf := cont_b hK1 hf
              exact ih (v2 + 1) (v3 + 1) x15.1 H locs ls hI (lv_sub hl [2, 3, 1, 0] rfl) hf
            · replace hf := ifp c17 hf
              refine lv_iconst (v := 0) hx hb dX8_areRuinsOf_54 (by decide) ?_
              replace hf := inl_b hK1 hf
              replace hf : Option.bind (some (x15.1, (0 : Int32))) K0 = some out := hf
              exact hret_z hx hb hr (by decide) hlocks hI (by decide) (by decide) (fun _ => ⟨trivial, rfl⟩) (ret_e hK0 hf) dX8_areRuinsOf_55
  unfold fh_X8_areRuinsOf at hf
  refine lv_iconst (v := 0) hx hb dX8_areRuinsOf_0 (by decide) ?_
  refine lv_istore_n (lv' := [(2, .int (0 : Int32)), (0, .ref h), (1, va_rf a1)]) hx hb dX8_areRuinsOf_1 rfl hl (by decide) (by first | rfl | (simp [cat_rf, cat_i, cat_l, cat_r]; done) | (simp [cat_rf, cat_i, cat_l, cat_r]; decide)) (fun ls hl => ?_)
  refine lv_iconst (v := 0) hx hb dX8_areRuinsOf_2 (by decide) ?_
  refine lv_istore_n (lv' := [(3, .int (0 : Int32)), (2, .int (0 : Int32)), (0, .ref h), (1, va_rf a1)]) hx hb dX8_areRuinsOf_3 rfl hl (by decide) (by first | rfl | (simp [cat_rf, cat_i, cat_l, cat_r]; done) | (simp [cat_rf, cat_i, cat_l, cat_r]; decide)) (fun ls hl => ?_)
  exact L_4 a1 mFuel (0 : Int32) (0 : Int32) s0 s.heap [] ls hI (lv_sub hl [2, 3, 1, 0] rfl) (asc_b hf)

theorem nd_X2_tally : yX2_tally.cls ≠ "java/lang/invoke/MethodHandle" ∧ yX2_tally.cls ≠ "java/lang/invoke/VarHandle" ∧ (parseMethodDescriptor yX2_tally.desc).map (fun d => d.parameters.length) = some 0 := by decide +kernel
set_option maxHeartbeats 4000000 in
set_option maxRecDepth 100000 in
theorem ch_X2_tally (l : Launch) (D : va_G) (cy : Nat → ClassId) (h : Nat)  (s0 : HSt) (out : HSt) (hf : fh_X2_tally h s0 = some out) : CHv l D cy yX2_tally wsX2_tally { frames := 0, cells := 0, slots := 0, locals := 0 } 0 0 False True [.ref h] s0 out := by
  refine Met.ofW (cc := cX2_tally) (maxL := 2) (ret := none) (by decide) rfl ?_
  intro p e s m args below meth c s₁ B hml hv
  obtain ⟨rfl, hP, hK, hD0, hkx, hsz, hal⟩ := hv
  have hx := B.exec
  have hb := B.bytes
  have hr := B.returns
  have hts := atoms_spec (ws := wsX2_tally) B.pre
  have hown : s.vm.findClass RX2 = some m.cls := findClass_of_methodNamed B.named
  have hlocks := B.notSynchronized
  have hI : HI D cy s s0 s0 s.heap [] 0 False True := ⟨hK, hP, hD0.weaken (fun k q hk _ => Or.inl (pl_mem hk)), va_S.rf, hsz.1, hkx, ⟨hsz, hal⟩, fun _ => rfl, Nat.le_refl _⟩
  have hin_X2 : ∀ w ∈ u_ws RX2 TX2 11, w ∈ wsX2_tally := fun w hw => List.mem_cons_of_mem _ (List.mem_append_right _ hw)
  have kl_9 : Cond.fieldLink RX2 9 "HalfBridge$Inquest" "errorSigns" "[I" ∈ wsX2_tally := by decide +kernel
  have kl_16 : Cond.fieldLink RX2 16 "HalfBridge$Inquest" "erredRows" "[I" ∈ wsX2_tally := by decide +kernel
  have kl_44 : Cond.fieldLink RX2 44 "HalfBridge$Inquest" "days" "I" ∈ wsX2_tally := by decide +kernel
  have kl_51 : Cond.fieldLink RX2 51 "HalfBridge$Inquest" "rows" "I" ∈ wsX2_tally := by decide +kernel
  have hl := lv_entry ([.ref h]) (n := 2) (Nat.le_of_ble_eq_true rfl)
  rw [lg_entry_eq]
  generalize (lg_sl ([.ref h]) ++ List.replicate (2 - (lg_sl ([.ref h])).length) Slot.unset).toArray = ls at hl ⊢
  have hl : lv_has ls 2 [(0, .ref h)] := hl
  obtain ⟨K0, hK0, hf⟩ := top_e hf
  have B_47 : ∀   (st : HSt) (H : Heap) (locs : List Loc) (ls : Array Slot), HI D cy s s0 st H locs 0 False True → lv_has ls 2 [] → (fh_X2_tally_j47 h st).bind K0 = some out → W p l e (headSpec wsX2_tally { frames := 0, cells := 0, slots := 0, locals := 0 }).room s m (([.ref h] : List Value).toArray) below meth c H locs 0 0 (MQ below (HQv D cy s0 0 True out) ([.ref h] : List Value).toArray s 0 0 (hF s0)) (F0 m 47 ls []) := by
    intro st H locs ls hI hl hf
    unfold fh_X2_tally_j47 at hf
    exact hret_v hx hb hr hlocks hI (by decide) (by decide) (fun _ => ⟨trivial, rfl⟩) (ret_e hK0 hf) dX2_tally_47
  have L_12 : ∀  (n : Nat) (v1 : Int32) (st : HSt) (H : Heap) (locs : List Loc) (ls : Array Slot), HI D cy s s0 st H locs 0 False True → lv_has ls 2 [(0, .ref h), (1, .int v1)] → (iter (fun x : (Int32 × HSt) => fh_X2_tally_s12 h x.1 x.2) n (v1, st)).bind (fun x => ((Sum.elim (fun o : HSt => (some o : Option (HSt))) (fun x : (Int32 × HSt) => fh_X2_tally_j47 h x.2)) x).bind K0) = some out → W p l e (headSpec wsX2_tally { frames := 0, cells := 0, slots := 0, locals := 0 }).room s m (([.ref h] : List Value).toArray) below meth c H locs 0 0 (MQ below (HQv D cy s0 0 True out) ([.ref h] : List Value).toArray s 0 0 (hF s0)) (F0 m 12 ls []) := by
    intro n
    induction n with
    | zero => intro v1 st H locs ls hI hl hf; exact (iter_0 hf).elim
    | succ n ih =>
      intro v1 st H locs ls hI hl hf
      obtain ⟨K1, hK1, hf⟩ := iter_e hf
      replace hf : (fh_X2_tally_s12 h v1 st).bind K1 = some out := hf
      unfold fh_X2_tally_s12 at hf
      refine lv_iload_n hx hb dX2_tally_12 rfl (lv_at hl 1 rfl) ?_
      refine lv_iconst (v := 2) hx hb dX2_tally_13 (by decide) ?_
      refine lv_aload_n hx hb dX2_tally_14 rfl (lv_at hl 0 rfl) ?_
      obtain ⟨k2, hf⟩ := chk_b hf
      refine hg_2_9 hx hb hts hin_X2 hown kl_44 hI (isk_k k2) dX2_tally_15 ?_
      refine lv_imul hx hb dX2_tally_18 ?_
      refine lv_icmp_ge (tgt := 47) hx hb dX2_tally_19 (by decide) (fun c3 => ?_) (fun c3 => ?_)
      · replace hf := ifp c3 hf
        replace hf := exit_b hK1 hf
        exact B_47  st H locs ls hI (lv_sub hl [] rfl) hf
      · replace hf := ifn c3 hf
        refine lv_aload_n hx hb dX2_tally_22 rfl (lv_at hl 0 rfl) ?_
        refine hg_2_3 hx hb hts hin_X2 hown kl_9 hI (isk_k k2) dX2_tally_23 ?_
        refine lv_iload_n hx hb dX2_tally_26 rfl (lv_at hl 1 rfl) ?_
        obtain ⟨b4, hd5, hf⟩ := bnd_b hf
        obtain ⟨hq6, hk7⟩ := dr_e hd5
        refine W.eq (g2 := F0 m 27 ls [.int v1, .ref b4]) (by rw [hq6]; rfl) ?_
        obtain ⟨k8, hf⟩ := chk_b hf
        refine hl_I hx hb hI hk7 k8 dX2_tally_27 ?_
        refine lv_if_eq (tgt := 41) hx hb dX2_tally_28 (by decide) (fun c9 => ?_) (fun c9 => ?_)
        · replace hf := ifp c9 hf
          refine lv_iinc (v := (v1 + 1)) (lv' := [(1, .int (v1 + 1)), (0, .ref h)]) hx hb dX2_tally_41 hl (k := 1) rfl (ci_ _ (by decide)) (by decide) rfl (fun ls hl => ?_)
          refine lv_goto (tgt := 12) hx hb dX2_tally_44 (by decide) ?_
          replace hf := cont_b hK1 hf
          exact ih (v1 + 1) st H locs ls hI (lv_sub hl [1, 0] rfl) hf
        · replace hf := ifn c9 hf
          refine lv_aload_n hx hb dX2_tally_31 rfl (lv_at hl 0 rfl) ?_
          refine hg_2_5 hx hb hts hin_X2 hown kl_16 hI (isk_k k2) dX2_tally_32 ?_
          refine lv_iload_n hx hb dX2_tally_35 rfl (lv_at hl 1 rfl) ?_
          refine lv_dup2_11 hx hb dX2_tally_36 rfl (cat_rf _) ?_
          obtain ⟨b10, hd11, hf⟩ := bnd_b hf
          obtain ⟨hq12, hk13⟩ := dr_e hd11
          refine W.eq (g2 := F0 m 37 ls [.int v1, .ref b10, .int v1, va_rf (gR st 205 h)]) (by rw [hq12]; rfl) ?_
          obtain ⟨k14, hf⟩ := chk_b hf
          refine hl_I hx hb hI hk13 k14 dX2_tally_37 ?_
          refine lv_iconst (v := 1) hx hb dX2_tally_38 (by decide) ?_
          refine lv_iadd hx hb dX2_tally_39 ?_
          refine W.eq (g2 := F0 m 40 ls [.int ((gA st b10 v1.toNatClampNeg) + (1 : Int32)), .int v1, .ref b10]) (by rw [hq12]; rfl) ?_
          obtain ⟨k15, hf⟩ := chk_b hf
          refine hs_I hx hb hI hk13 k15 dX2_tally_40 (fun H locs hI => ?_)
          obtain ⟨x16, hx16, hf⟩ := bnd_b hf
          replace hx16 := Option.some.inj hx16
          rw [hx16] at hI
          have hk17 : gK x16 h = 3 := by rw [← hx16]; exact (gK_sA.trans (isk_k k2))
          have hk18 : gK x16 b4 = 22 := by rw [← hx16]; exact (gK_sA.trans hk7)
          have hk19 : gK x16 b10 = 22 := by rw [← hx16]; exact (gK_sA.trans hk13)
          refine lv_iinc (v := (v1 + 1)) (lv' := [(1, .int (v1 + 1)), (0, .ref h)]) hx hb dX2_tally_41 hl (k := 1) rfl (ci_ _ (by decide)) (by decide) rfl (fun ls hl => ?_)
          refine lv_goto (tgt := 12) hx hb dX2_tally_44 (by decide) ?_
          replace hf := cont_b hK1 hf
          exact ih (v1 + 1) x16 H locs ls hI (lv_sub hl [1, 0] rfl) hf
  unfold fh_X2_tally at hf
  refine lv_aload_n hx hb dX2_tally_0 rfl (lv_at hl 0 rfl) ?_
  refine lv_dup hx hb dX2_tally_1 rfl ?_
  obtain ⟨k1, hf⟩ := chk_b hf
  refine hg_2_0 hx hb hts hin_X2 hown kl_51 hI (isk_k k1) dX2_tally_2 ?_
  refine lv_iconst (v := 1) hx hb dX2_tally_5 (by decide) ?_
  refine lv_iadd hx hb dX2_tally_6 ?_
  refine hp_2_0 hx hb hts hin_X2 hown kl_51 hI (isk_k k1) dX2_tally_7 (fun H locs hI => ?_)
  refine lv_iconst (v := 0) hx hb dX2_tally_10 (by decide) ?_
  refine lv_istore_n (lv' := [(1, .int (0 : Int32)), (0, .ref h)]) hx hb dX2_tally_11 rfl hl (by decide) rfl (fun ls hl => ?_)
  exact L_12  mFuel (0 : Int32) (sI s0 200 h ((gI s0 200 h) + (1 : Int32))) H locs ls hI (lv_sub hl [1, 0] rfl) (asc_b hf)
