theorem nd_X11_miss : yX11_miss.cls ≠ "java/lang/invoke/MethodHandle" ∧ yX11_miss.cls ≠ "java/lang/invoke/VarHandle" ∧ (parseMethodDescriptor yX11_miss.desc).map (fun d => d.parameters.length) = some 1 := by decide +kernel
set_option maxHeartbeats 4000000 in
set_option maxRecDepth 100000 in
theorem ch_X11_miss (l : Launch) (D : va_G) (cy : Nat → ClassId) (h : Nat) (a1 : Int32) (s0 : HSt) (out : HSt × Int32) (hf : fh_X11_miss h a1 s0 = some out) : CHi l D cy yX11_miss wsX11_miss { frames := 3, cells := 0, slots := 0, locals := 80 } 0 0 False True [.ref h, .int a1] s0 out := by
  refine Met.ofW (cc := cX11_miss) (maxL := 3) (ret := (some .int)) (by decide) rfl ?_
  intro p e s m args below meth c s₁ B hml hv
  obtain ⟨rfl, hP, hK, hD0, hkx, hsz, hal⟩ := hv
  have hx := B.exec
  have hb := B.bytes
  have hr := B.returns
  have hts := atoms_spec (ws := wsX11_miss) B.pre
  have hown : s.vm.findClass RX11 = some m.cls := findClass_of_methodNamed B.named
  have hlocks := B.notSynchronized
  have hI : HI D cy s s0 s0 s.heap [] 0 False True := ⟨hK, hP, hD0.weaken (fun k q hk _ => Or.inl (pl_mem hk)), va_S.rf, hsz.1, hkx, ⟨hsz, hal⟩, fun _ => rfl, Nat.le_refl _⟩
  have hin_X11 : ∀ w ∈ u_ws RX11 TX11 10, w ∈ wsX11_miss := fun w hw => List.mem_cons_of_mem _ (List.mem_append_left _ (List.mem_append_left _ (List.mem_append_left _ (List.mem_append_right _ hw))))
  have hin_X8 : ∀ w ∈ u_ws RX8 TX8 5, w ∈ wsX11_miss := fun w hw => List.mem_cons_of_mem _ (List.mem_append_left _ (List.mem_append_left _ (List.mem_append_right _ hw)))
  have kl_22 : Cond.fieldLink RX11 22 "HalfBridge" "site" "LHalfBridge$Site;" ∈ wsX11_miss := by decide +kernel
  have kl_93 : Cond.fieldLink RX11 93 "HalfBridge$Site" "span" "LHalfBridge$Span;" ∈ wsX11_miss := by decide +kernel
  have hl := lv_entry ([.ref h, .int a1]) (n := 3) (Nat.le_of_ble_eq_true rfl)
  rw [lg_entry_eq]
  generalize (lg_sl ([.ref h, .int a1]) ++ List.replicate (3 - (lg_sl ([.ref h, .int a1])).length) Slot.unset).toArray = ls at hl ⊢
  have hl : lv_has ls 3 [(0, .ref h), (1, .int a1)] := hl
  obtain ⟨K0, hK0, hf⟩ := top_e hf
  unfold fh_X11_miss at hf
  refine lv_aload_n hx hb dX11_miss_0 rfl (lv_at hl 0 rfl) ?_
  obtain ⟨k1, hf⟩ := chk_b hf
  obtain ⟨x2, hc3, hf⟩ := bnd_b hf
  refine hcall_Vi (ex2 := True) (As := []) (rest := []) (n := 0) (by rw [(isk_k k1)]; decide) (hC_12 (isk_k k1)) rfl ⟨hx, hb, hml, hown, hts⟩ (ch_X11_hasRiver l D cy h s0 x2 hc3) (cwV 0 hts gX11_miss_X11_hasRiver rfl rfl rfl ⟨rfl, nd_X11_hasRiver⟩ ⟨Nat.le_of_ble_eq_true rfl, Nat.le_of_ble_eq_true rfl⟩) hI (fun h => h.elim) (fun _ => ⟨trivial, trivial⟩) rfl hl.1 (Nat.le_of_ble_eq_true rfl) dX11_miss_1 ⟨Nat.le_of_ble_eq_true rfl, Nat.le_of_ble_eq_true rfl⟩ (fun H locs hI => ?_)
  refine lv_if_ne (tgt := 9) hx hb dX11_miss_4 (by decide) (fun c4 => ?_) (fun c4 => ?_)
  · replace hf := ifn c4 hf
    refine lv_aload_n hx hb dX11_miss_9 rfl (lv_at hl 0 rfl) ?_
    obtain ⟨k5, hf⟩ := chk_b hf
    refine hg_11_4 hx hb hts hin_X11 hown kl_22 hI (isk_k k5) dX11_miss_10 ?_
    obtain ⟨b6, hd7, hf⟩ := bnd_b hf
    obtain ⟨hq8, hk9⟩ := dr_e hd7
    refine W.eq (g2 := F0 m 13 ls [.ref b6]) (by rw [hq8]; rfl) ?_
    refine hg_8_0 hx hb hts hin_X8 hown kl_93 hI hk9 dX11_miss_13 ?_
    refine hq_astore_n (lv' := [(2, va_rf (gR x2.1 800 b6)), (0, .ref h), (1, .int a1)]) hx hb dX11_miss_16 rfl hl (by decide) (by first | rfl | (simp [cat_rf, cat_i, cat_l, cat_r]; done) | (simp [cat_rf, cat_i, cat_l, cat_r]; decide)) (fun ls hl => ?_)
    refine lv_iload_n hx hb dX11_miss_17 rfl (lv_at hl 2 rfl) ?_
    by_cases c10 : a1 = 0
    · replace hf := ifp c10 hf
      refine lv_tableIn (off := 30) (tgt := 48) hx hb dX11_miss_18 (by rw [c10]; decide) (by rw [c10]; decide) (by rw [c10]; rfl) (by decide) ?_
      refine hq_aload_n hx hb dX11_miss_48 rfl (lv_at hl 0 rfl) ?_
      obtain ⟨b14, hd15, hf⟩ := bnd_b hf
      obtain ⟨hq16, hk17⟩ := dr_e hd15
      refine W.eq (g2 := F0 m 49 ls [.ref b14]) (by rw [hq16]; rfl) ?_
      obtain ⟨x18, hc19, hf⟩ := bnd_b hf
      refine hcall_Vi (ex2 := True) (As := []) (rest := []) (n := 0) (by rw [hk17]; decide) (hC_10 hk17) rfl ⟨hx, hb, hml, hown, hts⟩ (ch_X9_missOfLines l D cy b14 x2.1 x18 hc19) (cwV 0 hts gX11_miss_X9_missOfLines rfl rfl rfl ⟨rfl, nd_X9_missOfLines⟩ ⟨Nat.le_of_ble_eq_true rfl, Nat.le_of_ble_eq_true rfl⟩) hI (fun h => h.elim) (fun _ => ⟨trivial, trivial⟩) rfl hl.1 (Nat.le_of_ble_eq_true rfl) dX11_miss_49 ⟨Nat.le_of_ble_eq_true rfl, Nat.le_of_ble_eq_true rfl⟩ (fun H locs hI => ?_)
      exact hret_i hx hb hr hlocks hI (by decide) (by decide) (fun _ => ⟨trivial, rfl⟩) (ret_e hK0 hf) dX11_miss_52
    replace hf := ifn c10 hf
    by_cases c11 : a1 = 1
    · replace hf := ifp c11 hf
      refine lv_tableIn (off := 35) (tgt := 53) hx hb dX11_miss_18 (by rw [c11]; decide) (by rw [c11]; decide) (by rw [c11]; rfl) (by decide) ?_
      refine hq_aload_n hx hb dX11_miss_53 rfl (lv_at hl 0 rfl) ?_
      obtain ⟨b20, hd21, hf⟩ := bnd_b hf
      obtain ⟨hq22, hk23⟩ := dr_e hd21
      refine W.eq (g2 := F0 m 54 ls [.ref b20]) (by rw [hq22]; rfl) ?_
      obtain ⟨x24, hc25, hf⟩ := bnd_b hf
      refine hcall_Vi (ex2 := True) (As := []) (rest := []) (n := 0) (by rw [hk23]; decide) (hC_10 hk23) rfl ⟨hx, hb, hml, hown, hts⟩ (ch_X9_missOfHeights l D cy b20 x2.1 x24 hc25) (cwV 0 hts gX11_miss_X9_missOfHeights rfl rfl rfl ⟨rfl, nd_X9_missOfHeights⟩ ⟨Nat.le_of_ble_eq_true rfl, Nat.le_of_ble_eq_true rfl⟩) hI (fun h => h.elim) (fun _ => ⟨trivial, trivial⟩) rfl hl.1 (Nat.le_of_ble_eq_true rfl) dX11_miss_54 ⟨Nat.le_of_ble_eq_true rfl, Nat.le_of_ble_eq_true rfl⟩ (fun H locs hI => ?_)
      exact hret_i hx hb hr hlocks hI (by decide) (by decide) (fun _ => ⟨trivial, rfl⟩) (ret_e hK0 hf) dX11_miss_57
    replace hf := ifn c11 hf
    by_cases c12 : a1 = 2
    · replace hf := ifp c12 hf
      refine lv_tableIn (off := 40) (tgt := 58) hx hb dX11_miss_18 (by rw [c12]; decide) (by rw [c12]; decide) (by rw [c12]; rfl) (by decide) ?_
      refine hq_aload_n hx hb dX11_miss_58 rfl (lv_at hl 0 rfl) ?_
      obtain ⟨b26, hd27, hf⟩ := bnd_b hf
      obtain ⟨hq28, hk29⟩ := dr_e hd27
      refine W.eq (g2 := F0 m 59 ls [.ref b26]) (by rw [hq28]; rfl) ?_
      obtain ⟨x30, hc31, hf⟩ := bnd_b hf
      refine hcall_Vi (ex2 := True) (As := []) (rest := []) (n := 0) (by rw [hk29]; decide) (hC_10 hk29) rfl ⟨hx, hb, hml, hown, hts⟩ (ch_X9_isMet l D cy b26 x2.1 x30 hc31) (cwV 0 hts gX11_miss_X9_isMet rfl rfl rfl ⟨rfl, nd_X9_isMet⟩ ⟨Nat.le_of_ble_eq_true rfl, Nat.le_of_ble_eq_true rfl⟩) hI (fun h => h.elim) (fun _ => ⟨trivial, trivial⟩) rfl hl.1 (Nat.le_of_ble_eq_true rfl) dX11_miss_59 ⟨Nat.le_of_ble_eq_true rfl, Nat.le_of_ble_eq_true rfl⟩ (fun H locs hI => ?_)
      refine lv_if_eq (tgt := 69) hx hb dX11_miss_62 (by decide) (fun c32 => ?_) (fun c32 => ?_)
      · replace hf := ifp c32 hf
        refine lv_iconst (v := 0) hx hb dX11_miss_69 (by decide) ?_
        exact hret_i hx hb hr hlocks hI (by decide) (by decide) (fun _ => ⟨trivial, rfl⟩) (ret_e hK0 hf) dX11_miss_70
      · replace hf := ifn c32 hf
        refine lv_iconst (v := 1) hx hb dX11_miss_65 (by decide) ?_
        refine lv_goto (tgt := 70) hx hb dX11_miss_66 (by decide) ?_
        exact hret_i hx hb hr hlocks hI (by decide) (by decide) (fun _ => ⟨trivial, rfl⟩) (ret_e hK0 hf) dX11_miss_70
    replace hf := ifn c12 hf
    by_cases c13 : a1 = 3
    · replace hf := ifp c13 hf
      refine lv_tableIn (off := 53) (tgt := 71) hx hb dX11_miss_18 (by rw [c13]; decide) (by rw [c13]; decide) (by rw [c13]; rfl) (by decide) ?_
      refine hq_aload_n hx hb dX11_miss_71 rfl (lv_at hl 0 rfl) ?_
      obtain ⟨b33, hd34, hf⟩ := bnd_b hf
      obtain ⟨hq35, hk36⟩ := dr_e hd34
      refine W.eq (g2 := F0 m 72 ls [.ref b33]) (by rw [hq35]; rfl) ?_
      obtain ⟨x37, hc38, hf⟩ := bnd_b hf
      refine hcall_Vi (ex2 := True) (As := []) (rest := []) (n := 0) (by rw [hk36]; decide) (hC_10 hk36) rfl ⟨hx, hb, hml, hown, hts⟩ (ch_X9_isInTime l D cy b33 x2.1 x37 hc38) (cwV 0 hts gX11_miss_X9_isInTime rfl rfl rfl ⟨rfl, nd_X9_isInTime⟩ ⟨Nat.le_of_ble_eq_true rfl, Nat.le_of_ble_eq_true rfl⟩) hI (fun h => h.elim) (fun _ => ⟨trivial, trivial⟩) rfl hl.1 (Nat.le_of_ble_eq_true rfl) dX11_miss_72 ⟨Nat.le_of_ble_eq_true rfl, Nat.le_of_ble_eq_true rfl⟩ (fun H locs hI => ?_)
      refine lv_if_eq (tgt := 82) hx hb dX11_miss_75 (by decide) (fun c39 => ?_) (fun c39 => ?_)
      · replace hf := ifp c39 hf
        refine lv_iconst (v := 0) hx hb dX11_miss_82 (by decide) ?_
        exact hret_i hx hb hr hlocks hI (by decide) (by decide) (fun _ => ⟨trivial, rfl⟩) (ret_e hK0 hf) dX11_miss_83
      · replace hf := ifn c39 hf
        refine lv_iconst (v := 1) hx hb dX11_miss_78 (by decide) ?_
        refine lv_goto (tgt := 83) hx hb dX11_miss_79 (by decide) ?_
        exact hret_i hx hb hr hlocks hI (by decide) (by decide) (fun _ => ⟨trivial, rfl⟩) (ret_e hK0 hf) dX11_miss_83
    replace hf := ifn c13 hf
    refine lv_tableOut (tgt := 84) hx hb dX11_miss_18 (tsw_out (fun k k1 k2 => ?_)) (by decide) ?_
    · rcases (show k = 0 ∨ k = 1 ∨ k = 2 ∨ k = 3 by omega) with rfl | rfl | rfl | rfl
      · exact c10
      · exact c11
      · exact c12
      · exact c13
    · refine lv_iconst (v := -1) hx hb dX11_miss_84 (by decide) ?_
      exact hret_i hx hb hr hlocks hI (by decide) (by decide) (fun _ => ⟨trivial, rfl⟩) (ret_e hK0 hf) dX11_miss_85
  · replace hf := ifp c4 hf
    refine lv_iconst (v := -1) hx hb dX11_miss_7 (by decide) ?_
    exact hret_i hx hb hr hlocks hI (by decide) (by decide) (fun _ => ⟨trivial, rfl⟩) (ret_e hK0 hf) dX11_miss_8

theorem nd_X11_pull : yX11_pull.cls ≠ "java/lang/invoke/MethodHandle" ∧ yX11_pull.cls ≠ "java/lang/invoke/VarHandle" ∧ (parseMethodDescriptor yX11_pull.desc).map (fun d => d.parameters.length) = some 1 := by decide +kernel
set_option maxHeartbeats 4000000 in
set_option maxRecDepth 100000 in
theorem ch_X11_pull (l : Launch) (D : va_G) (cy : Nat → ClassId) (h : Nat) (a1 : Int32) (s0 : HSt) (out : HSt × Int32) (hf : fh_X11_pull h a1 s0 = some out) : CHi l D cy yX11_pull wsX11_pull { frames := 2, cells := 0, slots := 0, locals := 62 } 0 0 False True [.ref h, .int a1] s0 out := by
  refine Met.ofW (cc := cX11_pull) (maxL := 2) (ret := (some .boolean)) (by decide) rfl ?_
  intro p e s m args below meth c s₁ B hml hv
  obtain ⟨rfl, hP, hK, hD0, hkx, hsz, hal⟩ := hv
  have hx := B.exec
  have hb := B.bytes
  have hr := B.returns
  have hts := atoms_spec (ws := wsX11_pull) B.pre
  have hown : s.vm.findClass RX11 = some m.cls := findClass_of_methodNamed B.named
  have hlocks := B.notSynchronized
  have hI : HI D cy s s0 s0 s.heap [] 0 False True := ⟨hK, hP, hD0.weaken (fun k q hk _ => Or.inl (pl_mem hk)), va_S.rf, hsz.1, hkx, ⟨hsz, hal⟩, fun _ => rfl, Nat.le_refl _⟩
  have hin_X11 : ∀ w ∈ u_ws RX11 TX11 10, w ∈ wsX11_pull := fun w hw => List.mem_cons_of_mem _ (List.mem_append_left _ (List.mem_append_left _ (List.mem_append_right _ hw)))
  have hin_X8 : ∀ w ∈ u_ws RX8 TX8 5, w ∈ wsX11_pull := fun w hw => List.mem_cons_of_mem _ (List.mem_append_left _ (List.mem_append_right _ hw))
  have kl_22 : Cond.fieldLink RX11 22 "HalfBridge" "site" "LHalfBridge$Site;" ∈ wsX11_pull := by decide +kernel
  have kl_93 : Cond.fieldLink RX11 93 "HalfBridge$Site" "span" "LHalfBridge$Span;" ∈ wsX11_pull := by decide +kernel
  have hl := lv_entry ([.ref h, .int a1]) (n := 2) (Nat.le_of_ble_eq_true rfl)
  rw [lg_entry_eq]
  generalize (lg_sl ([.ref h, .int a1]) ++ List.replicate (2 - (lg_sl ([.ref h, .int a1])).length) Slot.unset).toArray = ls at hl ⊢
  have hl : lv_has ls 2 [(0, .ref h), (1, .int a1)] := hl
  obtain ⟨K0, hK0, hf⟩ := top_e hf
  unfold fh_X11_pull at hf
  refine lv_iload_n hx hb dX11_pull_0 rfl (lv_at hl 1 rfl) ?_
  obtain ⟨x1, hc2, hf⟩ := bnd_b hf
  refine hcall_Si (ex2 := True) (As := [.int a1]) (rest := []) (n := 1) ⟨hx, hb, hml, hown, hts⟩ (ch_X11_isSide l D cy a1 s0 x1 hc2) (va_cwS 1 hts gX11_pull_X11_isSide rfl rfl rfl nd_X11_isSide ⟨Nat.le_of_ble_eq_true rfl, Nat.le_of_ble_eq_true rfl⟩) hI (fun h => h.elim) (fun _ => ⟨trivial, trivial⟩) rfl hl.1 (Nat.le_of_ble_eq_true rfl) dX11_pull_1 ⟨Nat.le_of_ble_eq_true rfl, Nat.le_of_ble_eq_true rfl⟩ (fun H locs hI => ?_)
  refine lv_if_eq (tgt := 21) hx hb dX11_pull_4 (by decide) (fun c3 => ?_) (fun c3 => ?_)
  · replace hf := ifp c3 hf
    refine lv_iconst (v := 0) hx hb dX11_pull_21 (by decide) ?_
    exact hret_z hx hb hr (by decide) hlocks hI (by decide) (by decide) (fun _ => ⟨trivial, rfl⟩) (ret_e hK0 hf) dX11_pull_22
  · replace hf := ifn c3 hf
    refine lv_aload_n hx hb dX11_pull_7 rfl (lv_at hl 0 rfl) ?_
    obtain ⟨k4, hf⟩ := chk_b hf
    refine hg_11_4 hx hb hts hin_X11 hown kl_22 hI (isk_k k4) dX11_pull_8 ?_
    obtain ⟨b5, hd6, hf⟩ := bnd_b hf
    obtain ⟨hq7, hk8⟩ := dr_e hd6
    refine W.eq (g2 := F0 m 11 ls [.ref b5]) (by rw [hq7]; rfl) ?_
    refine hg_8_0 hx hb hts hin_X8 hown kl_93 hI hk8 dX11_pull_11 ?_
    refine lv_iload_n hx hb dX11_pull_14 rfl (lv_at hl 1 rfl) ?_
    obtain ⟨b9, hd10, hf⟩ := bnd_b hf
    obtain ⟨hq11, hk12⟩ := dr_e hd10
    refine W.eq (g2 := F0 m 15 ls [.int a1, .ref b9]) (by rw [hq11]; rfl) ?_
    obtain ⟨x13, hc14, hf⟩ := bnd_b hf
    refine hcall_Vi (ex2 := True) (As := [.int a1]) (rest := []) (n := 1) (by rw [hk12]; decide) (hC_10 hk12) rfl ⟨hx, hb, hml, hown, hts⟩ (ch_X9_yardsOf l D cy b9 a1 x1.1 x13 hc14) (cwV 1 hts gX11_pull_X9_yardsOf rfl rfl rfl ⟨rfl, nd_X9_yardsOf⟩ ⟨Nat.le_of_ble_eq_true rfl, Nat.le_of_ble_eq_true rfl⟩) hI (fun h => h.elim) (fun _ => ⟨trivial, trivial⟩) rfl hl.1 (Nat.le_of_ble_eq_true rfl) dX11_pull_15 ⟨Nat.le_of_ble_eq_true rfl, Nat.le_of_ble_eq_true rfl⟩ (fun H locs hI => ?_)
    refine lv_if_ne (tgt := 23) hx hb dX11_pull_18 (by decide) (fun c15 => ?_) (fun c15 => ?_)
    · replace hf := ifn c15 hf
      refine lv_aload_n hx hb dX11_pull_23 rfl (lv_at hl 0 rfl) ?_
      obtain ⟨k16, hf⟩ := chk_b hf
      refine hg_11_4 hx hb hts hin_X11 hown kl_22 hI (isk_k k16) dX11_pull_24 ?_
      obtain ⟨b17, hd18, hf⟩ := bnd_b hf
      obtain ⟨hq19, hk20⟩ := dr_e hd18
      refine W.eq (g2 := F0 m 27 ls [.ref b17]) (by rw [hq19]; rfl) ?_
      refine hg_8_0 hx hb hts hin_X8 hown kl_93 hI hk20 dX11_pull_27 ?_
      refine lv_iload_n hx hb dX11_pull_30 rfl (lv_at hl 1 rfl) ?_
      refine lv_iconst (v := 1) hx hb dX11_pull_31 (by decide) ?_
      obtain ⟨b21, hd22, hf⟩ := bnd_b hf
      obtain ⟨hq23, hk24⟩ := dr_e hd22
      refine W.eq (g2 := F0 m 32 ls [.int (1 : Int32), .int a1, .ref b21]) (by rw [hq23]; rfl) ?_
      obtain ⟨x25, hc26, hf⟩ := bnd_b hf
      refine hcall_Vv (ex2 := True) (As := [.int a1, .int (1 : Int32)]) (rest := []) (n := 2) (by rw [hk24]; decide) (hC_10 hk24) rfl ⟨hx, hb, hml, hown, hts⟩ (ch_X9_take l D cy b21 a1 (1 : Int32) x13.1 x25 hc26) (cwV 2 hts gX11_pull_X9_take rfl rfl rfl ⟨rfl, nd_X9_take⟩ ⟨Nat.le_of_ble_eq_true rfl, Nat.le_of_ble_eq_true rfl⟩) hI (fun h => h.elim) (fun _ => ⟨trivial, trivial⟩) rfl hl.1 (Nat.le_of_ble_eq_true rfl) dX11_pull_32 ⟨Nat.le_of_ble_eq_true rfl, Nat.le_of_ble_eq_true rfl⟩ (fun H locs hI => ?_)
      refine lv_iconst (v := 1) hx hb dX11_pull_35 (by decide) ?_
      exact hret_z hx hb hr (by decide) hlocks hI (by decide) (by decide) (fun _ => ⟨trivial, rfl⟩) (ret_e hK0 hf) dX11_pull_36
    · replace hf := ifp c15 hf
      refine lv_iconst (v := 0) hx hb dX11_pull_21 (by decide) ?_
      exact hret_z hx hb hr (by decide) hlocks hI (by decide) (by decide) (fun _ => ⟨trivial, rfl⟩) (ret_e hK0 hf) dX11_pull_22

theorem nd_X11_scanTape : yX11_scanTape.cls ≠ "java/lang/invoke/MethodHandle" ∧ yX11_scanTape.cls ≠ "java/lang/invoke/VarHandle" ∧ (parseMethodDescriptor yX11_scanTape.desc).map (fun d => d.parameters.length) = some 0 := by decide +kernel
set_option maxHeartbeats 4000000 in
set_option maxRecDepth 100000 in
theorem ch_X11_scanTape (l : Launch) (D : va_G) (cy : Nat → ClassId) (h : Nat)  (s0 : HSt) (out : HSt) (hf : fh_X11_scanTape h s0 = some out) : CHv l D cy yX11_scanTape wsX11_scanTape { frames := 9, cells := 0, slots := 0, locals := 202 } 0 0 False True [.ref h] s0 out := by
  refine Met.ofW (cc := cX11_scanTape) (maxL := 1) (ret := none) (by decide) rfl ?_
  intro p e s m args below meth c s₁ B hml hv
  obtain ⟨rfl, hP, hK, hD0, hkx, hsz, hal⟩ := hv
  have hx := B.exec
  have hb := B.bytes
  have hr := B.returns
  have hts := atoms_spec (ws := wsX11_scanTape) B.pre
  have hown : s.vm.findClass RX11 = some m.cls := findClass_of_methodNamed B.named
  have hlocks := B.notSynchronized
  have hI : HI D cy s s0 s0 s.heap [] 0 False True := ⟨hK, hP, hD0.weaken (fun k q hk _ => Or.inl (pl_mem hk)), va_S.rf, hsz.1, hkx, ⟨hsz, hal⟩, fun _ => rfl, Nat.le_refl _⟩
  have hin_X11 : ∀ w ∈ u_ws RX11 TX11 10, w ∈ wsX11_scanTape := fun w hw => List.mem_cons_of_mem _ (List.mem_append_left _ (List.mem_append_right _ hw))
  have kl_9 : Cond.fieldLink RX11 9 "HalfBridge" "tape" "[B" ∈ wsX11_scanTape := by decide +kernel
  have kl_33 : Cond.fieldLink RX11 33 "HalfBridge" "tokens" "LHalfBridge$Tokens;" ∈ wsX11_scanTape := by decide +kernel
  have kl_60 : Cond.fieldLink RX11 60 "HalfBridge" "tapeSize" "I" ∈ wsX11_scanTape := by decide +kernel
  have hl := lv_entry ([.ref h]) (n := 1) (Nat.le_of_ble_eq_true rfl)
  rw [lg_entry_eq]
  generalize (lg_sl ([.ref h]) ++ List.replicate (1 - (lg_sl ([.ref h])).length) Slot.unset).toArray = ls at hl ⊢
  have hl : lv_has ls 1 [(0, .ref h)] := hl
  obtain ⟨K0, hK0, hf⟩ := top_e hf
  unfold fh_X11_scanTape at hf
  refine lv_aload_n hx hb dX11_scanTape_0 rfl (lv_at hl 0 rfl) ?_
  obtain ⟨k1, hf⟩ := chk_b hf
  refine hg_11_6 hx hb hts hin_X11 hown kl_33 hI (isk_k k1) dX11_scanTape_1 ?_
  refine lv_aload_n hx hb dX11_scanTape_4 rfl (lv_at hl 0 rfl) ?_
  refine hg_11_0 hx hb hts hin_X11 hown kl_9 hI (isk_k k1) dX11_scanTape_5 ?_
  refine lv_aload_n hx hb dX11_scanTape_8 rfl (lv_at hl 0 rfl) ?_
  refine hg_11_1 hx hb hts hin_X11 hown kl_60 hI (isk_k k1) dX11_scanTape_9 ?_
  obtain ⟨b2, hd3, hf⟩ := bnd_b hf
  obtain ⟨hq4, hk5⟩ := dr_e hd3
  refine W.eq (g2 := F0 m 12 ls [.int (gI s0 1101 h), va_rf (gR s0 1100 h), .ref b2]) (by rw [hq4]; rfl) ?_
  obtain ⟨x6, hc7, hf⟩ := bnd_b hf
  refine hcall_Vv (ex2 := True) (As := [va_rf (gR s0 1100 h), .int (gI s0 1101 h)]) (rest := []) (n := 2) (by rw [hk5]; decide) (hC_11 hk5) rfl ⟨hx, hb, hml, hown, hts⟩ (ch_X10_scan l D cy b2 (gR s0 1100 h) (gI s0 1101 h) s0 x6 hc7) (cwV 2 hts gX11_scanTape_X10_scan rfl rfl rfl ⟨rfl, nd_X10_scan⟩ ⟨Nat.le_of_ble_eq_true rfl, Nat.le_of_ble_eq_true rfl⟩) hI (fun h => h.elim) (fun _ => ⟨trivial, trivial⟩) rfl hl.1 (Nat.le_of_ble_eq_true rfl) dX11_scanTape_12 ⟨Nat.le_of_ble_eq_true rfl, Nat.le_of_ble_eq_true rfl⟩ (fun H locs hI => ?_)
  refine lv_aload_n hx hb dX11_scanTape_15 rfl (lv_at hl 0 rfl) ?_
  refine lv_iconst (v := 0) hx hb dX11_scanTape_16 (by decide) ?_
  obtain ⟨k8, hf⟩ := chk_b hf
  refine hp_11_1 hx hb hts hin_X11 hown kl_60 hI (isk_k k8) dX11_scanTape_17 (fun H locs hI => ?_)
  exact hret_v hx hb hr hlocks hI (by decide) (by decide) (fun _ => ⟨trivial, rfl⟩) (ret_e hK0 hf) dX11_scanTape_20

theorem nd_X5_isClauseTooMany : yX5_isClauseTooMany.cls ≠ "java/lang/invoke/MethodHandle" ∧ yX5_isClauseTooMany.cls ≠ "java/lang/invoke/VarHandle" ∧ (parseMethodDescriptor yX5_isClauseTooMany.desc).map (fun d => d.parameters.length) = some 3 := by decide +kernel
set_option maxHeartbeats 4000000 in
set_option maxRecDepth 100000 in
theorem ch_X5_isClauseTooMany (l : Launch) (D : va_G) (cy : Nat → ClassId) (h : Nat) (a1 : Option Nat) (a2 : Int32) (a3 : Int32) (s0 : HSt) (out : HSt × Int32) (hf : fh_X5_isClauseTooMany h a1 a2 a3 s0 = some out) : CHi l D cy yX5_isClauseTooMany wsX5_isClauseTooMany { frames := 0, cells := 0, slots := 0, locals := 0 } 0 0 False True [.ref h, va_rf a1, .int a2, .int a3] s0 out := by
  refine Met.ofW (cc := cX5_isClauseTooMany) (maxL := 4) (ret := (some .boolean)) (by decide) rfl ?_
  intro p e s m args below meth c s₁ B hml hv
  obtain ⟨rfl, hP, hK, hD0, hkx, hsz, hal⟩ := hv
  have hx := B.exec
  have hb := B.bytes
  have hr := B.returns
  have hts := atoms_spec (ws := wsX5_isClauseTooMany) B.pre
  have hown : s.vm.findClass RX5 = some m.cls := findClass_of_methodNamed B.named
  have hlocks := B.notSynchronized
  have hI : HI D cy s s0 s0 s.heap [] 0 False True := ⟨hK, hP, hD0.weaken (fun k q hk _ => Or.inl (pl_mem hk)), va_S.rf, hsz.1, hkx, ⟨hsz, hal⟩, fun _ => rfl, Nat.le_refl _⟩
  have hin_X4 : ∀ w ∈ u_ws RX4 TX4 9, w ∈ wsX5_isClauseTooMany := fun w hw => List.mem_cons_of_mem _ (List.mem_append_right _ hw)
  have hin_X5 : ∀ w ∈ u_ws RX5 TX5 3, w ∈ wsX5_isClauseTooMany := fun w hw => List.mem_cons_of_mem _ (List.mem_append_left _ (List.mem_append_right _ hw))
  have kl_13 : Cond.fieldLink RX5 13 "HalfBridge$RiverReader" "stepTold" "Z" ∈ wsX5_isClauseTooMany := by decide +kernel
  have kl_17 : Cond.fieldLink RX5 17 "HalfBridge$RiverReader" "inchesTold" "Z" ∈ wsX5_isClauseTooMany := by decide +kernel
  have kl_68 : Cond.fieldLink RX5 68 "HalfBridge$River" "floods" "I" ∈ wsX5_isClauseTooMany := by decide +kernel
  have hl := lv_entry ([.ref h, va_rf a1, .int a2, .int a3]) (n := 4) (by simp [lg_sl, cat_rf, cat_i, cat_l, cat_r])
  rw [lg_entry_eq]
  generalize (lg_sl ([.ref h, va_rf a1, .int a2, .int a3]) ++ List.replicate (4 - (lg_sl ([.ref h, va_rf a1, .int a2, .int a3])).length) Slot.unset).toArray = ls at hl ⊢
  have hl : lv_has ls 4 [(0, .ref h), (1, va_rf a1), (2, .int a2), (3, .int a3)] := (by simpa [lv_args, cat_rf, cat_i, cat_l, cat_r] using hl)
  obtain ⟨K0, hK0, hf⟩ := top_e hf
  have B_21_1 : ∀ (v1 : Option Nat) (v3 : Int32) (t0 : Int32) (t1 : Int32) (st : HSt) (H : Heap) (locs : List Loc) (ls : Array Slot), HI D cy s s0 st H locs 0 False True → lv_has ls 4 [(0, .ref h), (1, va_rf v1), (3, .int v3)] → (fh_X5_isClauseTooMany_j21 h v1 v3 t0 t1 st).bind K0 = some out → W p l e (headSpec wsX5_isClauseTooMany { frames := 0, cells := 0, slots := 0, locals := 0 }).room s m (([.ref h, va_rf a1, .int a2, .int a3] : List Value).toArray) below meth c H locs 0 0 (MQ below (HQi D cy s0 0 True out) ([.ref h, va_rf a1, .int a2, .int a3] : List Value).toArray s 0 0 (hF s0)) (F0 m 21 ls [.int t0, .int t1]) := by
    intro v1 v3 t0 t1 st H locs ls hI hl hf
    unfold fh_X5_isClauseTooMany_j21 at hf
    refine lv_icmp_eq (tgt := 26) hx hb dX5_isClauseTooMany_21 (by decide) (fun c3 => ?_) (fun c3 => ?_)
    · replace hf := ifp c3 hf
      refine lv_iload_n hx hb dX5_isClauseTooMany_26 rfl (lv_at hl 2 rfl) ?_
      by_cases c4 : v3 = 259
      · replace hf := ifp c4 hf
        refine lv_tableIn (off := 25) (tgt := 52) hx hb dX5_isClauseTooMany_27 (by rw [c4]; decide) (by rw [c4]; decide) (by rw [c4]; rfl) (by decide) ?_
        refine lv_aload_n hx hb dX5_isClauseTooMany_52 rfl (lv_at hl 0 rfl) ?_
        obtain ⟨k7, hf⟩ := chk_b hf
        refine hg_5_1 hx hb hts hin_X5 hown kl_13 hI (isk_k k7) dX5_isClauseTooMany_53 ?_
        obtain ⟨k8, hf⟩ := chk_b hf
        exact hret_z hx hb hr (isb_nar k8) hlocks hI (by decide) (by decide) (fun _ => ⟨trivial, rfl⟩) (ret_e hK0 hf) dX5_isClauseTooMany_56
      replace hf := ifn c4 hf
      by_cases c5 : v3 = 260
      · replace hf := ifp c5 hf
        refine lv_tableIn (off := 30) (tgt := 57) hx hb dX5_isClauseTooMany_27 (by rw [c5]; decide) (by rw [c5]; decide) (by rw [c5]; rfl) (by decide) ?_
        refine lv_aload_n hx hb dX5_isClauseTooMany_57 rfl (lv_at hl 0 rfl) ?_
        obtain ⟨k9, hf⟩ := chk_b hf
        refine hg_5_2 hx hb hts hin_X5 hown kl_17 hI (isk_k k9) dX5_isClauseTooMany_58 ?_
        obtain ⟨k10, hf⟩ := chk_b hf
        exact hret_z hx hb hr (isb_nar k10) hlocks hI (by decide) (by decide) (fun _ => ⟨trivial, rfl⟩) (ret_e hK0 hf) dX5_isClauseTooMany_61
      replace hf := ifn c5 hf
      by_cases c6 : v3 = 261
      · replace hf := ifp c6 hf
        refine lv_tableIn (off := 35) (tgt := 62) hx hb dX5_isClauseTooMany_27 (by rw [c6]; decide) (by rw [c6]; decide) (by rw [c6]; rfl) (by decide) ?_
        refine hq_aload_n hx hb dX5_isClauseTooMany_62 rfl (lv_at hl 1 rfl) ?_
        obtain ⟨b11, hd12, hf⟩ := bnd_b hf
        obtain ⟨hq13, hk14⟩ := dr_e hd12
        refine W.eq (g2 := F0 m 63 ls [.ref b11]) (by rw [hq13]; rfl) ?_
        refine hg_4_3 hx hb hts hin_X4 hown kl_68 hI hk14 dX5_isClauseTooMany_63 ?_
        refine lv_bipush (v := 8) hx hb dX5_isClauseTooMany_66 (by decide) ?_
        refine lv_icmp_lt (tgt := 75) hx hb dX5_isClauseTooMany_68 (by decide) (fun c15 => ?_) (fun c15 => ?_)
        · replace hf := ifp c15 hf
          refine lv_iconst (v := 0) hx hb dX5_isClauseTooMany_75 (by decide) ?_
          exact hret_z hx hb hr (by decide) hlocks hI (by decide) (by decide) (fun _ => ⟨trivial, rfl⟩) (ret_e hK0 hf) dX5_isClauseTooMany_76
        · replace hf := ifn c15 hf
          refine lv_iconst (v := 1) hx hb dX5_isClauseTooMany_71 (by decide) ?_
          refine lv_goto (tgt := 76) hx hb dX5_isClauseTooMany_72 (by decide) ?_
          exact hret_z hx hb hr (by decide) hlocks hI (by decide) (by decide) (fun _ => ⟨trivial, rfl⟩) (ret_e hK0 hf) dX5_isClauseTooMany_76
      replace hf := ifn c6 hf
      refine lv_tableOut (tgt := 77) hx hb dX5_isClauseTooMany_27 (tsw_out (fun k k1 k2 => ?_)) (by decide) ?_
      · rcases (show k = 259 ∨ k = 260 ∨ k = 261 by omega) with rfl | rfl | rfl
        · exact c4
        · exact c5
        · exact c6
      · refine lv_iconst (v := 0) hx hb dX5_isClauseTooMany_77 (by decide) ?_
        exact hret_z hx hb hr (by decide) hlocks hI (by decide) (by decide) (fun _ => ⟨trivial, rfl⟩) (ret_e hK0 hf) dX5_isClauseTooMany_78
    · replace hf := ifn c3 hf
      refine lv_iconst (v := 1) hx hb dX5_isClauseTooMany_24 (by decide) ?_
      exact hret_z hx hb hr (by decide) hlocks hI (by decide) (by decide) (fun _ => ⟨trivial, rfl⟩) (ret_e hK0 hf) dX5_isClauseTooMany_25
  have B_9_0 : ∀ (v1 : Option Nat) (v3 : Int32) (t0 : Int32) (st : HSt) (H : Heap) (locs : List Loc) (ls : Array Slot), HI D cy s s0 st H locs 0 False True → lv_has ls 4 [(0, .ref h), (1, va_rf v1), (3, .int v3)] → (fh_X5_isClauseTooMany_j9 h v1 v3 t0 st).bind K0 = some out → W p l e (headSpec wsX5_isClauseTooMany { frames := 0, cells := 0, slots := 0, locals := 0 }).room s m (([.ref h, va_rf a1, .int a2, .int a3] : List Value).toArray) below meth c H locs 0 0 (MQ below (HQi D cy s0 0 True out) ([.ref h, va_rf a1, .int a2, .int a3] : List Value).toArray s 0 0 (hF s0)) (F0 m 9 ls [.int t0]) := by
    intro v1 v3 t0 st H locs ls hI hl hf
    unfold fh_X5_isClauseTooMany_j9 at hf
    refine lv_iload_n hx hb dX5_isClauseTooMany_9 rfl (lv_at hl 2 rfl) ?_
    refine lv_sipush (v := 256) hx hb dX5_isClauseTooMany_10 (by decide) ?_
    refine lv_icmp_ne (tgt := 20) hx hb dX5_isClauseTooMany_13 (by decide) (fun c2 => ?_) (fun c2 => ?_)
    · replace hf := ifn c2 hf
      refine lv_iconst (v := 0) hx hb dX5_isClauseTooMany_20 (by decide) ?_
      exact B_21_1 v1 v3 (0 : Int32) t0 st H locs ls hI (lv_sub hl [0, 1, 2] rfl) hf
    · replace hf := ifp c2 hf
      refine lv_iconst (v := 1) hx hb dX5_isClauseTooMany_16 (by decide) ?_
      refine lv_goto (tgt := 21) hx hb dX5_isClauseTooMany_17 (by decide) ?_
      exact B_21_1 v1 v3 (1 : Int32) t0 st H locs ls hI (lv_sub hl [0, 1, 2] rfl) hf
  unfold fh_X5_isClauseTooMany at hf
  refine lv_iload_n hx hb dX5_isClauseTooMany_0 rfl (lv_at hl 2 rfl) ?_
  refine lv_if_ne (tgt := 8) hx hb dX5_isClauseTooMany_1 (by decide) (fun c1 => ?_) (fun c1 => ?_)
  · replace hf := ifn c1 hf
    refine lv_iconst (v := 0) hx hb dX5_isClauseTooMany_8 (by decide) ?_
    exact B_9_0 a1 a3 (0 : Int32) s0 s.heap [] ls hI (lv_sub hl [0, 1, 3] rfl) hf
  · replace hf := ifp c1 hf
    refine lv_iconst (v := 1) hx hb dX5_isClauseTooMany_4 (by decide) ?_
    refine lv_goto (tgt := 9) hx hb dX5_isClauseTooMany_5 (by decide) ?_
    exact B_9_0 a1 a3 (1 : Int32) s0 s.heap [] ls hI (lv_sub hl [0, 1, 3] rfl) hf

theorem nd_X5_number : yX5_number.cls ≠ "java/lang/invoke/MethodHandle" ∧ yX5_number.cls ≠ "java/lang/invoke/VarHandle" ∧ (parseMethodDescriptor yX5_number.desc).map (fun d => d.parameters.length) = some 2 := by decide +kernel
set_option maxHeartbeats 4000000 in
set_option maxRecDepth 100000 in
theorem ch_X5_number (l : Launch) (D : va_G) (cy : Nat → ClassId) (h : Nat) (a1 : Int32) (a2 : Int32) (s0 : HSt) (out : HSt × Int32) (hf : fh_X5_number h a1 a2 s0 = some out) : CHi l D cy yX5_number wsX5_number { frames := 1, cells := 0, slots := 0, locals := 21 } 0 0 False True [.ref h, .int a1, .int a2] s0 out := by
  refine Met.ofW (cc := cX5_number) (maxL := 4) (ret := (some .int)) (by decide) rfl ?_
  intro p e s m args below meth c s₁ B hml hv
  obtain ⟨rfl, hP, hK, hD0, hkx, hsz, hal⟩ := hv
  have hx := B.exec
  have hb := B.bytes
  have hr := B.returns
  have hts := atoms_spec (ws := wsX5_number) B.pre
  have hown : s.vm.findClass RX5 = some m.cls := findClass_of_methodNamed B.named
  have hlocks := B.notSynchronized
  have hI : HI D cy s s0 s0 s.heap [] 0 False True := ⟨hK, hP, hD0.weaken (fun k q hk _ => Or.inl (pl_mem hk)), va_S.rf, hsz.1, hkx, ⟨hsz, hal⟩, fun _ => rfl, Nat.le_refl _⟩
  have hin_X5 : ∀ w ∈ u_ws RX5 TX5 3, w ∈ wsX5_number := fun w hw => List.mem_cons_of_mem _ (List.mem_append_left _ (List.mem_append_right _ hw))
  have kl_7 : Cond.fieldLink RX5 7 "HalfBridge$RiverReader" "tokens" "LHalfBridge$Tokens;" ∈ wsX5_number := by decide +kernel
  have hl := lv_entry ([.ref h, .int a1, .int a2]) (n := 4) (Nat.le_of_ble_eq_true rfl)
  rw [lg_entry_eq]
  generalize (lg_sl ([.ref h, .int a1, .int a2]) ++ List.replicate (4 - (lg_sl ([.ref h, .int a1, .int a2])).length) Slot.unset).toArray = ls at hl ⊢
  have hl : lv_has ls 4 [(0, .ref h), (1, .int a1), (2, .int a2)] := hl
  obtain ⟨K0, hK0, hf⟩ := top_e hf
  unfold fh_X5_number at hf
  refine lv_aload_n hx hb dX5_number_0 rfl (lv_at hl 0 rfl) ?_
  obtain ⟨k1, hf⟩ := chk_b hf
  refine hg_5_0 hx hb hts hin_X5 hown kl_7 hI (isk_k k1) dX5_number_1 ?_
  obtain ⟨b2, hd3, hf⟩ := bnd_b hf
  obtain ⟨hq4, hk5⟩ := dr_e hd3
  refine W.eq (g2 := F0 m 4 ls [.ref b2]) (by rw [hq4]; rfl) ?_
  obtain ⟨x6, hc7, hf⟩ := bnd_b hf
  refine hcall_Vi (ex2 := True) (As := []) (rest := []) (n := 0) (by rw [hk5]; decide) (hC_11 hk5) rfl ⟨hx, hb, hml, hown, hts⟩ (ch_X10_kind l D cy b2 s0 x6 hc7) (cwV 0 hts gX5_number_X10_kind rfl rfl rfl ⟨rfl, nd_X10_kind⟩ ⟨Nat.le_of_ble_eq_true rfl, Nat.le_of_ble_eq_true rfl⟩) hI (fun h => h.elim) (fun _ => ⟨trivial, trivial⟩) rfl hl.1 (Nat.le_of_ble_eq_true rfl) dX5_number_4 ⟨Nat.le_of_ble_eq_true rfl, Nat.le_of_ble_eq_true rfl⟩ (fun H locs hI => ?_)
  refine lv_iconst (v := 2) hx hb dX5_number_7 (by decide) ?_
  refine lv_icmp_eq (tgt := 21) hx hb dX5_number_8 (by decide) (fun c8 => ?_) (fun c8 => ?_)
  · replace hf := ifp c8 hf
    refine lv_aload_n hx hb dX5_number_21 rfl (lv_at hl 0 rfl) ?_
    obtain ⟨k9, hf⟩ := chk_b hf
    refine hg_5_0 hx hb hts hin_X5 hown kl_7 hI (isk_k k9) dX5_number_22 ?_
    obtain ⟨b10, hd11, hf⟩ := bnd_b hf
    obtain ⟨hq12, hk13⟩ := dr_e hd11
    refine W.eq (g2 := F0 m 25 ls [.ref b10]) (by rw [hq12]; rfl) ?_
    obtain ⟨x14, hc15, hf⟩ := bnd_b hf
    refine hcall_Vi (ex2 := True) (As := []) (rest := []) (n := 0) (by rw [hk13]; decide) (hC_11 hk13) rfl ⟨hx, hb, hml, hown, hts⟩ (ch_X10_value l D cy b10 x6.1 x14 hc15) (cwV 0 hts gX5_number_X10_value rfl rfl rfl ⟨rfl, nd_X10_value⟩ ⟨Nat.le_of_ble_eq_true rfl, Nat.le_of_ble_eq_true rfl⟩) hI (fun h => h.elim) (fun _ => ⟨trivial, trivial⟩) rfl hl.1 (Nat.le_of_ble_eq_true rfl) dX5_number_25 ⟨Nat.le_of_ble_eq_true rfl, Nat.le_of_ble_eq_true rfl⟩ (fun H locs hI => ?_)
    refine lv_istore_n (lv' := [(3, .int x14.2), (0, .ref h), (1, .int a1), (2, .int a2)]) hx hb dX5_number_28 rfl hl (by decide) rfl (fun ls hl => ?_)
    refine lv_iload_n hx hb dX5_number_29 rfl (lv_at hl 0 rfl) ?_
    refine lv_iload_n hx hb dX5_number_30 rfl (lv_at hl 2 rfl) ?_
    refine lv_icmp_lt (tgt := 39) hx hb dX5_number_31 (by decide) (fun c16 => ?_) (fun c16 => ?_)
    · replace hf := ifp c16 hf
      refine lv_aload_n hx hb dX5_number_39 rfl (lv_at hl 1 rfl) ?_
      obtain ⟨k17, hf⟩ := chk_b hf
      refine hg_5_0 hx hb hts hin_X5 hown kl_7 hI (isk_k k17) dX5_number_40 ?_
      refine lv_iconst (v := 1) hx hb dX5_number_43 (by decide) ?_
      obtain ⟨b18, hd19, hf⟩ := bnd_b hf
      obtain ⟨hq20, hk21⟩ := dr_e hd19
      refine W.eq (g2 := F0 m 44 ls [.int (1 : Int32), .ref b18]) (by rw [hq20]; rfl) ?_
      obtain ⟨x22, hc23, hf⟩ := bnd_b hf
      refine hcall_Vv (ex2 := True) (As := [.int (1 : Int32)]) (rest := []) (n := 1) (by rw [hk21]; decide) (hC_11 hk21) rfl ⟨hx, hb, hml, hown, hts⟩ (ch_X10_fail l D cy b18 (1 : Int32) x14.1 x22 hc23) (cwV 1 hts gX5_number_X10_fail rfl rfl rfl ⟨rfl, nd_X10_fail⟩ ⟨Nat.le_of_ble_eq_true rfl, Nat.le_of_ble_eq_true rfl⟩) hI (fun h => h.elim) (fun _ => ⟨trivial, trivial⟩) rfl hl.1 (Nat.le_of_ble_eq_true rfl) dX5_number_44 ⟨Nat.le_of_ble_eq_true rfl, Nat.le_of_ble_eq_true rfl⟩ (fun H locs hI => ?_)
      refine lv_iload_n hx hb dX5_number_47 rfl (lv_at hl 2 rfl) ?_
      exact hret_i hx hb hr hlocks hI (by decide) (by decide) (fun _ => ⟨trivial, rfl⟩) (ret_e hK0 hf) dX5_number_48
    · replace hf := ifn c16 hf
      refine lv_iload_n hx hb dX5_number_34 rfl (lv_at hl 0 rfl) ?_
      refine lv_iload_n hx hb dX5_number_35 rfl (lv_at hl 3 rfl) ?_
      refine lv_icmp_le (tgt := 49) hx hb dX5_number_36 (by decide) (fun c24 => ?_) (fun c24 => ?_)
      · replace hf := ifp c24 hf
        refine lv_aload_n hx hb dX5_number_49 rfl (lv_at hl 1 rfl) ?_
        obtain ⟨k25, hf⟩ := chk_b hf
        refine hg_5_0 hx hb hts hin_X5 hown kl_7 hI (isk_k k25) dX5_number_50 ?_
        obtain ⟨b26, hd27, hf⟩ := bnd_b hf
        obtain ⟨hq28, hk29⟩ := dr_e hd27
        refine W.eq (g2 := F0 m 53 ls [.ref b26]) (by rw [hq28]; rfl) ?_
        obtain ⟨x30, hc31, hf⟩ := bnd_b hf
        refine hcall_Vv (ex2 := True) (As := []) (rest := []) (n := 0) (by rw [hk29]; decide) (hC_11 hk29) rfl ⟨hx, hb, hml, hown, hts⟩ (ch_X10_next l D cy b26 x14.1 x30 hc31) (cwV 0 hts gX5_number_X10_next rfl rfl rfl ⟨rfl, nd_X10_next⟩ ⟨Nat.le_of_ble_eq_true rfl, Nat.le_of_ble_eq_true rfl⟩) hI (fun h => h.elim) (fun _ => ⟨trivial, trivial⟩) rfl hl.1 (Nat.le_of_ble_eq_true rfl) dX5_number_53 ⟨Nat.le_of_ble_eq_true rfl, Nat.le_of_ble_eq_true rfl⟩ (fun H locs hI => ?_)
        refine lv_iload_n hx hb dX5_number_56 rfl (lv_at hl 0 rfl) ?_
        exact hret_i hx hb hr hlocks hI (by decide) (by decide) (fun _ => ⟨trivial, rfl⟩) (ret_e hK0 hf) dX5_number_57
      · replace hf := ifn c24 hf
        refine lv_aload_n hx hb dX5_number_39 rfl (lv_at hl 1 rfl) ?_
        obtain ⟨k32, hf⟩ := chk_b hf
        refine hg_5_0 hx hb hts hin_X5 hown kl_7 hI (isk_k k32) dX5_number_40 ?_
        refine lv_iconst (v := 1) hx hb dX5_number_43 (by decide) ?_
        obtain ⟨b33, hd34, hf⟩ := bnd_b hf
        obtain ⟨hq35, hk36⟩ := dr_e hd34
        refine W.eq (g2 := F0 m 44 ls [.int (1 : Int32), .ref b33]) (by rw [hq35]; rfl) ?_
        obtain ⟨x37, hc38, hf⟩ := bnd_b hf
        refine hcall_Vv (ex2 := True) (As := [.int (1 : Int32)]) (rest := []) (n := 1) (by rw [hk36]; decide) (hC_11 hk36) rfl ⟨hx, hb, hml, hown, hts⟩ (ch_X10_fail l D cy b33 (1 : Int32) x14.1 x37 hc38) (cwV 1 hts gX5_number_X10_fail rfl rfl rfl ⟨rfl, nd_X10_fail⟩ ⟨Nat.le_of_ble_eq_true rfl, Nat.le_of_ble_eq_true rfl⟩) hI (fun h => h.elim) (fun _ => ⟨trivial, trivial⟩) rfl hl.1 (Nat.le_of_ble_eq_true rfl) dX5_number_44 ⟨Nat.le_of_ble_eq_true rfl, Nat.le_of_ble_eq_true rfl⟩ (fun H locs hI => ?_)
        refine lv_iload_n hx hb dX5_number_47 rfl (lv_at hl 2 rfl) ?_
        exact hret_i hx hb hr hlocks hI (by decide) (by decide) (fun _ => ⟨trivial, rfl⟩) (ret_e hK0 hf) dX5_number_48
  · replace hf := ifn c8 hf
    refine lv_aload_n hx hb dX5_number_11 rfl (lv_at hl 0 rfl) ?_
    obtain ⟨k39, hf⟩ := chk_b hf
    refine hg_5_0 hx hb hts hin_X5 hown kl_7 hI (isk_k k39) dX5_number_12 ?_
    refine lv_iconst (v := 0) hx hb dX5_number_15 (by decide) ?_
    obtain ⟨b40, hd41, hf⟩ := bnd_b hf
    obtain ⟨hq42, hk43⟩ := dr_e hd41
    refine W.eq (g2 := F0 m 16 ls [.int (0 : Int32), .ref b40]) (by rw [hq42]; rfl) ?_
    obtain ⟨x44, hc45, hf⟩ := bnd_b hf
    refine hcall_Vv (ex2 := True) (As := [.int (0 : Int32)]) (rest := []) (n := 1) (by rw [hk43]; decide) (hC_11 hk43) rfl ⟨hx, hb, hml, hown, hts⟩ (ch_X10_fail l D cy b40 (0 : Int32) x6.1 x44 hc45) (cwV 1 hts gX5_number_X10_fail rfl rfl rfl ⟨rfl, nd_X10_fail⟩ ⟨Nat.le_of_ble_eq_true rfl, Nat.le_of_ble_eq_true rfl⟩) hI (fun h => h.elim) (fun _ => ⟨trivial, trivial⟩) rfl hl.1 (Nat.le_of_ble_eq_true rfl) dX5_number_16 ⟨Nat.le_of_ble_eq_true rfl, Nat.le_of_ble_eq_true rfl⟩ (fun H locs hI => ?_)
    refine lv_iload_n hx hb dX5_number_19 rfl (lv_at hl 1 rfl) ?_
    exact hret_i hx hb hr hlocks hI (by decide) (by decide) (fun _ => ⟨trivial, rfl⟩) (ret_e hK0 hf) dX5_number_20

theorem nd_X5_readBank : yX5_readBank.cls ≠ "java/lang/invoke/MethodHandle" ∧ yX5_readBank.cls ≠ "java/lang/invoke/VarHandle" ∧ (parseMethodDescriptor yX5_readBank.desc).map (fun d => d.parameters.length) = some 1 := by decide +kernel
set_option maxHeartbeats 4000000 in
set_option maxRecDepth 100000 in
theorem ch_X5_readBank (l : Launch) (D : va_G) (cy : Nat → ClassId) (h : Nat) (a1 : Option Nat) (s0 : HSt) (out : HSt) (hf : fh_X5_readBank h a1 s0 = some out) : CHv l D cy yX5_readBank wsX5_readBank { frames := 2, cells := 0, slots := 0, locals := 44 } 0 0 False True [.ref h, va_rf a1] s0 out := by
  refine Met.ofW (cc := cX5_readBank) (maxL := 3) (ret := none) (by decide) rfl ?_
  intro p e s m args below meth c s₁ B hml hv
  obtain ⟨rfl, hP, hK, hD0, hkx, hsz, hal⟩ := hv
  have hx := B.exec
  have hb := B.bytes
  have hr := B.returns
  have hts := atoms_spec (ws := wsX5_readBank) B.pre
  have hown : s.vm.findClass RX5 = some m.cls := findClass_of_methodNamed B.named
  have hlocks := B.notSynchronized
  have hI : HI D cy s s0 s0 s.heap [] 0 False True := ⟨hK, hP, hD0.weaken (fun k q hk _ => Or.inl (pl_mem hk)), va_S.rf, hsz.1, hkx, ⟨hsz, hal⟩, fun _ => rfl, Nat.le_refl _⟩
  have hin_X4 : ∀ w ∈ u_ws RX4 TX4 9, w ∈ wsX5_readBank := fun w hw => List.mem_cons_of_mem _ (List.mem_append_left _ (List.mem_append_left _ (List.mem_append_right _ hw)))
  have kl_71 : Cond.fieldLink RX5 71 "HalfBridge$River" "bankLine" "[I" ∈ wsX5_readBank := by decide +kernel
  have kl_75 : Cond.fieldLink RX5 75 "HalfBridge$River" "bankHeight" "[I" ∈ wsX5_readBank := by decide +kernel
  have hl := lv_entry ([.ref h, va_rf a1]) (n := 3) (by simp [lg_sl, cat_rf, cat_i, cat_l, cat_r])
  rw [lg_entry_eq]
  generalize (lg_sl ([.ref h, va_rf a1]) ++ List.replicate (3 - (lg_sl ([.ref h, va_rf a1])).length) Slot.unset).toArray = ls at hl ⊢
  have hl : lv_has ls 3 [(0, .ref h), (1, va_rf a1)] := (by simpa [lv_args, cat_rf, cat_i, cat_l, cat_r] using hl)
  obtain ⟨K0, hK0, hf⟩ := top_e hf
  unfold fh_X5_readBank at hf
  refine lv_aload_n hx hb dX5_readBank_0 rfl (lv_at hl 0 rfl) ?_
  refine lv_iconst (v := 0) hx hb dX5_readBank_1 (by decide) ?_
  refine lv_iconst (v := 1) hx hb dX5_readBank_2 (by decide) ?_
  obtain ⟨k1, hf⟩ := chk_b hf
  obtain ⟨x2, hc3, hf⟩ := bnd_b hf
  refine hcall_Vi (ex2 := True) (As := [.int (0 : Int32), .int (1 : Int32)]) (rest := []) (n := 2) (by rw [(isk_k k1)]; decide) (hC_6 (isk_k k1)) rfl ⟨hx, hb, hml, hown, hts⟩ (ch_X5_number l D cy h (0 : Int32) (1 : Int32) s0 x2 hc3) (cwV 2 hts gX5_readBank_X5_number rfl rfl rfl ⟨rfl, nd_X5_number⟩ ⟨Nat.le_of_ble_eq_true rfl, Nat.le_of_ble_eq_true rfl⟩) hI (fun h => h.elim) (fun _ => ⟨trivial, trivial⟩) rfl hl.1 (Nat.le_of_ble_eq_true rfl) dX5_readBank_3 ⟨Nat.le_of_ble_eq_true rfl, Nat.le_of_ble_eq_true rfl⟩ (fun H locs hI => ?_)
  refine lv_istore_n (lv' := [(2, .int x2.2), (0, .ref h), (1, va_rf a1)]) hx hb dX5_readBank_6 rfl hl (by decide) (by first | rfl | (simp [cat_rf, cat_i, cat_l, cat_r]; done) | (simp [cat_rf, cat_i, cat_l, cat_r]; decide)) (fun ls hl => ?_)
  refine hq_aload_n hx hb dX5_readBank_7 rfl (lv_at hl 2 rfl) ?_
  obtain ⟨b4, hd5, hf⟩ := bnd_b hf
  obtain ⟨hq6, hk7⟩ := dr_e hd5
  refine W.eq (g2 := F0 m 8 ls [.ref b4]) (by rw [hq6]; rfl) ?_
  refine hg_4_4 hx hb hts hin_X4 hown kl_71 hI hk7 dX5_readBank_8 ?_
  refine lv_iload_n hx hb dX5_readBank_11 rfl (lv_at hl 0 rfl) ?_
  refine lv_aload_n hx hb dX5_readBank_12 rfl (lv_at hl 1 rfl) ?_
  refine lv_iconst (v := 0) hx hb dX5_readBank_13 (by decide) ?_
  refine lv_bipush (v := 99) hx hb dX5_readBank_14 (by decide) ?_
  obtain ⟨k8, hf⟩ := chk_b hf
  obtain ⟨x9, hc10, hf⟩ := bnd_b hf
  refine hcall_Vi (ex2 := True) (As := [.int (0 : Int32), .int (99 : Int32)]) (rest := [.int x2.2, va_rf (gR x2.1 404 b4)]) (n := 2) (by rw [(isk_k k8)]; decide) (hC_6 (isk_k k8)) rfl ⟨hx, hb, hml, hown, hts⟩ (ch_X5_number l D cy h (0 : Int32) (99 : Int32) x2.1 x9 hc10) (cwV 2 hts gX5_readBank_X5_number rfl rfl rfl ⟨rfl, nd_X5_number⟩ ⟨Nat.le_of_ble_eq_true rfl, Nat.le_of_ble_eq_true rfl⟩) hI (fun h => h.elim) (fun _ => ⟨trivial, trivial⟩) rfl hl.1 (by simp [cat_rf, cat_i, cat_l, cat_r]) dX5_readBank_16 ⟨Nat.le_of_ble_eq_true rfl, Nat.le_of_ble_eq_true rfl⟩ (fun H locs hI => ?_)
  obtain ⟨b11, hd12, hf⟩ := bnd_b hf
  obtain ⟨hq13, hk14⟩ := dr_e hd12
  refine W.eq (g2 := F0 m 19 ls [.int x9.2, .int x2.2, .ref b11]) (by rw [hq13]; rfl) ?_
  obtain ⟨k15, hf⟩ := chk_b hf
  refine hs_I hx hb hI hk14 k15 dX5_readBank_19 (fun H locs hI => ?_)
  refine hq_aload_n hx hb dX5_readBank_20 rfl (lv_at hl 2 rfl) ?_
  refine W.eq (g2 := F0 m 21 ls [.ref b4]) (by rw [hq6]; rfl) ?_
  obtain ⟨k16, hf⟩ := chk_b hf
  refine hg_4_5 hx hb hts hin_X4 hown kl_75 hI (gK_sA.trans (isk_k k16)) dX5_readBank_21 ?_
  refine lv_iload_n hx hb dX5_readBank_24 rfl (lv_at hl 0 rfl) ?_
  refine lv_aload_n hx hb dX5_readBank_25 rfl (lv_at hl 1 rfl) ?_
  refine lv_iconst (v := 0) hx hb dX5_readBank_26 (by decide) ?_
  refine lv_bipush (v := 99) hx hb dX5_readBank_27 (by decide) ?_
  obtain ⟨k17, hf⟩ := chk_b hf
  obtain ⟨x18, hc19, hf⟩ := bnd_b hf
  refine hcall_Vi (ex2 := True) (As := [.int (0 : Int32), .int (99 : Int32)]) (rest := [.int x2.2, va_rf (gR (sA x9.1 b11 x2.2.toNatClampNeg x9.2) 405 b4)]) (n := 2) (by rw [(gK_sA.trans (isk_k k17))]; decide) (hC_6 (gK_sA.trans (isk_k k17))) rfl ⟨hx, hb, hml, hown, hts⟩ (ch_X5_number l D cy h (0 : Int32) (99 : Int32) (sA x9.1 b11 x2.2.toNatClampNeg x9.2) x18 hc19) (cwV 2 hts gX5_readBank_X5_number rfl rfl rfl ⟨rfl, nd_X5_number⟩ ⟨Nat.le_of_ble_eq_true rfl, Nat.le_of_ble_eq_true rfl⟩) hI (fun h => h.elim) (fun _ => ⟨trivial, trivial⟩) rfl hl.1 (by simp [cat_rf, cat_i, cat_l, cat_r]) dX5_readBank_29 ⟨Nat.le_of_ble_eq_true rfl, Nat.le_of_ble_eq_true rfl⟩ (fun H locs hI => ?_)
  obtain ⟨b20, hd21, hf⟩ := bnd_b hf
  obtain ⟨hq22, hk23⟩ := dr_e hd21
  refine W.eq (g2 := F0 m 32 ls [.int x18.2, .int x2.2, .ref b20]) (by rw [hq22]; rfl) ?_
  obtain ⟨k24, hf⟩ := chk_b hf
  refine hs_I hx hb hI hk23 k24 dX5_readBank_32 (fun H locs hI => ?_)
  exact hret_v hx hb hr hlocks hI (by decide) (by decide) (fun _ => ⟨trivial, rfl⟩) (ret_e hK0 hf) dX5_readBank_33

theorem nd_X5_readEyes : yX5_readEyes.cls ≠ "java/lang/invoke/MethodHandle" ∧ yX5_readEyes.cls ≠ "java/lang/invoke/VarHandle" ∧ (parseMethodDescriptor yX5_readEyes.desc).map (fun d => d.parameters.length) = some 1 := by decide +kernel
set_option maxHeartbeats 4000000 in
set_option maxRecDepth 100000 in
theorem ch_X5_readEyes (l : Launch) (D : va_G) (cy : Nat → ClassId) (h : Nat) (a1 : Option Nat) (s0 : HSt) (out : HSt) (hf : fh_X5_readEyes h a1 s0 = some out) : CHv l D cy yX5_readEyes wsX5_readEyes { frames := 2, cells := 0, slots := 0, locals := 44 } 0 0 False True [.ref h, va_rf a1] s0 out := by
  refine Met.ofW (cc := cX5_readEyes) (maxL := 3) (ret := none) (by decide) rfl ?_
  intro p e s m args below meth c s₁ B hml hv
  obtain ⟨rfl, hP, hK, hD0, hkx, hsz, hal⟩ := hv
  have hx := B.exec
  have hb := B.bytes
  have hr := B.returns
  have hts := atoms_spec (ws := wsX5_readEyes) B.pre
  have hown : s.vm.findClass RX5 = some m.cls := findClass_of_methodNamed B.named
  have hlocks := B.notSynchronized
  have hI : HI D cy s s0 s0 s.heap [] 0 False True := ⟨hK, hP, hD0.weaken (fun k q hk _ => Or.inl (pl_mem hk)), va_S.rf, hsz.1, hkx, ⟨hsz, hal⟩, fun _ => rfl, Nat.le_refl _⟩
  have hin_X4 : ∀ w ∈ u_ws RX4 TX4 9, w ∈ wsX5_readEyes := fun w hw => List.mem_cons_of_mem _ (List.mem_append_left _ (List.mem_append_left _ (List.mem_append_right _ hw)))
  have kl_78 : Cond.fieldLink RX5 78 "HalfBridge$River" "eyes" "[I" ∈ wsX5_readEyes := by decide +kernel
  have hl := lv_entry ([.ref h, va_rf a1]) (n := 3) (by simp [lg_sl, cat_rf, cat_i, cat_l, cat_r])
  rw [lg_entry_eq]
  generalize (lg_sl ([.ref h, va_rf a1]) ++ List.replicate (3 - (lg_sl ([.ref h, va_rf a1])).length) Slot.unset).toArray = ls at hl ⊢
  have hl : lv_has ls 3 [(0, .ref h), (1, va_rf a1)] := (by simpa [lv_args, cat_rf, cat_i, cat_l, cat_r] using hl)
  obtain ⟨K0, hK0, hf⟩ := top_e hf
  unfold fh_X5_readEyes at hf
  refine lv_aload_n hx hb dX5_readEyes_0 rfl (lv_at hl 0 rfl) ?_
  refine lv_iconst (v := 0) hx hb dX5_readEyes_1 (by decide) ?_
  refine lv_iconst (v := 1) hx hb dX5_readEyes_2 (by decide) ?_
  obtain ⟨k1, hf⟩ := chk_b hf
  obtain ⟨x2, hc3, hf⟩ := bnd_b hf
  refine hcall_Vi (ex2 := True) (As := [.int (0 : Int32), .int (1 : Int32)]) (rest := []) (n := 2) (by rw [(isk_k k1)]; decide) (hC_6 (isk_k k1)) rfl ⟨hx, hb, hml, hown, hts⟩ (ch_X5_number l D cy h (0 : Int32) (1 : Int32) s0 x2 hc3) (cwV 2 hts gX5_readEyes_X5_number rfl rfl rfl ⟨rfl, nd_X5_number⟩ ⟨Nat.le_of_ble_eq_true rfl, Nat.le_of_ble_eq_true rfl⟩) hI (fun h => h.elim) (fun _ => ⟨trivial, trivial⟩) rfl hl.1 (Nat.le_of_ble_eq_true rfl) dX5_readEyes_3 ⟨Nat.le_of_ble_eq_true rfl, Nat.le_of_ble_eq_true rfl⟩ (fun H locs hI => ?_)
  refine lv_istore_n (lv' := [(2, .int x2.2), (0, .ref h), (1, va_rf a1)]) hx hb dX5_readEyes_6 rfl hl (by decide) (by first | rfl | (simp [cat_rf, cat_i, cat_l, cat_r]; done) | (simp [cat_rf, cat_i, cat_l, cat_r]; decide)) (fun ls hl => ?_)
  refine hq_aload_n hx hb dX5_readEyes_7 rfl (lv_at hl 2 rfl) ?_
  obtain ⟨b4, hd5, hf⟩ := bnd_b hf
  obtain ⟨hq6, hk7⟩ := dr_e hd5
  refine W.eq (g2 := F0 m 8 ls [.ref b4]) (by rw [hq6]; rfl) ?_
  refine hg_4_6 hx hb hts hin_X4 hown kl_78 hI hk7 dX5_readEyes_8 ?_
  refine lv_iload_n hx hb dX5_readEyes_11 rfl (lv_at hl 0 rfl) ?_
  refine lv_aload_n hx hb dX5_readEyes_12 rfl (lv_at hl 1 rfl) ?_
  refine lv_iconst (v := 0) hx hb dX5_readEyes_13 (by decide) ?_
  refine lv_bipush (v := 9) hx hb dX5_readEyes_14 (by decide) ?_
  obtain ⟨k8, hf⟩ := chk_b hf
  obtain ⟨x9, hc10, hf⟩ := bnd_b hf
  refine hcall_Vi (ex2 := True) (As := [.int (0 : Int32), .int (9 : Int32)]) (rest := [.int x2.2, va_rf (gR x2.1 406 b4)]) (n := 2) (by rw [(isk_k k8)]; decide) (hC_6 (isk_k k8)) rfl ⟨hx, hb, hml, hown, hts⟩ (ch_X5_number l D cy h (0 : Int32) (9 : Int32) x2.1 x9 hc10) (cwV 2 hts gX5_readEyes_X5_number rfl rfl rfl ⟨rfl, nd_X5_number⟩ ⟨Nat.le_of_ble_eq_true rfl, Nat.le_of_ble_eq_true rfl⟩) hI (fun h => h.elim) (fun _ => ⟨trivial, trivial⟩) rfl hl.1 (by simp [cat_rf, cat_i, cat_l, cat_r]) dX5_readEyes_16 ⟨Nat.le_of_ble_eq_true rfl, Nat.le_of_ble_eq_true rfl⟩ (fun H locs hI => ?_)
  obtain ⟨b11, hd12, hf⟩ := bnd_b hf
  obtain ⟨hq13, hk14⟩ := dr_e hd12
  refine W.eq (g2 := F0 m 19 ls [.int x9.2, .int x2.2, .ref b11]) (by rw [hq13]; rfl) ?_
  obtain ⟨k15, hf⟩ := chk_b hf
  refine hs_I hx hb hI hk14 k15 dX5_readEyes_19 (fun H locs hI => ?_)
  exact hret_v hx hb hr hlocks hI (by decide) (by decide) (fun _ => ⟨trivial, rfl⟩) (ret_e hK0 hf) dX5_readEyes_20

theorem nd_X5_readFlood : yX5_readFlood.cls ≠ "java/lang/invoke/MethodHandle" ∧ yX5_readFlood.cls ≠ "java/lang/invoke/VarHandle" ∧ (parseMethodDescriptor yX5_readFlood.desc).map (fun d => d.parameters.length) = some 1 := by decide +kernel
set_option maxHeartbeats 4000000 in
set_option maxRecDepth 100000 in
theorem ch_X5_readFlood (l : Launch) (D : va_G) (cy : Nat → ClassId) (h : Nat) (a1 : Option Nat) (s0 : HSt) (out : HSt) (hf : fh_X5_readFlood h a1 s0 = some out) : CHv l D cy yX5_readFlood wsX5_readFlood { frames := 2, cells := 0, slots := 0, locals := 44 } 0 0 False True [.ref h, va_rf a1] s0 out := by
  refine Met.ofW (cc := cX5_readFlood) (maxL := 4) (ret := none) (by decide) rfl ?_
  intro p e s m args below meth c s₁ B hml hv
  obtain ⟨rfl, hP, hK, hD0, hkx, hsz, hal⟩ := hv
  have hx := B.exec
  have hb := B.bytes
  have hr := B.returns
  have hts := atoms_spec (ws := wsX5_readFlood) B.pre
  have hown : s.vm.findClass RX5 = some m.cls := findClass_of_methodNamed B.named
  have hlocks := B.notSynchronized
  have hI : HI D cy s s0 s0 s.heap [] 0 False True := ⟨hK, hP, hD0.weaken (fun k q hk _ => Or.inl (pl_mem hk)), va_S.rf, hsz.1, hkx, ⟨hsz, hal⟩, fun _ => rfl, Nat.le_refl _⟩
  have hin_X4 : ∀ w ∈ u_ws RX4 TX4 9, w ∈ wsX5_readFlood := fun w hw => List.mem_cons_of_mem _ (List.mem_append_left _ (List.mem_append_left _ (List.mem_append_right _ hw)))
  have kl_68 : Cond.fieldLink RX5 68 "HalfBridge$River" "floods" "I" ∈ wsX5_readFlood := by decide +kernel
  have kl_81 : Cond.fieldLink RX5 81 "HalfBridge$River" "floodDay" "[I" ∈ wsX5_readFlood := by decide +kernel
  have kl_84 : Cond.fieldLink RX5 84 "HalfBridge$River" "floodYards" "[I" ∈ wsX5_readFlood := by decide +kernel
  have hl := lv_entry ([.ref h, va_rf a1]) (n := 4) (by simp [lg_sl, cat_rf, cat_i, cat_l, cat_r])
  rw [lg_entry_eq]
  generalize (lg_sl ([.ref h, va_rf a1]) ++ List.replicate (4 - (lg_sl ([.ref h, va_rf a1])).length) Slot.unset).toArray = ls at hl ⊢
  have hl : lv_has ls 4 [(0, .ref h), (1, va_rf a1)] := (by simpa [lv_args, cat_rf, cat_i, cat_l, cat_r] using hl)
  obtain ⟨K0, hK0, hf⟩ := top_e hf
  unfold fh_X5_readFlood at hf
  refine lv_aload_n hx hb dX5_readFlood_0 rfl (lv_at hl 0 rfl) ?_
  refine lv_iconst (v := 0) hx hb dX5_readFlood_1 (by decide) ?_
  refine lv_sipush (v := 399) hx hb dX5_readFlood_2 (by decide) ?_
  obtain ⟨k1, hf⟩ := chk_b hf
  obtain ⟨x2, hc3, hf⟩ := bnd_b hf
  refine hcall_Vi (ex2 := True) (As := [.int (0 : Int32), .int (399 : Int32)]) (rest := []) (n := 2) (by rw [(isk_k k1)]; decide) (hC_6 (isk_k k1)) rfl ⟨hx, hb, hml, hown, hts⟩ (ch_X5_number l D cy h (0 : Int32) (399 : Int32) s0 x2 hc3) (cwV 2 hts gX5_readFlood_X5_number rfl rfl rfl ⟨rfl, nd_X5_number⟩ ⟨Nat.le_of_ble_eq_true rfl, Nat.le_of_ble_eq_true rfl⟩) hI (fun h => h.elim) (fun _ => ⟨trivial, trivial⟩) rfl hl.1 (Nat.le_of_ble_eq_true rfl) dX5_readFlood_5 ⟨Nat.le_of_ble_eq_true rfl, Nat.le_of_ble_eq_true rfl⟩ (fun H locs hI => ?_)
  refine lv_istore_n (lv' := [(2, .int x2.2), (0, .ref h), (1, va_rf a1)]) hx hb dX5_readFlood_8 rfl hl (by decide) (by first | rfl | (simp [cat_rf, cat_i, cat_l, cat_r]; done) | (simp [cat_rf, cat_i, cat_l, cat_r]; decide)) (fun ls hl => ?_)
  refine lv_aload_n hx hb dX5_readFlood_9 rfl (lv_at hl 1 rfl) ?_
  refine lv_iconst (v := 1) hx hb dX5_readFlood_10 (by decide) ?_
  refine lv_bipush (v := 9) hx hb dX5_readFlood_11 (by decide) ?_
  obtain ⟨k4, hf⟩ := chk_b hf
  obtain ⟨x5, hc6, hf⟩ := bnd_b hf
  refine hcall_Vi (ex2 := True) (As := [.int (1 : Int32), .int (9 : Int32)]) (rest := []) (n := 2) (by rw [(isk_k k4)]; decide) (hC_6 (isk_k k4)) rfl ⟨hx, hb, hml, hown, hts⟩ (ch_X5_number l D cy h (1 : Int32) (9 : Int32) x2.1 x5 hc6) (cwV 2 hts gX5_readFlood_X5_number rfl rfl rfl ⟨rfl, nd_X5_number⟩ ⟨Nat.le_of_ble_eq_true rfl, Nat.le_of_ble_eq_true rfl⟩) hI (fun h => h.elim) (fun _ => ⟨trivial, trivial⟩) rfl hl.1 (Nat.le_of_ble_eq_true rfl) dX5_readFlood_13 ⟨Nat.le_of_ble_eq_true rfl, Nat.le_of_ble_eq_true rfl⟩ (fun H locs hI => ?_)
  refine lv_istore_n (lv' := [(3, .int x5.2), (2, .int x2.2), (0, .ref h), (1, va_rf a1)]) hx hb dX5_readFlood_16 rfl hl (by decide) (by first | rfl | (simp [cat_rf, cat_i, cat_l, cat_r]; done) | (simp [cat_rf, cat_i, cat_l, cat_r]; decide)) (fun ls hl => ?_)
  refine hq_aload_n hx hb dX5_readFlood_17 rfl (lv_at hl 3 rfl) ?_
  obtain ⟨b7, hd8, hf⟩ := bnd_b hf
  obtain ⟨hq9, hk10⟩ := dr_e hd8
  refine W.eq (g2 := F0 m 18 ls [.ref b7]) (by rw [hq9]; rfl) ?_
  refine hg_4_3 hx hb hts hin_X4 hown kl_68 hI hk10 dX5_readFlood_18 ?_
  refine lv_bipush (v := 8) hx hb dX5_readFlood_21 (by decide) ?_
  refine lv_icmp_ge (tgt := 56) hx hb dX5_readFlood_23 (by decide) (fun c11 => ?_) (fun c11 => ?_)
  · replace hf := ifp c11 hf
    exact hret_v hx hb hr hlocks hI (by decide) (by decide) (fun _ => ⟨trivial, rfl⟩) (ret_e hK0 hf) dX5_readFlood_56
  · replace hf := ifn c11 hf
    refine hq_aload_n hx hb dX5_readFlood_26 rfl (lv_at hl 3 rfl) ?_
    refine W.eq (g2 := F0 m 27 ls [.ref b7]) (by rw [hq9]; rfl) ?_
    refine hg_4_7 hx hb hts hin_X4 hown kl_81 hI hk10 dX5_readFlood_27 ?_
    refine hq_aload_n hx hb dX5_readFlood_30 rfl (lv_at hl 3 rfl) ?_
    refine W.eq (g2 := F0 m 31 ls [.ref b7, va_rf (gR x5.1 407 b7)]) (by rw [hq9]; rfl) ?_
    refine hg_4_3 hx hb hts hin_X4 hown kl_68 hI hk10 dX5_readFlood_31 ?_
    refine lv_iload_n hx hb dX5_readFlood_34 rfl (lv_at hl 1 rfl) ?_
    obtain ⟨b12, hd13, hf⟩ := bnd_b hf
    obtain ⟨hq14, hk15⟩ := dr_e hd13
    refine W.eq (g2 := F0 m 35 ls [.int x2.2, .int (gI x5.1 403 b7), .ref b12]) (by rw [hq14]; rfl) ?_
    obtain ⟨k16, hf⟩ := chk_b hf
    refine hs_I hx hb hI hk15 k16 dX5_readFlood_35 (fun H locs hI => ?_)
    refine hq_aload_n hx hb dX5_readFlood_36 rfl (lv_at hl 3 rfl) ?_
    refine W.eq (g2 := F0 m 37 ls [.ref b7]) (by rw [hq9]; rfl) ?_
    refine hg_4_8 hx hb hts hin_X4 hown kl_84 hI (gK_sA.trans hk10) dX5_readFlood_37 ?_
    refine hq_aload_n hx hb dX5_readFlood_40 rfl (lv_at hl 3 rfl) ?_
    refine W.eq (g2 := F0 m 41 ls [.ref b7, va_rf (gR (sA x5.1 b12 (gI x5.1 403 b7).toNatClampNeg x2.2) 408 b7)]) (by rw [hq9]; rfl) ?_
    refine hg_4_3 hx hb hts hin_X4 hown kl_68 hI (gK_sA.trans hk10) dX5_readFlood_41 ?_
    refine lv_iload_n hx hb dX5_readFlood_44 rfl (lv_at hl 0 rfl) ?_
    obtain ⟨b17, hd18, hf⟩ := bnd_b hf
    obtain ⟨hq19, hk20⟩ := dr_e hd18
    refine W.eq (g2 := F0 m 45 ls [.int x5.2, .int (gI (sA x5.1 b12 (gI x5.1 403 b7).toNatClampNeg x2.2) 403 b7), .ref b17]) (by rw [hq19]; rfl) ?_
    obtain ⟨k21, hf⟩ := chk_b hf
    refine hs_I hx hb hI (gK_sA.trans hk20) k21 dX5_readFlood_45 (fun H locs hI => ?_)
    obtain ⟨x22, hx22, hf⟩ := bnd_b hf
    replace hx22 := Option.some.inj hx22
    rw [hx22] at hI
    have hk23 : gK x22 b7 = 5 := by rw [← hx22]; exact (gK_sA.trans (gK_sA.trans hk10))
    have hk24 : gK x22 b12 = 22 := by rw [← hx22]; exact (gK_sA.trans (gK_sA.trans hk15))
    have hk25 : gK x22 b17 = 22 := by rw [← hx22]; exact (gK_sA.trans (gK_sA.trans hk20))
    refine hq_aload_n hx hb dX5_readFlood_46 rfl (lv_at hl 3 rfl) ?_
    refine lv_dup hx hb dX5_readFlood_47 (cat_rf _) ?_
    refine W.eq (g2 := F0 m 48 ls [.ref b7, va_rf a1]) (by rw [hq9]; rfl) ?_
    refine hg_4_3 hx hb hts hin_X4 hown kl_68 hI hk23 dX5_readFlood_48 ?_
    refine lv_iconst (v := 1) hx hb dX5_readFlood_51 (by decide) ?_
    refine lv_iadd hx hb dX5_readFlood_52 ?_
    refine W.eq (g2 := F0 m 53 ls [.int ((gI x22 403 b7) + (1 : Int32)), .ref b7]) (by rw [hq9]; rfl) ?_
    refine hp_4_3 hx hb hts hin_X4 hown kl_68 hI hk23 dX5_readFlood_53 (fun H locs hI => ?_)
    exact hret_v hx hb hr hlocks hI (by decide) (by decide) (fun _ => ⟨trivial, rfl⟩) (ret_e hK0 hf) dX5_readFlood_56
