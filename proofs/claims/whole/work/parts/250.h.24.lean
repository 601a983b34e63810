theorem nd_X11_zigzag : yX11_zigzag.cls ≠ "java/lang/invoke/MethodHandle" ∧ yX11_zigzag.cls ≠ "java/lang/invoke/VarHandle" ∧ (parseMethodDescriptor yX11_zigzag.desc).map (fun d => d.parameters.length) = some 3 := by decide +kernel
set_option maxHeartbeats 4000000 in
set_option maxRecDepth 100000 in
theorem ch_X11_zigzag (l : Launch) (D : va_G) (cy : Nat → ClassId) (h : Nat) (a1 : Int32) (a2 : Int32) (a3 : Int32) (s0 : HSt) (out : HSt × Int32) (hf : fh_X11_zigzag h a1 a2 a3 s0 = some out) : CHi l D cy yX11_zigzag wsX11_zigzag { frames := 6, cells := 1, slots := 2709, locals := 169 } 1 2709 True False [.ref h, .int a1, .int a2, .int a3] s0 out := by
  refine Met.ofW (cc := cX11_zigzag) (maxL := 4) (ret := (some .int)) (by decide) rfl ?_
  intro p e s m args below meth c s₁ B hml hv
  obtain ⟨rfl, hP, hK, hD0, hkx, hsz, hal⟩ := hv
  have hx := B.exec
  have hb := B.bytes
  have hr := B.returns
  have hts := atoms_spec (ws := wsX11_zigzag) B.pre
  have hown : s.vm.findClass RX11 = some m.cls := findClass_of_methodNamed B.named
  have hlocks := B.notSynchronized
  have hI : HI D cy s s0 s0 s.heap [] 0 True True := ⟨hK, hP, hD0.weaken (fun k q hk _ => Or.inl (pl_mem hk)), va_S.rf, hsz.1, hkx, ⟨hsz, hal⟩, fun _ => rfl, Nat.le_refl _⟩
  have hin_X0 : ∀ w ∈ u_ws RX0 TX0 11, w ∈ wsX11_zigzag := fun w hw => List.mem_cons_of_mem _ (List.mem_append_left _ (List.mem_append_left _ (List.mem_append_left _ (List.mem_append_left _ (List.mem_append_left _ (List.mem_append_right _ hw))))))
  have hin_X11 : ∀ w ∈ u_ws RX11 TX11 10, w ∈ wsX11_zigzag := fun w hw => List.mem_cons_of_mem _ (List.mem_append_left _ (List.mem_append_left _ (List.mem_append_left _ (List.mem_append_left _ (List.mem_append_left _ (List.mem_append_left _ (List.mem_append_right _ hw)))))))
  have kl_22 : Cond.fieldLink RX11 22 "HalfBridge" "site" "LHalfBridge$Site;" ∈ wsX11_zigzag := by decide +kernel
  have kl_56 : Cond.fieldLink RX11 56 "HalfBridge" "foresight" "LHalfBridge$Foresight;" ∈ wsX11_zigzag := by decide +kernel
  have kl_199 : Cond.fieldLink RX11 199 "HalfBridge$Foresight" "leadIn" "I" ∈ wsX11_zigzag := by decide +kernel
  have kl_202 : Cond.fieldLink RX11 202 "HalfBridge$Foresight" "period" "I" ∈ wsX11_zigzag := by decide +kernel
  have hl := lv_entry ([.ref h, .int a1, .int a2, .int a3]) (n := 4) (Nat.le_of_ble_eq_true rfl)
  rw [lg_entry_eq]
  generalize (lg_sl ([.ref h, .int a1, .int a2, .int a3]) ++ List.replicate (4 - (lg_sl ([.ref h, .int a1, .int a2, .int a3])).length) Slot.unset).toArray = ls at hl ⊢
  have hl : lv_has ls 4 [(0, .ref h), (1, .int a1), (2, .int a2), (3, .int a3)] := hl
  obtain ⟨K0, hK0, hf⟩ := top_e hf
  unfold fh_X11_zigzag at hf
  refine lv_aload_n hx hb dX11_zigzag_0 rfl (lv_at hl 0 rfl) ?_
  refine lv_iload_n hx hb dX11_zigzag_1 rfl (lv_at hl 1 rfl) ?_
  refine lv_iload_n hx hb dX11_zigzag_2 rfl (lv_at hl 2 rfl) ?_
  obtain ⟨k1, hf⟩ := chk_b hf
  obtain ⟨x2, hc3, hf⟩ := bnd_b hf
  refine hcall_Vi (ex2 := True) (As := [.int a1, .int a2]) (rest := []) (n := 2) (by rw [(isk_k k1)]; decide) (hC_12 (isk_k k1)) rfl ⟨hx, hb, hml, hown, hts⟩ (ch_X11_areRulesAtRiver l D cy h a1 a2 s0 x2 hc3) (cwV 2 hts gX11_zigzag_X11_areRulesAtRiver rfl rfl rfl ⟨rfl, nd_X11_areRulesAtRiver⟩ ⟨Nat.le_of_ble_eq_true rfl, Nat.le_of_ble_eq_true rfl⟩) hI (fun h => h.elim) (fun _ => ⟨trivial, trivial⟩) rfl hl.1 (Nat.le_of_ble_eq_true rfl) dX11_zigzag_3 ⟨Nat.le_of_ble_eq_true rfl, Nat.le_of_ble_eq_true rfl⟩ (fun H locs hI => ?_)
  refine lv_if_eq (tgt := 18) hx hb dX11_zigzag_6 (by decide) (fun c4 => ?_) (fun c4 => ?_)
  · replace hf := ifp c4 hf
    refine lv_iconst (v := -1) hx hb dX11_zigzag_18 (by decide) ?_
    exact hret_i hx hb hr hlocks hI (by decide) (by decide) (fun h => h.elim) (ret_e hK0 hf) dX11_zigzag_19
  · replace hf := ifn c4 hf
    refine lv_iload_n hx hb dX11_zigzag_9 rfl (lv_at hl 3 rfl) ?_
    refine lv_iconst (v := 0) hx hb dX11_zigzag_10 (by decide) ?_
    refine lv_iconst (v := 1) hx hb dX11_zigzag_11 (by decide) ?_
    obtain ⟨x5, hc6, hf⟩ := bnd_b hf
    refine hcall_Si (ex2 := True) (As := [.int a3, .int (0 : Int32), .int (1 : Int32)]) (rest := []) (n := 3) ⟨hx, hb, hml, hown, hts⟩ (ch_X11_isWithin l D cy a3 (0 : Int32) (1 : Int32) x2.1 x5 hc6) (va_cwS 3 hts gX11_zigzag_X11_isWithin rfl rfl rfl nd_X11_isWithin ⟨Nat.le_of_ble_eq_true rfl, Nat.le_of_ble_eq_true rfl⟩) hI (fun h => h.elim) (fun _ => ⟨trivial, trivial⟩) rfl hl.1 (Nat.le_of_ble_eq_true rfl) dX11_zigzag_12 ⟨Nat.le_of_ble_eq_true rfl, Nat.le_of_ble_eq_true rfl⟩ (fun H locs hI => ?_)
    refine lv_if_ne (tgt := 20) hx hb dX11_zigzag_15 (by decide) (fun c7 => ?_) (fun c7 => ?_)
    · replace hf := ifn c7 hf
      refine lv_aload_n hx hb dX11_zigzag_20 rfl (lv_at hl 0 rfl) ?_
      obtain ⟨k8, hf⟩ := chk_b hf
      refine hg_11_9 hx hb hts hin_X11 hown kl_56 hI (isk_k k8) dX11_zigzag_21 ?_
      refine lv_aload_n hx hb dX11_zigzag_24 rfl (lv_at hl 0 rfl) ?_
      refine hg_11_4 hx hb hts hin_X11 hown kl_22 hI (isk_k k8) dX11_zigzag_25 ?_
      refine lv_aload_n hx hb dX11_zigzag_28 rfl (lv_at hl 0 rfl) ?_
      refine lv_iload_n hx hb dX11_zigzag_29 rfl (lv_at hl 1 rfl) ?_
      obtain ⟨x9, hc10, hf⟩ := bnd_b hf
      refine hcall_Vq (ex2 := True) (As := [.int a1]) (rest := [va_rf (gR x5.1 1104 h), va_rf (gR x5.1 1109 h)]) (n := 1) (by rw [(isk_k k8)]; decide) (hC_12 (isk_k k8)) rfl ⟨hx, hb, hml, hown, hts⟩ (ch_X11_ruleOf l D cy h a1 x5.1 x9 hc10) (cwV 1 hts gX11_zigzag_X11_ruleOf rfl rfl rfl ⟨rfl, nd_X11_ruleOf⟩ ⟨Nat.le_of_ble_eq_true rfl, Nat.le_of_ble_eq_true rfl⟩) hI (fun h => h.elim) (fun _ => ⟨trivial, trivial⟩) rfl hl.1 (by simp [cat_rf, cat_i, cat_l, cat_r]) dX11_zigzag_30 ⟨Nat.le_of_ble_eq_true rfl, Nat.le_of_ble_eq_true rfl⟩ (fun H locs hI => ?_)
      refine lv_aload_n hx hb dX11_zigzag_33 rfl (lv_at hl 0 rfl) ?_
      refine lv_iload_n hx hb dX11_zigzag_34 rfl (lv_at hl 2 rfl) ?_
      obtain ⟨k11, hf⟩ := chk_b hf
      obtain ⟨x12, hc13, hf⟩ := bnd_b hf
      refine hcall_Vq (ex2 := True) (As := [.int a2]) (rest := [va_rf x9.2, va_rf (gR x5.1 1104 h), va_rf (gR x5.1 1109 h)]) (n := 1) (by rw [(isk_k k11)]; decide) (hC_12 (isk_k k11)) rfl ⟨hx, hb, hml, hown, hts⟩ (ch_X11_ruleOf l D cy h a2 x9.1 x12 hc13) (cwV 1 hts gX11_zigzag_X11_ruleOf rfl rfl rfl ⟨rfl, nd_X11_ruleOf⟩ ⟨Nat.le_of_ble_eq_true rfl, Nat.le_of_ble_eq_true rfl⟩) hI (fun h => h.elim) (fun _ => ⟨trivial, trivial⟩) rfl hl.1 (by simp [cat_rf, cat_i, cat_l, cat_r]) dX11_zigzag_35 ⟨Nat.le_of_ble_eq_true rfl, Nat.le_of_ble_eq_true rfl⟩ (fun H locs hI => ?_)
      obtain ⟨b14, hd15, hf⟩ := bnd_b hf
      obtain ⟨hq16, hk17⟩ := dr_e hd15
      refine W.eq (g2 := F0 m 38 ls [va_rf x12.2, va_rf x9.2, va_rf (gR x5.1 1104 h), .ref b14]) (by rw [hq16]; rfl) ?_
      obtain ⟨x18, hc19, hf⟩ := bnd_b hf
      refine hcall_Vi (ex2 := False) (As := [va_rf (gR x5.1 1104 h), va_rf x9.2, va_rf x12.2]) (rest := []) (n := 3) (by rw [hk17]; decide) (hC_1 hk17) rfl ⟨hx, hb, hml, hown, hts⟩ (ch_X0_comesAgain l D cy b14 (gR x5.1 1104 h) x9.2 x12.2 x12.1 x18 hc19) (cwV 3 hts gX11_zigzag_X0_comesAgain rfl rfl rfl ⟨rfl, nd_X0_comesAgain⟩ ⟨Nat.le_of_ble_eq_true rfl, Nat.le_of_ble_eq_true rfl⟩) hI (fun h => ⟨trivial, trivial⟩) (fun h => h.elim) rfl hl.1 (Nat.le_of_ble_eq_true rfl) dX11_zigzag_38 ⟨Nat.le_of_ble_eq_true rfl, Nat.le_of_ble_eq_true rfl⟩ (fun H locs hI => ?_)
      refine lv_if_ne (tgt := 47) hx hb dX11_zigzag_41 (by decide) (fun c20 => ?_) (fun c20 => ?_)
      · replace hf := ifn c20 hf
        refine lv_iload_n hx hb dX11_zigzag_47 rfl (lv_at hl 3 rfl) ?_
        refine lv_if_ne (tgt := 61) hx hb dX11_zigzag_48 (by decide) (fun c21 => ?_) (fun c21 => ?_)
        · replace hf := ifn c21 hf
          refine lv_aload_n hx hb dX11_zigzag_61 rfl (lv_at hl 0 rfl) ?_
          obtain ⟨k22, hf⟩ := chk_b hf
          refine hg_11_9 hx hb hts hin_X11 hown kl_56 hI (isk_k k22) dX11_zigzag_62 ?_
          obtain ⟨b23, hd24, hf⟩ := bnd_b hf
          obtain ⟨hq25, hk26⟩ := dr_e hd24
          refine W.eq (g2 := F0 m 65 ls [.ref b23]) (by rw [hq25]; rfl) ?_
          refine hg_0_5 hx hb hts hin_X0 hown kl_202 hI hk26 dX11_zigzag_65 ?_
          exact hret_i hx hb hr hlocks hI (by decide) (by decide) (fun h => h.elim) (ret_e hK0 hf) dX11_zigzag_68
        · replace hf := ifp c21 hf
          refine lv_aload_n hx hb dX11_zigzag_51 rfl (lv_at hl 0 rfl) ?_
          obtain ⟨k27, hf⟩ := chk_b hf
          refine hg_11_9 hx hb hts hin_X11 hown kl_56 hI (isk_k k27) dX11_zigzag_52 ?_
          obtain ⟨b28, hd29, hf⟩ := bnd_b hf
          obtain ⟨hq30, hk31⟩ := dr_e hd29
          refine W.eq (g2 := F0 m 55 ls [.ref b28]) (by rw [hq30]; rfl) ?_
          refine hg_0_4 hx hb hts hin_X0 hown kl_199 hI hk31 dX11_zigzag_55 ?_
          refine lv_goto (tgt := 68) hx hb dX11_zigzag_58 (by decide) ?_
          exact hret_i hx hb hr hlocks hI (by decide) (by decide) (fun h => h.elim) (ret_e hK0 hf) dX11_zigzag_68
      · replace hf := ifp c20 hf
        refine lv_bipush (v := -2) hx hb dX11_zigzag_44 (by decide) ?_
        exact hret_i hx hb hr hlocks hI (by decide) (by decide) (fun h => h.elim) (ret_e hK0 hf) dX11_zigzag_46
    · replace hf := ifp c7 hf
      refine lv_iconst (v := -1) hx hb dX11_zigzag_18 (by decide) ?_
      exact hret_i hx hb hr hlocks hI (by decide) (by decide) (fun h => h.elim) (ret_e hK0 hf) dX11_zigzag_19
