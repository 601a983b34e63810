theorem nd_X10_isSign : yX10_isSign.cls ≠ "java/lang/invoke/MethodHandle" ∧ yX10_isSign.cls ≠ "java/lang/invoke/VarHandle" ∧ (parseMethodDescriptor yX10_isSign.desc).map (fun d => d.parameters.length) = some 1 := by decide +kernel
set_option maxHeartbeats 4000000 in
set_option maxRecDepth 100000 in
theorem ch_X10_isSign (l : Launch) (D : va_G) (cy : Nat → ClassId) (a0 : Int32) (s0 : HSt) (out : HSt × Int32) (hf : fh_X10_isSign a0 s0 = some out) : CHi l D cy yX10_isSign wsX10_isSign { frames := 0, cells := 0, slots := 0, locals := 0 } 0 0 False True [.int a0] s0 out := by
  refine Met.ofW (cc := cX10_isSign) (maxL := 1) (ret := (some .boolean)) (by decide) rfl ?_
  intro p e s m args below meth c s₁ B hml hv
  obtain ⟨rfl, hP, hK, hD0, hkx, hsz, hal⟩ := hv
  have hx := B.exec
  have hb := B.bytes
  have hr := B.returns
  have hts := atoms_spec (ws := wsX10_isSign) B.pre
  have hown : s.vm.findClass RX10 = some m.cls := findClass_of_methodNamed B.named
  have hlocks := B.notSynchronized
  have hI : HI D cy s s0 s0 s.heap [] 0 False True := ⟨hK, hP, hD0.weaken (fun k q hk _ => Or.inl (pl_mem hk)), va_S.rf, hsz.1, hkx, ⟨hsz, hal⟩, fun _ => rfl, Nat.le_refl _⟩
  have hl := lv_entry ([.int a0]) (n := 1) (Nat.le_of_ble_eq_true rfl)
  rw [lg_entry_eq]
  generalize (lg_sl ([.int a0]) ++ List.replicate (1 - (lg_sl ([.int a0])).length) Slot.unset).toArray = ls at hl ⊢
  have hl : lv_has ls 1 [(0, .int a0)] := hl
  obtain ⟨K0, hK0, hf⟩ := top_e hf
  unfold fh_X10_isSign at hf
  refine lv_iload_n hx hb dX10_isSign_0 rfl (lv_at hl 0 rfl) ?_
  by_cases c1 : a0 = 42
  · replace hf := ifp c1 hf
    refine lv_lookup (off := 91) (tgt := 92) hx hb dX10_isSign_1 (by decide) (by rw [c1]; decide) (by decide) ?_
    refine lv_iconst (v := 1) hx hb dX10_isSign_92 (by decide) ?_
    exact hret_z hx hb hr (by decide) hlocks hI (by decide) (by decide) (fun _ => ⟨trivial, rfl⟩) (ret_e hK0 hf) dX10_isSign_93
  replace hf := ifn c1 hf
  by_cases c2 : a0 = 43
  · replace hf := ifp c2 hf
    refine lv_lookup (off := 91) (tgt := 92) hx hb dX10_isSign_1 (by decide) (by rw [c2]; decide) (by decide) ?_
    refine lv_iconst (v := 1) hx hb dX10_isSign_92 (by decide) ?_
    exact hret_z hx hb hr (by decide) hlocks hI (by decide) (by decide) (fun _ => ⟨trivial, rfl⟩) (ret_e hK0 hf) dX10_isSign_93
  replace hf := ifn c2 hf
  by_cases c3 : a0 = 45
  · replace hf := ifp c3 hf
    refine lv_lookup (off := 91) (tgt := 92) hx hb dX10_isSign_1 (by decide) (by rw [c3]; decide) (by decide) ?_
    refine lv_iconst (v := 1) hx hb dX10_isSign_92 (by decide) ?_
    exact hret_z hx hb hr (by decide) hlocks hI (by decide) (by decide) (fun _ => ⟨trivial, rfl⟩) (ret_e hK0 hf) dX10_isSign_93
  replace hf := ifn c3 hf
  by_cases c4 : a0 = 47
  · replace hf := ifp c4 hf
    refine lv_lookup (off := 91) (tgt := 92) hx hb dX10_isSign_1 (by decide) (by rw [c4]; decide) (by decide) ?_
    refine lv_iconst (v := 1) hx hb dX10_isSign_92 (by decide) ?_
    exact hret_z hx hb hr (by decide) hlocks hI (by decide) (by decide) (fun _ => ⟨trivial, rfl⟩) (ret_e hK0 hf) dX10_isSign_93
  replace hf := ifn c4 hf
  by_cases c5 : a0 = 59
  · replace hf := ifp c5 hf
    refine lv_lookup (off := 91) (tgt := 92) hx hb dX10_isSign_1 (by decide) (by rw [c5]; decide) (by decide) ?_
    refine lv_iconst (v := 1) hx hb dX10_isSign_92 (by decide) ?_
    exact hret_z hx hb hr (by decide) hlocks hI (by decide) (by decide) (fun _ => ⟨trivial, rfl⟩) (ret_e hK0 hf) dX10_isSign_93
  replace hf := ifn c5 hf
  by_cases c6 : a0 = 60
  · replace hf := ifp c6 hf
    refine lv_lookup (off := 91) (tgt := 92) hx hb dX10_isSign_1 (by decide) (by rw [c6]; decide) (by decide) ?_
    refine lv_iconst (v := 1) hx hb dX10_isSign_92 (by decide) ?_
    exact hret_z hx hb hr (by decide) hlocks hI (by decide) (by decide) (fun _ => ⟨trivial, rfl⟩) (ret_e hK0 hf) dX10_isSign_93
  replace hf := ifn c6 hf
  by_cases c7 : a0 = 61
  · replace hf := ifp c7 hf
    refine lv_lookup (off := 91) (tgt := 92) hx hb dX10_isSign_1 (by decide) (by rw [c7]; decide) (by decide) ?_
    refine lv_iconst (v := 1) hx hb dX10_isSign_92 (by decide) ?_
    exact hret_z hx hb hr (by decide) hlocks hI (by decide) (by decide) (fun _ => ⟨trivial, rfl⟩) (ret_e hK0 hf) dX10_isSign_93
  replace hf := ifn c7 hf
  by_cases c8 : a0 = 62
  · replace hf := ifp c8 hf
    refine lv_lookup (off := 91) (tgt := 92) hx hb dX10_isSign_1 (by decide) (by rw [c8]; decide) (by decide) ?_
    refine lv_iconst (v := 1) hx hb dX10_isSign_92 (by decide) ?_
    exact hret_z hx hb hr (by decide) hlocks hI (by decide) (by decide) (fun _ => ⟨trivial, rfl⟩) (ret_e hK0 hf) dX10_isSign_93
  replace hf := ifn c8 hf
  by_cases c9 : a0 = 91
  · replace hf := ifp c9 hf
    refine lv_lookup (off := 91) (tgt := 92) hx hb dX10_isSign_1 (by decide) (by rw [c9]; decide) (by decide) ?_
    refine lv_iconst (v := 1) hx hb dX10_isSign_92 (by decide) ?_
    exact hret_z hx hb hr (by decide) hlocks hI (by decide) (by decide) (fun _ => ⟨trivial, rfl⟩) (ret_e hK0 hf) dX10_isSign_93
  replace hf := ifn c9 hf
  by_cases c10 : a0 = 93
  · replace hf := ifp c10 hf
    refine lv_lookup (off := 91) (tgt := 92) hx hb dX10_isSign_1 (by decide) (by rw [c10]; decide) (by decide) ?_
    refine lv_iconst (v := 1) hx hb dX10_isSign_92 (by decide) ?_
    exact hret_z hx hb hr (by decide) hlocks hI (by decide) (by decide) (fun _ => ⟨trivial, rfl⟩) (ret_e hK0 hf) dX10_isSign_93
  replace hf := ifn c10 hf
  refine lv_lookup (off := 93) (tgt := 94) hx hb dX10_isSign_1 (by decide) (by simp only [Array.toList]; rw [lv_osw (k := 42) c1 (by decide)]; rw [lv_osw (k := 43) c2 (by decide)]; rw [lv_osw (k := 45) c3 (by decide)]; rw [lv_osw (k := 47) c4 (by decide)]; rw [lv_osw (k := 59) c5 (by decide)]; rw [lv_osw (k := 60) c6 (by decide)]; rw [lv_osw (k := 61) c7 (by decide)]; rw [lv_osw (k := 62) c8 (by decide)]; rw [lv_osw (k := 91) c9 (by decide)]; rw [lv_osw (k := 93) c10 (by decide)]; rfl) (by decide) ?_
  refine lv_iconst (v := 0) hx hb dX10_isSign_94 (by decide) ?_
  exact hret_z hx hb hr (by decide) hlocks hI (by decide) (by decide) (fun _ => ⟨trivial, rfl⟩) (ret_e hK0 hf) dX10_isSign_95

theorem nd_X10_kind : yX10_kind.cls ≠ "java/lang/invoke/MethodHandle" ∧ yX10_kind.cls ≠ "java/lang/invoke/VarHandle" ∧ (parseMethodDescriptor yX10_kind.desc).map (fun d => d.parameters.length) = some 0 := by decide +kernel
set_option maxHeartbeats 4000000 in
set_option maxRecDepth 100000 in
theorem ch_X10_kind (l : Launch) (D : va_G) (cy : Nat → ClassId) (h : Nat)  (s0 : HSt) (out : HSt × Int32) (hf : fh_X10_kind h s0 = some out) : CHi l D cy yX10_kind wsX10_kind { frames := 0, cells := 0, slots := 0, locals := 0 } 0 0 False True [.ref h] s0 out := by
  refine Met.ofW (cc := cX10_kind) (maxL := 1) (ret := (some .int)) (by decide) rfl ?_
  intro p e s m args below meth c s₁ B hml hv
  obtain ⟨rfl, hP, hK, hD0, hkx, hsz, hal⟩ := hv
  have hx := B.exec
  have hb := B.bytes
  have hr := B.returns
  have hts := atoms_spec (ws := wsX10_kind) B.pre
  have hown : s.vm.findClass RX10 = some m.cls := findClass_of_methodNamed B.named
  have hlocks := B.notSynchronized
  have hI : HI D cy s s0 s0 s.heap [] 0 False True := ⟨hK, hP, hD0.weaken (fun k q hk _ => Or.inl (pl_mem hk)), va_S.rf, hsz.1, hkx, ⟨hsz, hal⟩, fun _ => rfl, Nat.le_refl _⟩
  have hin_X10 : ∀ w ∈ u_ws RX10 TX10 6, w ∈ wsX10_kind := fun w hw => List.mem_cons_of_mem _ (List.mem_append_right _ hw)
  have kl_9 : Cond.fieldLink RX10 9 "HalfBridge$Tokens" "kinds" "[I" ∈ wsX10_kind := by decide +kernel
  have kl_21 : Cond.fieldLink RX10 21 "HalfBridge$Tokens" "size" "I" ∈ wsX10_kind := by decide +kernel
  have kl_25 : Cond.fieldLink RX10 25 "HalfBridge$Tokens" "at" "I" ∈ wsX10_kind := by decide +kernel
  have kl_28 : Cond.fieldLink RX10 28 "HalfBridge$Tokens" "fault" "I" ∈ wsX10_kind := by decide +kernel
  have hl := lv_entry ([.ref h]) (n := 1) (Nat.le_of_ble_eq_true rfl)
  rw [lg_entry_eq]
  generalize (lg_sl ([.ref h]) ++ List.replicate (1 - (lg_sl ([.ref h])).length) Slot.unset).toArray = ls at hl ⊢
  have hl : lv_has ls 1 [(0, .ref h)] := hl
  obtain ⟨K0, hK0, hf⟩ := top_e hf
  unfold fh_X10_kind at hf
  refine lv_aload_n hx hb dX10_kind_0 rfl (lv_at hl 0 rfl) ?_
  obtain ⟨k1, hf⟩ := chk_b hf
  refine hg_10_5 hx hb hts hin_X10 hown kl_28 hI (isk_k k1) dX10_kind_1 ?_
  refine lv_if_ne (tgt := 30) hx hb dX10_kind_4 (by decide) (fun c2 => ?_) (fun c2 => ?_)
  · replace hf := ifn c2 hf
    refine lv_iconst (v := 1) hx hb dX10_kind_30 (by decide) ?_
    exact hret_i hx hb hr hlocks hI (by decide) (by decide) (fun _ => ⟨trivial, rfl⟩) (ret_e hK0 hf) dX10_kind_31
  · replace hf := ifp c2 hf
    refine lv_aload_n hx hb dX10_kind_7 rfl (lv_at hl 0 rfl) ?_
    refine hg_10_4 hx hb hts hin_X10 hown kl_25 hI (isk_k k1) dX10_kind_8 ?_
    refine lv_aload_n hx hb dX10_kind_11 rfl (lv_at hl 0 rfl) ?_
    refine hg_10_3 hx hb hts hin_X10 hown kl_21 hI (isk_k k1) dX10_kind_12 ?_
    refine lv_icmp_ge (tgt := 30) hx hb dX10_kind_15 (by decide) (fun c3 => ?_) (fun c3 => ?_)
    · replace hf := ifp c3 hf
      refine lv_iconst (v := 1) hx hb dX10_kind_30 (by decide) ?_
      exact hret_i hx hb hr hlocks hI (by decide) (by decide) (fun _ => ⟨trivial, rfl⟩) (ret_e hK0 hf) dX10_kind_31
    · replace hf := ifn c3 hf
      refine lv_aload_n hx hb dX10_kind_18 rfl (lv_at hl 0 rfl) ?_
      refine hg_10_0 hx hb hts hin_X10 hown kl_9 hI (isk_k k1) dX10_kind_19 ?_
      refine lv_aload_n hx hb dX10_kind_22 rfl (lv_at hl 0 rfl) ?_
      refine hg_10_4 hx hb hts hin_X10 hown kl_25 hI (isk_k k1) dX10_kind_23 ?_
      obtain ⟨b4, hd5, hf⟩ := bnd_b hf
      obtain ⟨hq6, hk7⟩ := dr_e hd5
      refine W.eq (g2 := F0 m 26 ls [.int (gI s0 1004 h), .ref b4]) (by rw [hq6]; rfl) ?_
      obtain ⟨k8, hf⟩ := chk_b hf
      refine hl_I hx hb hI hk7 k8 dX10_kind_26 ?_
      refine lv_goto (tgt := 31) hx hb dX10_kind_27 (by decide) ?_
      exact hret_i hx hb hr hlocks hI (by decide) (by decide) (fun _ => ⟨trivial, rfl⟩) (ret_e hK0 hf) dX10_kind_31

theorem nd_X10_spells : yX10_spells.cls ≠ "java/lang/invoke/MethodHandle" ∧ yX10_spells.cls ≠ "java/lang/invoke/VarHandle" ∧ (parseMethodDescriptor yX10_spells.desc).map (fun d => d.parameters.length) = some 4 := by decide +kernel
set_option maxHeartbeats 4000000 in
set_option maxRecDepth 100000 in
theorem ch_X10_spells (l : Launch) (D : va_G) (cy : Nat → ClassId) (a0 : Option Nat) (a1 : Int32) (a2 : Int32) (a3 : Nat) (s0 : HSt) (out : HSt × Int32) (hf : fh_X10_spells a0 a1 a2 a3 s0 = some out) : CHi l D cy yX10_spells wsX10_spells { frames := 4, cells := 0, slots := 0, locals := 85 } 0 0 False True [va_rf a0, .int a1, .int a2, .ref (cy (100 + a3))] s0 out := by
  refine Met.ofW (cc := cX10_spells) (maxL := 5) (ret := (some .boolean)) (by decide) rfl ?_
  intro p e s m args below meth c s₁ B hml hv
  obtain ⟨rfl, hP, hK, hD0, hkx, hsz, hal⟩ := hv
  have hx := B.exec
  have hb := B.bytes
  have hr := B.returns
  have hts := atoms_spec (ws := wsX10_spells) B.pre
  have hown : s.vm.findClass RX10 = some m.cls := findClass_of_methodNamed B.named
  have hlocks := B.notSynchronized
  have hI : HI D cy s s0 s0 s.heap [] 0 False True := ⟨hK, hP, hD0.weaken (fun k q hk _ => Or.inl (pl_mem hk)), va_S.rf, hsz.1, hkx, ⟨hsz, hal⟩, fun _ => rfl, Nat.le_refl _⟩
  have hl := lv_entry ([va_rf a0, .int a1, .int a2, .ref (cy (100 + a3))]) (n := 5) (by simp [lg_sl, cat_rf, cat_i, cat_l, cat_r])
  rw [lg_entry_eq]
  generalize (lg_sl ([va_rf a0, .int a1, .int a2, .ref (cy (100 + a3))]) ++ List.replicate (5 - (lg_sl ([va_rf a0, .int a1, .int a2, .ref (cy (100 + a3))])).length) Slot.unset).toArray = ls at hl ⊢
  have hl : lv_has ls 5 [(0, va_rf a0), (1, .int a1), (2, .int a2), (3, .ref (cy (100 + a3)))] := (by simpa [lv_args, cat_rf, cat_i, cat_l, cat_r] using hl)
  obtain ⟨K0, hK0, hf⟩ := top_e hf
  have B_54 : ∀   (st : HSt) (H : Heap) (locs : List Loc) (ls : Array Slot), HI D cy s s0 st H locs 0 False True → lv_has ls 5 [] → (fh_X10_spells_j54 st).bind K0 = some out → W p l e (headSpec wsX10_spells { frames := 4, cells := 0, slots := 0, locals := 85 }).room s m (([va_rf a0, .int a1, .int a2, .ref (cy (100 + a3))] : List Value).toArray) below meth c H locs 0 0 (MQ below (HQi D cy s0 0 True out) ([va_rf a0, .int a1, .int a2, .ref (cy (100 + a3))] : List Value).toArray s 0 0 (hF s0)) (F0 m 54 ls []) := by
    intro st H locs ls hI hl hf
    unfold fh_X10_spells_j54 at hf
    refine lv_iconst (v := 1) hx hb dX10_spells_54 (by decide) ?_
    exact hret_z hx hb hr (by decide) hlocks hI (by decide) (by decide) (fun _ => ⟨trivial, rfl⟩) (ret_e hK0 hf) dX10_spells_55
  have L_25 : ∀ (v0 : Option Nat) (v1 : Int32) (v2 : Int32) (v3 : Nat) (n : Nat) (v4 : Int32) (st : HSt) (H : Heap) (locs : List Loc) (ls : Array Slot), HI D cy s s0 st H locs 0 False True → lv_has ls 5 [(0, va_rf v0), (1, .int v1), (2, .int v2), (3, .ref (cy (100 + v3))), (4, .int v4)] → (iter (fun x : (Int32 × HSt) => fh_X10_spells_s25 v0 v1 v2 v3 x.1 x.2) n (v4, st)).bind (fun x => ((Sum.elim (fun o : HSt × Int32 => (some o : Option (HSt × Int32))) (fun x : (Int32 × HSt) => fh_X10_spells_j54 x.2)) x).bind K0) = some out → W p l e (headSpec wsX10_spells { frames := 4, cells := 0, slots := 0, locals := 85 }).room s m (([va_rf a0, .int a1, .int a2, .ref (cy (100 + a3))] : List Value).toArray) below meth c H locs 0 0 (MQ below (HQi D cy s0 0 True out) ([va_rf a0, .int a1, .int a2, .ref (cy (100 + a3))] : List Value).toArray s 0 0 (hF s0)) (F0 m 25 ls []) := by
    intro v0 v1 v2 v3 n
    induction n with
    | zero => intro v4 st H locs ls hI hl hf; exact (iter_0 hf).elim
    | succ n ih =>
      intro v4 st H locs ls hI hl hf
      obtain ⟨K1, hK1, hf⟩ := iter_e hf
      replace hf : (fh_X10_spells_s25 v0 v1 v2 v3 v4 st).bind K1 = some out := hf
      unfold fh_X10_spells_s25 at hf
      refine lv_iload hx hb dX10_spells_25 (lv_at hl 4 rfl) ?_
      refine lv_iload_n hx hb dX10_spells_27 rfl (lv_at hl 2 rfl) ?_
      refine lv_icmp_ge (tgt := 54) hx hb dX10_spells_28 (by decide) (fun c11 => ?_) (fun c11 => ?_)
      · replace hf := ifp c11 hf
        replace hf := exit_b hK1 hf
        exact B_54  st H locs ls hI (lv_sub hl [] rfl) hf
      · replace hf := ifn c11 hf
        refine hq_aload_n hx hb dX10_spells_31 rfl (lv_at hl 0 rfl) ?_
        refine lv_iload hx hb dX10_spells_32 (lv_at hl 4 rfl) ?_
        obtain ⟨b12, hd13, hf⟩ := bnd_b hf
        obtain ⟨hq14, hk15⟩ := dr_e hd13
        refine W.eq (g2 := F0 m 34 ls [.int v4, .ref b12]) (by rw [hq14]; rfl) ?_
        obtain ⟨k16, hf⟩ := chk_b hf
        refine hl_B hx hb hI hk15 k16 dX10_spells_34 ?_
        refine lv_aload_n hx hb dX10_spells_35 rfl (lv_at hl 3 rfl) ?_
        refine lv_iload hx hb dX10_spells_36 (lv_at hl 4 rfl) ?_
        refine lv_iload_n hx hb dX10_spells_38 rfl (lv_at hl 1 rfl) ?_
        refine lv_isub hx hb dX10_spells_39 ?_
        obtain ⟨k17, hf⟩ := chk_b hf
        obtain ⟨x18, hc19, hf⟩ := bnd_b hf
        refine hcall_Ti (ex2 := True) (As := [.int (v4 - v1)]) (rest := [.int (gA st b12 v4.toNatClampNeg)]) (n := 1) (of_decide_eq_true k17) ⟨hx, hb, hml, hown, hts⟩ (ch_J0_charAt_5068e l D cy v3 (v4 - v1) st x18 hc19) (cwV 1 hts gX10_spells_J0_charAt_5068e rfl rfl rfl ⟨rfl, nd_J0_charAt_5068e⟩ ⟨Nat.le_of_ble_eq_true rfl, Nat.le_of_ble_eq_true rfl⟩) hI (fun h => h.elim) (fun _ => ⟨trivial, trivial⟩) rfl hl.1 (Nat.le_of_ble_eq_true rfl) dX10_spells_40 ⟨Nat.le_of_ble_eq_true rfl, Nat.le_of_ble_eq_true rfl⟩ (fun H locs hI => ?_)
        refine lv_icmp_eq (tgt := 48) hx hb dX10_spells_43 (by decide) (fun c20 => ?_) (fun c20 => ?_)
        · replace hf := ifp c20 hf
          refine lv_iinc (v := (v4 + 1)) (lv' := [(4, .int (v4 + 1)), (0, va_rf v0), (1, .int v1), (2, .int v2), (3, .ref (cy (100 + v3)))]) hx hb dX10_spells_48 hl (k := 4) rfl (ci_ _ (by decide)) (by decide) (by first | rfl | (simp [cat_rf, cat_i, cat_l, cat_r]; done) | (simp [cat_rf, cat_i, cat_l, cat_r]; decide)) (fun ls hl => ?_)
          refine lv_goto (tgt := 25) hx hb dX10_spells_51 (by decide) ?_
          replace hf := cont_b hK1 hf
          exact ih (v4 + 1) x18.1 H locs ls hI (lv_sub hl [1, 2, 3, 4, 0] rfl) hf
        · replace hf := ifn c20 hf
          refine lv_iconst (v := 0) hx hb dX10_spells_46 (by decide) ?_
          replace hf := inl_b hK1 hf
          replace hf : Option.bind (some (x18.1, (0 : Int32))) K0 = some out := hf
          exact hret_z hx hb hr (by decide) hlocks hI (by decide) (by decide) (fun _ => ⟨trivial, rfl⟩) (ret_e hK0 hf) dX10_spells_47
  unfold fh_X10_spells at hf
  refine lv_iload_n hx hb dX10_spells_0 rfl (lv_at hl 2 rfl) ?_
  refine lv_iload_n hx hb dX10_spells_1 rfl (lv_at hl 1 rfl) ?_
  refine lv_isub hx hb dX10_spells_2 ?_
  refine lv_aload_n hx hb dX10_spells_3 rfl (lv_at hl 3 rfl) ?_
  obtain ⟨k1, hf⟩ := chk_b hf
  obtain ⟨x2, hc3, hf⟩ := bnd_b hf
  refine hcall_Ti (ex2 := True) (As := []) (rest := [.int (a2 - a1)]) (n := 0) (of_decide_eq_true k1) ⟨hx, hb, hml, hown, hts⟩ (ch_J0_length_8abf5 l D cy a3 s0 x2 hc3) (cwV 0 hts gX10_spells_J0_length_8abf5 rfl rfl rfl ⟨rfl, nd_J0_length_8abf5⟩ ⟨Nat.le_of_ble_eq_true rfl, Nat.le_of_ble_eq_true rfl⟩) hI (fun h => h.elim) (fun _ => ⟨trivial, trivial⟩) rfl hl.1 (Nat.le_of_ble_eq_true rfl) dX10_spells_4 ⟨Nat.le_of_ble_eq_true rfl, Nat.le_of_ble_eq_true rfl⟩ (fun H locs hI => ?_)
  refine lv_icmp_ne (tgt := 20) hx hb dX10_spells_7 (by decide) (fun c4 => ?_) (fun c4 => ?_)
  · replace hf := ifn c4 hf
    refine lv_iconst (v := 0) hx hb dX10_spells_20 (by decide) ?_
    exact hret_z hx hb hr (by decide) hlocks hI (by decide) (by decide) (fun _ => ⟨trivial, rfl⟩) (ret_e hK0 hf) dX10_spells_21
  · replace hf := ifp c4 hf
    refine lv_iload_n hx hb dX10_spells_10 rfl (lv_at hl 1 rfl) ?_
    refine lv_if_lt (tgt := 20) hx hb dX10_spells_11 (by decide) (fun c5 => ?_) (fun c5 => ?_)
    · replace hf := ifp c5 hf
      refine lv_iconst (v := 0) hx hb dX10_spells_20 (by decide) ?_
      exact hret_z hx hb hr (by decide) hlocks hI (by decide) (by decide) (fun _ => ⟨trivial, rfl⟩) (ret_e hK0 hf) dX10_spells_21
    · replace hf := ifn c5 hf
      refine lv_iload_n hx hb dX10_spells_14 rfl (lv_at hl 2 rfl) ?_
      refine hq_aload_n hx hb dX10_spells_15 rfl (lv_at hl 0 rfl) ?_
      obtain ⟨b6, hd7, hf⟩ := bnd_b hf
      obtain ⟨hq8, hk9⟩ := dr_e hd7
      refine W.eq (g2 := F0 m 16 ls [.ref b6, .int a2]) (by rw [hq8]; rfl) ?_
      refine ha_21 hx hb hI hk9 dX10_spells_16 ?_
      refine lv_icmp_le (tgt := 22) hx hb dX10_spells_17 (by decide) (fun c10 => ?_) (fun c10 => ?_)
      · replace hf := ifp c10 hf
        refine lv_iload_n hx hb dX10_spells_22 rfl (lv_at hl 1 rfl) ?_
        refine lv_istore (lv' := [(4, .int a1), (0, va_rf a0), (1, .int a1), (2, .int a2), (3, .ref (cy (100 + a3)))]) hx hb dX10_spells_23 hl (by decide) (by first | rfl | (simp [cat_rf, cat_i, cat_l, cat_r]; done) | (simp [cat_rf, cat_i, cat_l, cat_r]; decide)) (fun ls hl => ?_)
        exact L_25 a0 a1 a2 a3 mFuel a1 x2.1 H locs ls hI (lv_sub hl [1, 2, 3, 4, 0] rfl) (asc_b hf)
      · replace hf := ifn c10 hf
        refine lv_iconst (v := 0) hx hb dX10_spells_20 (by decide) ?_
        exact hret_z hx hb hr (by decide) hlocks hI (by decide) (by decide) (fun _ => ⟨trivial, rfl⟩) (ret_e hK0 hf) dX10_spells_21

theorem nd_X10_riverWord : yX10_riverWord.cls ≠ "java/lang/invoke/MethodHandle" ∧ yX10_riverWord.cls ≠ "java/lang/invoke/VarHandle" ∧ (parseMethodDescriptor yX10_riverWord.desc).map (fun d => d.parameters.length) = some 3 := by decide +kernel
set_option maxHeartbeats 4000000 in
set_option maxRecDepth 100000 in
theorem ch_X10_riverWord (l : Launch) (D : va_G) (cy : Nat → ClassId) (a0 : Option Nat) (a1 : Int32) (a2 : Int32) (s0 : HSt) (out : HSt × Int32) (hf : fh_X10_riverWord a0 a1 a2 s0 = some out) : CHi l D cy yX10_riverWord wsX10_riverWord { frames := 5, cells := 0, slots := 0, locals := 109 } 0 0 False True [va_rf a0, .int a1, .int a2] s0 out := by
  refine Met.ofW (cc := cX10_riverWord) (maxL := 3) (ret := (some .int)) (by decide) rfl ?_
  intro p e s m args below meth c s₁ B hml hv
  obtain ⟨rfl, hP, hK, hD0, hkx, hsz, hal⟩ := hv
  have hx := B.exec
  have hb := B.bytes
  have hr := B.returns
  have hts := atoms_spec (ws := wsX10_riverWord) B.pre
  have hown : s.vm.findClass RX10 = some m.cls := findClass_of_methodNamed B.named
  have hlocks := B.notSynchronized
  have hI : HI D cy s s0 s0 s.heap [] 0 False True := ⟨hK, hP, hD0.weaken (fun k q hk _ => Or.inl (pl_mem hk)), va_S.rf, hsz.1, hkx, ⟨hsz, hal⟩, fun _ => rfl, Nat.le_refl _⟩
  have hl := lv_entry ([va_rf a0, .int a1, .int a2]) (n := 3) (by simp [lg_sl, cat_rf, cat_i, cat_l, cat_r])
  rw [lg_entry_eq]
  generalize (lg_sl ([va_rf a0, .int a1, .int a2]) ++ List.replicate (3 - (lg_sl ([va_rf a0, .int a1, .int a2])).length) Slot.unset).toArray = ls at hl ⊢
  have hl : lv_has ls 3 [(0, va_rf a0), (1, .int a1), (2, .int a2)] := (by simpa [lv_args, cat_rf, cat_i, cat_l, cat_r] using hl)
  obtain ⟨K0, hK0, hf⟩ := top_e hf
  unfold fh_X10_riverWord at hf
  refine hq_aload_n hx hb dX10_riverWord_0 rfl (lv_at hl 0 rfl) ?_
  refine lv_iload_n hx hb dX10_riverWord_1 rfl (lv_at hl 1 rfl) ?_
  refine lv_iload_n hx hb dX10_riverWord_2 rfl (lv_at hl 2 rfl) ?_
  refine hs_ldc (i := 0) hx hb hown hI (by decide) dX10_riverWord_3 ?_
  obtain ⟨x1, hc2, hf⟩ := bnd_b hf
  refine hcall_Si (ex2 := True) (As := [va_rf a0, .int a1, .int a2, .ref (cy (100 + 0))]) (rest := []) (n := 4) ⟨hx, hb, hml, hown, hts⟩ (ch_X10_spells l D cy a0 a1 a2 0 s0 x1 hc2) (va_cwS 4 hts gX10_riverWord_X10_spells rfl rfl rfl nd_X10_spells ⟨Nat.le_of_ble_eq_true rfl, Nat.le_of_ble_eq_true rfl⟩) hI (fun h => h.elim) (fun _ => ⟨trivial, trivial⟩) rfl hl.1 (Nat.le_of_ble_eq_true rfl) dX10_riverWord_5 ⟨Nat.le_of_ble_eq_true rfl, Nat.le_of_ble_eq_true rfl⟩ (fun H locs hI => ?_)
  refine lv_if_eq (tgt := 15) hx hb dX10_riverWord_8 (by decide) (fun c3 => ?_) (fun c3 => ?_)
  · replace hf := ifp c3 hf
    refine hq_aload_n hx hb dX10_riverWord_15 rfl (lv_at hl 0 rfl) ?_
    refine lv_iload_n hx hb dX10_riverWord_16 rfl (lv_at hl 1 rfl) ?_
    refine lv_iload_n hx hb dX10_riverWord_17 rfl (lv_at hl 2 rfl) ?_
    refine hs_ldc (i := 1) hx hb hown hI (by decide) dX10_riverWord_18 ?_
    obtain ⟨x4, hc5, hf⟩ := bnd_b hf
    refine hcall_Si (ex2 := True) (As := [va_rf a0, .int a1, .int a2, .ref (cy (100 + 1))]) (rest := []) (n := 4) ⟨hx, hb, hml, hown, hts⟩ (ch_X10_spells l D cy a0 a1 a2 1 x1.1 x4 hc5) (va_cwS 4 hts gX10_riverWord_X10_spells rfl rfl rfl nd_X10_spells ⟨Nat.le_of_ble_eq_true rfl, Nat.le_of_ble_eq_true rfl⟩) hI (fun h => h.elim) (fun _ => ⟨trivial, trivial⟩) rfl hl.1 (Nat.le_of_ble_eq_true rfl) dX10_riverWord_20 ⟨Nat.le_of_ble_eq_true rfl, Nat.le_of_ble_eq_true rfl⟩ (fun H locs hI => ?_)
    refine lv_if_eq (tgt := 30) hx hb dX10_riverWord_23 (by decide) (fun c6 => ?_) (fun c6 => ?_)
    · replace hf := ifp c6 hf
      refine hq_aload_n hx hb dX10_riverWord_30 rfl (lv_at hl 0 rfl) ?_
      refine lv_iload_n hx hb dX10_riverWord_31 rfl (lv_at hl 1 rfl) ?_
      refine lv_iload_n hx hb dX10_riverWord_32 rfl (lv_at hl 2 rfl) ?_
      refine hs_ldc (i := 2) hx hb hown hI (by decide) dX10_riverWord_33 ?_
      obtain ⟨x7, hc8, hf⟩ := bnd_b hf
      refine hcall_Si (ex2 := True) (As := [va_rf a0, .int a1, .int a2, .ref (cy (100 + 2))]) (rest := []) (n := 4) ⟨hx, hb, hml, hown, hts⟩ (ch_X10_spells l D cy a0 a1 a2 2 x4.1 x7 hc8) (va_cwS 4 hts gX10_riverWord_X10_spells rfl rfl rfl nd_X10_spells ⟨Nat.le_of_ble_eq_true rfl, Nat.le_of_ble_eq_true rfl⟩) hI (fun h => h.elim) (fun _ => ⟨trivial, trivial⟩) rfl hl.1 (Nat.le_of_ble_eq_true rfl) dX10_riverWord_35 ⟨Nat.le_of_ble_eq_true rfl, Nat.le_of_ble_eq_true rfl⟩ (fun H locs hI => ?_)
      refine lv_if_eq (tgt := 45) hx hb dX10_riverWord_38 (by decide) (fun c9 => ?_) (fun c9 => ?_)
      · replace hf := ifp c9 hf
        refine hq_aload_n hx hb dX10_riverWord_45 rfl (lv_at hl 0 rfl) ?_
        refine lv_iload_n hx hb dX10_riverWord_46 rfl (lv_at hl 1 rfl) ?_
        refine lv_iload_n hx hb dX10_riverWord_47 rfl (lv_at hl 2 rfl) ?_
        refine hs_ldc (i := 3) hx hb hown hI (by decide) dX10_riverWord_48 ?_
        obtain ⟨x10, hc11, hf⟩ := bnd_b hf
        refine hcall_Si (ex2 := True) (As := [va_rf a0, .int a1, .int a2, .ref (cy (100 + 3))]) (rest := []) (n := 4) ⟨hx, hb, hml, hown, hts⟩ (ch_X10_spells l D cy a0 a1 a2 3 x7.1 x10 hc11) (va_cwS 4 hts gX10_riverWord_X10_spells rfl rfl rfl nd_X10_spells ⟨Nat.le_of_ble_eq_true rfl, Nat.le_of_ble_eq_true rfl⟩) hI (fun h => h.elim) (fun _ => ⟨trivial, trivial⟩) rfl hl.1 (Nat.le_of_ble_eq_true rfl) dX10_riverWord_50 ⟨Nat.le_of_ble_eq_true rfl, Nat.le_of_ble_eq_true rfl⟩ (fun H locs hI => ?_)
        refine lv_if_eq (tgt := 60) hx hb dX10_riverWord_53 (by decide) (fun c12 => ?_) (fun c12 => ?_)
        · replace hf := ifp c12 hf
          refine hq_aload_n hx hb dX10_riverWord_60 rfl (lv_at hl 0 rfl) ?_
          refine lv_iload_n hx hb dX10_riverWord_61 rfl (lv_at hl 1 rfl) ?_
          refine lv_iload_n hx hb dX10_riverWord_62 rfl (lv_at hl 2 rfl) ?_
          refine hs_ldc (i := 4) hx hb hown hI (by decide) dX10_riverWord_63 ?_
          obtain ⟨x13, hc14, hf⟩ := bnd_b hf
          refine hcall_Si (ex2 := True) (As := [va_rf a0, .int a1, .int a2, .ref (cy (100 + 4))]) (rest := []) (n := 4) ⟨hx, hb, hml, hown, hts⟩ (ch_X10_spells l D cy a0 a1 a2 4 x10.1 x13 hc14) (va_cwS 4 hts gX10_riverWord_X10_spells rfl rfl rfl nd_X10_spells ⟨Nat.le_of_ble_eq_true rfl, Nat.le_of_ble_eq_true rfl⟩) hI (fun h => h.elim) (fun _ => ⟨trivial, trivial⟩) rfl hl.1 (Nat.le_of_ble_eq_true rfl) dX10_riverWord_65 ⟨Nat.le_of_ble_eq_true rfl, Nat.le_of_ble_eq_true rfl⟩ (fun H locs hI => ?_)
          refine lv_if_eq (tgt := 75) hx hb dX10_riverWord_68 (by decide) (fun c15 => ?_) (fun c15 => ?_)
          · replace hf := ifp c15 hf
            refine hq_aload_n hx hb dX10_riverWord_75 rfl (lv_at hl 0 rfl) ?_
            refine lv_iload_n hx hb dX10_riverWord_76 rfl (lv_at hl 1 rfl) ?_
            refine lv_iload_n hx hb dX10_riverWord_77 rfl (lv_at hl 2 rfl) ?_
            refine hs_ldc (i := 5) hx hb hown hI (by decide) dX10_riverWord_78 ?_
            obtain ⟨x16, hc17, hf⟩ := bnd_b hf
            refine hcall_Si (ex2 := True) (As := [va_rf a0, .int a1, .int a2, .ref (cy (100 + 5))]) (rest := []) (n := 4) ⟨hx, hb, hml, hown, hts⟩ (ch_X10_spells l D cy a0 a1 a2 5 x13.1 x16 hc17) (va_cwS 4 hts gX10_riverWord_X10_spells rfl rfl rfl nd_X10_spells ⟨Nat.le_of_ble_eq_true rfl, Nat.le_of_ble_eq_true rfl⟩) hI (fun h => h.elim) (fun _ => ⟨trivial, trivial⟩) rfl hl.1 (Nat.le_of_ble_eq_true rfl) dX10_riverWord_80 ⟨Nat.le_of_ble_eq_true rfl, Nat.le_of_ble_eq_true rfl⟩ (fun H locs hI => ?_)
            refine lv_if_eq (tgt := 92) hx hb dX10_riverWord_83 (by decide) (fun c18 => ?_) (fun c18 => ?_)
            · replace hf := ifp c18 hf
              refine lv_iconst (v := 1) hx hb dX10_riverWord_92 (by decide) ?_
              exact hret_i hx hb hr hlocks hI (by decide) (by decide) (fun _ => ⟨trivial, rfl⟩) (ret_e hK0 hf) dX10_riverWord_93
            · replace hf := ifn c18 hf
              refine lv_sipush (v := 261) hx hb dX10_riverWord_86 (by decide) ?_
              refine lv_goto (tgt := 93) hx hb dX10_riverWord_89 (by decide) ?_
              exact hret_i hx hb hr hlocks hI (by decide) (by decide) (fun _ => ⟨trivial, rfl⟩) (ret_e hK0 hf) dX10_riverWord_93
          · replace hf := ifn c15 hf
            refine lv_sipush (v := 260) hx hb dX10_riverWord_71 (by decide) ?_
            exact hret_i hx hb hr hlocks hI (by decide) (by decide) (fun _ => ⟨trivial, rfl⟩) (ret_e hK0 hf) dX10_riverWord_74
        · replace hf := ifn c12 hf
          refine lv_sipush (v := 259) hx hb dX10_riverWord_56 (by decide) ?_
          exact hret_i hx hb hr hlocks hI (by decide) (by decide) (fun _ => ⟨trivial, rfl⟩) (ret_e hK0 hf) dX10_riverWord_59
      · replace hf := ifn c9 hf
        refine lv_sipush (v := 258) hx hb dX10_riverWord_41 (by decide) ?_
        exact hret_i hx hb hr hlocks hI (by decide) (by decide) (fun _ => ⟨trivial, rfl⟩) (ret_e hK0 hf) dX10_riverWord_44
    · replace hf := ifn c6 hf
      refine lv_sipush (v := 257) hx hb dX10_riverWord_26 (by decide) ?_
      exact hret_i hx hb hr hlocks hI (by decide) (by decide) (fun _ => ⟨trivial, rfl⟩) (ret_e hK0 hf) dX10_riverWord_29
  · replace hf := ifn c3 hf
    refine lv_sipush (v := 256) hx hb dX10_riverWord_11 (by decide) ?_
    exact hret_i hx hb hr hlocks hI (by decide) (by decide) (fun _ => ⟨trivial, rfl⟩) (ret_e hK0 hf) dX10_riverWord_14

theorem nd_X10_valueWord : yX10_valueWord.cls ≠ "java/lang/invoke/MethodHandle" ∧ yX10_valueWord.cls ≠ "java/lang/invoke/VarHandle" ∧ (parseMethodDescriptor yX10_valueWord.desc).map (fun d => d.parameters.length) = some 3 := by decide +kernel
set_option maxHeartbeats 4000000 in
set_option maxRecDepth 100000 in
theorem ch_X10_valueWord (l : Launch) (D : va_G) (cy : Nat → ClassId) (a0 : Option Nat) (a1 : Int32) (a2 : Int32) (s0 : HSt) (out : HSt × Int32) (hf : fh_X10_valueWord a0 a1 a2 s0 = some out) : CHi l D cy yX10_valueWord wsX10_valueWord { frames := 5, cells := 0, slots := 0, locals := 109 } 0 0 False True [va_rf a0, .int a1, .int a2] s0 out := by
  refine Met.ofW (cc := cX10_valueWord) (maxL := 3) (ret := (some .int)) (by decide) rfl ?_
  intro p e s m args below meth c s₁ B hml hv
  obtain ⟨rfl, hP, hK, hD0, hkx, hsz, hal⟩ := hv
  have hx := B.exec
  have hb := B.bytes
  have hr := B.returns
  have hts := atoms_spec (ws := wsX10_valueWord) B.pre
  have hown : s.vm.findClass RX10 = some m.cls := findClass_of_methodNamed B.named
  have hlocks := B.notSynchronized
  have hI : HI D cy s s0 s0 s.heap [] 0 False True := ⟨hK, hP, hD0.weaken (fun k q hk _ => Or.inl (pl_mem hk)), va_S.rf, hsz.1, hkx, ⟨hsz, hal⟩, fun _ => rfl, Nat.le_refl _⟩
  have hl := lv_entry ([va_rf a0, .int a1, .int a2]) (n := 3) (by simp [lg_sl, cat_rf, cat_i, cat_l, cat_r])
  rw [lg_entry_eq]
  generalize (lg_sl ([va_rf a0, .int a1, .int a2]) ++ List.replicate (3 - (lg_sl ([va_rf a0, .int a1, .int a2])).length) Slot.unset).toArray = ls at hl ⊢
  have hl : lv_has ls 3 [(0, va_rf a0), (1, .int a1), (2, .int a2)] := (by simpa [lv_args, cat_rf, cat_i, cat_l, cat_r] using hl)
  obtain ⟨K0, hK0, hf⟩ := top_e hf
  unfold fh_X10_valueWord at hf
  refine hq_aload_n hx hb dX10_valueWord_0 rfl (lv_at hl 0 rfl) ?_
  refine lv_iload_n hx hb dX10_valueWord_1 rfl (lv_at hl 1 rfl) ?_
  refine lv_iload_n hx hb dX10_valueWord_2 rfl (lv_at hl 2 rfl) ?_
  refine hs_ldc (i := 14) hx hb hown hI (by decide) dX10_valueWord_3 ?_
  obtain ⟨x1, hc2, hf⟩ := bnd_b hf
  refine hcall_Si (ex2 := True) (As := [va_rf a0, .int a1, .int a2, .ref (cy (100 + 14))]) (rest := []) (n := 4) ⟨hx, hb, hml, hown, hts⟩ (ch_X10_spells l D cy a0 a1 a2 14 s0 x1 hc2) (va_cwS 4 hts gX10_valueWord_X10_spells rfl rfl rfl nd_X10_spells ⟨Nat.le_of_ble_eq_true rfl, Nat.le_of_ble_eq_true rfl⟩) hI (fun h => h.elim) (fun _ => ⟨trivial, trivial⟩) rfl hl.1 (Nat.le_of_ble_eq_true rfl) dX10_valueWord_5 ⟨Nat.le_of_ble_eq_true rfl, Nat.le_of_ble_eq_true rfl⟩ (fun H locs hI => ?_)
  refine lv_if_eq (tgt := 15) hx hb dX10_valueWord_8 (by decide) (fun c3 => ?_) (fun c3 => ?_)
  · replace hf := ifp c3 hf
    refine hq_aload_n hx hb dX10_valueWord_15 rfl (lv_at hl 0 rfl) ?_
    refine lv_iload_n hx hb dX10_valueWord_16 rfl (lv_at hl 1 rfl) ?_
    refine lv_iload_n hx hb dX10_valueWord_17 rfl (lv_at hl 2 rfl) ?_
    refine hs_ldc (i := 15) hx hb hown hI (by decide) dX10_valueWord_18 ?_
    obtain ⟨x4, hc5, hf⟩ := bnd_b hf
    refine hcall_Si (ex2 := True) (As := [va_rf a0, .int a1, .int a2, .ref (cy (100 + 15))]) (rest := []) (n := 4) ⟨hx, hb, hml, hown, hts⟩ (ch_X10_spells l D cy a0 a1 a2 15 x1.1 x4 hc5) (va_cwS 4 hts gX10_valueWord_X10_spells rfl rfl rfl nd_X10_spells ⟨Nat.le_of_ble_eq_true rfl, Nat.le_of_ble_eq_true rfl⟩) hI (fun h => h.elim) (fun _ => ⟨trivial, trivial⟩) rfl hl.1 (Nat.le_of_ble_eq_true rfl) dX10_valueWord_20 ⟨Nat.le_of_ble_eq_true rfl, Nat.le_of_ble_eq_true rfl⟩ (fun H locs hI => ?_)
    refine lv_if_eq (tgt := 30) hx hb dX10_valueWord_23 (by decide) (fun c6 => ?_) (fun c6 => ?_)
    · replace hf := ifp c6 hf
      refine hq_aload_n hx hb dX10_valueWord_30 rfl (lv_at hl 0 rfl) ?_
      refine lv_iload_n hx hb dX10_valueWord_31 rfl (lv_at hl 1 rfl) ?_
      refine lv_iload_n hx hb dX10_valueWord_32 rfl (lv_at hl 2 rfl) ?_
      refine hs_ldc (i := 16) hx hb hown hI (by decide) dX10_valueWord_33 ?_
      obtain ⟨x7, hc8, hf⟩ := bnd_b hf
      refine hcall_Si (ex2 := True) (As := [va_rf a0, .int a1, .int a2, .ref (cy (100 + 16))]) (rest := []) (n := 4) ⟨hx, hb, hml, hown, hts⟩ (ch_X10_spells l D cy a0 a1 a2 16 x4.1 x7 hc8) (va_cwS 4 hts gX10_valueWord_X10_spells rfl rfl rfl nd_X10_spells ⟨Nat.le_of_ble_eq_true rfl, Nat.le_of_ble_eq_true rfl⟩) hI (fun h => h.elim) (fun _ => ⟨trivial, trivial⟩) rfl hl.1 (Nat.le_of_ble_eq_true rfl) dX10_valueWord_35 ⟨Nat.le_of_ble_eq_true rfl, Nat.le_of_ble_eq_true rfl⟩ (fun H locs hI => ?_)
      refine lv_if_eq (tgt := 45) hx hb dX10_valueWord_38 (by decide) (fun c9 => ?_) (fun c9 => ?_)
      · replace hf := ifp c9 hf
        refine hq_aload_n hx hb dX10_valueWord_45 rfl (lv_at hl 0 rfl) ?_
        refine lv_iload_n hx hb dX10_valueWord_46 rfl (lv_at hl 1 rfl) ?_
        refine lv_iload_n hx hb dX10_valueWord_47 rfl (lv_at hl 2 rfl) ?_
        refine hs_ldc (i := 17) hx hb hown hI (by decide) dX10_valueWord_48 ?_
        obtain ⟨x10, hc11, hf⟩ := bnd_b hf
        refine hcall_Si (ex2 := True) (As := [va_rf a0, .int a1, .int a2, .ref (cy (100 + 17))]) (rest := []) (n := 4) ⟨hx, hb, hml, hown, hts⟩ (ch_X10_spells l D cy a0 a1 a2 17 x7.1 x10 hc11) (va_cwS 4 hts gX10_valueWord_X10_spells rfl rfl rfl nd_X10_spells ⟨Nat.le_of_ble_eq_true rfl, Nat.le_of_ble_eq_true rfl⟩) hI (fun h => h.elim) (fun _ => ⟨trivial, trivial⟩) rfl hl.1 (Nat.le_of_ble_eq_true rfl) dX10_valueWord_50 ⟨Nat.le_of_ble_eq_true rfl, Nat.le_of_ble_eq_true rfl⟩ (fun H locs hI => ?_)
        refine lv_if_eq (tgt := 60) hx hb dX10_valueWord_53 (by decide) (fun c12 => ?_) (fun c12 => ?_)
        · replace hf := ifp c12 hf
          refine hq_aload_n hx hb dX10_valueWord_60 rfl (lv_at hl 0 rfl) ?_
          refine lv_iload_n hx hb dX10_valueWord_61 rfl (lv_at hl 1 rfl) ?_
          refine lv_iload_n hx hb dX10_valueWord_62 rfl (lv_at hl 2 rfl) ?_
          refine hs_ldc (i := 18) hx hb hown hI (by decide) dX10_valueWord_63 ?_
          obtain ⟨x13, hc14, hf⟩ := bnd_b hf
          refine hcall_Si (ex2 := True) (As := [va_rf a0, .int a1, .int a2, .ref (cy (100 + 18))]) (rest := []) (n := 4) ⟨hx, hb, hml, hown, hts⟩ (ch_X10_spells l D cy a0 a1 a2 18 x10.1 x13 hc14) (va_cwS 4 hts gX10_valueWord_X10_spells rfl rfl rfl nd_X10_spells ⟨Nat.le_of_ble_eq_true rfl, Nat.le_of_ble_eq_true rfl⟩) hI (fun h => h.elim) (fun _ => ⟨trivial, trivial⟩) rfl hl.1 (Nat.le_of_ble_eq_true rfl) dX10_valueWord_65 ⟨Nat.le_of_ble_eq_true rfl, Nat.le_of_ble_eq_true rfl⟩ (fun H locs hI => ?_)
          refine lv_if_eq (tgt := 75) hx hb dX10_valueWord_68 (by decide) (fun c15 => ?_) (fun c15 => ?_)
          · replace hf := ifp c15 hf
            refine hq_aload_n hx hb dX10_valueWord_75 rfl (lv_at hl 0 rfl) ?_
            refine lv_iload_n hx hb dX10_valueWord_76 rfl (lv_at hl 1 rfl) ?_
            refine lv_iload_n hx hb dX10_valueWord_77 rfl (lv_at hl 2 rfl) ?_
            refine hs_ldc (i := 19) hx hb hown hI (by decide) dX10_valueWord_78 ?_
            obtain ⟨x16, hc17, hf⟩ := bnd_b hf
            refine hcall_Si (ex2 := True) (As := [va_rf a0, .int a1, .int a2, .ref (cy (100 + 19))]) (rest := []) (n := 4) ⟨hx, hb, hml, hown, hts⟩ (ch_X10_spells l D cy a0 a1 a2 19 x13.1 x16 hc17) (va_cwS 4 hts gX10_valueWord_X10_spells rfl rfl rfl nd_X10_spells ⟨Nat.le_of_ble_eq_true rfl, Nat.le_of_ble_eq_true rfl⟩) hI (fun h => h.elim) (fun _ => ⟨trivial, trivial⟩) rfl hl.1 (Nat.le_of_ble_eq_true rfl) dX10_valueWord_80 ⟨Nat.le_of_ble_eq_true rfl, Nat.le_of_ble_eq_true rfl⟩ (fun H locs hI => ?_)
            refine lv_if_eq (tgt := 90) hx hb dX10_valueWord_83 (by decide) (fun c18 => ?_) (fun c18 => ?_)
            · replace hf := ifp c18 hf
              refine hq_aload_n hx hb dX10_valueWord_90 rfl (lv_at hl 0 rfl) ?_
              refine lv_iload_n hx hb dX10_valueWord_91 rfl (lv_at hl 1 rfl) ?_
              refine lv_iload_n hx hb dX10_valueWord_92 rfl (lv_at hl 2 rfl) ?_
              refine hs_ldc (i := 20) hx hb hown hI (by decide) dX10_valueWord_93 ?_
              obtain ⟨x19, hc20, hf⟩ := bnd_b hf
              refine hcall_Si (ex2 := True) (As := [va_rf a0, .int a1, .int a2, .ref (cy (100 + 20))]) (rest := []) (n := 4) ⟨hx, hb, hml, hown, hts⟩ (ch_X10_spells l D cy a0 a1 a2 20 x16.1 x19 hc20) (va_cwS 4 hts gX10_valueWord_X10_spells rfl rfl rfl nd_X10_spells ⟨Nat.le_of_ble_eq_true rfl, Nat.le_of_ble_eq_true rfl⟩) hI (fun h => h.elim) (fun _ => ⟨trivial, trivial⟩) rfl hl.1 (Nat.le_of_ble_eq_true rfl) dX10_valueWord_95 ⟨Nat.le_of_ble_eq_true rfl, Nat.le_of_ble_eq_true rfl⟩ (fun H locs hI => ?_)
              refine lv_if_eq (tgt := 105) hx hb dX10_valueWord_98 (by decide) (fun c21 => ?_) (fun c21 => ?_)
              · replace hf := ifp c21 hf
                refine hq_aload_n hx hb dX10_valueWord_105 rfl (lv_at hl 0 rfl) ?_
                refine lv_iload_n hx hb dX10_valueWord_106 rfl (lv_at hl 1 rfl) ?_
                refine lv_iload_n hx hb dX10_valueWord_107 rfl (lv_at hl 2 rfl) ?_
                refine hs_ldc (i := 21) hx hb hown hI (by decide) dX10_valueWord_108 ?_
                obtain ⟨x22, hc23, hf⟩ := bnd_b hf
                refine hcall_Si (ex2 := True) (As := [va_rf a0, .int a1, .int a2, .ref (cy (100 + 21))]) (rest := []) (n := 4) ⟨hx, hb, hml, hown, hts⟩ (ch_X10_spells l D cy a0 a1 a2 21 x19.1 x22 hc23) (va_cwS 4 hts gX10_valueWord_X10_spells rfl rfl rfl nd_X10_spells ⟨Nat.le_of_ble_eq_true rfl, Nat.le_of_ble_eq_true rfl⟩) hI (fun h => h.elim) (fun _ => ⟨trivial, trivial⟩) rfl hl.1 (Nat.le_of_ble_eq_true rfl) dX10_valueWord_110 ⟨Nat.le_of_ble_eq_true rfl, Nat.le_of_ble_eq_true rfl⟩ (fun H locs hI => ?_)
                refine lv_if_eq (tgt := 120) hx hb dX10_valueWord_113 (by decide) (fun c24 => ?_) (fun c24 => ?_)
                · replace hf := ifp c24 hf
                  refine hq_aload_n hx hb dX10_valueWord_120 rfl (lv_at hl 0 rfl) ?_
                  refine lv_iload_n hx hb dX10_valueWord_121 rfl (lv_at hl 1 rfl) ?_
                  refine lv_iload_n hx hb dX10_valueWord_122 rfl (lv_at hl 2 rfl) ?_
                  refine hs_ldc (i := 22) hx hb hown hI (by decide) dX10_valueWord_123 ?_
                  obtain ⟨x25, hc26, hf⟩ := bnd_b hf
                  refine hcall_Si (ex2 := True) (As := [va_rf a0, .int a1, .int a2, .ref (cy (100 + 22))]) (rest := []) (n := 4) ⟨hx, hb, hml, hown, hts⟩ (ch_X10_spells l D cy a0 a1 a2 22 x22.1 x25 hc26) (va_cwS 4 hts gX10_valueWord_X10_spells rfl rfl rfl nd_X10_spells ⟨Nat.le_of_ble_eq_true rfl, Nat.le_of_ble_eq_true rfl⟩) hI (fun h => h.elim) (fun _ => ⟨trivial, trivial⟩) rfl hl.1 (Nat.le_of_ble_eq_true rfl) dX10_valueWord_125 ⟨Nat.le_of_ble_eq_true rfl, Nat.le_of_ble_eq_true rfl⟩ (fun H locs hI => ?_)
                  refine lv_if_eq (tgt := 137) hx hb dX10_valueWord_128 (by decide) (fun c27 => ?_) (fun c27 => ?_)
                  · replace hf := ifp c27 hf
                    refine lv_iconst (v := 1) hx hb dX10_valueWord_137 (by decide) ?_
                    exact hret_i hx hb hr hlocks hI (by decide) (by decide) (fun _ => ⟨trivial, rfl⟩) (ret_e hK0 hf) dX10_valueWord_138
                  · replace hf := ifn c27 hf
                    refine lv_sipush (v := 278) hx hb dX10_valueWord_131 (by decide) ?_
                    refine lv_goto (tgt := 138) hx hb dX10_valueWord_134 (by decide) ?_
                    exact hret_i hx hb hr hlocks hI (by decide) (by decide) (fun _ => ⟨trivial, rfl⟩) (ret_e hK0 hf) dX10_valueWord_138
                · replace hf := ifn c24 hf
                  refine lv_sipush (v := 277) hx hb dX10_valueWord_116 (by decide) ?_
                  exact hret_i hx hb hr hlocks hI (by decide) (by decide) (fun _ => ⟨trivial, rfl⟩) (ret_e hK0 hf) dX10_valueWord_119
              · replace hf := ifn c21 hf
                refine lv_sipush (v := 276) hx hb dX10_valueWord_101 (by decide) ?_
                exact hret_i hx hb hr hlocks hI (by decide) (by decide) (fun _ => ⟨trivial, rfl⟩) (ret_e hK0 hf) dX10_valueWord_104
            · replace hf := ifn c18 hf
              refine lv_sipush (v := 275) hx hb dX10_valueWord_86 (by decide) ?_
              exact hret_i hx hb hr hlocks hI (by decide) (by decide) (fun _ => ⟨trivial, rfl⟩) (ret_e hK0 hf) dX10_valueWord_89
          · replace hf := ifn c15 hf
            refine lv_sipush (v := 274) hx hb dX10_valueWord_71 (by decide) ?_
            exact hret_i hx hb hr hlocks hI (by decide) (by decide) (fun _ => ⟨trivial, rfl⟩) (ret_e hK0 hf) dX10_valueWord_74
        · replace hf := ifn c12 hf
          refine lv_sipush (v := 273) hx hb dX10_valueWord_56 (by decide) ?_
          exact hret_i hx hb hr hlocks hI (by decide) (by decide) (fun _ => ⟨trivial, rfl⟩) (ret_e hK0 hf) dX10_valueWord_59
      · replace hf := ifn c9 hf
        refine lv_sipush (v := 272) hx hb dX10_valueWord_41 (by decide) ?_
        exact hret_i hx hb hr hlocks hI (by decide) (by decide) (fun _ => ⟨trivial, rfl⟩) (ret_e hK0 hf) dX10_valueWord_44
    · replace hf := ifn c6 hf
      refine lv_sipush (v := 271) hx hb dX10_valueWord_26 (by decide) ?_
      exact hret_i hx hb hr hlocks hI (by decide) (by decide) (fun _ => ⟨trivial, rfl⟩) (ret_e hK0 hf) dX10_valueWord_29
  · replace hf := ifn c3 hf
    refine lv_sipush (v := 270) hx hb dX10_valueWord_11 (by decide) ?_
    exact hret_i hx hb hr hlocks hI (by decide) (by decide) (fun _ => ⟨trivial, rfl⟩) (ret_e hK0 hf) dX10_valueWord_14

theorem nd_X10_ruleWord : yX10_ruleWord.cls ≠ "java/lang/invoke/MethodHandle" ∧ yX10_ruleWord.cls ≠ "java/lang/invoke/VarHandle" ∧ (parseMethodDescriptor yX10_ruleWord.desc).map (fun d => d.parameters.length) = some 3 := by decide +kernel
set_option maxHeartbeats 4000000 in
set_option maxRecDepth 100000 in
theorem ch_X10_ruleWord (l : Launch) (D : va_G) (cy : Nat → ClassId) (a0 : Option Nat) (a1 : Int32) (a2 : Int32) (s0 : HSt) (out : HSt × Int32) (hf : fh_X10_ruleWord a0 a1 a2 s0 = some out) : CHi l D cy yX10_ruleWord wsX10_ruleWord { frames := 6, cells := 0, slots := 0, locals := 131 } 0 0 False True [va_rf a0, .int a1, .int a2] s0 out := by
  refine Met.ofW (cc := cX10_ruleWord) (maxL := 3) (ret := (some .int)) (by decide) rfl ?_
  intro p e s m args below meth c s₁ B hml hv
  obtain ⟨rfl, hP, hK, hD0, hkx, hsz, hal⟩ := hv
  have hx := B.exec
  have hb := B.bytes
  have hr := B.returns
  have hts := atoms_spec (ws := wsX10_ruleWord) B.pre
  have hown : s.vm.findClass RX10 = some m.cls := findClass_of_methodNamed B.named
  have hlocks := B.notSynchronized
  have hI : HI D cy s s0 s0 s.heap [] 0 False True := ⟨hK, hP, hD0.weaken (fun k q hk _ => Or.inl (pl_mem hk)), va_S.rf, hsz.1, hkx, ⟨hsz, hal⟩, fun _ => rfl, Nat.le_refl _⟩
  have hl := lv_entry ([va_rf a0, .int a1, .int a2]) (n := 3) (by simp [lg_sl, cat_rf, cat_i, cat_l, cat_r])
  rw [lg_entry_eq]
  generalize (lg_sl ([va_rf a0, .int a1, .int a2]) ++ List.replicate (3 - (lg_sl ([va_rf a0, .int a1, .int a2])).length) Slot.unset).toArray = ls at hl ⊢
  have hl : lv_has ls 3 [(0, va_rf a0), (1, .int a1), (2, .int a2)] := (by simpa [lv_args, cat_rf, cat_i, cat_l, cat_r] using hl)
  obtain ⟨K0, hK0, hf⟩ := top_e hf
  unfold fh_X10_ruleWord at hf
  refine hq_aload_n hx hb dX10_ruleWord_0 rfl (lv_at hl 0 rfl) ?_
  refine lv_iload_n hx hb dX10_ruleWord_1 rfl (lv_at hl 1 rfl) ?_
  refine lv_iload_n hx hb dX10_ruleWord_2 rfl (lv_at hl 2 rfl) ?_
  refine hs_ldc (i := 6) hx hb hown hI (by decide) dX10_ruleWord_3 ?_
  obtain ⟨x1, hc2, hf⟩ := bnd_b hf
  refine hcall_Si (ex2 := True) (As := [va_rf a0, .int a1, .int a2, .ref (cy (100 + 6))]) (rest := []) (n := 4) ⟨hx, hb, hml, hown, hts⟩ (ch_X10_spells l D cy a0 a1 a2 6 s0 x1 hc2) (va_cwS 4 hts gX10_ruleWord_X10_spells rfl rfl rfl nd_X10_spells ⟨Nat.le_of_ble_eq_true rfl, Nat.le_of_ble_eq_true rfl⟩) hI (fun h => h.elim) (fun _ => ⟨trivial, trivial⟩) rfl hl.1 (Nat.le_of_ble_eq_true rfl) dX10_ruleWord_5 ⟨Nat.le_of_ble_eq_true rfl, Nat.le_of_ble_eq_true rfl⟩ (fun H locs hI => ?_)
  refine lv_if_eq (tgt := 15) hx hb dX10_ruleWord_8 (by decide) (fun c3 => ?_) (fun c3 => ?_)
  · replace hf := ifp c3 hf
    refine hq_aload_n hx hb dX10_ruleWord_15 rfl (lv_at hl 0 rfl) ?_
    refine lv_iload_n hx hb dX10_ruleWord_16 rfl (lv_at hl 1 rfl) ?_
    refine lv_iload_n hx hb dX10_ruleWord_17 rfl (lv_at hl 2 rfl) ?_
    refine hs_ldc (i := 7) hx hb hown hI (by decide) dX10_ruleWord_18 ?_
    obtain ⟨x4, hc5, hf⟩ := bnd_b hf
    refine hcall_Si (ex2 := True) (As := [va_rf a0, .int a1, .int a2, .ref (cy (100 + 7))]) (rest := []) (n := 4) ⟨hx, hb, hml, hown, hts⟩ (ch_X10_spells l D cy a0 a1 a2 7 x1.1 x4 hc5) (va_cwS 4 hts gX10_ruleWord_X10_spells rfl rfl rfl nd_X10_spells ⟨Nat.le_of_ble_eq_true rfl, Nat.le_of_ble_eq_true rfl⟩) hI (fun h => h.elim) (fun _ => ⟨trivial, trivial⟩) rfl hl.1 (Nat.le_of_ble_eq_true rfl) dX10_ruleWord_20 ⟨Nat.le_of_ble_eq_true rfl, Nat.le_of_ble_eq_true rfl⟩ (fun H locs hI => ?_)
    refine lv_if_eq (tgt := 30) hx hb dX10_ruleWord_23 (by decide) (fun c6 => ?_) (fun c6 => ?_)
    · replace hf := ifp c6 hf
      refine hq_aload_n hx hb dX10_ruleWord_30 rfl (lv_at hl 0 rfl) ?_
      refine lv_iload_n hx hb dX10_ruleWord_31 rfl (lv_at hl 1 rfl) ?_
      refine lv_iload_n hx hb dX10_ruleWord_32 rfl (lv_at hl 2 rfl) ?_
      refine hs_ldc (i := 8) hx hb hown hI (by decide) dX10_ruleWord_33 ?_
      obtain ⟨x7, hc8, hf⟩ := bnd_b hf
      refine hcall_Si (ex2 := True) (As := [va_rf a0, .int a1, .int a2, .ref (cy (100 + 8))]) (rest := []) (n := 4) ⟨hx, hb, hml, hown, hts⟩ (ch_X10_spells l D cy a0 a1 a2 8 x4.1 x7 hc8) (va_cwS 4 hts gX10_ruleWord_X10_spells rfl rfl rfl nd_X10_spells ⟨Nat.le_of_ble_eq_true rfl, Nat.le_of_ble_eq_true rfl⟩) hI (fun h => h.elim) (fun _ => ⟨trivial, trivial⟩) rfl hl.1 (Nat.le_of_ble_eq_true rfl) dX10_ruleWord_35 ⟨Nat.le_of_ble_eq_true rfl, Nat.le_of_ble_eq_true rfl⟩ (fun H locs hI => ?_)
      refine lv_if_eq (tgt := 45) hx hb dX10_ruleWord_38 (by decide) (fun c9 => ?_) (fun c9 => ?_)
      · replace hf := ifp c9 hf
        refine hq_aload_n hx hb dX10_ruleWord_45 rfl (lv_at hl 0 rfl) ?_
        refine lv_iload_n hx hb dX10_ruleWord_46 rfl (lv_at hl 1 rfl) ?_
        refine lv_iload_n hx hb dX10_ruleWord_47 rfl (lv_at hl 2 rfl) ?_
        refine hs_ldc (i := 9) hx hb hown hI (by decide) dX10_ruleWord_48 ?_
        obtain ⟨x10, hc11, hf⟩ := bnd_b hf
        refine hcall_Si (ex2 := True) (As := [va_rf a0, .int a1, .int a2, .ref (cy (100 + 9))]) (rest := []) (n := 4) ⟨hx, hb, hml, hown, hts⟩ (ch_X10_spells l D cy a0 a1 a2 9 x7.1 x10 hc11) (va_cwS 4 hts gX10_ruleWord_X10_spells rfl rfl rfl nd_X10_spells ⟨Nat.le_of_ble_eq_true rfl, Nat.le_of_ble_eq_true rfl⟩) hI (fun h => h.elim) (fun _ => ⟨trivial, trivial⟩) rfl hl.1 (Nat.le_of_ble_eq_true rfl) dX10_ruleWord_50 ⟨Nat.le_of_ble_eq_true rfl, Nat.le_of_ble_eq_true rfl⟩ (fun H locs hI => ?_)
        refine lv_if_eq (tgt := 60) hx hb dX10_ruleWord_53 (by decide) (fun c12 => ?_) (fun c12 => ?_)
        · replace hf := ifp c12 hf
          refine hq_aload_n hx hb dX10_ruleWord_60 rfl (lv_at hl 0 rfl) ?_
          refine lv_iload_n hx hb dX10_ruleWord_61 rfl (lv_at hl 1 rfl) ?_
          refine lv_iload_n hx hb dX10_ruleWord_62 rfl (lv_at hl 2 rfl) ?_
          refine hs_ldc (i := 10) hx hb hown hI (by decide) dX10_ruleWord_63 ?_
          obtain ⟨x13, hc14, hf⟩ := bnd_b hf
          refine hcall_Si (ex2 := True) (As := [va_rf a0, .int a1, .int a2, .ref (cy (100 + 10))]) (rest := []) (n := 4) ⟨hx, hb, hml, hown, hts⟩ (ch_X10_spells l D cy a0 a1 a2 10 x10.1 x13 hc14) (va_cwS 4 hts gX10_ruleWord_X10_spells rfl rfl rfl nd_X10_spells ⟨Nat.le_of_ble_eq_true rfl, Nat.le_of_ble_eq_true rfl⟩) hI (fun h => h.elim) (fun _ => ⟨trivial, trivial⟩) rfl hl.1 (Nat.le_of_ble_eq_true rfl) dX10_ruleWord_65 ⟨Nat.le_of_ble_eq_true rfl, Nat.le_of_ble_eq_true rfl⟩ (fun H locs hI => ?_)
          refine lv_if_eq (tgt := 75) hx hb dX10_ruleWord_68 (by decide) (fun c15 => ?_) (fun c15 => ?_)
          · replace hf := ifp c15 hf
            refine hq_aload_n hx hb dX10_ruleWord_75 rfl (lv_at hl 0 rfl) ?_
            refine lv_iload_n hx hb dX10_ruleWord_76 rfl (lv_at hl 1 rfl) ?_
            refine lv_iload_n hx hb dX10_ruleWord_77 rfl (lv_at hl 2 rfl) ?_
            refine hs_ldc (i := 11) hx hb hown hI (by decide) dX10_ruleWord_78 ?_
            obtain ⟨x16, hc17, hf⟩ := bnd_b hf
            refine hcall_Si (ex2 := True) (As := [va_rf a0, .int a1, .int a2, .ref (cy (100 + 11))]) (rest := []) (n := 4) ⟨hx, hb, hml, hown, hts⟩ (ch_X10_spells l D cy a0 a1 a2 11 x13.1 x16 hc17) (va_cwS 4 hts gX10_ruleWord_X10_spells rfl rfl rfl nd_X10_spells ⟨Nat.le_of_ble_eq_true rfl, Nat.le_of_ble_eq_true rfl⟩) hI (fun h => h.elim) (fun _ => ⟨trivial, trivial⟩) rfl hl.1 (Nat.le_of_ble_eq_true rfl) dX10_ruleWord_80 ⟨Nat.le_of_ble_eq_true rfl, Nat.le_of_ble_eq_true rfl⟩ (fun H locs hI => ?_)
            refine lv_if_eq (tgt := 90) hx hb dX10_ruleWord_83 (by decide) (fun c18 => ?_) (fun c18 => ?_)
            · replace hf := ifp c18 hf
              refine hq_aload_n hx hb dX10_ruleWord_90 rfl (lv_at hl 0 rfl) ?_
              refine lv_iload_n hx hb dX10_ruleWord_91 rfl (lv_at hl 1 rfl) ?_
              refine lv_iload_n hx hb dX10_ruleWord_92 rfl (lv_at hl 2 rfl) ?_
              refine hs_ldc (i := 12) hx hb hown hI (by decide) dX10_ruleWord_93 ?_
              obtain ⟨x19, hc20, hf⟩ := bnd_b hf
              refine hcall_Si (ex2 := True) (As := [va_rf a0, .int a1, .int a2, .ref (cy (100 + 12))]) (rest := []) (n := 4) ⟨hx, hb, hml, hown, hts⟩ (ch_X10_spells l D cy a0 a1 a2 12 x16.1 x19 hc20) (va_cwS 4 hts gX10_ruleWord_X10_spells rfl rfl rfl nd_X10_spells ⟨Nat.le_of_ble_eq_true rfl, Nat.le_of_ble_eq_true rfl⟩) hI (fun h => h.elim) (fun _ => ⟨trivial, trivial⟩) rfl hl.1 (Nat.le_of_ble_eq_true rfl) dX10_ruleWord_95 ⟨Nat.le_of_ble_eq_true rfl, Nat.le_of_ble_eq_true rfl⟩ (fun H locs hI => ?_)
              refine lv_if_eq (tgt := 105) hx hb dX10_ruleWord_98 (by decide) (fun c21 => ?_) (fun c21 => ?_)
              · replace hf := ifp c21 hf
                refine hq_aload_n hx hb dX10_ruleWord_105 rfl (lv_at hl 0 rfl) ?_
                refine lv_iload_n hx hb dX10_ruleWord_106 rfl (lv_at hl 1 rfl) ?_
                refine lv_iload_n hx hb dX10_ruleWord_107 rfl (lv_at hl 2 rfl) ?_
                refine hs_ldc (i := 13) hx hb hown hI (by decide) dX10_ruleWord_108 ?_
                obtain ⟨x22, hc23, hf⟩ := bnd_b hf
                refine hcall_Si (ex2 := True) (As := [va_rf a0, .int a1, .int a2, .ref (cy (100 + 13))]) (rest := []) (n := 4) ⟨hx, hb, hml, hown, hts⟩ (ch_X10_spells l D cy a0 a1 a2 13 x19.1 x22 hc23) (va_cwS 4 hts gX10_ruleWord_X10_spells rfl rfl rfl nd_X10_spells ⟨Nat.le_of_ble_eq_true rfl, Nat.le_of_ble_eq_true rfl⟩) hI (fun h => h.elim) (fun _ => ⟨trivial, trivial⟩) rfl hl.1 (Nat.le_of_ble_eq_true rfl) dX10_ruleWord_110 ⟨Nat.le_of_ble_eq_true rfl, Nat.le_of_ble_eq_true rfl⟩ (fun H locs hI => ?_)
                refine lv_if_eq (tgt := 122) hx hb dX10_ruleWord_113 (by decide) (fun c24 => ?_) (fun c24 => ?_)
                · replace hf := ifp c24 hf
                  refine hq_aload_n hx hb dX10_ruleWord_122 rfl (lv_at hl 0 rfl) ?_
                  refine lv_iload_n hx hb dX10_ruleWord_123 rfl (lv_at hl 1 rfl) ?_
                  refine lv_iload_n hx hb dX10_ruleWord_124 rfl (lv_at hl 2 rfl) ?_
                  obtain ⟨x25, hc26, hf⟩ := bnd_b hf
                  refine hcall_Si (ex2 := True) (As := [va_rf a0, .int a1, .int a2]) (rest := []) (n := 3) ⟨hx, hb, hml, hown, hts⟩ (ch_X10_valueWord l D cy a0 a1 a2 x22.1 x25 hc26) (va_cwS 3 hts gX10_ruleWord_X10_valueWord rfl rfl rfl nd_X10_valueWord ⟨Nat.le_of_ble_eq_true rfl, Nat.le_of_ble_eq_true rfl⟩) hI (fun h => h.elim) (fun _ => ⟨trivial, trivial⟩) rfl hl.1 (Nat.le_of_ble_eq_true rfl) dX10_ruleWord_125 ⟨Nat.le_of_ble_eq_true rfl, Nat.le_of_ble_eq_true rfl⟩ (fun H locs hI => ?_)
                  exact hret_i hx hb hr hlocks hI (by decide) (by decide) (fun _ => ⟨trivial, rfl⟩) (ret_e hK0 hf) dX10_ruleWord_128
                · replace hf := ifn c24 hf
                  refine lv_sipush (v := 269) hx hb dX10_ruleWord_116 (by decide) ?_
                  refine lv_goto (tgt := 128) hx hb dX10_ruleWord_119 (by decide) ?_
                  exact hret_i hx hb hr hlocks hI (by decide) (by decide) (fun _ => ⟨trivial, rfl⟩) (ret_e hK0 hf) dX10_ruleWord_128
              · replace hf := ifn c21 hf
                refine lv_sipush (v := 268) hx hb dX10_ruleWord_101 (by decide) ?_
                exact hret_i hx hb hr hlocks hI (by decide) (by decide) (fun _ => ⟨trivial, rfl⟩) (ret_e hK0 hf) dX10_ruleWord_104
            · replace hf := ifn c18 hf
              refine lv_sipush (v := 267) hx hb dX10_ruleWord_86 (by decide) ?_
              exact hret_i hx hb hr hlocks hI (by decide) (by decide) (fun _ => ⟨trivial, rfl⟩) (ret_e hK0 hf) dX10_ruleWord_89
          · replace hf := ifn c15 hf
            refine lv_sipush (v := 266) hx hb dX10_ruleWord_71 (by decide) ?_
            exact hret_i hx hb hr hlocks hI (by decide) (by decide) (fun _ => ⟨trivial, rfl⟩) (ret_e hK0 hf) dX10_ruleWord_74
        · replace hf := ifn c12 hf
          refine lv_sipush (v := 265) hx hb dX10_ruleWord_56 (by decide) ?_
          exact hret_i hx hb hr hlocks hI (by decide) (by decide) (fun _ => ⟨trivial, rfl⟩) (ret_e hK0 hf) dX10_ruleWord_59
      · replace hf := ifn c9 hf
        refine lv_sipush (v := 264) hx hb dX10_ruleWord_41 (by decide) ?_
        exact hret_i hx hb hr hlocks hI (by decide) (by decide) (fun _ => ⟨trivial, rfl⟩) (ret_e hK0 hf) dX10_ruleWord_44
    · replace hf := ifn c6 hf
      refine lv_sipush (v := 263) hx hb dX10_ruleWord_26 (by decide) ?_
      exact hret_i hx hb hr hlocks hI (by decide) (by decide) (fun _ => ⟨trivial, rfl⟩) (ret_e hK0 hf) dX10_ruleWord_29
  · replace hf := ifn c3 hf
    refine lv_sipush (v := 262) hx hb dX10_ruleWord_11 (by decide) ?_
    exact hret_i hx hb hr hlocks hI (by decide) (by decide) (fun _ => ⟨trivial, rfl⟩) (ret_e hK0 hf) dX10_ruleWord_14
