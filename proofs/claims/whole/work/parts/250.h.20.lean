theorem nd_X7_takeFactSign : yX7_takeFactSign.cls ≠ "java/lang/invoke/MethodHandle" ∧ yX7_takeFactSign.cls ≠ "java/lang/invoke/VarHandle" ∧ (parseMethodDescriptor yX7_takeFactSign.desc).map (fun d => d.parameters.length) = some 1 := by decide +kernel
set_option maxHeartbeats 4000000 in
set_option maxRecDepth 100000 in
theorem ch_X7_takeFactSign (l : Launch) (D : va_G) (cy : Nat → ClassId) (h : Nat) (a1 : Int32) (s0 : HSt) (out : HSt) (hf : fh_X7_takeFactSign h a1 s0 = some out) : CHv l D cy yX7_takeFactSign wsX7_takeFactSign { frames := 2, cells := 0, slots := 0, locals := 42 } 0 0 False True [.ref h, .int a1] s0 out := by
  refine Met.ofW (cc := cX7_takeFactSign) (maxL := 3) (ret := none) (by decide) rfl ?_
  intro p e s m args below meth c s₁ B hml hv
  obtain ⟨rfl, hP, hK, hD0, hkx, hsz, hal⟩ := hv
  have hx := B.exec
  have hb := B.bytes
  have hr := B.returns
  have hts := atoms_spec (ws := wsX7_takeFactSign) B.pre
  have hown : s.vm.findClass RX7 = some m.cls := findClass_of_methodNamed B.named
  have hlocks := B.notSynchronized
  have hI : HI D cy s s0 s0 s.heap [] 0 False True := ⟨hK, hP, hD0.weaken (fun k q hk _ => Or.inl (pl_mem hk)), va_S.rf, hsz.1, hkx, ⟨hsz, hal⟩, fun _ => rfl, Nat.le_refl _⟩
  have hin_X7 : ∀ w ∈ u_ws RX7 TX7 7, w ∈ wsX7_takeFactSign := fun w hw => List.mem_cons_of_mem _ (List.mem_append_left _ (List.mem_append_right _ hw))
  have kl_26 : Cond.fieldLink RX7 26 "HalfBridge$RuleReader" "tokens" "LHalfBridge$Tokens;" ∈ wsX7_takeFactSign := by decide +kernel
  have kl_34 : Cond.fieldLink RX7 34 "HalfBridge$RuleReader" "items" "I" ∈ wsX7_takeFactSign := by decide +kernel
  have hl := lv_entry ([.ref h, .int a1]) (n := 3) (Nat.le_of_ble_eq_true rfl)
  rw [lg_entry_eq]
  generalize (lg_sl ([.ref h, .int a1]) ++ List.replicate (3 - (lg_sl ([.ref h, .int a1])).length) Slot.unset).toArray = ls at hl ⊢
  have hl : lv_has ls 3 [(0, .ref h), (1, .int a1)] := hl
  obtain ⟨K0, hK0, hf⟩ := top_e hf
  have B_55 : ∀ (v2 : Int32)  (st : HSt) (H : Heap) (locs : List Loc) (ls : Array Slot), HI D cy s s0 st H locs 0 False True → lv_has ls 3 [(0, .ref h), (2, .int v2)] → (fh_X7_takeFactSign_j55 h v2 st).bind K0 = some out → W p l e (headSpec wsX7_takeFactSign { frames := 2, cells := 0, slots := 0, locals := 42 }).room s m (([.ref h, .int a1] : List Value).toArray) below meth c H locs 0 0 (MQ below (HQv D cy s0 0 True out) ([.ref h, .int a1] : List Value).toArray s 0 0 (hF s0)) (F0 m 55 ls []) := by
    intro v2 st H locs ls hI hl hf
    unfold fh_X7_takeFactSign_j55 at hf
    refine lv_aload_n hx hb dX7_takeFactSign_55 rfl (lv_at hl 0 rfl) ?_
    refine lv_dup hx hb dX7_takeFactSign_56 rfl ?_
    obtain ⟨k3, hf⟩ := chk_b hf
    refine hg_7_6 hx hb hts hin_X7 hown kl_34 hI (isk_k k3) dX7_takeFactSign_57 ?_
    refine lv_iconst (v := 1) hx hb dX7_takeFactSign_60 (by decide) ?_
    refine lv_iadd hx hb dX7_takeFactSign_61 ?_
    refine hp_7_6 hx hb hts hin_X7 hown kl_34 hI (isk_k k3) dX7_takeFactSign_62 (fun H locs hI => ?_)
    refine lv_aload_n hx hb dX7_takeFactSign_65 rfl (lv_at hl 0 rfl) ?_
    refine lv_iload_n hx hb dX7_takeFactSign_66 rfl (lv_at hl 1 rfl) ?_
    obtain ⟨x4, hc5, hf⟩ := bnd_b hf
    refine hcall_Vv (ex2 := True) (As := [.int v2]) (rest := []) (n := 1) (by rw [(gK_sI.trans (isk_k k3))]; decide) (hC_8 (gK_sI.trans (isk_k k3))) rfl ⟨hx, hb, hml, hown, hts⟩ (ch_X7_takeSign l D cy h v2 (sI st 706 h ((gI st 706 h) + (1 : Int32))) x4 hc5) (cwV 1 hts gX7_takeFactSign_X7_takeSign rfl rfl rfl ⟨rfl, nd_X7_takeSign⟩ ⟨Nat.le_of_ble_eq_true rfl, Nat.le_of_ble_eq_true rfl⟩) hI (fun h => h.elim) (fun _ => ⟨trivial, trivial⟩) rfl hl.1 (Nat.le_of_ble_eq_true rfl) dX7_takeFactSign_67 ⟨Nat.le_of_ble_eq_true rfl, Nat.le_of_ble_eq_true rfl⟩ (fun H locs hI => ?_)
    exact hret_v hx hb hr hlocks hI (by decide) (by decide) (fun _ => ⟨trivial, rfl⟩) (ret_e hK0 hf) dX7_takeFactSign_70
  have B_33_1 : ∀  (t0 : Int32) (st : HSt) (H : Heap) (locs : List Loc) (ls : Array Slot), HI D cy s s0 st H locs 0 False True → lv_has ls 3 [(0, .ref h)] → (fh_X7_takeFactSign_j33 h t0 st).bind K0 = some out → W p l e (headSpec wsX7_takeFactSign { frames := 2, cells := 0, slots := 0, locals := 42 }).room s m (([.ref h, .int a1] : List Value).toArray) below meth c H locs 0 0 (MQ below (HQv D cy s0 0 True out) ([.ref h, .int a1] : List Value).toArray s 0 0 (hF s0)) (F0 m 33 ls [.int t0]) := by
    intro t0 st H locs ls hI hl hf
    unfold fh_X7_takeFactSign_j33 at hf
    refine lv_istore_n (lv' := [(2, .int t0), (0, .ref h)]) hx hb dX7_takeFactSign_33 rfl hl (by decide) rfl (fun ls hl => ?_)
    refine lv_iload_n hx hb dX7_takeFactSign_34 rfl (lv_at hl 0 rfl) ?_
    refine lv_if_eq (tgt := 55) hx hb dX7_takeFactSign_35 (by decide) (fun c2 => ?_) (fun c2 => ?_)
    · replace hf := ifp c2 hf
      exact B_55 t0 st H locs ls hI (lv_sub hl [1, 0] rfl) hf
    · replace hf := ifn c2 hf
      refine lv_aload_n hx hb dX7_takeFactSign_38 rfl (lv_at hl 1 rfl) ?_
      obtain ⟨k6, hf⟩ := chk_b hf
      refine hg_7_6 hx hb hts hin_X7 hown kl_34 hI (isk_k k6) dX7_takeFactSign_39 ?_
      refine lv_bipush (v := 60) hx hb dX7_takeFactSign_42 (by decide) ?_
      refine lv_icmp_lt (tgt := 55) hx hb dX7_takeFactSign_44 (by decide) (fun c7 => ?_) (fun c7 => ?_)
      · replace hf := ifp c7 hf
        exact B_55 t0 st H locs ls hI (lv_sub hl [1, 0] rfl) hf
      · replace hf := ifn c7 hf
        refine lv_aload_n hx hb dX7_takeFactSign_47 rfl (lv_at hl 1 rfl) ?_
        refine hg_7_0 hx hb hts hin_X7 hown kl_26 hI (isk_k k6) dX7_takeFactSign_48 ?_
        refine lv_iconst (v := 3) hx hb dX7_takeFactSign_51 (by decide) ?_
        obtain ⟨b8, hd9, hf⟩ := bnd_b hf
        obtain ⟨hq10, hk11⟩ := dr_e hd9
        refine W.eq (g2 := F0 m 52 ls [.int (3 : Int32), .ref b8]) (by rw [hq10]; rfl) ?_
        obtain ⟨x12, hc13, hf⟩ := bnd_b hf
        refine hcall_Vv (ex2 := True) (As := [.int (3 : Int32)]) (rest := []) (n := 1) (by rw [hk11]; decide) (hC_11 hk11) rfl ⟨hx, hb, hml, hown, hts⟩ (ch_X10_fail l D cy b8 (3 : Int32) st x12 hc13) (cwV 1 hts gX7_takeFactSign_X10_fail rfl rfl rfl ⟨rfl, nd_X10_fail⟩ ⟨Nat.le_of_ble_eq_true rfl, Nat.le_of_ble_eq_true rfl⟩) hI (fun h => h.elim) (fun _ => ⟨trivial, trivial⟩) rfl hl.1 (Nat.le_of_ble_eq_true rfl) dX7_takeFactSign_52 ⟨Nat.le_of_ble_eq_true rfl, Nat.le_of_ble_eq_true rfl⟩ (fun H locs hI => ?_)
        exact B_55 t0 x12 H locs ls hI (lv_sub hl [1, 0] rfl) hf
  have B_28 : ∀   (st : HSt) (H : Heap) (locs : List Loc) (ls : Array Slot), HI D cy s s0 st H locs 0 False True → lv_has ls 3 [(0, .ref h)] → (fh_X7_takeFactSign_j28 h st).bind K0 = some out → W p l e (headSpec wsX7_takeFactSign { frames := 2, cells := 0, slots := 0, locals := 42 }).room s m (([.ref h, .int a1] : List Value).toArray) below meth c H locs 0 0 (MQ below (HQv D cy s0 0 True out) ([.ref h, .int a1] : List Value).toArray s 0 0 (hF s0)) (F0 m 28 ls []) := by
    intro st H locs ls hI hl hf
    unfold fh_X7_takeFactSign_j28 at hf
    refine lv_iconst (v := 1) hx hb dX7_takeFactSign_28 (by decide) ?_
    refine lv_goto (tgt := 33) hx hb dX7_takeFactSign_29 (by decide) ?_
    exact B_33_1 (1 : Int32) st H locs ls hI (lv_sub hl [0] rfl) hf
  unfold fh_X7_takeFactSign at hf
  refine lv_iload_n hx hb dX7_takeFactSign_0 rfl (lv_at hl 1 rfl) ?_
  refine lv_bipush (v := 60) hx hb dX7_takeFactSign_1 (by decide) ?_
  refine lv_icmp_eq (tgt := 28) hx hb dX7_takeFactSign_3 (by decide) (fun c1 => ?_) (fun c1 => ?_)
  · replace hf := ifp c1 hf
    exact B_28  s0 s.heap [] ls hI (lv_sub hl [0] rfl) hf
  · replace hf := ifn c1 hf
    refine lv_iload_n hx hb dX7_takeFactSign_6 rfl (lv_at hl 1 rfl) ?_
    refine lv_bipush (v := 61) hx hb dX7_takeFactSign_7 (by decide) ?_
    refine lv_icmp_eq (tgt := 28) hx hb dX7_takeFactSign_9 (by decide) (fun c14 => ?_) (fun c14 => ?_)
    · replace hf := ifp c14 hf
      exact B_28  s0 s.heap [] ls hI (lv_sub hl [0] rfl) hf
    · replace hf := ifn c14 hf
      refine lv_iload_n hx hb dX7_takeFactSign_12 rfl (lv_at hl 1 rfl) ?_
      refine lv_bipush (v := 62) hx hb dX7_takeFactSign_13 (by decide) ?_
      refine lv_icmp_eq (tgt := 28) hx hb dX7_takeFactSign_15 (by decide) (fun c15 => ?_) (fun c15 => ?_)
      · replace hf := ifp c15 hf
        exact B_28  s0 s.heap [] ls hI (lv_sub hl [0] rfl) hf
      · replace hf := ifn c15 hf
        refine lv_iload_n hx hb dX7_takeFactSign_18 rfl (lv_at hl 1 rfl) ?_
        refine lv_iconst (v := 3) hx hb dX7_takeFactSign_19 (by decide) ?_
        refine lv_icmp_eq (tgt := 28) hx hb dX7_takeFactSign_20 (by decide) (fun c16 => ?_) (fun c16 => ?_)
        · replace hf := ifp c16 hf
          exact B_28  s0 s.heap [] ls hI (lv_sub hl [0] rfl) hf
        · replace hf := ifn c16 hf
          refine lv_iload_n hx hb dX7_takeFactSign_23 rfl (lv_at hl 1 rfl) ?_
          refine lv_iconst (v := 4) hx hb dX7_takeFactSign_24 (by decide) ?_
          refine lv_icmp_ne (tgt := 32) hx hb dX7_takeFactSign_25 (by decide) (fun c17 => ?_) (fun c17 => ?_)
          · replace hf := ifn c17 hf
            refine lv_iconst (v := 0) hx hb dX7_takeFactSign_32 (by decide) ?_
            exact B_33_1 (0 : Int32) s0 s.heap [] ls hI (lv_sub hl [0] rfl) hf
          · replace hf := ifp c17 hf
            exact B_28  s0 s.heap [] ls hI (lv_sub hl [0] rfl) hf

theorem nd_X7_readFact : yX7_readFact.cls ≠ "java/lang/invoke/MethodHandle" ∧ yX7_readFact.cls ≠ "java/lang/invoke/VarHandle" ∧ (parseMethodDescriptor yX7_readFact.desc).map (fun d => d.parameters.length) = some 1 := by decide +kernel
theorem nd_X7_readTest : yX7_readTest.cls ≠ "java/lang/invoke/MethodHandle" ∧ yX7_readTest.cls ≠ "java/lang/invoke/VarHandle" ∧ (parseMethodDescriptor yX7_readTest.desc).map (fun d => d.parameters.length) = some 1 := by decide +kernel
set_option maxHeartbeats 4000000 in
set_option maxRecDepth 100000 in
theorem ch_X7_readFact (l : Launch) (D : va_G) (cy : Nat → ClassId) (nr : Nat) (rec : Nat → Int32 → HSt → Option (HSt)) (hrec : ∀ (h : Nat) (a1 : Int32) (s0 : HSt) (out : HSt), rec h a1 s0 = some out → CHv l D cy yX7_readTest wsX7_readTest { frames := 20 + nr * 6, cells := 0, slots := 0, locals := 400 + nr * 300 } 0 0 False True [.ref h, .int a1] s0 out) (h : Nat) (a1 : Int32) (s0 : HSt) (out : HSt) (hf : fh_X7_readFact rec h a1 s0 = some out) : CHv l D cy yX7_readFact wsX7_readFact { frames := (20 + nr * 6 + 3), cells := 0, slots := 0, locals := (400 + nr * 300 + 140) } 0 0 False True [.ref h, .int a1] s0 out := by
  refine Met.ofW (cc := cX7_readFact) (maxL := 5) (ret := none) (by decide) rfl ?_
  intro p e s m args below meth c s₁ B hml hv
  obtain ⟨rfl, hP, hK, hD0, hkx, hsz, hal⟩ := hv
  have hx := B.exec
  have hb := B.bytes
  have hr := B.returns
  have hts := atoms_spec (ws := wsX7_readFact) B.pre
  have hown : s.vm.findClass RX7 = some m.cls := findClass_of_methodNamed B.named
  have hlocks := B.notSynchronized
  have hI : HI D cy s s0 s0 s.heap [] 0 False True := ⟨hK, hP, hD0.weaken (fun k q hk _ => Or.inl (pl_mem hk)), va_S.rf, hsz.1, hkx, ⟨hsz, hal⟩, fun _ => rfl, Nat.le_refl _⟩
  have hin_X7 : ∀ w ∈ u_ws RX7 TX7 7, w ∈ wsX7_readFact := fun w hw => List.mem_cons_of_mem _ (List.mem_append_left _ (List.mem_append_right _ hw))
  have kl_26 : Cond.fieldLink RX7 26 "HalfBridge$RuleReader" "tokens" "LHalfBridge$Tokens;" ∈ wsX7_readFact := by decide +kernel
  have hl := lv_entry ([.ref h, .int a1]) (n := 5) (Nat.le_of_ble_eq_true rfl)
  rw [lg_entry_eq]
  generalize (lg_sl ([.ref h, .int a1]) ++ List.replicate (5 - (lg_sl ([.ref h, .int a1])).length) Slot.unset).toArray = ls at hl ⊢
  have hl : lv_has ls 5 [(0, .ref h), (1, .int a1)] := hl
  obtain ⟨K0, hK0, hf⟩ := top_e hf
  have B_166 : ∀   (st : HSt) (H : Heap) (locs : List Loc) (ls : Array Slot), HI D cy s s0 st H locs 0 False True → lv_has ls 5 [] → (fh_X7_readFact_j166 rec h st).bind K0 = some out → W p l e (headSpec wsX7_readFact { frames := (20 + nr * 6 + 3), cells := 0, slots := 0, locals := (400 + nr * 300 + 140) }).room s m (([.ref h, .int a1] : List Value).toArray) below meth c H locs 0 0 (MQ below (HQv D cy s0 0 True out) ([.ref h, .int a1] : List Value).toArray s 0 0 (hF s0)) (F0 m 166 ls []) := by
    intro st H locs ls hI hl hf
    unfold fh_X7_readFact_j166 at hf
    exact hret_v hx hb hr hlocks hI (by decide) (by decide) (fun _ => ⟨trivial, rfl⟩) (ret_e hK0 hf) dX7_readFact_166
  have L_147 : ∀ (v2 : Int32) (n : Nat) (v4 : Int32) (st : HSt) (H : Heap) (locs : List Loc) (ls : Array Slot), HI D cy s s0 st H locs 0 False True → lv_has ls 5 [(0, .ref h), (2, .int v2), (4, .int v4)] → (iter (fun x : (Int32 × HSt) => fh_X7_readFact_s147 rec h v2 x.1 x.2) n (v4, st)).bind (fun x => ((Sum.elim (fun o : HSt => (some o : Option (HSt))) (fun x : (Int32 × HSt) => fh_X7_readFact_j166 rec h x.2)) x).bind K0) = some out → W p l e (headSpec wsX7_readFact { frames := (20 + nr * 6 + 3), cells := 0, slots := 0, locals := (400 + nr * 300 + 140) }).room s m (([.ref h, .int a1] : List Value).toArray) below meth c H locs 0 0 (MQ below (HQv D cy s0 0 True out) ([.ref h, .int a1] : List Value).toArray s 0 0 (hF s0)) (F0 m 147 ls []) := by
    intro v2 n
    induction n with
    | zero => intro v4 st H locs ls hI hl hf; exact (iter_0 hf).elim
    | succ n ih =>
      intro v4 st H locs ls hI hl hf
      obtain ⟨K1, hK1, hf⟩ := iter_e hf
      replace hf : (fh_X7_readFact_s147 rec h v2 v4 st).bind K1 = some out := hf
      unfold fh_X7_readFact_s147 at hf
      refine lv_iload hx hb dX7_readFact_147 (lv_at hl 2 rfl) ?_
      refine lv_iload_n hx hb dX7_readFact_149 rfl (lv_at hl 1 rfl) ?_
      refine lv_icmp_ge (tgt := 166) hx hb dX7_readFact_150 (by decide) (fun c29 => ?_) (fun c29 => ?_)
      · replace hf := ifp c29 hf
        replace hf := exit_b hK1 hf
        exact B_166  st H locs ls hI (lv_sub hl [] rfl) hf
      · replace hf := ifn c29 hf
        refine lv_aload_n hx hb dX7_readFact_153 rfl (lv_at hl 0 rfl) ?_
        refine lv_sipush (v := -269) hx hb dX7_readFact_154 (by decide) ?_
        obtain ⟨k30, hf⟩ := chk_b hf
        obtain ⟨x31, hc32, hf⟩ := bnd_b hf
        refine hcall_Vv (ex2 := True) (As := [.int (-269 : Int32)]) (rest := []) (n := 1) (by rw [(isk_k k30)]; decide) (hC_8 (isk_k k30)) rfl ⟨hx, hb, hml, hown, hts⟩ (ch_X7_put l D cy h (-269 : Int32) st x31 hc32) (cwV 1 hts gX7_readFact_X7_put rfl rfl rfl ⟨rfl, nd_X7_put⟩ ⟨(show 0 + 1 ≤ (20 + nr * 6 + 3) by omega), (show 8 + (2 + 11) + 0 ≤ (400 + nr * 300 + 140) by omega)⟩) hI (fun h => h.elim) (fun _ => ⟨trivial, trivial⟩) rfl hl.1 (Nat.le_of_ble_eq_true rfl) dX7_readFact_157 ⟨Nat.le_of_ble_eq_true rfl, Nat.le_of_ble_eq_true rfl⟩ (fun H locs hI => ?_)
        refine lv_iinc (v := (v4 + 1)) (lv' := [(4, .int (v4 + 1)), (0, .ref h), (2, .int v2)]) hx hb dX7_readFact_160 hl (k := 2) rfl (ci_ _ (by decide)) (by decide) rfl (fun ls hl => ?_)
        refine lv_goto (tgt := 147) hx hb dX7_readFact_163 (by decide) ?_
        replace hf := cont_b hK1 hf
        exact ih (v4 + 1) x31 H locs ls hI (lv_sub hl [1, 2, 0] rfl) hf
  have B_144 : ∀ (v1 : Int32) (v2 : Int32)  (st : HSt) (H : Heap) (locs : List Loc) (ls : Array Slot), HI D cy s s0 st H locs 0 False True → lv_has ls 5 [(0, .ref h), (1, .int v1), (2, .int v2)] → (fh_X7_readFact_j144 rec h v1 v2 st).bind K0 = some out → W p l e (headSpec wsX7_readFact { frames := (20 + nr * 6 + 3), cells := 0, slots := 0, locals := (400 + nr * 300 + 140) }).room s m (([.ref h, .int a1] : List Value).toArray) below meth c H locs 0 0 (MQ below (HQv D cy s0 0 True out) ([.ref h, .int a1] : List Value).toArray s 0 0 (hF s0)) (F0 m 144 ls []) := by
    intro v1 v2 st H locs ls hI hl hf
    unfold fh_X7_readFact_j144 at hf
    refine lv_iload_n hx hb dX7_readFact_144 rfl (lv_at hl 1 rfl) ?_
    refine lv_istore (lv' := [(4, .int v1), (0, .ref h), (1, .int v1), (2, .int v2)]) hx hb dX7_readFact_145 hl (by decide) rfl (fun ls hl => ?_)
    exact L_147 v2 mFuel v1 st H locs ls hI (lv_sub hl [1, 3, 0] rfl) (asc_b hf)
  have B_108_4 : ∀ (v1 : Int32) (v2 : Int32) (t0 : Int32) (t1 : Nat) (st : HSt) (H : Heap) (locs : List Loc) (ls : Array Slot), HI D cy s s0 st H locs 0 False True → lv_has ls 5 [(0, .ref h), (1, .int v1), (2, .int v2)] → (fh_X7_readFact_j108 rec h v1 v2 t0 t1 st).bind K0 = some out → W p l e (headSpec wsX7_readFact { frames := (20 + nr * 6 + 3), cells := 0, slots := 0, locals := (400 + nr * 300 + 140) }).room s m (([.ref h, .int a1] : List Value).toArray) below meth c H locs 0 0 (MQ below (HQv D cy s0 0 True out) ([.ref h, .int a1] : List Value).toArray s 0 0 (hF s0)) (F0 m 108 ls [.int t0, .ref t1]) := by
    intro v1 v2 t0 t1 st H locs ls hI hl hf
    unfold fh_X7_readFact_j108 at hf
    obtain ⟨k51, hf⟩ := chk_b hf
    obtain ⟨x52, hc53, hf⟩ := bnd_b hf
    refine hcall_Vv (ex2 := True) (As := [.int t0]) (rest := []) (n := 1) (by rw [(isk_k k51)]; decide) (hC_8 (isk_k k51)) rfl ⟨hx, hb, hml, hown, hts⟩ (ch_X7_takeSign l D cy t1 t0 st x52 hc53) (cwV 1 hts gX7_readFact_X7_takeSign rfl rfl rfl ⟨rfl, nd_X7_takeSign⟩ ⟨(show 1 + 1 ≤ (20 + nr * 6 + 3) by omega), (show 8 + (2 + 11) + 21 ≤ (400 + nr * 300 + 140) by omega)⟩) hI (fun h => h.elim) (fun _ => ⟨trivial, trivial⟩) rfl hl.1 (Nat.le_of_ble_eq_true rfl) dX7_readFact_108 ⟨Nat.le_of_ble_eq_true rfl, Nat.le_of_ble_eq_true rfl⟩ (fun H locs hI => ?_)
    refine lv_goto (tgt := 144) hx hb dX7_readFact_111 (by decide) ?_
    exact B_144 v1 v2 x52 H locs ls hI (lv_sub hl [0, 1, 2] rfl) hf
  have B_70 : ∀ (v1 : Int32) (v2 : Int32) (v3 : Int32)  (st : HSt) (H : Heap) (locs : List Loc) (ls : Array Slot), HI D cy s s0 st H locs 0 False True → lv_has ls 5 [(0, .ref h), (1, .int v1), (2, .int v2), (3, .int v3)] → (fh_X7_readFact_j70 rec h v1 v2 v3 st).bind K0 = some out → W p l e (headSpec wsX7_readFact { frames := (20 + nr * 6 + 3), cells := 0, slots := 0, locals := (400 + nr * 300 + 140) }).room s m (([.ref h, .int a1] : List Value).toArray) below meth c H locs 0 0 (MQ below (HQv D cy s0 0 True out) ([.ref h, .int a1] : List Value).toArray s 0 0 (hF s0)) (F0 m 70 ls []) := by
    intro v1 v2 v3 st H locs ls hI hl hf
    unfold fh_X7_readFact_j70 at hf
    refine lv_iload_n hx hb dX7_readFact_70 rfl (lv_at hl 3 rfl) ?_
    refine lv_bipush (v := 91) hx hb dX7_readFact_71 (by decide) ?_
    refine lv_icmp_ne (tgt := 114) hx hb dX7_readFact_73 (by decide) (fun c9 => ?_) (fun c9 => ?_)
    · replace hf := ifn c9 hf
      refine lv_aload_n hx hb dX7_readFact_114 rfl (lv_at hl 0 rfl) ?_
      obtain ⟨k10, hf⟩ := chk_b hf
      obtain ⟨x11, hc12, hf⟩ := bnd_b hf
      refine hcall_Vv (ex2 := True) (As := []) (rest := []) (n := 0) (by rw [(isk_k k10)]; decide) (hC_8 (isk_k k10)) rfl ⟨hx, hb, hml, hown, hts⟩ (ch_X7_readSum l D cy h st x11 hc12) (cwV 0 hts gX7_readFact_X7_readSum rfl rfl rfl ⟨rfl, nd_X7_readSum⟩ ⟨(show 2 + 1 ≤ (20 + nr * 6 + 3) by omega), (show 8 + (5 + 11) + 43 ≤ (400 + nr * 300 + 140) by omega)⟩) hI (fun h => h.elim) (fun _ => ⟨trivial, trivial⟩) rfl hl.1 (Nat.le_of_ble_eq_true rfl) dX7_readFact_115 ⟨Nat.le_of_ble_eq_true rfl, Nat.le_of_ble_eq_true rfl⟩ (fun H locs hI => ?_)
      refine lv_aload_n hx hb dX7_readFact_118 rfl (lv_at hl 0 rfl) ?_
      obtain ⟨k13, hf⟩ := chk_b hf
      refine hg_7_0 hx hb hts hin_X7 hown kl_26 hI (isk_k k13) dX7_readFact_119 ?_
      obtain ⟨b14, hd15, hf⟩ := bnd_b hf
      obtain ⟨hq16, hk17⟩ := dr_e hd15
      refine W.eq (g2 := F0 m 122 ls [.ref b14]) (by rw [hq16]; rfl) ?_
      obtain ⟨x18, hc19, hf⟩ := bnd_b hf
      refine hcall_Vi (ex2 := True) (As := []) (rest := []) (n := 0) (by rw [hk17]; decide) (hC_11 hk17) rfl ⟨hx, hb, hml, hown, hts⟩ (ch_X10_kind l D cy b14 x11 x18 hc19) (cwV 0 hts gX7_readFact_X10_kind rfl rfl rfl ⟨rfl, nd_X10_kind⟩ ⟨(show 0 + 1 ≤ (20 + nr * 6 + 3) by omega), (show 8 + (1 + 11) + 0 ≤ (400 + nr * 300 + 140) by omega)⟩) hI (fun h => h.elim) (fun _ => ⟨trivial, trivial⟩) rfl hl.1 (Nat.le_of_ble_eq_true rfl) dX7_readFact_122 ⟨Nat.le_of_ble_eq_true rfl, Nat.le_of_ble_eq_true rfl⟩ (fun H locs hI => ?_)
      refine lv_istore (lv' := [(4, .int x18.2), (0, .ref h), (1, .int v1), (2, .int v2), (3, .int v3)]) hx hb dX7_readFact_125 hl (by decide) rfl (fun ls hl => ?_)
      refine lv_aload_n hx hb dX7_readFact_127 rfl (lv_at hl 1 rfl) ?_
      refine lv_iload hx hb dX7_readFact_128 (lv_at hl 0 rfl) ?_
      obtain ⟨k20, hf⟩ := chk_b hf
      obtain ⟨x21, hc22, hf⟩ := bnd_b hf
      refine hcall_Vv (ex2 := True) (As := [.int x18.2]) (rest := []) (n := 1) (by rw [(isk_k k20)]; decide) (hC_8 (isk_k k20)) rfl ⟨hx, hb, hml, hown, hts⟩ (ch_X7_takeFactSign l D cy h x18.2 x18.1 x21 hc22) (cwV 1 hts gX7_readFact_X7_takeFactSign rfl rfl rfl ⟨rfl, nd_X7_takeFactSign⟩ ⟨(show 2 + 1 ≤ (20 + nr * 6 + 3) by omega), (show 8 + (3 + 11) + 42 ≤ (400 + nr * 300 + 140) by omega)⟩) hI (fun h => h.elim) (fun _ => ⟨trivial, trivial⟩) rfl hl.1 (Nat.le_of_ble_eq_true rfl) dX7_readFact_130 ⟨Nat.le_of_ble_eq_true rfl, Nat.le_of_ble_eq_true rfl⟩ (fun H locs hI => ?_)
      refine lv_aload_n hx hb dX7_readFact_133 rfl (lv_at hl 1 rfl) ?_
      obtain ⟨k23, hf⟩ := chk_b hf
      obtain ⟨x24, hc25, hf⟩ := bnd_b hf
      refine hcall_Vv (ex2 := True) (As := []) (rest := []) (n := 0) (by rw [(isk_k k23)]; decide) (hC_8 (isk_k k23)) rfl ⟨hx, hb, hml, hown, hts⟩ (ch_X7_readSum l D cy h x21 x24 hc25) (cwV 0 hts gX7_readFact_X7_readSum rfl rfl rfl ⟨rfl, nd_X7_readSum⟩ ⟨(show 2 + 1 ≤ (20 + nr * 6 + 3) by omega), (show 8 + (5 + 11) + 43 ≤ (400 + nr * 300 + 140) by omega)⟩) hI (fun h => h.elim) (fun _ => ⟨trivial, trivial⟩) rfl hl.1 (Nat.le_of_ble_eq_true rfl) dX7_readFact_134 ⟨Nat.le_of_ble_eq_true rfl, Nat.le_of_ble_eq_true rfl⟩ (fun H locs hI => ?_)
      refine lv_aload_n hx hb dX7_readFact_137 rfl (lv_at hl 1 rfl) ?_
      refine lv_iload hx hb dX7_readFact_138 (lv_at hl 0 rfl) ?_
      refine lv_ineg hx hb dX7_readFact_140 ?_
      obtain ⟨k26, hf⟩ := chk_b hf
      obtain ⟨x27, hc28, hf⟩ := bnd_b hf
      refine hcall_Vv (ex2 := True) (As := [.int (-x18.2)]) (rest := []) (n := 1) (by rw [(isk_k k26)]; decide) (hC_8 (isk_k k26)) rfl ⟨hx, hb, hml, hown, hts⟩ (ch_X7_put l D cy h (-x18.2) x24 x27 hc28) (cwV 1 hts gX7_readFact_X7_put rfl rfl rfl ⟨rfl, nd_X7_put⟩ ⟨(show 0 + 1 ≤ (20 + nr * 6 + 3) by omega), (show 8 + (2 + 11) + 0 ≤ (400 + nr * 300 + 140) by omega)⟩) hI (fun h => h.elim) (fun _ => ⟨trivial, trivial⟩) rfl hl.1 (Nat.le_of_ble_eq_true rfl) dX7_readFact_141 ⟨Nat.le_of_ble_eq_true rfl, Nat.le_of_ble_eq_true rfl⟩ (fun H locs hI => ?_)
      exact B_144 v1 v2 x27 H locs ls hI (lv_sub hl [1, 2, 3] rfl) hf
    · replace hf := ifp c9 hf
      refine lv_aload_n hx hb dX7_readFact_76 rfl (lv_at hl 0 rfl) ?_
      obtain ⟨k33, hf⟩ := chk_b hf
      refine hg_7_0 hx hb hts hin_X7 hown kl_26 hI (isk_k k33) dX7_readFact_77 ?_
      obtain ⟨b34, hd35, hf⟩ := bnd_b hf
      obtain ⟨hq36, hk37⟩ := dr_e hd35
      refine W.eq (g2 := F0 m 80 ls [.ref b34]) (by rw [hq36]; rfl) ?_
      obtain ⟨x38, hc39, hf⟩ := bnd_b hf
      refine hcall_Vv (ex2 := True) (As := []) (rest := []) (n := 0) (by rw [hk37]; decide) (hC_11 hk37) rfl ⟨hx, hb, hml, hown, hts⟩ (ch_X10_next l D cy b34 st x38 hc39) (cwV 0 hts gX7_readFact_X10_next rfl rfl rfl ⟨rfl, nd_X10_next⟩ ⟨(show 0 + 1 ≤ (20 + nr * 6 + 3) by omega), (show 8 + (1 + 11) + 0 ≤ (400 + nr * 300 + 140) by omega)⟩) hI (fun h => h.elim) (fun _ => ⟨trivial, trivial⟩) rfl hl.1 (Nat.le_of_ble_eq_true rfl) dX7_readFact_80 ⟨Nat.le_of_ble_eq_true rfl, Nat.le_of_ble_eq_true rfl⟩ (fun H locs hI => ?_)
      refine lv_aload_n hx hb dX7_readFact_83 rfl (lv_at hl 0 rfl) ?_
      refine lv_iload_n hx hb dX7_readFact_84 rfl (lv_at hl 2 rfl) ?_
      refine lv_iconst (v := 1) hx hb dX7_readFact_85 (by decide) ?_
      refine lv_iadd hx hb dX7_readFact_86 ?_
      obtain ⟨k40, hf⟩ := chk_b hf
      obtain ⟨x41, hc42, hf⟩ := bnd_b hf
      refine hcall_Vv (ex2 := True) (As := [.int (v2 + (1 : Int32))]) (rest := []) (n := 1) (by rw [(isk_k k40)]; decide) (hC_8 (isk_k k40)) rfl ⟨hx, hb, hml, hown, hts⟩ (hrec h (v2 + (1 : Int32)) x38 x41 hc42) (cwV 1 hts gX7_readFact_X7_readTest rfl rfl rfl ⟨rfl, nd_X7_readTest⟩ ⟨(show (20 + nr * 6) + 1 ≤ (20 + nr * 6 + 3) by omega), (show 8 + (4 + 11) + (400 + nr * 300) ≤ (400 + nr * 300 + 140) by omega)⟩) hI (fun h => h.elim) (fun _ => ⟨trivial, trivial⟩) rfl hl.1 (Nat.le_of_ble_eq_true rfl) dX7_readFact_87 ⟨Nat.le_of_ble_eq_true rfl, Nat.le_of_ble_eq_true rfl⟩ (fun H locs hI => ?_)
      refine lv_aload_n hx hb dX7_readFact_90 rfl (lv_at hl 0 rfl) ?_
      refine lv_aload_n hx hb dX7_readFact_91 rfl (lv_at hl 0 rfl) ?_
      obtain ⟨k43, hf⟩ := chk_b hf
      refine hg_7_0 hx hb hts hin_X7 hown kl_26 hI (isk_k k43) dX7_readFact_92 ?_
      obtain ⟨b44, hd45, hf⟩ := bnd_b hf
      obtain ⟨hq46, hk47⟩ := dr_e hd45
      refine W.eq (g2 := F0 m 95 ls [.ref b44, .ref h]) (by rw [hq46]; rfl) ?_
      obtain ⟨x48, hc49, hf⟩ := bnd_b hf
      refine hcall_Vi (ex2 := True) (As := []) (rest := [.ref h]) (n := 0) (by rw [hk47]; decide) (hC_11 hk47) rfl ⟨hx, hb, hml, hown, hts⟩ (ch_X10_kind l D cy b44 x41 x48 hc49) (cwV 0 hts gX7_readFact_X10_kind rfl rfl rfl ⟨rfl, nd_X10_kind⟩ ⟨(show 0 + 1 ≤ (20 + nr * 6 + 3) by omega), (show 8 + (1 + 11) + 0 ≤ (400 + nr * 300 + 140) by omega)⟩) hI (fun h => h.elim) (fun _ => ⟨trivial, trivial⟩) rfl hl.1 (Nat.le_of_ble_eq_true rfl) dX7_readFact_95 ⟨Nat.le_of_ble_eq_true rfl, Nat.le_of_ble_eq_true rfl⟩ (fun H locs hI => ?_)
      refine lv_bipush (v := 93) hx hb dX7_readFact_98 (by decide) ?_
      refine lv_icmp_ne (tgt := 107) hx hb dX7_readFact_100 (by decide) (fun c50 => ?_) (fun c50 => ?_)
      · replace hf := ifn c50 hf
        refine lv_iconst (v := 0) hx hb dX7_readFact_107 (by decide) ?_
        exact B_108_4 v1 v2 (0 : Int32) h x48.1 H locs ls hI (lv_sub hl [0, 1, 2] rfl) hf
      · replace hf := ifp c50 hf
        refine lv_iconst (v := 1) hx hb dX7_readFact_103 (by decide) ?_
        refine lv_goto (tgt := 108) hx hb dX7_readFact_104 (by decide) ?_
        exact B_108_4 v1 v2 (1 : Int32) h x48.1 H locs ls hI (lv_sub hl [0, 1, 2] rfl) hf
  have B_34 : ∀ (v1 : Int32) (v2 : Int32)  (st : HSt) (H : Heap) (locs : List Loc) (ls : Array Slot), HI D cy s s0 st H locs 0 False True → lv_has ls 5 [(0, .ref h), (1, .int v1), (2, .int v2)] → (fh_X7_readFact_j34 rec h v1 v2 st).bind K0 = some out → W p l e (headSpec wsX7_readFact { frames := (20 + nr * 6 + 3), cells := 0, slots := 0, locals := (400 + nr * 300 + 140) }).room s m (([.ref h, .int a1] : List Value).toArray) below meth c H locs 0 0 (MQ below (HQv D cy s0 0 True out) ([.ref h, .int a1] : List Value).toArray s 0 0 (hF s0)) (F0 m 34 ls []) := by
    intro v1 v2 st H locs ls hI hl hf
    unfold fh_X7_readFact_j34 at hf
    refine lv_aload_n hx hb dX7_readFact_34 rfl (lv_at hl 0 rfl) ?_
    obtain ⟨k1, hf⟩ := chk_b hf
    refine hg_7_0 hx hb hts hin_X7 hown kl_26 hI (isk_k k1) dX7_readFact_35 ?_
    obtain ⟨b2, hd3, hf⟩ := bnd_b hf
    obtain ⟨hq4, hk5⟩ := dr_e hd3
    refine W.eq (g2 := F0 m 38 ls [.ref b2]) (by rw [hq4]; rfl) ?_
    obtain ⟨x6, hc7, hf⟩ := bnd_b hf
    refine hcall_Vi (ex2 := True) (As := []) (rest := []) (n := 0) (by rw [hk5]; decide) (hC_11 hk5) rfl ⟨hx, hb, hml, hown, hts⟩ (ch_X10_kind l D cy b2 st x6 hc7) (cwV 0 hts gX7_readFact_X10_kind rfl rfl rfl ⟨rfl, nd_X10_kind⟩ ⟨(show 0 + 1 ≤ (20 + nr * 6 + 3) by omega), (show 8 + (1 + 11) + 0 ≤ (400 + nr * 300 + 140) by omega)⟩) hI (fun h => h.elim) (fun _ => ⟨trivial, trivial⟩) rfl hl.1 (Nat.le_of_ble_eq_true rfl) dX7_readFact_38 ⟨Nat.le_of_ble_eq_true rfl, Nat.le_of_ble_eq_true rfl⟩ (fun H locs hI => ?_)
    refine lv_istore_n (lv' := [(3, .int x6.2), (0, .ref h), (1, .int v1), (2, .int v2)]) hx hb dX7_readFact_41 rfl hl (by decide) rfl (fun ls hl => ?_)
    refine lv_iload_n hx hb dX7_readFact_42 rfl (lv_at hl 3 rfl) ?_
    refine lv_bipush (v := 10) hx hb dX7_readFact_43 (by decide) ?_
    refine lv_icmp_lt (tgt := 70) hx hb dX7_readFact_45 (by decide) (fun c8 => ?_) (fun c8 => ?_)
    · replace hf := ifp c8 hf
      exact B_70 v1 v2 x6.2 x6.1 H locs ls hI (lv_sub hl [1, 2, 3, 0] rfl) hf
    · replace hf := ifn c8 hf
      refine lv_iload_n hx hb dX7_readFact_48 rfl (lv_at hl 0 rfl) ?_
      refine lv_sipush (v := 269) hx hb dX7_readFact_49 (by decide) ?_
      refine lv_icmp_eq (tgt := 61) hx hb dX7_readFact_52 (by decide) (fun c54 => ?_) (fun c54 => ?_)
      · replace hf := ifp c54 hf
        refine lv_aload_n hx hb dX7_readFact_61 rfl (lv_at hl 1 rfl) ?_
        obtain ⟨k55, hf⟩ := chk_b hf
        refine hg_7_0 hx hb hts hin_X7 hown kl_26 hI (isk_k k55) dX7_readFact_62 ?_
        refine lv_iconst (v := 2) hx hb dX7_readFact_65 (by decide) ?_
        obtain ⟨b56, hd57, hf⟩ := bnd_b hf
        obtain ⟨hq58, hk59⟩ := dr_e hd57
        refine W.eq (g2 := F0 m 66 ls [.int (2 : Int32), .ref b56]) (by rw [hq58]; rfl) ?_
        obtain ⟨x60, hc61, hf⟩ := bnd_b hf
        refine hcall_Vv (ex2 := True) (As := [.int (2 : Int32)]) (rest := []) (n := 1) (by rw [hk59]; decide) (hC_11 hk59) rfl ⟨hx, hb, hml, hown, hts⟩ (ch_X10_fail l D cy b56 (2 : Int32) x6.1 x60 hc61) (cwV 1 hts gX7_readFact_X10_fail rfl rfl rfl ⟨rfl, nd_X10_fail⟩ ⟨(show 0 + 1 ≤ (20 + nr * 6 + 3) by omega), (show 8 + (2 + 11) + 0 ≤ (400 + nr * 300 + 140) by omega)⟩) hI (fun h => h.elim) (fun _ => ⟨trivial, trivial⟩) rfl hl.1 (Nat.le_of_ble_eq_true rfl) dX7_readFact_66 ⟨Nat.le_of_ble_eq_true rfl, Nat.le_of_ble_eq_true rfl⟩ (fun H locs hI => ?_)
        exact hret_v hx hb hr hlocks hI (by decide) (by decide) (fun _ => ⟨trivial, rfl⟩) (ret_e hK0 hf) dX7_readFact_69
      · replace hf := ifn c54 hf
        refine lv_iload_n hx hb dX7_readFact_55 rfl (lv_at hl 0 rfl) ?_
        refine lv_bipush (v := 91) hx hb dX7_readFact_56 (by decide) ?_
        refine lv_icmp_ne (tgt := 70) hx hb dX7_readFact_58 (by decide) (fun c62 => ?_) (fun c62 => ?_)
        · replace hf := ifn c62 hf
          exact B_70 v1 v2 x6.2 x6.1 H locs ls hI (lv_sub hl [1, 2, 3, 0] rfl) hf
        · replace hf := ifp c62 hf
          refine lv_aload_n hx hb dX7_readFact_61 rfl (lv_at hl 1 rfl) ?_
          obtain ⟨k63, hf⟩ := chk_b hf
          refine hg_7_0 hx hb hts hin_X7 hown kl_26 hI (isk_k k63) dX7_readFact_62 ?_
          refine lv_iconst (v := 2) hx hb dX7_readFact_65 (by decide) ?_
          obtain ⟨b64, hd65, hf⟩ := bnd_b hf
          obtain ⟨hq66, hk67⟩ := dr_e hd65
          refine W.eq (g2 := F0 m 66 ls [.int (2 : Int32), .ref b64]) (by rw [hq66]; rfl) ?_
          obtain ⟨x68, hc69, hf⟩ := bnd_b hf
          refine hcall_Vv (ex2 := True) (As := [.int (2 : Int32)]) (rest := []) (n := 1) (by rw [hk67]; decide) (hC_11 hk67) rfl ⟨hx, hb, hml, hown, hts⟩ (ch_X10_fail l D cy b64 (2 : Int32) x6.1 x68 hc69) (cwV 1 hts gX7_readFact_X10_fail rfl rfl rfl ⟨rfl, nd_X10_fail⟩ ⟨(show 0 + 1 ≤ (20 + nr * 6 + 3) by omega), (show 8 + (2 + 11) + 0 ≤ (400 + nr * 300 + 140) by omega)⟩) hI (fun h => h.elim) (fun _ => ⟨trivial, trivial⟩) rfl hl.1 (Nat.le_of_ble_eq_true rfl) dX7_readFact_66 ⟨Nat.le_of_ble_eq_true rfl, Nat.le_of_ble_eq_true rfl⟩ (fun H locs hI => ?_)
          exact hret_v hx hb hr hlocks hI (by decide) (by decide) (fun _ => ⟨trivial, rfl⟩) (ret_e hK0 hf) dX7_readFact_69
  have L_2 : ∀ (v1 : Int32) (n : Nat) (v2 : Int32) (st : HSt) (H : Heap) (locs : List Loc) (ls : Array Slot), HI D cy s s0 st H locs 0 False True → lv_has ls 5 [(0, .ref h), (1, .int v1), (2, .int v2)] → (iter (fun x : (Int32 × HSt) => fh_X7_readFact_s2 rec h v1 x.1 x.2) n (v2, st)).bind (fun x => ((Sum.elim (fun o : HSt => (some o : Option (HSt))) (fun x : (Int32 × HSt) => fh_X7_readFact_j34 rec h v1 x.1 x.2)) x).bind K0) = some out → W p l e (headSpec wsX7_readFact { frames := (20 + nr * 6 + 3), cells := 0, slots := 0, locals := (400 + nr * 300 + 140) }).room s m (([.ref h, .int a1] : List Value).toArray) below meth c H locs 0 0 (MQ below (HQv D cy s0 0 True out) ([.ref h, .int a1] : List Value).toArray s 0 0 (hF s0)) (F0 m 2 ls []) := by
    intro v1 n
    induction n with
    | zero => intro v2 st H locs ls hI hl hf; exact (iter_0 hf).elim
    | succ n ih =>
      intro v2 st H locs ls hI hl hf
      obtain ⟨K1, hK1, hf⟩ := iter_e hf
      replace hf : (fh_X7_readFact_s2 rec h v1 v2 st).bind K1 = some out := hf
      unfold fh_X7_readFact_s2 at hf
      refine lv_iload_n hx hb dX7_readFact_2 rfl (lv_at hl 2 rfl) ?_
      refine lv_bipush (v := 10) hx hb dX7_readFact_3 (by decide) ?_
      refine lv_icmp_ge (tgt := 34) hx hb dX7_readFact_5 (by decide) (fun c70 => ?_) (fun c70 => ?_)
      · replace hf := ifp c70 hf
        replace hf := exit_b hK1 hf
        exact B_34 v1 v2 st H locs ls hI (lv_sub hl [0, 1, 2] rfl) hf
      · replace hf := ifn c70 hf
        refine lv_aload_n hx hb dX7_readFact_8 rfl (lv_at hl 0 rfl) ?_
        obtain ⟨k71, hf⟩ := chk_b hf
        refine hg_7_0 hx hb hts hin_X7 hown kl_26 hI (isk_k k71) dX7_readFact_9 ?_
        obtain ⟨b72, hd73, hf⟩ := bnd_b hf
        obtain ⟨hq74, hk75⟩ := dr_e hd73
        refine W.eq (g2 := F0 m 12 ls [.ref b72]) (by rw [hq74]; rfl) ?_
        obtain ⟨x76, hc77, hf⟩ := bnd_b hf
        refine hcall_Vi (ex2 := True) (As := []) (rest := []) (n := 0) (by rw [hk75]; decide) (hC_11 hk75) rfl ⟨hx, hb, hml, hown, hts⟩ (ch_X10_kind l D cy b72 st x76 hc77) (cwV 0 hts gX7_readFact_X10_kind rfl rfl rfl ⟨rfl, nd_X10_kind⟩ ⟨(show 0 + 1 ≤ (20 + nr * 6 + 3) by omega), (show 8 + (1 + 11) + 0 ≤ (400 + nr * 300 + 140) by omega)⟩) hI (fun h => h.elim) (fun _ => ⟨trivial, trivial⟩) rfl hl.1 (Nat.le_of_ble_eq_true rfl) dX7_readFact_12 ⟨Nat.le_of_ble_eq_true rfl, Nat.le_of_ble_eq_true rfl⟩ (fun H locs hI => ?_)
        refine lv_sipush (v := 269) hx hb dX7_readFact_15 (by decide) ?_
        refine lv_icmp_ne (tgt := 34) hx hb dX7_readFact_18 (by decide) (fun c78 => ?_) (fun c78 => ?_)
        · replace hf := ifn c78 hf
          replace hf := exit_b hK1 hf
          exact B_34 v1 v2 x76.1 H locs ls hI (lv_sub hl [0, 1, 2] rfl) hf
        · replace hf := ifp c78 hf
          refine lv_aload_n hx hb dX7_readFact_21 rfl (lv_at hl 0 rfl) ?_
          obtain ⟨k79, hf⟩ := chk_b hf
          refine hg_7_0 hx hb hts hin_X7 hown kl_26 hI (isk_k k79) dX7_readFact_22 ?_
          obtain ⟨b80, hd81, hf⟩ := bnd_b hf
          obtain ⟨hq82, hk83⟩ := dr_e hd81
          refine W.eq (g2 := F0 m 25 ls [.ref b80]) (by rw [hq82]; rfl) ?_
          obtain ⟨x84, hc85, hf⟩ := bnd_b hf
          refine hcall_Vv (ex2 := True) (As := []) (rest := []) (n := 0) (by rw [hk83]; decide) (hC_11 hk83) rfl ⟨hx, hb, hml, hown, hts⟩ (ch_X10_next l D cy b80 x76.1 x84 hc85) (cwV 0 hts gX7_readFact_X10_next rfl rfl rfl ⟨rfl, nd_X10_next⟩ ⟨(show 0 + 1 ≤ (20 + nr * 6 + 3) by omega), (show 8 + (1 + 11) + 0 ≤ (400 + nr * 300 + 140) by omega)⟩) hI (fun h => h.elim) (fun _ => ⟨trivial, trivial⟩) rfl hl.1 (Nat.le_of_ble_eq_true rfl) dX7_readFact_25 ⟨Nat.le_of_ble_eq_true rfl, Nat.le_of_ble_eq_true rfl⟩ (fun H locs hI => ?_)
          refine lv_iinc (v := (v2 + 1)) (lv' := [(2, .int (v2 + 1)), (0, .ref h), (1, .int v1)]) hx hb dX7_readFact_28 hl (k := 2) rfl (ci_ _ (by decide)) (by decide) rfl (fun ls hl => ?_)
          refine lv_goto (tgt := 2) hx hb dX7_readFact_31 (by decide) ?_
          replace hf := cont_b hK1 hf
          exact ih (v2 + 1) x84 H locs ls hI (lv_sub hl [1, 2, 0] rfl) hf
  unfold fh_X7_readFact at hf
  refine lv_iload_n hx hb dX7_readFact_0 rfl (lv_at hl 1 rfl) ?_
  refine lv_istore_n (lv' := [(2, .int a1), (0, .ref h), (1, .int a1)]) hx hb dX7_readFact_1 rfl hl (by decide) rfl (fun ls hl => ?_)
  exact L_2 a1 mFuel a1 s0 s.heap [] ls hI (lv_sub hl [1, 2, 0] rfl) (asc_b hf)

set_option maxHeartbeats 4000000 in
set_option maxRecDepth 100000 in
theorem ch_X7_readTest (l : Launch) (D : va_G) (cy : Nat → ClassId) (nr : Nat) : ∀ (h : Nat) (a1 : Int32) (s0 : HSt) (out : HSt), fh_X7_readTest nr h a1 s0 = some out → CHv l D cy yX7_readTest wsX7_readTest { frames := 20 + nr * 6, cells := 0, slots := 0, locals := 400 + nr * 300 } 0 0 False True [.ref h, .int a1] s0 out := by
  induction nr with
  | zero => intro h a1 s0 out hf; exact absurd hf (by simp [fh_X7_readTest])
  | succ nr hrec =>
    intro h a1 s0 out hf
    obtain ⟨rec, hrq⟩ : ∃ r, r = fh_X7_readTest nr := ⟨_, rfl⟩
    replace hf : fh_X7_readTestF (fh_X7_readTest nr) h a1 s0 = some out := hf
    rw [← hrq] at hrec hf
    refine Met.ofW (cc := cX7_readTest) (maxL := 4) (ret := none) (by decide) rfl ?_
    intro p e s m args below meth c s₁ B hml hv
    obtain ⟨rfl, hP, hK, hD0, hkx, hsz, hal⟩ := hv
    have hx := B.exec
    have hb := B.bytes
    have hr := B.returns
    have hts := atoms_spec (ws := wsX7_readTest) B.pre
    have hown : s.vm.findClass RX7 = some m.cls := findClass_of_methodNamed B.named
    have hlocks := B.notSynchronized
    have hI : HI D cy s s0 s0 s.heap [] 0 False True := ⟨hK, hP, hD0.weaken (fun k q hk _ => Or.inl (pl_mem hk)), va_S.rf, hsz.1, hkx, ⟨hsz, hal⟩, fun _ => rfl, Nat.le_refl _⟩
    have hin_X7 : ∀ w ∈ u_ws RX7 TX7 7, w ∈ wsX7_readTest := fun w hw => List.mem_cons_of_mem _ (List.mem_append_left _ (List.mem_append_right _ hw))
    have kl_26 : Cond.fieldLink RX7 26 "HalfBridge$RuleReader" "tokens" "LHalfBridge$Tokens;" ∈ wsX7_readTest := by decide +kernel
    have hl := lv_entry ([.ref h, .int a1]) (n := 4) (Nat.le_of_ble_eq_true rfl)
    rw [lg_entry_eq]
    generalize (lg_sl ([.ref h, .int a1]) ++ List.replicate (4 - (lg_sl ([.ref h, .int a1])).length) Slot.unset).toArray = ls at hl ⊢
    have hl : lv_has ls 4 [(0, .ref h), (1, .int a1)] := hl
    obtain ⟨K0, hK0, hf⟩ := top_e hf
    have B_99 : ∀   (st : HSt) (H : Heap) (locs : List Loc) (ls : Array Slot), HI D cy s s0 st H locs 0 False True → lv_has ls 4 [] → (fh_X7_readTest_j99 rec h st).bind K0 = some out → W p l e (headSpec wsX7_readTest { frames := (20 + (nr + 1) * 6), cells := 0, slots := 0, locals := (400 + (nr + 1) * 300) }).room s m (([.ref h, .int a1] : List Value).toArray) below meth c H locs 0 0 (MQ below (HQv D cy s0 0 True out) ([.ref h, .int a1] : List Value).toArray s 0 0 (hF s0)) (F0 m 99 ls []) := by
      intro st H locs ls hI hl hf
      unfold fh_X7_readTest_j99 at hf
      exact hret_v hx hb hr hlocks hI (by decide) (by decide) (fun _ => ⟨trivial, rfl⟩) (ret_e hK0 hf) dX7_readTest_99
    have L_2 : ∀ (v1 : Int32) (n : Nat) (v2 : Int32) (st : HSt) (H : Heap) (locs : List Loc) (ls : Array Slot), HI D cy s s0 st H locs 0 False True → lv_has ls 4 [(0, .ref h), (1, .int v1), (2, .int v2)] → (iter (fun x : (Int32 × HSt) => fh_X7_readTest_s2 rec h v1 x.1 x.2) n (v2, st)).bind (fun x => ((Sum.elim (fun o : HSt => (some o : Option (HSt))) (fun x : (Int32 × HSt) => fh_X7_readTest_j99 rec h x.2)) x).bind K0) = some out → W p l e (headSpec wsX7_readTest { frames := (20 + (nr + 1) * 6), cells := 0, slots := 0, locals := (400 + (nr + 1) * 300) }).room s m (([.ref h, .int a1] : List Value).toArray) below meth c H locs 0 0 (MQ below (HQv D cy s0 0 True out) ([.ref h, .int a1] : List Value).toArray s 0 0 (hF s0)) (F0 m 2 ls []) := by
      intro v1 n
      induction n with
      | zero => intro v2 st H locs ls hI hl hf; exact (iter_0 hf).elim
      | succ n ih =>
        intro v2 st H locs ls hI hl hf
        obtain ⟨K1, hK1, hf⟩ := iter_e hf
        replace hf : (fh_X7_readTest_s2 rec h v1 v2 st).bind K1 = some out := hf
        have B_2_72 : ∀ (v2 : Int32)  (st : HSt) (H : Heap) (locs : List Loc) (ls : Array Slot), HI D cy s s0 st H locs 0 False True → lv_has ls 4 [(0, .ref h), (1, .int v1), (2, .int v2)] → (fh_X7_readTest_j72 rec h v1 v2 st).bind K1 = some out → W p l e (headSpec wsX7_readTest { frames := (20 + (nr + 1) * 6), cells := 0, slots := 0, locals := (400 + (nr + 1) * 300) }).room s m (([.ref h, .int a1] : List Value).toArray) below meth c H locs 0 0 (MQ below (HQv D cy s0 0 True out) ([.ref h, .int a1] : List Value).toArray s 0 0 (hF s0)) (F0 m 72 ls []) := by
          intro v2 st H locs ls hI hl hf
          unfold fh_X7_readTest_j72 at hf
          refine lv_aload_n hx hb dX7_readTest_72 rfl (lv_at hl 0 rfl) ?_
          obtain ⟨k6, hf⟩ := chk_b hf
          refine hg_7_0 hx hb hts hin_X7 hown kl_26 hI (isk_k k6) dX7_readTest_73 ?_
          obtain ⟨b7, hd8, hf⟩ := bnd_b hf
          obtain ⟨hq9, hk10⟩ := dr_e hd8
          refine W.eq (g2 := F0 m 76 ls [.ref b7]) (by rw [hq9]; rfl) ?_
          obtain ⟨x11, hc12, hf⟩ := bnd_b hf
          refine hcall_Vi (ex2 := True) (As := []) (rest := []) (n := 0) (by rw [hk10]; decide) (hC_11 hk10) rfl ⟨hx, hb, hml, hown, hts⟩ (ch_X10_kind l D cy b7 st x11 hc12) (cwV 0 hts gX7_readTest_X10_kind rfl rfl rfl ⟨rfl, nd_X10_kind⟩ ⟨(show 0 + 1 ≤ (20 + (nr + 1) * 6) by omega), (show 8 + (1 + 11) + 0 ≤ (400 + (nr + 1) * 300) by omega)⟩) hI (fun h => h.elim) (fun _ => ⟨trivial, trivial⟩) rfl hl.1 (Nat.le_of_ble_eq_true rfl) dX7_readTest_76 ⟨Nat.le_of_ble_eq_true rfl, Nat.le_of_ble_eq_true rfl⟩ (fun H locs hI => ?_)
          refine lv_sipush (v := 267) hx hb dX7_readTest_79 (by decide) ?_
          refine lv_icmp_eq (tgt := 86) hx hb dX7_readTest_82 (by decide) (fun c13 => ?_) (fun c13 => ?_)
          · replace hf := ifp c13 hf
            refine lv_aload_n hx hb dX7_readTest_86 rfl (lv_at hl 0 rfl) ?_
            obtain ⟨k14, hf⟩ := chk_b hf
            refine hg_7_0 hx hb hts hin_X7 hown kl_26 hI (isk_k k14) dX7_readTest_87 ?_
            obtain ⟨b15, hd16, hf⟩ := bnd_b hf
            obtain ⟨hq17, hk18⟩ := dr_e hd16
            refine W.eq (g2 := F0 m 90 ls [.ref b15]) (by rw [hq17]; rfl) ?_
            obtain ⟨x19, hc20, hf⟩ := bnd_b hf
            refine hcall_Vv (ex2 := True) (As := []) (rest := []) (n := 0) (by rw [hk18]; decide) (hC_11 hk18) rfl ⟨hx, hb, hml, hown, hts⟩ (ch_X10_next l D cy b15 x11.1 x19 hc20) (cwV 0 hts gX7_readTest_X10_next rfl rfl rfl ⟨rfl, nd_X10_next⟩ ⟨(show 0 + 1 ≤ (20 + (nr + 1) * 6) by omega), (show 8 + (1 + 11) + 0 ≤ (400 + (nr + 1) * 300) by omega)⟩) hI (fun h => h.elim) (fun _ => ⟨trivial, trivial⟩) rfl hl.1 (Nat.le_of_ble_eq_true rfl) dX7_readTest_90 ⟨Nat.le_of_ble_eq_true rfl, Nat.le_of_ble_eq_true rfl⟩ (fun H locs hI => ?_)
            refine lv_iinc (v := (v2 + 1)) (lv' := [(2, .int (v2 + 1)), (0, .ref h), (1, .int v1)]) hx hb dX7_readTest_93 hl (k := 2) rfl (ci_ _ (by decide)) (by decide) rfl (fun ls hl => ?_)
            refine lv_goto (tgt := 2) hx hb dX7_readTest_96 (by decide) ?_
            replace hf := cont_b hK1 hf
            exact ih (v2 + 1) x19 H locs ls hI (lv_sub hl [1, 2, 0] rfl) hf
          · replace hf := ifn c13 hf
            replace hf := inl_b hK1 hf
            replace hf : Option.bind (some x11.1) K0 = some out := hf
            exact hret_v hx hb hr hlocks hI (by decide) (by decide) (fun _ => ⟨trivial, rfl⟩) (ret_e hK0 hf) dX7_readTest_85
        have B_2_61 : ∀ (v2 : Int32)  (st : HSt) (H : Heap) (locs : List Loc) (ls : Array Slot), HI D cy s s0 st H locs 0 False True → lv_has ls 4 [(0, .ref h), (1, .int v1), (2, .int v2)] → (fh_X7_readTest_j61 rec h v1 v2 st).bind K1 = some out → W p l e (headSpec wsX7_readTest { frames := (20 + (nr + 1) * 6), cells := 0, slots := 0, locals := (400 + (nr + 1) * 300) }).room s m (([.ref h, .int a1] : List Value).toArray) below meth c H locs 0 0 (MQ below (HQv D cy s0 0 True out) ([.ref h, .int a1] : List Value).toArray s 0 0 (hF s0)) (F0 m 61 ls []) := by
          intro v2 st H locs ls hI hl hf
          unfold fh_X7_readTest_j61 at hf
          refine lv_iload_n hx hb dX7_readTest_61 rfl (lv_at hl 2 rfl) ?_
          refine lv_if_le (tgt := 72) hx hb dX7_readTest_62 (by decide) (fun c5 => ?_) (fun c5 => ?_)
          · replace hf := ifp c5 hf
            exact B_2_72 v2 st H locs ls hI (lv_sub hl [0, 1, 2] rfl) hf
          · replace hf := ifn c5 hf
            refine lv_aload_n hx hb dX7_readTest_65 rfl (lv_at hl 0 rfl) ?_
            refine lv_sipush (v := -267) hx hb dX7_readTest_66 (by decide) ?_
            obtain ⟨k21, hf⟩ := chk_b hf
            obtain ⟨x22, hc23, hf⟩ := bnd_b hf
            refine hcall_Vv (ex2 := True) (As := [.int (-267 : Int32)]) (rest := []) (n := 1) (by rw [(isk_k k21)]; decide) (hC_8 (isk_k k21)) rfl ⟨hx, hb, hml, hown, hts⟩ (ch_X7_put l D cy h (-267 : Int32) st x22 hc23) (cwV 1 hts gX7_readTest_X7_put rfl rfl rfl ⟨rfl, nd_X7_put⟩ ⟨(show 0 + 1 ≤ (20 + (nr + 1) * 6) by omega), (show 8 + (2 + 11) + 0 ≤ (400 + (nr + 1) * 300) by omega)⟩) hI (fun h => h.elim) (fun _ => ⟨trivial, trivial⟩) rfl hl.1 (Nat.le_of_ble_eq_true rfl) dX7_readTest_69 ⟨Nat.le_of_ble_eq_true rfl, Nat.le_of_ble_eq_true rfl⟩ (fun H locs hI => ?_)
            exact B_2_72 v2 x22 H locs ls hI (lv_sub hl [0, 1, 2] rfl) hf
        have L_2_16 : ∀ (v2 : Int32) (n : Nat) (v3 : Int32) (st : HSt) (H : Heap) (locs : List Loc) (ls : Array Slot), HI D cy s s0 st H locs 0 False True → lv_has ls 4 [(0, .ref h), (1, .int v1), (2, .int v2), (3, .int v3)] → (iter (fun x : (Int32 × HSt) => fh_X7_readTest_s16 rec h v1 v2 x.1 x.2) n (v3, st)).bind (fun x => ((Sum.elim (fun o : HSt => (some (.inl o) : Option ((HSt) ⊕ ((Int32 × HSt) ⊕ (Int32 × HSt))))) (fun x : (Int32 × HSt) => fh_X7_readTest_j61 rec h v1 v2 x.2)) x).bind K1) = some out → W p l e (headSpec wsX7_readTest { frames := (20 + (nr + 1) * 6), cells := 0, slots := 0, locals := (400 + (nr + 1) * 300) }).room s m (([.ref h, .int a1] : List Value).toArray) below meth c H locs 0 0 (MQ below (HQv D cy s0 0 True out) ([.ref h, .int a1] : List Value).toArray s 0 0 (hF s0)) (F0 m 16 ls []) := by
          intro v2 n
          induction n with
          | zero => intro v3 st H locs ls hI hl hf; exact (iter_0 hf).elim
          | succ n ih =>
            intro v3 st H locs ls hI hl hf
            obtain ⟨K2, hK2, hf⟩ := iter_e hf
            replace hf : (fh_X7_readTest_s16 rec h v1 v2 v3 st).bind K2 = some out := hf
            unfold fh_X7_readTest_s16 at hf
            refine lv_iload_n hx hb dX7_readTest_16 rfl (lv_at hl 3 rfl) ?_
            refine lv_sipush (v := 400) hx hb dX7_readTest_17 (by decide) ?_
            refine lv_icmp_ge (tgt := 61) hx hb dX7_readTest_20 (by decide) (fun c24 => ?_) (fun c24 => ?_)
            · replace hf := ifp c24 hf
              replace hf := exit_b hK2 hf
              exact B_2_61 v2 st H locs ls hI (lv_sub hl [0, 1, 2] rfl) hf
            · replace hf := ifn c24 hf
              refine lv_aload_n hx hb dX7_readTest_23 rfl (lv_at hl 0 rfl) ?_
              obtain ⟨k25, hf⟩ := chk_b hf
              refine hg_7_0 hx hb hts hin_X7 hown kl_26 hI (isk_k k25) dX7_readTest_24 ?_
              obtain ⟨b26, hd27, hf⟩ := bnd_b hf
              obtain ⟨hq28, hk29⟩ := dr_e hd27
              refine W.eq (g2 := F0 m 27 ls [.ref b26]) (by rw [hq28]; rfl) ?_
              obtain ⟨x30, hc31, hf⟩ := bnd_b hf
              refine hcall_Vi (ex2 := True) (As := []) (rest := []) (n := 0) (by rw [hk29]; decide) (hC_11 hk29) rfl ⟨hx, hb, hml, hown, hts⟩ (ch_X10_kind l D cy b26 st x30 hc31) (cwV 0 hts gX7_readTest_X10_kind rfl rfl rfl ⟨rfl, nd_X10_kind⟩ ⟨(show 0 + 1 ≤ (20 + (nr + 1) * 6) by omega), (show 8 + (1 + 11) + 0 ≤ (400 + (nr + 1) * 300) by omega)⟩) hI (fun h => h.elim) (fun _ => ⟨trivial, trivial⟩) rfl hl.1 (Nat.le_of_ble_eq_true rfl) dX7_readTest_27 ⟨Nat.le_of_ble_eq_true rfl, Nat.le_of_ble_eq_true rfl⟩ (fun H locs hI => ?_)
              refine lv_sipush (v := 268) hx hb dX7_readTest_30 (by decide) ?_
              refine lv_icmp_ne (tgt := 61) hx hb dX7_readTest_33 (by decide) (fun c32 => ?_) (fun c32 => ?_)
              · replace hf := ifn c32 hf
                replace hf := exit_b hK2 hf
                exact B_2_61 v2 x30.1 H locs ls hI (lv_sub hl [0, 1, 2] rfl) hf
              · replace hf := ifp c32 hf
                refine lv_aload_n hx hb dX7_readTest_36 rfl (lv_at hl 0 rfl) ?_
                obtain ⟨k33, hf⟩ := chk_b hf
                refine hg_7_0 hx hb hts hin_X7 hown kl_26 hI (isk_k k33) dX7_readTest_37 ?_
                obtain ⟨b34, hd35, hf⟩ := bnd_b hf
                obtain ⟨hq36, hk37⟩ := dr_e hd35
                refine W.eq (g2 := F0 m 40 ls [.ref b34]) (by rw [hq36]; rfl) ?_
                obtain ⟨x38, hc39, hf⟩ := bnd_b hf
                refine hcall_Vv (ex2 := True) (As := []) (rest := []) (n := 0) (by rw [hk37]; decide) (hC_11 hk37) rfl ⟨hx, hb, hml, hown, hts⟩ (ch_X10_next l D cy b34 x30.1 x38 hc39) (cwV 0 hts gX7_readTest_X10_next rfl rfl rfl ⟨rfl, nd_X10_next⟩ ⟨(show 0 + 1 ≤ (20 + (nr + 1) * 6) by omega), (show 8 + (1 + 11) + 0 ≤ (400 + (nr + 1) * 300) by omega)⟩) hI (fun h => h.elim) (fun _ => ⟨trivial, trivial⟩) rfl hl.1 (Nat.le_of_ble_eq_true rfl) dX7_readTest_40 ⟨Nat.le_of_ble_eq_true rfl, Nat.le_of_ble_eq_true rfl⟩ (fun H locs hI => ?_)
                refine lv_aload_n hx hb dX7_readTest_43 rfl (lv_at hl 0 rfl) ?_
                refine lv_iload_n hx hb dX7_readTest_44 rfl (lv_at hl 1 rfl) ?_
                obtain ⟨k40, hf⟩ := chk_b hf
                obtain ⟨x41, hc42, hf⟩ := bnd_b hf
                refine hcall_Vv (ex2 := True) (As := [.int v1]) (rest := []) (n := 1) (by rw [(isk_k k40)]; decide) (hC_8 (isk_k k40)) rfl ⟨hx, hb, hml, hown, hts⟩ (ch_X7_readFact l D cy nr rec hrec h v1 x38 x41 hc42) (cwV 1 hts gX7_readTest_X7_readFact rfl rfl rfl ⟨rfl, nd_X7_readFact⟩ ⟨(show (20 + nr * 6 + 3) + 1 ≤ (20 + (nr + 1) * 6) by omega), (show 8 + (5 + 11) + (400 + nr * 300 + 140) ≤ (400 + (nr + 1) * 300) by omega)⟩) hI (fun h => h.elim) (fun _ => ⟨trivial, trivial⟩) rfl hl.1 (Nat.le_of_ble_eq_true rfl) dX7_readTest_45 ⟨Nat.le_of_ble_eq_true rfl, Nat.le_of_ble_eq_true rfl⟩ (fun H locs hI => ?_)
                refine lv_aload_n hx hb dX7_readTest_48 rfl (lv_at hl 0 rfl) ?_
                refine lv_sipush (v := -268) hx hb dX7_readTest_49 (by decide) ?_
                obtain ⟨k43, hf⟩ := chk_b hf
                obtain ⟨x44, hc45, hf⟩ := bnd_b hf
                refine hcall_Vv (ex2 := True) (As := [.int (-268 : Int32)]) (rest := []) (n := 1) (by rw [(isk_k k43)]; decide) (hC_8 (isk_k k43)) rfl ⟨hx, hb, hml, hown, hts⟩ (ch_X7_put l D cy h (-268 : Int32) x41 x44 hc45) (cwV 1 hts gX7_readTest_X7_put rfl rfl rfl ⟨rfl, nd_X7_put⟩ ⟨(show 0 + 1 ≤ (20 + (nr + 1) * 6) by omega), (show 8 + (2 + 11) + 0 ≤ (400 + (nr + 1) * 300) by omega)⟩) hI (fun h => h.elim) (fun _ => ⟨trivial, trivial⟩) rfl hl.1 (Nat.le_of_ble_eq_true rfl) dX7_readTest_52 ⟨Nat.le_of_ble_eq_true rfl, Nat.le_of_ble_eq_true rfl⟩ (fun H locs hI => ?_)
                refine lv_iinc (v := (v3 + 1)) (lv' := [(3, .int (v3 + 1)), (0, .ref h), (1, .int v1), (2, .int v2)]) hx hb dX7_readTest_55 hl (k := 3) rfl (ci_ _ (by decide)) (by decide) rfl (fun ls hl => ?_)
                refine lv_goto (tgt := 16) hx hb dX7_readTest_58 (by decide) ?_
                replace hf := cont_b hK2 hf
                exact ih (v3 + 1) x44 H locs ls hI (lv_sub hl [1, 2, 3, 0] rfl) hf
        unfold fh_X7_readTest_s2 at hf
        refine lv_iload_n hx hb dX7_readTest_2 rfl (lv_at hl 2 rfl) ?_
        refine lv_sipush (v := 400) hx hb dX7_readTest_3 (by decide) ?_
        refine lv_icmp_ge (tgt := 99) hx hb dX7_readTest_6 (by decide) (fun c1 => ?_) (fun c1 => ?_)
        · replace hf := ifp c1 hf
          replace hf := exit_b hK1 hf
          exact B_99  st H locs ls hI (lv_sub hl [] rfl) hf
        · replace hf := ifn c1 hf
          refine lv_aload_n hx hb dX7_readTest_9 rfl (lv_at hl 0 rfl) ?_
          refine lv_iload_n hx hb dX7_readTest_10 rfl (lv_at hl 1 rfl) ?_
          obtain ⟨k2, hf⟩ := chk_b hf
          obtain ⟨x3, hc4, hf⟩ := bnd_b hf
          refine hcall_Vv (ex2 := True) (As := [.int v1]) (rest := []) (n := 1) (by rw [(isk_k k2)]; decide) (hC_8 (isk_k k2)) rfl ⟨hx, hb, hml, hown, hts⟩ (ch_X7_readFact l D cy nr rec hrec h v1 st x3 hc4) (cwV 1 hts gX7_readTest_X7_readFact rfl rfl rfl ⟨rfl, nd_X7_readFact⟩ ⟨(show (20 + nr * 6 + 3) + 1 ≤ (20 + (nr + 1) * 6) by omega), (show 8 + (5 + 11) + (400 + nr * 300 + 140) ≤ (400 + (nr + 1) * 300) by omega)⟩) hI (fun h => h.elim) (fun _ => ⟨trivial, trivial⟩) rfl hl.1 (Nat.le_of_ble_eq_true rfl) dX7_readTest_11 ⟨Nat.le_of_ble_eq_true rfl, Nat.le_of_ble_eq_true rfl⟩ (fun H locs hI => ?_)
          refine lv_iconst (v := 0) hx hb dX7_readTest_14 (by decide) ?_
          refine lv_istore_n (lv' := [(3, .int (0 : Int32)), (0, .ref h), (1, .int v1), (2, .int v2)]) hx hb dX7_readTest_15 rfl hl (by decide) rfl (fun ls hl => ?_)
          exact L_2_16 v2 mFuel (0 : Int32) x3 H locs ls hI (lv_sub hl [1, 2, 3, 0] rfl) (asc_b hf)
    unfold fh_X7_readTestF at hf
    refine lv_iconst (v := 0) hx hb dX7_readTest_0 (by decide) ?_
    refine lv_istore_n (lv' := [(2, .int (0 : Int32)), (0, .ref h), (1, .int a1)]) hx hb dX7_readTest_1 rfl hl (by decide) rfl (fun ls hl => ?_)
    exact L_2 a1 mFuel (0 : Int32) s0 s.heap [] ls hI (lv_sub hl [1, 2, 0] rfl) (asc_b hf)
