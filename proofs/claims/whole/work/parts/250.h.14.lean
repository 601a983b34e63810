theorem nd_X2_goDay : yX2_goDay.cls ≠ "java/lang/invoke/MethodHandle" ∧ yX2_goDay.cls ≠ "java/lang/invoke/VarHandle" ∧ (parseMethodDescriptor yX2_goDay.desc).map (fun d => d.parameters.length) = some 4 := by decide +kernel
set_option maxHeartbeats 4000000 in
set_option maxRecDepth 100000 in
theorem ch_X2_goDay (l : Launch) (D : va_G) (cy : Nat → ClassId) (h : Nat) (a1 : Option Nat) (a2 : Option Nat) (a3 : Int32) (a4 : Int32) (s0 : HSt) (out : HSt) (hf : fh_X2_goDay h a1 a2 a3 a4 s0 = some out) : CHv l D cy yX2_goDay wsX2_goDay { frames := 3, cells := 0, slots := 0, locals := 84 } 0 0 False True [.ref h, va_rf a1, va_rf a2, .int a3, .int a4] s0 out := by
  refine Met.ofW (cc := cX2_goDay) (maxL := 5) (ret := none) (by decide) rfl ?_
  intro p e s m args below meth c s₁ B hml hv
  obtain ⟨rfl, hP, hK, hD0, hkx, hsz, hal⟩ := hv
  have hx := B.exec
  have hb := B.bytes
  have hr := B.returns
  have hts := atoms_spec (ws := wsX2_goDay) B.pre
  have hown : s.vm.findClass RX2 = some m.cls := findClass_of_methodNamed B.named
  have hlocks := B.notSynchronized
  have hI : HI D cy s s0 s0 s.heap [] 0 False True := ⟨hK, hP, hD0.weaken (fun k q hk _ => Or.inl (pl_mem hk)), va_S.rf, hsz.1, hkx, ⟨hsz, hal⟩, fun _ => rfl, Nat.le_refl _⟩
  have hl := lv_entry ([.ref h, va_rf a1, va_rf a2, .int a3, .int a4]) (n := 5) (by simp [lg_sl, cat_rf, cat_i, cat_l, cat_r])
  rw [lg_entry_eq]
  generalize (lg_sl ([.ref h, va_rf a1, va_rf a2, .int a3, .int a4]) ++ List.replicate (5 - (lg_sl ([.ref h, va_rf a1, va_rf a2, .int a3, .int a4])).length) Slot.unset).toArray = ls at hl ⊢
  have hl : lv_has ls 5 [(0, .ref h), (1, va_rf a1), (2, va_rf a2), (3, .int a3), (4, .int a4)] := (by simpa [lv_args, cat_rf, cat_i, cat_l, cat_r] using hl)
  obtain ⟨K0, hK0, hf⟩ := top_e hf
  unfold fh_X2_goDay at hf
  refine hq_aload_n hx hb dX2_goDay_0 rfl (lv_at hl 2 rfl) ?_
  refine hq_aload_n hx hb dX2_goDay_1 rfl (lv_at hl 1 rfl) ?_
  obtain ⟨b1, hd2, hf⟩ := bnd_b hf
  obtain ⟨hq3, hk4⟩ := dr_e hd2
  refine W.eq (g2 := F0 m 2 ls [va_rf a1, .ref b1]) (by rw [hq3]; rfl) ?_
  obtain ⟨x5, hc6, hf⟩ := bnd_b hf
  refine hcall_Vv (ex2 := True) (As := [va_rf a1]) (rest := []) (n := 1) (by rw [hk4]; decide) (hC_10 hk4) rfl ⟨hx, hb, hml, hown, hts⟩ (ch_X9_become l D cy b1 a1 s0 x5 hc6) (cwV 1 hts gX2_goDay_X9_become rfl rfl rfl ⟨rfl, nd_X9_become⟩ ⟨Nat.le_of_ble_eq_true rfl, Nat.le_of_ble_eq_true rfl⟩) hI (fun h => h.elim) (fun _ => ⟨trivial, trivial⟩) rfl hl.1 (Nat.le_of_ble_eq_true rfl) dX2_goDay_2 ⟨Nat.le_of_ble_eq_true rfl, Nat.le_of_ble_eq_true rfl⟩ (fun H locs hI => ?_)
  refine hq_aload_n hx hb dX2_goDay_5 rfl (lv_at hl 2 rfl) ?_
  refine W.eq (g2 := F0 m 6 ls [.ref b1]) (by rw [hq3]; rfl) ?_
  obtain ⟨k7, hf⟩ := chk_b hf
  obtain ⟨x8, hc9, hf⟩ := bnd_b hf
  refine hcall_Vi (ex2 := True) (As := []) (rest := []) (n := 0) (by rw [(isk_k k7)]; decide) (hC_10 (isk_k k7)) rfl ⟨hx, hb, hml, hown, hts⟩ (ch_X9_isMet l D cy b1 x5 x8 hc9) (cwV 0 hts gX2_goDay_X9_isMet rfl rfl rfl ⟨rfl, nd_X9_isMet⟩ ⟨Nat.le_of_ble_eq_true rfl, Nat.le_of_ble_eq_true rfl⟩) hI (fun h => h.elim) (fun _ => ⟨trivial, trivial⟩) rfl hl.1 (Nat.le_of_ble_eq_true rfl) dX2_goDay_6 ⟨Nat.le_of_ble_eq_true rfl, Nat.le_of_ble_eq_true rfl⟩ (fun H locs hI => ?_)
  refine lv_if_ne (tgt := 29) hx hb dX2_goDay_9 (by decide) (fun c10 => ?_) (fun c10 => ?_)
  · replace hf := ifn c10 hf
    exact hret_v hx hb hr hlocks hI (by decide) (by decide) (fun _ => ⟨trivial, rfl⟩) (ret_e hK0 hf) dX2_goDay_29
  · replace hf := ifp c10 hf
    refine hq_aload_n hx hb dX2_goDay_12 rfl (lv_at hl 2 rfl) ?_
    refine lv_iconst (v := 0) hx hb dX2_goDay_13 (by decide) ?_
    refine lv_iload_n hx hb dX2_goDay_14 rfl (lv_at hl 3 rfl) ?_
    refine W.eq (g2 := F0 m 15 ls [.int a3, .int (0 : Int32), .ref b1]) (by rw [hq3]; rfl) ?_
    obtain ⟨k11, hf⟩ := chk_b hf
    obtain ⟨x12, hc13, hf⟩ := bnd_b hf
    refine hcall_Vv (ex2 := True) (As := [.int (0 : Int32), .int a3]) (rest := []) (n := 2) (by rw [(isk_k k11)]; decide) (hC_10 (isk_k k11)) rfl ⟨hx, hb, hml, hown, hts⟩ (ch_X9_act l D cy b1 (0 : Int32) a3 x8.1 x12 hc13) (cwV 2 hts gX2_goDay_X9_act rfl rfl rfl ⟨rfl, nd_X9_act⟩ ⟨Nat.le_of_ble_eq_true rfl, Nat.le_of_ble_eq_true rfl⟩) hI (fun h => h.elim) (fun _ => ⟨trivial, trivial⟩) rfl hl.1 (Nat.le_of_ble_eq_true rfl) dX2_goDay_15 ⟨Nat.le_of_ble_eq_true rfl, Nat.le_of_ble_eq_true rfl⟩ (fun H locs hI => ?_)
    refine hq_aload_n hx hb dX2_goDay_18 rfl (lv_at hl 2 rfl) ?_
    refine lv_iconst (v := 1) hx hb dX2_goDay_19 (by decide) ?_
    refine lv_iload hx hb dX2_goDay_20 (lv_at hl 4 rfl) ?_
    refine W.eq (g2 := F0 m 22 ls [.int a4, .int (1 : Int32), .ref b1]) (by rw [hq3]; rfl) ?_
    obtain ⟨k14, hf⟩ := chk_b hf
    obtain ⟨x15, hc16, hf⟩ := bnd_b hf
    refine hcall_Vv (ex2 := True) (As := [.int (1 : Int32), .int a4]) (rest := []) (n := 2) (by rw [(isk_k k14)]; decide) (hC_10 (isk_k k14)) rfl ⟨hx, hb, hml, hown, hts⟩ (ch_X9_act l D cy b1 (1 : Int32) a4 x12 x15 hc16) (cwV 2 hts gX2_goDay_X9_act rfl rfl rfl ⟨rfl, nd_X9_act⟩ ⟨Nat.le_of_ble_eq_true rfl, Nat.le_of_ble_eq_true rfl⟩) hI (fun h => h.elim) (fun _ => ⟨trivial, trivial⟩) rfl hl.1 (Nat.le_of_ble_eq_true rfl) dX2_goDay_22 ⟨Nat.le_of_ble_eq_true rfl, Nat.le_of_ble_eq_true rfl⟩ (fun H locs hI => ?_)
    refine hq_aload_n hx hb dX2_goDay_25 rfl (lv_at hl 2 rfl) ?_
    refine W.eq (g2 := F0 m 26 ls [.ref b1]) (by rw [hq3]; rfl) ?_
    obtain ⟨k17, hf⟩ := chk_b hf
    obtain ⟨x18, hc19, hf⟩ := bnd_b hf
    refine hcall_Vv (ex2 := True) (As := []) (rest := []) (n := 0) (by rw [(isk_k k17)]; decide) (hC_10 (isk_k k17)) rfl ⟨hx, hb, hml, hown, hts⟩ (ch_X9_endDay l D cy b1 x15 x18 hc19) (cwV 0 hts gX2_goDay_X9_endDay rfl rfl rfl ⟨rfl, nd_X9_endDay⟩ ⟨Nat.le_of_ble_eq_true rfl, Nat.le_of_ble_eq_true rfl⟩) hI (fun h => h.elim) (fun _ => ⟨trivial, trivial⟩) rfl hl.1 (Nat.le_of_ble_eq_true rfl) dX2_goDay_26 ⟨Nat.le_of_ble_eq_true rfl, Nat.le_of_ble_eq_true rfl⟩ (fun H locs hI => ?_)
    exact hret_v hx hb hr hlocks hI (by decide) (by decide) (fun _ => ⟨trivial, rfl⟩) (ret_e hK0 hf) dX2_goDay_29

theorem nd_X2_goDeeper : yX2_goDeeper.cls ≠ "java/lang/invoke/MethodHandle" ∧ yX2_goDeeper.cls ≠ "java/lang/invoke/VarHandle" ∧ (parseMethodDescriptor yX2_goDeeper.desc).map (fun d => d.parameters.length) = some 1 := by decide +kernel
set_option maxHeartbeats 4000000 in
set_option maxRecDepth 100000 in
theorem ch_X2_goDeeper (l : Launch) (D : va_G) (cy : Nat → ClassId) (nr : Nat) : ∀ (h : Nat) (a1 : Int32) (s0 : HSt) (out : HSt), fh_X2_goDeeper nr h a1 s0 = some out → CHv l D cy yX2_goDeeper wsX2_goDeeper { frames := 20 + nr * 6, cells := 0, slots := 0, locals := 400 + nr * 300 } 0 0 False True [.ref h, .int a1] s0 out := by
  induction nr with
  | zero => intro h a1 s0 out hf; exact absurd hf (by simp [fh_X2_goDeeper])
  | succ nr hrec =>
    intro h a1 s0 out hf
    obtain ⟨rec, hrq⟩ : ∃ r, r = fh_X2_goDeeper nr := ⟨_, rfl⟩
    replace hf : fh_X2_goDeeperF (fh_X2_goDeeper nr) h a1 s0 = some out := hf
    rw [← hrq] at hrec hf
    refine Met.ofW (cc := cX2_goDeeper) (maxL := 6) (ret := none) (by decide) rfl ?_
    intro p e s m args below meth c s₁ B hml hv
    obtain ⟨rfl, hP, hK, hD0, hkx, hsz, hal⟩ := hv
    have hx := B.exec
    have hb := B.bytes
    have hr := B.returns
    have hts := atoms_spec (ws := wsX2_goDeeper) B.pre
    have hown : s.vm.findClass RX2 = some m.cls := findClass_of_methodNamed B.named
    have hlocks := B.notSynchronized
    have hI : HI D cy s s0 s0 s.heap [] 0 False True := ⟨hK, hP, hD0.weaken (fun k q hk _ => Or.inl (pl_mem hk)), va_S.rf, hsz.1, hkx, ⟨hsz, hal⟩, fun _ => rfl, Nat.le_refl _⟩
    have hin_X2 : ∀ w ∈ u_ws RX2 TX2 11, w ∈ wsX2_goDeeper := fun w hw => List.mem_cons_of_mem _ (List.mem_append_left _ (List.mem_append_left _ (List.mem_append_left _ (List.mem_append_left _ (List.mem_append_left _ (List.mem_append_right _ hw))))))
    have kl_9 : Cond.fieldLink RX2 9 "HalfBridge$Inquest" "errorSigns" "[I" ∈ wsX2_goDeeper := by decide +kernel
    have kl_13 : Cond.fieldLink RX2 13 "HalfBridge$Inquest" "rightPlans" "[I" ∈ wsX2_goDeeper := by decide +kernel
    have kl_19 : Cond.fieldLink RX2 19 "HalfBridge$Inquest" "looker" "LHalfBridge$Looker;" ∈ wsX2_goDeeper := by decide +kernel
    have kl_23 : Cond.fieldLink RX2 23 "HalfBridge$Inquest" "spares" "[LHalfBridge$Span;" ∈ wsX2_goDeeper := by decide +kernel
    have kl_27 : Cond.fieldLink RX2 27 "HalfBridge$Inquest" "told" "LHalfBridge$Site;" ∈ wsX2_goDeeper := by decide +kernel
    have kl_31 : Cond.fieldLink RX2 31 "HalfBridge$Inquest" "left" "LHalfBridge$Rule;" ∈ wsX2_goDeeper := by decide +kernel
    have kl_35 : Cond.fieldLink RX2 35 "HalfBridge$Inquest" "right" "LHalfBridge$Rule;" ∈ wsX2_goDeeper := by decide +kernel
    have kl_44 : Cond.fieldLink RX2 44 "HalfBridge$Inquest" "days" "I" ∈ wsX2_goDeeper := by decide +kernel
    have kl_48 : Cond.fieldLink RX2 48 "HalfBridge$Inquest" "size" "I" ∈ wsX2_goDeeper := by decide +kernel
    have hl := lv_entry ([.ref h, .int a1]) (n := 6) (Nat.le_of_ble_eq_true rfl)
    rw [lg_entry_eq]
    generalize (lg_sl ([.ref h, .int a1]) ++ List.replicate (6 - (lg_sl ([.ref h, .int a1])).length) Slot.unset).toArray = ls at hl ⊢
    have hl : lv_has ls 6 [(0, .ref h), (1, .int a1)] := hl
    obtain ⟨K0, hK0, hf⟩ := top_e hf
    have B_180 : ∀   (st : HSt) (H : Heap) (locs : List Loc) (ls : Array Slot), HI D cy s s0 st H locs 0 False True → lv_has ls 6 [] → (fh_X2_goDeeper_j180 rec h st).bind K0 = some out → W p l e (headSpec wsX2_goDeeper { frames := (20 + (nr + 1) * 6), cells := 0, slots := 0, locals := (400 + (nr + 1) * 300) }).room s m (([.ref h, .int a1] : List Value).toArray) below meth c H locs 0 0 (MQ below (HQv D cy s0 0 True out) ([.ref h, .int a1] : List Value).toArray s 0 0 (hF s0)) (F0 m 180 ls []) := by
      intro st H locs ls hI hl hf
      unfold fh_X2_goDeeper_j180 at hf
      exact hret_v hx hb hr hlocks hI (by decide) (by decide) (fun _ => ⟨trivial, rfl⟩) (ret_e hK0 hf) dX2_goDeeper_180
    have L_77 : ∀ (v1 : Int32) (v2 : Option Nat) (n : Nat) (v3 : Int32) (st : HSt) (H : Heap) (locs : List Loc) (ls : Array Slot), HI D cy s s0 st H locs 0 False True → lv_has ls 6 [(0, .ref h), (1, .int v1), (2, va_rf v2), (3, .int v3)] → (iter (fun x : (Int32 × HSt) => fh_X2_goDeeper_s77 rec h v1 v2 x.1 x.2) n (v3, st)).bind (fun x => ((Sum.elim (fun o : HSt => (some o : Option (HSt))) (fun x : (Int32 × HSt) => fh_X2_goDeeper_j180 rec h x.2)) x).bind K0) = some out → W p l e (headSpec wsX2_goDeeper { frames := (20 + (nr + 1) * 6), cells := 0, slots := 0, locals := (400 + (nr + 1) * 300) }).room s m (([.ref h, .int a1] : List Value).toArray) below meth c H locs 0 0 (MQ below (HQv D cy s0 0 True out) ([.ref h, .int a1] : List Value).toArray s 0 0 (hF s0)) (F0 m 77 ls []) := by
      intro v1 v2 n
      induction n with
      | zero => intro v3 st H locs ls hI hl hf; exact (iter_0 hf).elim
      | succ n ih =>
        intro v3 st H locs ls hI hl hf
        obtain ⟨K1, hK1, hf⟩ := iter_e hf
        replace hf : (fh_X2_goDeeper_s77 rec h v1 v2 v3 st).bind K1 = some out := hf
        have B_77_174 : ∀ (v3 : Int32)  (st : HSt) (H : Heap) (locs : List Loc) (ls : Array Slot), HI D cy s s0 st H locs 0 False True → lv_has ls 6 [(0, .ref h), (1, .int v1), (2, va_rf v2), (3, .int v3)] → (fh_X2_goDeeper_j174 rec h v1 v2 v3 st).bind K1 = some out → W p l e (headSpec wsX2_goDeeper { frames := (20 + (nr + 1) * 6), cells := 0, slots := 0, locals := (400 + (nr + 1) * 300) }).room s m (([.ref h, .int a1] : List Value).toArray) below meth c H locs 0 0 (MQ below (HQv D cy s0 0 True out) ([.ref h, .int a1] : List Value).toArray s 0 0 (hF s0)) (F0 m 174 ls []) := by
          intro v3 st H locs ls hI hl hf
          unfold fh_X2_goDeeper_j174 at hf
          refine lv_iinc (v := (v3 + 1)) (lv' := [(3, .int (v3 + 1)), (0, .ref h), (1, .int v1), (2, va_rf v2)]) hx hb dX2_goDeeper_174 hl (k := 3) rfl (ci_ _ (by decide)) (by decide) (by first | rfl | (simp [cat_rf, cat_i, cat_l, cat_r]; done) | (simp [cat_rf, cat_i, cat_l, cat_r]; decide)) (fun ls hl => ?_)
          refine lv_goto (tgt := 77) hx hb dX2_goDeeper_177 (by decide) ?_
          replace hf := cont_b hK1 hf
          exact ih (v3 + 1) st H locs ls hI (lv_sub hl [1, 2, 3, 0] rfl) hf
        have L_77_106 : ∀ (v3 : Int32) (v4 : Int32) (n : Nat) (v5 : Int32) (st : HSt) (H : Heap) (locs : List Loc) (ls : Array Slot), HI D cy s s0 st H locs 0 False True → lv_has ls 6 [(0, .ref h), (1, .int v1), (2, va_rf v2), (3, .int v3), (4, .int v4), (5, .int v5)] → (iter (fun x : (Int32 × HSt) => fh_X2_goDeeper_s106 rec h v1 v2 v3 v4 x.1 x.2) n (v5, st)).bind (fun x => ((Sum.elim (fun o : HSt => (some (.inl o) : Option ((HSt) ⊕ ((Int32 × HSt) ⊕ (Int32 × HSt))))) (fun x : (Int32 × HSt) => fh_X2_goDeeper_j174 rec h v1 v2 v3 x.2)) x).bind K1) = some out → W p l e (headSpec wsX2_goDeeper { frames := (20 + (nr + 1) * 6), cells := 0, slots := 0, locals := (400 + (nr + 1) * 300) }).room s m (([.ref h, .int a1] : List Value).toArray) below meth c H locs 0 0 (MQ below (HQv D cy s0 0 True out) ([.ref h, .int a1] : List Value).toArray s 0 0 (hF s0)) (F0 m 106 ls []) := by
          intro v3 v4 n
          induction n with
          | zero => intro v5 st H locs ls hI hl hf; exact (iter_0 hf).elim
          | succ n ih =>
            intro v5 st H locs ls hI hl hf
            obtain ⟨K2, hK2, hf⟩ := iter_e hf
            replace hf : (fh_X2_goDeeper_s106 rec h v1 v2 v3 v4 v5 st).bind K2 = some out := hf
            unfold fh_X2_goDeeper_s106 at hf
            refine lv_iload hx hb dX2_goDeeper_106 (lv_at hl 5 rfl) ?_
            refine lv_iconst (v := 1) hx hb dX2_goDeeper_108 (by decide) ?_
            refine lv_icmp_gt (tgt := 174) hx hb dX2_goDeeper_109 (by decide) (fun c16 => ?_) (fun c16 => ?_)
            · replace hf := ifp c16 hf
              replace hf := exit_b hK2 hf
              exact B_77_174 v3 st H locs ls hI (lv_sub hl [0, 1, 2, 3] rfl) hf
            · replace hf := ifn c16 hf
              refine lv_aload_n hx hb dX2_goDeeper_112 rfl (lv_at hl 0 rfl) ?_
              obtain ⟨k17, hf⟩ := chk_b hf
              refine hg_2_3 hx hb hts hin_X2 hown kl_9 hI (isk_k k17) dX2_goDeeper_113 ?_
              refine lv_iconst (v := 2) hx hb dX2_goDeeper_116 (by decide) ?_
              refine lv_iload_n hx hb dX2_goDeeper_117 rfl (lv_at hl 1 rfl) ?_
              refine lv_imul hx hb dX2_goDeeper_118 ?_
              refine lv_iload_n hx hb dX2_goDeeper_119 rfl (lv_at hl 3 rfl) ?_
              obtain ⟨b18, hd19, hf⟩ := bnd_b hf
              obtain ⟨hq20, hk21⟩ := dr_e hd19
              refine W.eq (g2 := F0 m 120 ls [.int v3, .int ((2 : Int32) * v1), .ref b18]) (by rw [hq20]; rfl) ?_
              obtain ⟨k22, hf⟩ := chk_b hf
              refine hs_I hx hb hI hk21 k22 dX2_goDeeper_120 (fun H locs hI => ?_)
              refine lv_aload_n hx hb dX2_goDeeper_121 rfl (lv_at hl 0 rfl) ?_
              refine hg_2_3 hx hb hts hin_X2 hown kl_9 hI (gK_sA.trans (isk_k k17)) dX2_goDeeper_122 ?_
              refine lv_iconst (v := 2) hx hb dX2_goDeeper_125 (by decide) ?_
              refine lv_iload_n hx hb dX2_goDeeper_126 rfl (lv_at hl 1 rfl) ?_
              refine lv_imul hx hb dX2_goDeeper_127 ?_
              refine lv_iconst (v := 1) hx hb dX2_goDeeper_128 (by decide) ?_
              refine lv_iadd hx hb dX2_goDeeper_129 ?_
              refine lv_iload hx hb dX2_goDeeper_130 (lv_at hl 5 rfl) ?_
              obtain ⟨b23, hd24, hf⟩ := bnd_b hf
              obtain ⟨hq25, hk26⟩ := dr_e hd24
              refine W.eq (g2 := F0 m 132 ls [.int v5, .int (((2 : Int32) * v1) + (1 : Int32)), .ref b23]) (by rw [hq25]; rfl) ?_
              obtain ⟨k27, hf⟩ := chk_b hf
              refine hs_I hx hb hI (gK_sA.trans hk26) k27 dX2_goDeeper_132 (fun H locs hI => ?_)
              obtain ⟨x28, hx28, hf⟩ := bnd_b hf
              replace hx28 := Option.some.inj hx28
              rw [hx28] at hI
              have hk29 : gK x28 h = 3 := by rw [← hx28]; exact (gK_sA.trans (gK_sA.trans (isk_k k17)))
              have hk30 : gK x28 b18 = 22 := by rw [← hx28]; exact (gK_sA.trans (gK_sA.trans hk21))
              have hk31 : gK x28 b23 = 22 := by rw [← hx28]; exact (gK_sA.trans (gK_sA.trans hk26))
              refine lv_aload_n hx hb dX2_goDeeper_133 rfl (lv_at hl 0 rfl) ?_
              refine hq_aload_n hx hb dX2_goDeeper_134 rfl (lv_at hl 2 rfl) ?_
              refine lv_aload_n hx hb dX2_goDeeper_135 rfl (lv_at hl 0 rfl) ?_
              refine hg_2_2 hx hb hts hin_X2 hown kl_23 hI hk29 dX2_goDeeper_136 ?_
              refine lv_iload_n hx hb dX2_goDeeper_139 rfl (lv_at hl 1 rfl) ?_
              refine lv_iconst (v := 1) hx hb dX2_goDeeper_140 (by decide) ?_
              refine lv_iadd hx hb dX2_goDeeper_141 ?_
              obtain ⟨b32, hd33, hf⟩ := bnd_b hf
              obtain ⟨hq34, hk35⟩ := dr_e hd33
              refine W.eq (g2 := F0 m 142 ls [.int (v1 + (1 : Int32)), .ref b32, va_rf v2, .ref h]) (by rw [hq34]; rfl) ?_
              obtain ⟨k36, hf⟩ := chk_b hf
              refine hl_Span hx hb hI hk35 k36 dX2_goDeeper_142 ?_
              refine lv_iload hx hb dX2_goDeeper_143 (lv_at hl 4 rfl) ?_
              refine lv_aload_n hx hb dX2_goDeeper_145 rfl (lv_at hl 0 rfl) ?_
              refine hg_2_4 hx hb hts hin_X2 hown kl_13 hI hk29 dX2_goDeeper_146 ?_
              refine lv_iconst (v := 3) hx hb dX2_goDeeper_149 (by decide) ?_
              refine lv_iload_n hx hb dX2_goDeeper_150 rfl (lv_at hl 1 rfl) ?_
              refine lv_imul hx hb dX2_goDeeper_151 ?_
              refine lv_iconst (v := 1) hx hb dX2_goDeeper_152 (by decide) ?_
              refine lv_iadd hx hb dX2_goDeeper_153 ?_
              refine lv_iload hx hb dX2_goDeeper_154 (lv_at hl 5 rfl) ?_
              refine lv_iadd hx hb dX2_goDeeper_156 ?_
              obtain ⟨b37, hd38, hf⟩ := bnd_b hf
              obtain ⟨hq39, hk40⟩ := dr_e hd38
              refine W.eq (g2 := F0 m 157 ls [.int ((((3 : Int32) * v1) + (1 : Int32)) + v5), .ref b37, .int v4, va_rf (gQ x28 b32 (v1 + (1 : Int32)).toNatClampNeg), va_rf v2, .ref h]) (by rw [hq39]; rfl) ?_
              obtain ⟨k41, hf⟩ := chk_b hf
              refine hl_I hx hb hI hk40 k41 dX2_goDeeper_157 ?_
              obtain ⟨x42, hc43, hf⟩ := bnd_b hf
              refine hcall_Vv (ex2 := True) (As := [va_rf v2, va_rf (gQ x28 b32 (v1 + (1 : Int32)).toNatClampNeg), .int v4, .int (gA x28 b37 ((((3 : Int32) * v1) + (1 : Int32)) + v5).toNatClampNeg)]) (rest := []) (n := 4) (by rw [hk29]; decide) (hC_3 hk29) rfl ⟨hx, hb, hml, hown, hts⟩ (ch_X2_goDay l D cy h v2 (gQ x28 b32 (v1 + (1 : Int32)).toNatClampNeg) v4 (gA x28 b37 ((((3 : Int32) * v1) + (1 : Int32)) + v5).toNatClampNeg) x28 x42 hc43) (cwV 4 hts gX2_goDeeper_X2_goDay rfl rfl rfl ⟨rfl, nd_X2_goDay⟩ ⟨(show 3 + 1 ≤ (20 + (nr + 1) * 6) by omega), (show 8 + (5 + 11) + 84 ≤ (400 + (nr + 1) * 300) by omega)⟩) hI (fun h => h.elim) (fun _ => ⟨trivial, trivial⟩) rfl hl.1 (Nat.le_of_ble_eq_true rfl) dX2_goDeeper_158 ⟨Nat.le_of_ble_eq_true rfl, Nat.le_of_ble_eq_true rfl⟩ (fun H locs hI => ?_)
              refine lv_aload_n hx hb dX2_goDeeper_161 rfl (lv_at hl 0 rfl) ?_
              refine lv_iload_n hx hb dX2_goDeeper_162 rfl (lv_at hl 1 rfl) ?_
              refine lv_iconst (v := 1) hx hb dX2_goDeeper_163 (by decide) ?_
              refine lv_iadd hx hb dX2_goDeeper_164 ?_
              obtain ⟨k44, hf⟩ := chk_b hf
              obtain ⟨x45, hc46, hf⟩ := bnd_b hf
              refine hcall_Vv (ex2 := True) (As := [.int (v1 + (1 : Int32))]) (rest := []) (n := 1) (by rw [(isk_k k44)]; decide) (hC_3 (isk_k k44)) rfl ⟨hx, hb, hml, hown, hts⟩ (hrec h (v1 + (1 : Int32)) x42 x45 hc46) (cwV 1 hts gX2_goDeeper_X2_goDeeper rfl rfl rfl ⟨rfl, nd_X2_goDeeper⟩ ⟨(show (20 + nr * 6) + 1 ≤ (20 + (nr + 1) * 6) by omega), (show 8 + (6 + 11) + (400 + nr * 300) ≤ (400 + (nr + 1) * 300) by omega)⟩) hI (fun h => h.elim) (fun _ => ⟨trivial, trivial⟩) rfl hl.1 (Nat.le_of_ble_eq_true rfl) dX2_goDeeper_165 ⟨Nat.le_of_ble_eq_true rfl, Nat.le_of_ble_eq_true rfl⟩ (fun H locs hI => ?_)
              refine lv_iinc (v := (v5 + 1)) (lv' := [(5, .int (v5 + 1)), (0, .ref h), (1, .int v1), (2, va_rf v2), (3, .int v3), (4, .int v4)]) hx hb dX2_goDeeper_168 hl (k := 5) rfl (ci_ _ (by decide)) (by decide) (by first | rfl | (simp [cat_rf, cat_i, cat_l, cat_r]; done) | (simp [cat_rf, cat_i, cat_l, cat_r]; decide)) (fun ls hl => ?_)
              refine lv_goto (tgt := 106) hx hb dX2_goDeeper_171 (by decide) ?_
              replace hf := cont_b hK2 hf
              exact ih (v5 + 1) x45 H locs ls hI (lv_sub hl [1, 2, 3, 4, 5, 0] rfl) hf
        unfold fh_X2_goDeeper_s77 at hf
        refine lv_iload_n hx hb dX2_goDeeper_77 rfl (lv_at hl 3 rfl) ?_
        refine lv_iconst (v := 1) hx hb dX2_goDeeper_78 (by decide) ?_
        refine lv_icmp_gt (tgt := 180) hx hb dX2_goDeeper_79 (by decide) (fun c8 => ?_) (fun c8 => ?_)
        · replace hf := ifp c8 hf
          replace hf := exit_b hK1 hf
          exact B_180  st H locs ls hI (lv_sub hl [] rfl) hf
        · replace hf := ifn c8 hf
          refine lv_aload_n hx hb dX2_goDeeper_82 rfl (lv_at hl 0 rfl) ?_
          obtain ⟨k9, hf⟩ := chk_b hf
          refine hg_2_1 hx hb hts hin_X2 hown kl_19 hI (isk_k k9) dX2_goDeeper_83 ?_
          refine hq_aload_n hx hb dX2_goDeeper_86 rfl (lv_at hl 2 rfl) ?_
          refine lv_aload_n hx hb dX2_goDeeper_87 rfl (lv_at hl 0 rfl) ?_
          refine hg_2_7 hx hb hts hin_X2 hown kl_31 hI (isk_k k9) dX2_goDeeper_88 ?_
          refine lv_iconst (v := 0) hx hb dX2_goDeeper_91 (by decide) ?_
          refine lv_iload_n hx hb dX2_goDeeper_92 rfl (lv_at hl 3 rfl) ?_
          refine lv_aload_n hx hb dX2_goDeeper_93 rfl (lv_at hl 0 rfl) ?_
          refine hg_2_10 hx hb hts hin_X2 hown kl_48 hI (isk_k k9) dX2_goDeeper_94 ?_
          refine lv_imul hx hb dX2_goDeeper_97 ?_
          obtain ⟨b10, hd11, hf⟩ := bnd_b hf
          obtain ⟨hq12, hk13⟩ := dr_e hd11
          refine W.eq (g2 := F0 m 98 ls [.int (v3 * (gI st 210 h)), .int (0 : Int32), va_rf (gR st 207 h), va_rf v2, .ref b10]) (by rw [hq12]; rfl) ?_
          obtain ⟨x14, hc15, hf⟩ := bnd_b hf
          refine hcall_Vi (ex2 := True) (As := [va_rf v2, va_rf (gR st 207 h), .int (0 : Int32), .int (v3 * (gI st 210 h))]) (rest := []) (n := 4) (by rw [hk13]; decide) (hC_4 hk13) rfl ⟨hx, hb, hml, hown, hts⟩ (ch_X3_planOf l D cy b10 v2 (gR st 207 h) (0 : Int32) (v3 * (gI st 210 h)) st x14 hc15) (cwV 4 hts gX2_goDeeper_X3_planOf rfl rfl rfl ⟨rfl, nd_X3_planOf⟩ ⟨(show 3 + 1 ≤ (20 + (nr + 1) * 6) by omega), (show 8 + (6 + 11) + 92 ≤ (400 + (nr + 1) * 300) by omega)⟩) hI (fun h => h.elim) (fun _ => ⟨trivial, trivial⟩) rfl hl.1 (Nat.le_of_ble_eq_true rfl) dX2_goDeeper_98 ⟨Nat.le_of_ble_eq_true rfl, Nat.le_of_ble_eq_true rfl⟩ (fun H locs hI => ?_)
          refine lv_istore (lv' := [(4, .int x14.2), (0, .ref h), (1, .int v1), (2, va_rf v2), (3, .int v3)]) hx hb dX2_goDeeper_101 hl (by decide) (by first | rfl | (simp [cat_rf, cat_i, cat_l, cat_r]; done) | (simp [cat_rf, cat_i, cat_l, cat_r]; decide)) (fun ls hl => ?_)
          refine lv_iconst (v := -1) hx hb dX2_goDeeper_103 (by decide) ?_
          refine lv_istore (lv' := [(5, .int (-1 : Int32)), (4, .int x14.2), (0, .ref h), (1, .int v1), (2, va_rf v2), (3, .int v3)]) hx hb dX2_goDeeper_104 hl (by decide) (by first | rfl | (simp [cat_rf, cat_i, cat_l, cat_r]; done) | (simp [cat_rf, cat_i, cat_l, cat_r]; decide)) (fun ls hl => ?_)
          exact L_77_106 v3 x14.2 mFuel (-1 : Int32) x14.1 H locs ls hI (lv_sub hl [2, 3, 4, 5, 1, 0] rfl) (asc_b hf)
    have B_75 : ∀ (v1 : Int32) (v2 : Option Nat)  (st : HSt) (H : Heap) (locs : List Loc) (ls : Array Slot), HI D cy s s0 st H locs 0 False True → lv_has ls 6 [(0, .ref h), (1, .int v1), (2, va_rf v2)] → (fh_X2_goDeeper_j75 rec h v1 v2 st).bind K0 = some out → W p l e (headSpec wsX2_goDeeper { frames := (20 + (nr + 1) * 6), cells := 0, slots := 0, locals := (400 + (nr + 1) * 300) }).room s m (([.ref h, .int a1] : List Value).toArray) below meth c H locs 0 0 (MQ below (HQv D cy s0 0 True out) ([.ref h, .int a1] : List Value).toArray s 0 0 (hF s0)) (F0 m 75 ls []) := by
      intro v1 v2 st H locs ls hI hl hf
      unfold fh_X2_goDeeper_j75 at hf
      refine lv_iconst (v := -1) hx hb dX2_goDeeper_75 (by decide) ?_
      refine lv_istore_n (lv' := [(3, .int (-1 : Int32)), (0, .ref h), (1, .int v1), (2, va_rf v2)]) hx hb dX2_goDeeper_76 rfl hl (by decide) (by first | rfl | (simp [cat_rf, cat_i, cat_l, cat_r]; done) | (simp [cat_rf, cat_i, cat_l, cat_r]; decide)) (fun ls hl => ?_)
      exact L_77 v1 v2 mFuel (-1 : Int32) st H locs ls hI (lv_sub hl [1, 2, 3, 0] rfl) (asc_b hf)
    have L_33 : ∀ (v1 : Int32) (v2 : Option Nat) (n : Nat) (v3 : Int32) (st : HSt) (H : Heap) (locs : List Loc) (ls : Array Slot), HI D cy s s0 st H locs 0 False True → lv_has ls 6 [(0, .ref h), (1, .int v1), (2, va_rf v2), (3, .int v3)] → (iter (fun x : (Int32 × HSt) => fh_X2_goDeeper_s33 rec h v1 v2 x.1 x.2) n (v3, st)).bind (fun x => ((Sum.elim (fun o : HSt => (some o : Option (HSt))) (fun x : (Int32 × HSt) => fh_X2_goDeeper_j75 rec h v1 v2 x.2)) x).bind K0) = some out → W p l e (headSpec wsX2_goDeeper { frames := (20 + (nr + 1) * 6), cells := 0, slots := 0, locals := (400 + (nr + 1) * 300) }).room s m (([.ref h, .int a1] : List Value).toArray) below meth c H locs 0 0 (MQ below (HQv D cy s0 0 True out) ([.ref h, .int a1] : List Value).toArray s 0 0 (hF s0)) (F0 m 33 ls []) := by
      intro v1 v2 n
      induction n with
      | zero => intro v3 st H locs ls hI hl hf; exact (iter_0 hf).elim
      | succ n ih =>
        intro v3 st H locs ls hI hl hf
        obtain ⟨K1, hK1, hf⟩ := iter_e hf
        replace hf : (fh_X2_goDeeper_s33 rec h v1 v2 v3 st).bind K1 = some out := hf
        unfold fh_X2_goDeeper_s33 at hf
        refine lv_iload_n hx hb dX2_goDeeper_33 rfl (lv_at hl 3 rfl) ?_
        refine lv_iconst (v := 1) hx hb dX2_goDeeper_34 (by decide) ?_
        refine lv_icmp_gt (tgt := 75) hx hb dX2_goDeeper_35 (by decide) (fun c47 => ?_) (fun c47 => ?_)
        · replace hf := ifp c47 hf
          replace hf := exit_b hK1 hf
          exact B_75 v1 v2 st H locs ls hI (lv_sub hl [0, 1, 2] rfl) hf
        · replace hf := ifn c47 hf
          refine lv_aload_n hx hb dX2_goDeeper_38 rfl (lv_at hl 0 rfl) ?_
          obtain ⟨k48, hf⟩ := chk_b hf
          refine hg_2_4 hx hb hts hin_X2 hown kl_13 hI (isk_k k48) dX2_goDeeper_39 ?_
          refine lv_iconst (v := 3) hx hb dX2_goDeeper_42 (by decide) ?_
          refine lv_iload_n hx hb dX2_goDeeper_43 rfl (lv_at hl 1 rfl) ?_
          refine lv_imul hx hb dX2_goDeeper_44 ?_
          refine lv_iconst (v := 1) hx hb dX2_goDeeper_45 (by decide) ?_
          refine lv_iadd hx hb dX2_goDeeper_46 ?_
          refine lv_iload_n hx hb dX2_goDeeper_47 rfl (lv_at hl 3 rfl) ?_
          refine lv_iadd hx hb dX2_goDeeper_48 ?_
          refine lv_aload_n hx hb dX2_goDeeper_49 rfl (lv_at hl 0 rfl) ?_
          refine hg_2_1 hx hb hts hin_X2 hown kl_19 hI (isk_k k48) dX2_goDeeper_50 ?_
          refine hq_aload_n hx hb dX2_goDeeper_53 rfl (lv_at hl 2 rfl) ?_
          refine lv_aload_n hx hb dX2_goDeeper_54 rfl (lv_at hl 0 rfl) ?_
          refine hg_2_8 hx hb hts hin_X2 hown kl_35 hI (isk_k k48) dX2_goDeeper_55 ?_
          refine lv_iconst (v := 1) hx hb dX2_goDeeper_58 (by decide) ?_
          refine lv_iload_n hx hb dX2_goDeeper_59 rfl (lv_at hl 3 rfl) ?_
          refine lv_aload_n hx hb dX2_goDeeper_60 rfl (lv_at hl 0 rfl) ?_
          refine hg_2_10 hx hb hts hin_X2 hown kl_48 hI (isk_k k48) dX2_goDeeper_61 ?_
          refine lv_imul hx hb dX2_goDeeper_64 ?_
          obtain ⟨b49, hd50, hf⟩ := bnd_b hf
          obtain ⟨hq51, hk52⟩ := dr_e hd50
          refine W.eq (g2 := F0 m 65 ls [.int (v3 * (gI st 210 h)), .int (1 : Int32), va_rf (gR st 208 h), va_rf v2, .ref b49, .int ((((3 : Int32) * v1) + (1 : Int32)) + v3), va_rf (gR st 204 h)]) (by rw [hq51]; rfl) ?_
          obtain ⟨x53, hc54, hf⟩ := bnd_b hf
          refine hcall_Vi (ex2 := True) (As := [va_rf v2, va_rf (gR st 208 h), .int (1 : Int32), .int (v3 * (gI st 210 h))]) (rest := [.int ((((3 : Int32) * v1) + (1 : Int32)) + v3), va_rf (gR st 204 h)]) (n := 4) (by rw [hk52]; decide) (hC_4 hk52) rfl ⟨hx, hb, hml, hown, hts⟩ (ch_X3_planOf l D cy b49 v2 (gR st 208 h) (1 : Int32) (v3 * (gI st 210 h)) st x53 hc54) (cwV 4 hts gX2_goDeeper_X3_planOf rfl rfl rfl ⟨rfl, nd_X3_planOf⟩ ⟨(show 3 + 1 ≤ (20 + (nr + 1) * 6) by omega), (show 8 + (6 + 11) + 92 ≤ (400 + (nr + 1) * 300) by omega)⟩) hI (fun h => h.elim) (fun _ => ⟨trivial, trivial⟩) rfl hl.1 (by simp [cat_rf, cat_i, cat_l, cat_r]) dX2_goDeeper_65 ⟨Nat.le_of_ble_eq_true rfl, Nat.le_of_ble_eq_true rfl⟩ (fun H locs hI => ?_)
          obtain ⟨b55, hd56, hf⟩ := bnd_b hf
          obtain ⟨hq57, hk58⟩ := dr_e hd56
          refine W.eq (g2 := F0 m 68 ls [.int x53.2, .int ((((3 : Int32) * v1) + (1 : Int32)) + v3), .ref b55]) (by rw [hq57]; rfl) ?_
          obtain ⟨k59, hf⟩ := chk_b hf
          refine hs_I hx hb hI hk58 k59 dX2_goDeeper_68 (fun H locs hI => ?_)
          obtain ⟨x60, hx60, hf⟩ := bnd_b hf
          replace hx60 := Option.some.inj hx60
          rw [hx60] at hI
          have hk61 : gK x60 b55 = 22 := by rw [← hx60]; exact (gK_sA.trans hk58)
          refine lv_iinc (v := (v3 + 1)) (lv' := [(3, .int (v3 + 1)), (0, .ref h), (1, .int v1), (2, va_rf v2)]) hx hb dX2_goDeeper_69 hl (k := 3) rfl (ci_ _ (by decide)) (by decide) (by first | rfl | (simp [cat_rf, cat_i, cat_l, cat_r]; done) | (simp [cat_rf, cat_i, cat_l, cat_r]; decide)) (fun ls hl => ?_)
          refine lv_goto (tgt := 33) hx hb dX2_goDeeper_72 (by decide) ?_
          replace hf := cont_b hK1 hf
          exact ih (v3 + 1) x60 H locs ls hI (lv_sub hl [1, 2, 3, 0] rfl) hf
    unfold fh_X2_goDeeperF at hf
    refine lv_aload_n hx hb dX2_goDeeper_0 rfl (lv_at hl 0 rfl) ?_
    obtain ⟨k1, hf⟩ := chk_b hf
    refine hg_2_2 hx hb hts hin_X2 hown kl_23 hI (isk_k k1) dX2_goDeeper_1 ?_
    refine lv_iload_n hx hb dX2_goDeeper_4 rfl (lv_at hl 1 rfl) ?_
    obtain ⟨b2, hd3, hf⟩ := bnd_b hf
    obtain ⟨hq4, hk5⟩ := dr_e hd3
    refine W.eq (g2 := F0 m 5 ls [.int a1, .ref b2]) (by rw [hq4]; rfl) ?_
    obtain ⟨k6, hf⟩ := chk_b hf
    refine hl_Span hx hb hI hk5 k6 dX2_goDeeper_5 ?_
    refine hq_astore_n (lv' := [(2, va_rf (gQ s0 b2 a1.toNatClampNeg)), (0, .ref h), (1, .int a1)]) hx hb dX2_goDeeper_6 rfl hl (by decide) (by first | rfl | (simp [cat_rf, cat_i, cat_l, cat_r]; done) | (simp [cat_rf, cat_i, cat_l, cat_r]; decide)) (fun ls hl => ?_)
    refine lv_iload_n hx hb dX2_goDeeper_7 rfl (lv_at hl 2 rfl) ?_
    refine lv_aload_n hx hb dX2_goDeeper_8 rfl (lv_at hl 1 rfl) ?_
    refine hg_2_9 hx hb hts hin_X2 hown kl_44 hI (isk_k k1) dX2_goDeeper_9 ?_
    refine lv_icmp_lt (tgt := 31) hx hb dX2_goDeeper_12 (by decide) (fun c7 => ?_) (fun c7 => ?_)
    · replace hf := ifp c7 hf
      refine lv_iconst (v := -1) hx hb dX2_goDeeper_31 (by decide) ?_
      refine lv_istore_n (lv' := [(3, .int (-1 : Int32)), (2, va_rf (gQ s0 b2 a1.toNatClampNeg)), (0, .ref h), (1, .int a1)]) hx hb dX2_goDeeper_32 rfl hl (by decide) (by first | rfl | (simp [cat_rf, cat_i, cat_l, cat_r]; done) | (simp [cat_rf, cat_i, cat_l, cat_r]; decide)) (fun ls hl => ?_)
      exact L_33 a1 (gQ s0 b2 a1.toNatClampNeg) mFuel (-1 : Int32) s0 s.heap [] ls hI (lv_sub hl [2, 3, 1, 0] rfl) (asc_b hf)
    · replace hf := ifn c7 hf
      refine lv_aload_n hx hb dX2_goDeeper_15 rfl (lv_at hl 1 rfl) ?_
      refine hg_2_6 hx hb hts hin_X2 hown kl_27 hI (isk_k k1) dX2_goDeeper_16 ?_
      refine hq_aload_n hx hb dX2_goDeeper_19 rfl (lv_at hl 0 rfl) ?_
      obtain ⟨b62, hd63, hf⟩ := bnd_b hf
      obtain ⟨hq64, hk65⟩ := dr_e hd63
      refine W.eq (g2 := F0 m 20 ls [va_rf (gQ s0 b2 a1.toNatClampNeg), .ref b62]) (by rw [hq64]; rfl) ?_
      obtain ⟨x66, hc67, hf⟩ := bnd_b hf
      refine hcall_Vi (ex2 := True) (As := [va_rf (gQ s0 b2 a1.toNatClampNeg)]) (rest := []) (n := 1) (by rw [hk65]; decide) (hC_9 hk65) rfl ⟨hx, hb, hml, hown, hts⟩ (ch_X8_areRuinsOf l D cy b62 (gQ s0 b2 a1.toNatClampNeg) s0 x66 hc67) (cwV 1 hts gX2_goDeeper_X8_areRuinsOf rfl rfl rfl ⟨rfl, nd_X8_areRuinsOf⟩ ⟨(show 2 + 1 ≤ (20 + (nr + 1) * 6) by omega), (show 8 + (4 + 11) + 45 ≤ (400 + (nr + 1) * 300) by omega)⟩) hI (fun h => h.elim) (fun _ => ⟨trivial, trivial⟩) rfl hl.1 (Nat.le_of_ble_eq_true rfl) dX2_goDeeper_20 ⟨Nat.le_of_ble_eq_true rfl, Nat.le_of_ble_eq_true rfl⟩ (fun H locs hI => ?_)
      refine lv_if_eq (tgt := 30) hx hb dX2_goDeeper_23 (by decide) (fun c68 => ?_) (fun c68 => ?_)
      · replace hf := ifp c68 hf
        exact hret_v hx hb hr hlocks hI (by decide) (by decide) (fun _ => ⟨trivial, rfl⟩) (ret_e hK0 hf) dX2_goDeeper_30
      · replace hf := ifn c68 hf
        refine lv_aload_n hx hb dX2_goDeeper_26 rfl (lv_at hl 1 rfl) ?_
        obtain ⟨k69, hf⟩ := chk_b hf
        obtain ⟨x70, hc71, hf⟩ := bnd_b hf
        refine hcall_Vv (ex2 := True) (As := []) (rest := []) (n := 0) (by rw [(isk_k k69)]; decide) (hC_3 (isk_k k69)) rfl ⟨hx, hb, hml, hown, hts⟩ (ch_X2_tally l D cy h x66.1 x70 hc71) (cwV 0 hts gX2_goDeeper_X2_tally rfl rfl rfl ⟨rfl, nd_X2_tally⟩ ⟨(show 0 + 1 ≤ (20 + (nr + 1) * 6) by omega), (show 8 + (2 + 11) + 0 ≤ (400 + (nr + 1) * 300) by omega)⟩) hI (fun h => h.elim) (fun _ => ⟨trivial, trivial⟩) rfl hl.1 (Nat.le_of_ble_eq_true rfl) dX2_goDeeper_27 ⟨Nat.le_of_ble_eq_true rfl, Nat.le_of_ble_eq_true rfl⟩ (fun H locs hI => ?_)
        exact hret_v hx hb hr hlocks hI (by decide) (by decide) (fun _ => ⟨trivial, rfl⟩) (ret_e hK0 hf) dX2_goDeeper_30

theorem nd_X2_hold : yX2_hold.cls ≠ "java/lang/invoke/MethodHandle" ∧ yX2_hold.cls ≠ "java/lang/invoke/VarHandle" ∧ (parseMethodDescriptor yX2_hold.desc).map (fun d => d.parameters.length) = some 5 := by decide +kernel
set_option maxHeartbeats 4000000 in
set_option maxRecDepth 100000 in
theorem ch_X2_hold (l : Launch) (D : va_G) (cy : Nat → ClassId) (h : Nat) (a1 : Option Nat) (a2 : Option Nat) (a3 : Option Nat) (a4 : Int32) (a5 : Int32) (s0 : HSt) (out : HSt) (hf : fh_X2_hold h a1 a2 a3 a4 a5 s0 = some out) : CHv l D cy yX2_hold wsX2_hold { frames := 57, cells := 0, slots := 0, locals := 2225 } 0 0 False True [.ref h, va_rf a1, va_rf a2, va_rf a3, .int a4, .int a5] s0 out := by
  refine Met.ofW (cc := cX2_hold) (maxL := 6) (ret := none) (by decide) rfl ?_
  intro p e s m args below meth c s₁ B hml hv
  obtain ⟨rfl, hP, hK, hD0, hkx, hsz, hal⟩ := hv
  have hx := B.exec
  have hb := B.bytes
  have hr := B.returns
  have hts := atoms_spec (ws := wsX2_hold) B.pre
  have hown : s.vm.findClass RX2 = some m.cls := findClass_of_methodNamed B.named
  have hlocks := B.notSynchronized
  have hI : HI D cy s s0 s0 s.heap [] 0 False True := ⟨hK, hP, hD0.weaken (fun k q hk _ => Or.inl (pl_mem hk)), va_S.rf, hsz.1, hkx, ⟨hsz, hal⟩, fun _ => rfl, Nat.le_refl _⟩
  have hin_X2 : ∀ w ∈ u_ws RX2 TX2 11, w ∈ wsX2_hold := fun w hw => List.mem_cons_of_mem _ (List.mem_append_left _ (List.mem_append_left _ (List.mem_append_left _ (List.mem_append_left _ (List.mem_append_left _ (List.mem_append_right _ hw))))))
  have hin_X8 : ∀ w ∈ u_ws RX8 TX8 5, w ∈ wsX2_hold := fun w hw => List.mem_cons_of_mem _ (List.mem_append_left _ (List.mem_append_left _ (List.mem_append_left _ (List.mem_append_left _ (List.mem_append_right _ hw)))))
  have kl_16 : Cond.fieldLink RX2 16 "HalfBridge$Inquest" "erredRows" "[I" ∈ wsX2_hold := by decide +kernel
  have kl_23 : Cond.fieldLink RX2 23 "HalfBridge$Inquest" "spares" "[LHalfBridge$Span;" ∈ wsX2_hold := by decide +kernel
  have kl_27 : Cond.fieldLink RX2 27 "HalfBridge$Inquest" "told" "LHalfBridge$Site;" ∈ wsX2_hold := by decide +kernel
  have kl_31 : Cond.fieldLink RX2 31 "HalfBridge$Inquest" "left" "LHalfBridge$Rule;" ∈ wsX2_hold := by decide +kernel
  have kl_35 : Cond.fieldLink RX2 35 "HalfBridge$Inquest" "right" "LHalfBridge$Rule;" ∈ wsX2_hold := by decide +kernel
  have kl_44 : Cond.fieldLink RX2 44 "HalfBridge$Inquest" "days" "I" ∈ wsX2_hold := by decide +kernel
  have kl_48 : Cond.fieldLink RX2 48 "HalfBridge$Inquest" "size" "I" ∈ wsX2_hold := by decide +kernel
  have kl_51 : Cond.fieldLink RX2 51 "HalfBridge$Inquest" "rows" "I" ∈ wsX2_hold := by decide +kernel
  have kl_60 : Cond.fieldLink RX2 60 "HalfBridge$Site" "span" "LHalfBridge$Span;" ∈ wsX2_hold := by decide +kernel
  have hl := lv_entry ([.ref h, va_rf a1, va_rf a2, va_rf a3, .int a4, .int a5]) (n := 6) (by simp [lg_sl, cat_rf, cat_i, cat_l, cat_r])
  rw [lg_entry_eq]
  generalize (lg_sl ([.ref h, va_rf a1, va_rf a2, va_rf a3, .int a4, .int a5]) ++ List.replicate (6 - (lg_sl ([.ref h, va_rf a1, va_rf a2, va_rf a3, .int a4, .int a5])).length) Slot.unset).toArray = ls at hl ⊢
  have hl : lv_has ls 6 [(0, .ref h), (1, va_rf a1), (2, va_rf a2), (3, va_rf a3), (4, .int a4), (5, .int a5)] := (by simpa [lv_args, cat_rf, cat_i, cat_l, cat_r] using hl)
  obtain ⟨K0, hK0, hf⟩ := top_e hf
  unfold fh_X2_hold at hf
  refine lv_aload_n hx hb dX2_hold_0 rfl (lv_at hl 0 rfl) ?_
  refine hq_aload_n hx hb dX2_hold_1 rfl (lv_at hl 1 rfl) ?_
  obtain ⟨k1, hf⟩ := chk_b hf
  refine hp_2_6 (x := a1) hx hb hts hin_X2 hown kl_27 hI (isk_k k1) dX2_hold_2 (fun H locs hI => ?_)
  refine lv_aload_n hx hb dX2_hold_5 rfl (lv_at hl 0 rfl) ?_
  refine hq_aload_n hx hb dX2_hold_6 rfl (lv_at hl 2 rfl) ?_
  refine hp_2_7 (x := a2) hx hb hts hin_X2 hown kl_31 hI (gK_sR.trans (isk_k k1)) dX2_hold_7 (fun H locs hI => ?_)
  refine lv_aload_n hx hb dX2_hold_10 rfl (lv_at hl 0 rfl) ?_
  refine hq_aload_n hx hb dX2_hold_11 rfl (lv_at hl 3 rfl) ?_
  refine hp_2_8 (x := a3) hx hb hts hin_X2 hown kl_35 hI (gK_sR.trans (gK_sR.trans (isk_k k1))) dX2_hold_12 (fun H locs hI => ?_)
  refine lv_aload_n hx hb dX2_hold_15 rfl (lv_at hl 0 rfl) ?_
  refine lv_iload hx hb dX2_hold_16 (lv_at hl 4 rfl) ?_
  refine lv_iconst (v := 4) hx hb dX2_hold_18 (by decide) ?_
  refine va_mmin hx hb (hml.trans hl.1.symm) hown (hts (.methodLink RX2 38 Lib.Math.min.name) (by decide +kernel)) (hts (.static Lib.Math.min.name) (by decide +kernel)) (hts (.initialized "java/lang/Math") (by decide +kernel)) (hts (.code Lib.Math.min.name Lib.Math.min.code 2 (some .int)) (by decide +kernel)) (Nat.le_of_ble_eq_true rfl) (Nat.le_of_ble_eq_true rfl) (Nat.le_of_ble_eq_true rfl) (Nat.le_of_ble_eq_true rfl) dX2_hold_19 ?_
  refine hp_2_9 hx hb hts hin_X2 hown kl_44 hI (gK_sR.trans (gK_sR.trans (gK_sR.trans (isk_k k1)))) dX2_hold_22 (fun H locs hI => ?_)
  obtain ⟨x2, hx2, hf⟩ := bnd_b hf
  replace hx2 := Option.some.inj hx2
  rw [hx2] at hI
  have hk3 : gK x2 h = 3 := by rw [← hx2]; exact (gK_sI.trans (gK_sR.trans (gK_sR.trans (gK_sR.trans (isk_k k1)))))
  refine lv_aload_n hx hb dX2_hold_25 rfl (lv_at hl 0 rfl) ?_
  refine lv_iload hx hb dX2_hold_26 (lv_at hl 5 rfl) ?_
  refine hp_2_10 hx hb hts hin_X2 hown kl_48 hI hk3 dX2_hold_28 (fun H locs hI => ?_)
  refine lv_aload_n hx hb dX2_hold_31 rfl (lv_at hl 0 rfl) ?_
  refine lv_iconst (v := 0) hx hb dX2_hold_32 (by decide) ?_
  refine hp_2_0 hx hb hts hin_X2 hown kl_51 hI (gK_sI.trans hk3) dX2_hold_33 (fun H locs hI => ?_)
  refine lv_aload_n hx hb dX2_hold_36 rfl (lv_at hl 0 rfl) ?_
  refine hg_2_5 hx hb hts hin_X2 hown kl_16 hI (gK_sI.trans (gK_sI.trans hk3)) dX2_hold_37 ?_
  refine lv_iconst (v := 0) hx hb dX2_hold_40 (by decide) ?_
  obtain ⟨x4, hc5, hf⟩ := bnd_b hf
  refine hcall_Sv (ex2 := True) (As := [va_rf (gR (sI (sI x2 210 h a5) 200 h (0 : Int32)) 205 h), .int (0 : Int32)]) (rest := []) (n := 2) ⟨hx, hb, hml, hown, hts⟩ (ch_J7_fill_53178 l D cy (gR (sI (sI x2 210 h a5) 200 h (0 : Int32)) 205 h) (0 : Int32) (sI (sI x2 210 h a5) 200 h (0 : Int32)) x4 hc5) (va_cwS 2 hts gX2_hold_J7_fill_53178 rfl rfl rfl nd_J7_fill_53178 ⟨Nat.le_of_ble_eq_true rfl, Nat.le_of_ble_eq_true rfl⟩) hI (fun h => h.elim) (fun _ => ⟨trivial, trivial⟩) rfl hl.1 (Nat.le_of_ble_eq_true rfl) dX2_hold_41 ⟨Nat.le_of_ble_eq_true rfl, Nat.le_of_ble_eq_true rfl⟩ (fun H locs hI => ?_)
  refine lv_aload_n hx hb dX2_hold_44 rfl (lv_at hl 0 rfl) ?_
  obtain ⟨k6, hf⟩ := chk_b hf
  refine hg_2_2 hx hb hts hin_X2 hown kl_23 hI (isk_k k6) dX2_hold_45 ?_
  refine lv_iconst (v := 0) hx hb dX2_hold_48 (by decide) ?_
  obtain ⟨b7, hd8, hf⟩ := bnd_b hf
  obtain ⟨hq9, hk10⟩ := dr_e hd8
  refine W.eq (g2 := F0 m 49 ls [.int (0 : Int32), .ref b7]) (by rw [hq9]; rfl) ?_
  obtain ⟨k11, hf⟩ := chk_b hf
  refine hl_Span hx hb hI hk10 k11 dX2_hold_49 ?_
  refine hq_aload_n hx hb dX2_hold_50 rfl (lv_at hl 1 rfl) ?_
  obtain ⟨b12, hd13, hf⟩ := bnd_b hf
  obtain ⟨hq14, hk15⟩ := dr_e hd13
  refine W.eq (g2 := F0 m 51 ls [.ref b12, va_rf (gQ x4 b7 (0 : Int32).toNatClampNeg)]) (by rw [hq14]; rfl) ?_
  refine hg_8_0 hx hb hts hin_X8 hown kl_60 hI hk15 dX2_hold_51 ?_
  obtain ⟨b16, hd17, hf⟩ := bnd_b hf
  obtain ⟨hq18, hk19⟩ := dr_e hd17
  refine W.eq (g2 := F0 m 54 ls [va_rf (gR x4 800 b12), .ref b16]) (by rw [hq18]; rfl) ?_
  obtain ⟨x20, hc21, hf⟩ := bnd_b hf
  refine hcall_Vv (ex2 := True) (As := [va_rf (gR x4 800 b12)]) (rest := []) (n := 1) (by rw [hk19]; decide) (hC_10 hk19) rfl ⟨hx, hb, hml, hown, hts⟩ (ch_X9_become l D cy b16 (gR x4 800 b12) x4 x20 hc21) (cwV 1 hts gX2_hold_X9_become rfl rfl rfl ⟨rfl, nd_X9_become⟩ ⟨Nat.le_of_ble_eq_true rfl, Nat.le_of_ble_eq_true rfl⟩) hI (fun h => h.elim) (fun _ => ⟨trivial, trivial⟩) rfl hl.1 (Nat.le_of_ble_eq_true rfl) dX2_hold_54 ⟨Nat.le_of_ble_eq_true rfl, Nat.le_of_ble_eq_true rfl⟩ (fun H locs hI => ?_)
  refine lv_aload_n hx hb dX2_hold_57 rfl (lv_at hl 0 rfl) ?_
  refine lv_iconst (v := 0) hx hb dX2_hold_58 (by decide) ?_
  obtain ⟨k22, hf⟩ := chk_b hf
  obtain ⟨x23, hc24, hf⟩ := bnd_b hf
  refine hcall_Vv (ex2 := True) (As := [.int (0 : Int32)]) (rest := []) (n := 1) (by rw [(isk_k k22)]; decide) (hC_3 (isk_k k22)) rfl ⟨hx, hb, hml, hown, hts⟩ (ch_X2_goDeeper l D cy 6 h (0 : Int32) x20 x23 hc24) (cwV 1 hts gX2_hold_X2_goDeeper rfl rfl rfl ⟨rfl, nd_X2_goDeeper⟩ ⟨Nat.le_of_ble_eq_true rfl, Nat.le_of_ble_eq_true rfl⟩) hI (fun h => h.elim) (fun _ => ⟨trivial, trivial⟩) rfl hl.1 (Nat.le_of_ble_eq_true rfl) dX2_hold_59 ⟨Nat.le_of_ble_eq_true rfl, Nat.le_of_ble_eq_true rfl⟩ (fun H locs hI => ?_)
  exact hret_v hx hb hr hlocks hI (by decide) (by decide) (fun _ => ⟨trivial, rfl⟩) (ret_e hK0 hf) dX2_hold_62

theorem nd_X2_verdict : yX2_verdict.cls ≠ "java/lang/invoke/MethodHandle" ∧ yX2_verdict.cls ≠ "java/lang/invoke/VarHandle" ∧ (parseMethodDescriptor yX2_verdict.desc).map (fun d => d.parameters.length) = some 1 := by decide +kernel
set_option maxHeartbeats 4000000 in
set_option maxRecDepth 100000 in
theorem ch_X2_verdict (l : Launch) (D : va_G) (cy : Nat → ClassId) (h : Nat) (a1 : Int32) (s0 : HSt) (out : HSt × Int32) (hf : fh_X2_verdict h a1 s0 = some out) : CHi l D cy yX2_verdict wsX2_verdict { frames := 0, cells := 0, slots := 0, locals := 0 } 0 0 False True [.ref h, .int a1] s0 out := by
  refine Met.ofW (cc := cX2_verdict) (maxL := 3) (ret := (some .int)) (by decide) rfl ?_
  intro p e s m args below meth c s₁ B hml hv
  obtain ⟨rfl, hP, hK, hD0, hkx, hsz, hal⟩ := hv
  have hx := B.exec
  have hb := B.bytes
  have hr := B.returns
  have hts := atoms_spec (ws := wsX2_verdict) B.pre
  have hown : s.vm.findClass RX2 = some m.cls := findClass_of_methodNamed B.named
  have hlocks := B.notSynchronized
  have hI : HI D cy s s0 s0 s.heap [] 0 False True := ⟨hK, hP, hD0.weaken (fun k q hk _ => Or.inl (pl_mem hk)), va_S.rf, hsz.1, hkx, ⟨hsz, hal⟩, fun _ => rfl, Nat.le_refl _⟩
  have hin_X2 : ∀ w ∈ u_ws RX2 TX2 11, w ∈ wsX2_verdict := fun w hw => List.mem_cons_of_mem _ (List.mem_append_right _ hw)
  have kl_16 : Cond.fieldLink RX2 16 "HalfBridge$Inquest" "erredRows" "[I" ∈ wsX2_verdict := by decide +kernel
  have kl_51 : Cond.fieldLink RX2 51 "HalfBridge$Inquest" "rows" "I" ∈ wsX2_verdict := by decide +kernel
  have hl := lv_entry ([.ref h, .int a1]) (n := 3) (Nat.le_of_ble_eq_true rfl)
  rw [lg_entry_eq]
  generalize (lg_sl ([.ref h, .int a1]) ++ List.replicate (3 - (lg_sl ([.ref h, .int a1])).length) Slot.unset).toArray = ls at hl ⊢
  have hl : lv_has ls 3 [(0, .ref h), (1, .int a1)] := hl
  obtain ⟨K0, hK0, hf⟩ := top_e hf
  have B_23_1 : ∀  (t0 : Int32) (st : HSt) (H : Heap) (locs : List Loc) (ls : Array Slot), HI D cy s s0 st H locs 0 False True → lv_has ls 3 [(0, .ref h)] → (fh_X2_verdict_j23 h t0 st).bind K0 = some out → W p l e (headSpec wsX2_verdict { frames := 0, cells := 0, slots := 0, locals := 0 }).room s m (([.ref h, .int a1] : List Value).toArray) below meth c H locs 0 0 (MQ below (HQi D cy s0 0 True out) ([.ref h, .int a1] : List Value).toArray s 0 0 (hF s0)) (F0 m 23 ls [.int t0]) := by
    intro t0 st H locs ls hI hl hf
    unfold fh_X2_verdict_j23 at hf
    refine lv_istore_n (lv' := [(2, .int t0), (0, .ref h)]) hx hb dX2_verdict_23 rfl hl (by decide) rfl (fun ls hl => ?_)
    refine lv_iload_n hx hb dX2_verdict_24 rfl (lv_at hl 0 rfl) ?_
    refine lv_if_ne (tgt := 30) hx hb dX2_verdict_25 (by decide) (fun c2 => ?_) (fun c2 => ?_)
    · replace hf := ifn c2 hf
      refine lv_iload_n hx hb dX2_verdict_30 rfl (lv_at hl 0 rfl) ?_
      refine lv_aload_n hx hb dX2_verdict_31 rfl (lv_at hl 1 rfl) ?_
      obtain ⟨k3, hf⟩ := chk_b hf
      refine hg_2_0 hx hb hts hin_X2 hown kl_51 hI (isk_k k3) dX2_verdict_32 ?_
      refine lv_icmp_ne (tgt := 42) hx hb dX2_verdict_35 (by decide) (fun c4 => ?_) (fun c4 => ?_)
      · replace hf := ifn c4 hf
        refine lv_iconst (v := 1) hx hb dX2_verdict_42 (by decide) ?_
        exact hret_i hx hb hr hlocks hI (by decide) (by decide) (fun _ => ⟨trivial, rfl⟩) (ret_e hK0 hf) dX2_verdict_43
      · replace hf := ifp c4 hf
        refine lv_iconst (v := 2) hx hb dX2_verdict_38 (by decide) ?_
        refine lv_goto (tgt := 43) hx hb dX2_verdict_39 (by decide) ?_
        exact hret_i hx hb hr hlocks hI (by decide) (by decide) (fun _ => ⟨trivial, rfl⟩) (ret_e hK0 hf) dX2_verdict_43
    · replace hf := ifp c2 hf
      refine lv_iconst (v := 0) hx hb dX2_verdict_28 (by decide) ?_
      exact hret_i hx hb hr hlocks hI (by decide) (by decide) (fun _ => ⟨trivial, rfl⟩) (ret_e hK0 hf) dX2_verdict_29
  have B_22 : ∀   (st : HSt) (H : Heap) (locs : List Loc) (ls : Array Slot), HI D cy s s0 st H locs 0 False True → lv_has ls 3 [(0, .ref h)] → (fh_X2_verdict_j22 h st).bind K0 = some out → W p l e (headSpec wsX2_verdict { frames := 0, cells := 0, slots := 0, locals := 0 }).room s m (([.ref h, .int a1] : List Value).toArray) below meth c H locs 0 0 (MQ below (HQi D cy s0 0 True out) ([.ref h, .int a1] : List Value).toArray s 0 0 (hF s0)) (F0 m 22 ls []) := by
    intro st H locs ls hI hl hf
    unfold fh_X2_verdict_j22 at hf
    refine lv_iconst (v := 0) hx hb dX2_verdict_22 (by decide) ?_
    exact B_23_1 (0 : Int32) st H locs ls hI (lv_sub hl [0] rfl) hf
  unfold fh_X2_verdict at hf
  refine lv_iload_n hx hb dX2_verdict_0 rfl (lv_at hl 1 rfl) ?_
  refine lv_if_lt (tgt := 22) hx hb dX2_verdict_1 (by decide) (fun c1 => ?_) (fun c1 => ?_)
  · replace hf := ifp c1 hf
    exact B_22  s0 s.heap [] ls hI (lv_sub hl [0] rfl) hf
  · replace hf := ifn c1 hf
    refine lv_iload_n hx hb dX2_verdict_4 rfl (lv_at hl 1 rfl) ?_
    refine lv_aload_n hx hb dX2_verdict_5 rfl (lv_at hl 0 rfl) ?_
    obtain ⟨k5, hf⟩ := chk_b hf
    refine hg_2_5 hx hb hts hin_X2 hown kl_16 hI (isk_k k5) dX2_verdict_6 ?_
    obtain ⟨b6, hd7, hf⟩ := bnd_b hf
    obtain ⟨hq8, hk9⟩ := dr_e hd7
    refine W.eq (g2 := F0 m 9 ls [.ref b6, .int a1]) (by rw [hq8]; rfl) ?_
    refine ha_22 hx hb hI hk9 dX2_verdict_9 ?_
    refine lv_icmp_ge (tgt := 22) hx hb dX2_verdict_10 (by decide) (fun c10 => ?_) (fun c10 => ?_)
    · replace hf := ifp c10 hf
      exact B_22  s0 s.heap [] ls hI (lv_sub hl [0] rfl) hf
    · replace hf := ifn c10 hf
      refine lv_aload_n hx hb dX2_verdict_13 rfl (lv_at hl 0 rfl) ?_
      refine hg_2_5 hx hb hts hin_X2 hown kl_16 hI (isk_k k5) dX2_verdict_14 ?_
      refine lv_iload_n hx hb dX2_verdict_17 rfl (lv_at hl 1 rfl) ?_
      refine W.eq (g2 := F0 m 18 ls [.int a1, .ref b6]) (by rw [hq8]; rfl) ?_
      obtain ⟨k11, hf⟩ := chk_b hf
      refine hl_I hx hb hI hk9 k11 dX2_verdict_18 ?_
      refine lv_goto (tgt := 23) hx hb dX2_verdict_19 (by decide) ?_
      exact B_23_1 (gA s0 b6 a1.toNatClampNeg) s0 s.heap [] ls hI (lv_sub hl [0] rfl) hf
