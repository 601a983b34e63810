noncomputable def fh_X10_runEnd_j78 (v0 : Option Nat) (v2 : Int32) (v3 : Int32)  (st : HSt) : Option (HSt × Int32) :=
  (if v2 ≤ v3 then some (st, v3) else (dr st v0 21).bind fun b18 => chk (inb v3 (gL st b18)) ((if (gA st b18 v3.toNatClampNeg) = (61 : Int32) then some (st, (v3 + 1)) else some (st, v3))))
noncomputable def fh_X10_runEnd_j94 (v3 : Int32)  (st : HSt) : Option (HSt × Int32) :=
  some (st, v3)
noncomputable def fh_X10_runEnd_s42 (v0 : Option Nat) (v2 : Int32) (v3 : Int32) (st : HSt) : Option ((HSt × Int32) ⊕ ((Int32 × HSt) ⊕ (Int32 × HSt))) :=
  (if v2 ≤ v3 then some (.inr (.inr (v3, st))) else (dr st v0 21).bind fun b27 => chk (inb v3 (gL st b27)) ((fh_X10_isDigit (gA st b27 v3.toNatClampNeg) st).bind fun x32 => (if x32.2 = 0 then some (.inr (.inr (v3, x32.1))) else some (.inr (.inl ((v3 + 1), x32.1))))))
noncomputable def fh_X10_runEnd_s13 (v0 : Option Nat) (v2 : Int32) (v3 : Int32) (st : HSt) : Option ((HSt × Int32) ⊕ ((Int32 × HSt) ⊕ (Int32 × HSt))) :=
  (if v2 ≤ v3 then some (.inr (.inr (v3, st))) else (dr st v0 21).bind fun b36 => chk (inb v3 (gL st b36)) ((fh_X10_isLetter (gA st b36 v3.toNatClampNeg) st).bind fun x41 => (if x41.2 = 0 then some (.inr (.inr (v3, x41.1))) else some (.inr (.inl ((v3 + 1), x41.1))))))
noncomputable def fh_X10_runEnd (a0 : Option Nat) (a1 : Int32) (a2 : Int32) (s0 : HSt) : Option (HSt × Int32) :=
  (dr s0 a0 21).bind fun b1 => chk (inb a1 (gL s0 b1)) ((fh_X10_isLetter (gA s0 b1 a1.toNatClampNeg) s0).bind fun x6 => (if x6.2 = 0 then chk (isk x6.1 b1 21) (chk (inb a1 (gL x6.1 b1)) ((fh_X10_isDigit (gA x6.1 b1 a1.toNatClampNeg) x6.1).bind fun x11 => (if x11.2 = 0 then chk (isk x11.1 b1 21) (chk (inb a1 (gL x11.1 b1)) ((if (gA x11.1 b1 a1.toNatClampNeg) = (60 : Int32) then fh_X10_runEnd_j78 a0 a2 (a1 + (1 : Int32)) x11.1 else chk (inb a1 (gL x11.1 b1)) ((if (gA x11.1 b1 a1.toNatClampNeg) = (62 : Int32) then fh_X10_runEnd_j78 a0 a2 (a1 + (1 : Int32)) x11.1 else some (x11.1, (a1 + (1 : Int32)))))))) else (iter (fun x : (Int32 × HSt) => fh_X10_runEnd_s42 a0 a2 x.1 x.2) mFuel ((a1 + (1 : Int32)), x11.1)).bind (Sum.elim (fun o : HSt × Int32 => (some o : Option (HSt × Int32))) (fun x : (Int32 × HSt) => fh_X10_runEnd_j94 x.1 x.2))))) else (iter (fun x : (Int32 × HSt) => fh_X10_runEnd_s13 a0 a2 x.1 x.2) mFuel ((a1 + (1 : Int32)), x6.1)).bind (Sum.elim (fun o : HSt × Int32 => (some o : Option (HSt × Int32))) (fun x : (Int32 × HSt) => fh_X10_runEnd_j94 x.1 x.2))))
theorem nd_X10_runEnd : yX10_runEnd.cls ≠ "java/lang/invoke/MethodHandle" ∧ yX10_runEnd.cls ≠ "java/lang/invoke/VarHandle" ∧ (parseMethodDescriptor yX10_runEnd.desc).map (fun d => d.parameters.length) = some 3 := by decide +kernel
set_option maxHeartbeats 4000000 in
set_option maxRecDepth 100000 in
theorem ch_X10_runEnd (l : Launch) (D : va_G) (cy : Nat → ClassId) (a0 : Option Nat) (a1 : Int32) (a2 : Int32) (s0 : HSt) (out : HSt × Int32) (hf : fh_X10_runEnd a0 a1 a2 s0 = some out) : CHi l D cy yX10_runEnd wsX10_runEnd { frames := 1, cells := 0, slots := 0, locals := 20 } 0 0 False True [va_rf a0, .int a1, .int a2] s0 out := by
  refine Met.ofW (cc := cX10_runEnd) (maxL := 4) (ret := (some .int)) (by decide) rfl ?_
  intro p e s m args below meth c s₁ B hml hv
  obtain ⟨rfl, hP, hK, hD0, hkx, hsz, hal⟩ := hv
  have hx := B.exec
  have hb := B.bytes
  have hr := B.returns
  have hts := atoms_spec (ws := wsX10_runEnd) B.pre
  have hown : s.vm.findClass RX10 = some m.cls := findClass_of_methodNamed B.named
  have hlocks := B.notSynchronized
  have hI : HI D cy s s0 s0 s.heap [] 0 False True := ⟨hK, hP, hD0.weaken (fun k q hk _ => Or.inl (pl_mem hk)), va_S.rf, hsz.1, hkx, ⟨hsz, hal⟩, fun _ => rfl, Nat.le_refl _⟩
  have hl := lv_entry ([va_rf a0, .int a1, .int a2]) (n := 4) (by simp [lg_sl, cat_rf, cat_i, cat_l, cat_r])
  rw [lg_entry_eq]
  generalize (lg_sl ([va_rf a0, .int a1, .int a2]) ++ List.replicate (4 - (lg_sl ([va_rf a0, .int a1, .int a2])).length) Slot.unset).toArray = ls at hl ⊢
  have hl : lv_has ls 4 [(0, va_rf a0), (1, .int a1), (2, .int a2)] := (by simpa [lv_args, cat_rf, cat_i, cat_l, cat_r] using hl)
  obtain ⟨K0, hK0, hf⟩ := top_e hf
  have B_78 : ∀ (v0 : Option Nat) (v2 : Int32) (v3 : Int32)  (st : HSt) (H : Heap) (locs : List Loc) (ls : Array Slot), HI D cy s s0 st H locs 0 False True → lv_has ls 4 [(0, va_rf v0), (2, .int v2), (3, .int v3)] → (fh_X10_runEnd_j78 v0 v2 v3 st).bind K0 = some out → W p l e (headSpec wsX10_runEnd { frames := 1, cells := 0, slots := 0, locals := 20 }).room s m (([va_rf a0, .int a1, .int a2] : List Value).toArray) below meth c H locs 0 0 (MQ below (HQi D cy s0 0 True out) ([va_rf a0, .int a1, .int a2] : List Value).toArray s 0 0 (hF s0)) (F0 m 78 ls []) := by
    intro v0 v2 v3 st H locs ls hI hl hf
    unfold fh_X10_runEnd_j78 at hf
    refine lv_iload_n hx hb dX10_runEnd_78 rfl (lv_at hl 2 rfl) ?_
    refine lv_iload_n hx hb dX10_runEnd_79 rfl (lv_at hl 1 rfl) ?_
    refine lv_icmp_ge (tgt := 94) hx hb dX10_runEnd_80 (by decide) (fun c17 => ?_) (fun c17 => ?_)
    · replace hf := ifp c17 hf
      refine lv_iload_n hx hb dX10_runEnd_94 rfl (lv_at hl 2 rfl) ?_
      exact hret_i hx hb hr hlocks hI (by decide) (by decide) (fun _ => ⟨trivial, rfl⟩) (ret_e hK0 hf) dX10_runEnd_95
    · replace hf := ifn c17 hf
      refine hq_aload_n hx hb dX10_runEnd_83 rfl (lv_at hl 0 rfl) ?_
      refine lv_iload_n hx hb dX10_runEnd_84 rfl (lv_at hl 2 rfl) ?_
      obtain ⟨b18, hd19, hf⟩ := bnd_b hf
      obtain ⟨hq20, hk21⟩ := dr_e hd19
      refine W.eq (g2 := F0 m 85 ls [.int v3, .ref b18]) (by rw [hq20]; rfl) ?_
      obtain ⟨k22, hf⟩ := chk_b hf
      refine hl_B hx hb hI hk21 k22 dX10_runEnd_85 ?_
      refine lv_bipush (v := 61) hx hb dX10_runEnd_86 (by decide) ?_
      refine lv_icmp_ne (tgt := 94) hx hb dX10_runEnd_88 (by decide) (fun c23 => ?_) (fun c23 => ?_)
      · replace hf := ifn c23 hf
        refine lv_iload_n hx hb dX10_runEnd_94 rfl (lv_at hl 2 rfl) ?_
        exact hret_i hx hb hr hlocks hI (by decide) (by decide) (fun _ => ⟨trivial, rfl⟩) (ret_e hK0 hf) dX10_runEnd_95
      · replace hf := ifp c23 hf
        refine lv_iinc (v := (v3 + 1)) (lv' := [(3, .int (v3 + 1)), (0, va_rf v0), (2, .int v2)]) hx hb dX10_runEnd_91 hl (k := 2) rfl (ci_ _ (by decide)) (by decide) (by first | rfl | (simp [cat_rf, cat_i, cat_l, cat_r]; done) | (simp [cat_rf, cat_i, cat_l, cat_r]; decide)) (fun ls hl => ?_)
        refine lv_iload_n hx hb dX10_runEnd_94 rfl (lv_at hl 0 rfl) ?_
        exact hret_i hx hb hr hlocks hI (by decide) (by decide) (fun _ => ⟨trivial, rfl⟩) (ret_e hK0 hf) dX10_runEnd_95
  have B_94 : ∀ (v3 : Int32)  (st : HSt) (H : Heap) (locs : List Loc) (ls : Array Slot), HI D cy s s0 st H locs 0 False True → lv_has ls 4 [(3, .int v3)] → (fh_X10_runEnd_j94 v3 st).bind K0 = some out → W p l e (headSpec wsX10_runEnd { frames := 1, cells := 0, slots := 0, locals := 20 }).room s m (([va_rf a0, .int a1, .int a2] : List Value).toArray) below meth c H locs 0 0 (MQ below (HQi D cy s0 0 True out) ([va_rf a0, .int a1, .int a2] : List Value).toArray s 0 0 (hF s0)) (F0 m 94 ls []) := by
    intro v3 st H locs ls hI hl hf
    unfold fh_X10_runEnd_j94 at hf
    refine lv_iload_n hx hb dX10_runEnd_94 rfl (lv_at hl 0 rfl) ?_
    exact hret_i hx hb hr hlocks hI (by decide) (by decide) (fun _ => ⟨trivial, rfl⟩) (ret_e hK0 hf) dX10_runEnd_95
  have L_42 : ∀ (v0 : Option Nat) (v2 : Int32) (n : Nat) (v3 : Int32) (st : HSt) (H : Heap) (locs : List Loc) (ls : Array Slot), HI D cy s s0 st H locs 0 False True → lv_has ls 4 [(0, va_rf v0), (2, .int v2), (3, .int v3)] → (iter (fun x : (Int32 × HSt) => fh_X10_runEnd_s42 v0 v2 x.1 x.2) n (v3, st)).bind (fun x => ((Sum.elim (fun o : HSt × Int32 => (some o : Option (HSt × Int32))) (fun x : (Int32 × HSt) => fh_X10_runEnd_j94 x.1 x.2)) x).bind K0) = some out → W p l e (headSpec wsX10_runEnd { frames := 1, cells := 0, slots := 0, locals := 20 }).room s m (([va_rf a0, .int a1, .int a2] : List Value).toArray) below meth c H locs 0 0 (MQ below (HQi D cy s0 0 True out) ([va_rf a0, .int a1, .int a2] : List Value).toArray s 0 0 (hF s0)) (F0 m 42 ls []) := by
    intro v0 v2 n
    induction n with
    | zero => intro v3 st H locs ls hI hl hf; exact (iter_0 hf).elim
    | succ n ih =>
      intro v3 st H locs ls hI hl hf
      obtain ⟨K1, hK1, hf⟩ := iter_e hf
      replace hf : (fh_X10_runEnd_s42 v0 v2 v3 st).bind K1 = some out := hf
      unfold fh_X10_runEnd_s42 at hf
      refine lv_iload_n hx hb dX10_runEnd_42 rfl (lv_at hl 2 rfl) ?_
      refine lv_iload_n hx hb dX10_runEnd_43 rfl (lv_at hl 1 rfl) ?_
      refine lv_icmp_ge (tgt := 94) hx hb dX10_runEnd_44 (by decide) (fun c26 => ?_) (fun c26 => ?_)
      · replace hf := ifp c26 hf
        replace hf := exit_b hK1 hf
        exact B_94 v3 st H locs ls hI (lv_sub hl [2] rfl) hf
      · replace hf := ifn c26 hf
        refine hq_aload_n hx hb dX10_runEnd_47 rfl (lv_at hl 0 rfl) ?_
        refine lv_iload_n hx hb dX10_runEnd_48 rfl (lv_at hl 2 rfl) ?_
        obtain ⟨b27, hd28, hf⟩ := bnd_b hf
        obtain ⟨hq29, hk30⟩ := dr_e hd28
        refine W.eq (g2 := F0 m 49 ls [.int v3, .ref b27]) (by rw [hq29]; rfl) ?_
        obtain ⟨k31, hf⟩ := chk_b hf
        refine hl_B hx hb hI hk30 k31 dX10_runEnd_49 ?_
        obtain ⟨x32, hc33, hf⟩ := bnd_b hf
        refine hcall_Si (ex2 := True) (As := [.int (gA st b27 v3.toNatClampNeg)]) (rest := []) (n := 1) ⟨hx, hb, hml, hown, hts⟩ (ch_X10_isDigit l D cy (gA st b27 v3.toNatClampNeg) st x32 hc33) (va_cwS 1 hts gX10_runEnd_X10_isDigit rfl rfl rfl nd_X10_isDigit ⟨Nat.le_of_ble_eq_true rfl, Nat.le_of_ble_eq_true rfl⟩) hI (fun h => h.elim) (fun _ => ⟨trivial, trivial⟩) rfl hl.1 (Nat.le_of_ble_eq_true rfl) dX10_runEnd_50 ⟨Nat.le_of_ble_eq_true rfl, Nat.le_of_ble_eq_true rfl⟩ (fun H locs hI => ?_)
        refine lv_if_eq (tgt := 94) hx hb dX10_runEnd_53 (by decide) (fun c34 => ?_) (fun c34 => ?_)
        · replace hf := ifp c34 hf
          replace hf := exit_b hK1 hf
          exact B_94 v3 x32.1 H locs ls hI (lv_sub hl [2] rfl) hf
        · replace hf := ifn c34 hf
          refine lv_iinc (v := (v3 + 1)) (lv' := [(3, .int (v3 + 1)), (0, va_rf v0), (2, .int v2)]) hx hb dX10_runEnd_56 hl (k := 2) rfl (ci_ _ (by decide)) (by decide) (by first | rfl | (simp [cat_rf, cat_i, cat_l, cat_r]; done) | (simp [cat_rf, cat_i, cat_l, cat_r]; decide)) (fun ls hl => ?_)
          refine lv_goto (tgt := 42) hx hb dX10_runEnd_59 (by decide) ?_
          replace hf := cont_b hK1 hf
          exact ih (v3 + 1) x32.1 H locs ls hI (lv_sub hl [1, 2, 0] rfl) hf
  have L_13 : ∀ (v0 : Option Nat) (v2 : Int32) (n : Nat) (v3 : Int32) (st : HSt) (H : Heap) (locs : List Loc) (ls : Array Slot), HI D cy s s0 st H locs 0 False True → lv_has ls 4 [(0, va_rf v0), (2, .int v2), (3, .int v3)] → (iter (fun x : (Int32 × HSt) => fh_X10_runEnd_s13 v0 v2 x.1 x.2) n (v3, st)).bind (fun x => ((Sum.elim (fun o : HSt × Int32 => (some o : Option (HSt × Int32))) (fun x : (Int32 × HSt) => fh_X10_runEnd_j94 x.1 x.2)) x).bind K0) = some out → W p l e (headSpec wsX10_runEnd { frames := 1, cells := 0, slots := 0, locals := 20 }).room s m (([va_rf a0, .int a1, .int a2] : List Value).toArray) below meth c H locs 0 0 (MQ below (HQi D cy s0 0 True out) ([va_rf a0, .int a1, .int a2] : List Value).toArray s 0 0 (hF s0)) (F0 m 13 ls []) := by
    intro v0 v2 n
    induction n with
    | zero => intro v3 st H locs ls hI hl hf; exact (iter_0 hf).elim
    | succ n ih =>
      intro v3 st H locs ls hI hl hf
      obtain ⟨K1, hK1, hf⟩ := iter_e hf
      replace hf : (fh_X10_runEnd_s13 v0 v2 v3 st).bind K1 = some out := hf
      unfold fh_X10_runEnd_s13 at hf
      refine lv_iload_n hx hb dX10_runEnd_13 rfl (lv_at hl 2 rfl) ?_
      refine lv_iload_n hx hb dX10_runEnd_14 rfl (lv_at hl 1 rfl) ?_
      refine lv_icmp_ge (tgt := 94) hx hb dX10_runEnd_15 (by decide) (fun c35 => ?_) (fun c35 => ?_)
      · replace hf := ifp c35 hf
        replace hf := exit_b hK1 hf
        exact B_94 v3 st H locs ls hI (lv_sub hl [2] rfl) hf
      · replace hf := ifn c35 hf
        refine hq_aload_n hx hb dX10_runEnd_18 rfl (lv_at hl 0 rfl) ?_
        refine lv_iload_n hx hb dX10_runEnd_19 rfl (lv_at hl 2 rfl) ?_
        obtain ⟨b36, hd37, hf⟩ := bnd_b hf
        obtain ⟨hq38, hk39⟩ := dr_e hd37
        refine W.eq (g2 := F0 m 20 ls [.int v3, .ref b36]) (by rw [hq38]; rfl) ?_
        obtain ⟨k40, hf⟩ := chk_b hf
        refine hl_B hx hb hI hk39 k40 dX10_runEnd_20 ?_
        obtain ⟨x41, hc42, hf⟩ := bnd_b hf
        refine hcall_Si (ex2 := True) (As := [.int (gA st b36 v3.toNatClampNeg)]) (rest := []) (n := 1) ⟨hx, hb, hml, hown, hts⟩ (ch_X10_isLetter l D cy (gA st b36 v3.toNatClampNeg) st x41 hc42) (va_cwS 1 hts gX10_runEnd_X10_isLetter rfl rfl rfl nd_X10_isLetter ⟨Nat.le_of_ble_eq_true rfl, Nat.le_of_ble_eq_true rfl⟩) hI (fun h => h.elim) (fun _ => ⟨trivial, trivial⟩) rfl hl.1 (Nat.le_of_ble_eq_true rfl) dX10_runEnd_21 ⟨Nat.le_of_ble_eq_true rfl, Nat.le_of_ble_eq_true rfl⟩ (fun H locs hI => ?_)
        refine lv_if_eq (tgt := 94) hx hb dX10_runEnd_24 (by decide) (fun c43 => ?_) (fun c43 => ?_)
        · replace hf := ifp c43 hf
          replace hf := exit_b hK1 hf
          exact B_94 v3 x41.1 H locs ls hI (lv_sub hl [2] rfl) hf
        · replace hf := ifn c43 hf
          refine lv_iinc (v := (v3 + 1)) (lv' := [(3, .int (v3 + 1)), (0, va_rf v0), (2, .int v2)]) hx hb dX10_runEnd_27 hl (k := 2) rfl (ci_ _ (by decide)) (by decide) (by first | rfl | (simp [cat_rf, cat_i, cat_l, cat_r]; done) | (simp [cat_rf, cat_i, cat_l, cat_r]; decide)) (fun ls hl => ?_)
          refine lv_goto (tgt := 13) hx hb dX10_runEnd_30 (by decide) ?_
          replace hf := cont_b hK1 hf
          exact ih (v3 + 1) x41.1 H locs ls hI (lv_sub hl [1, 2, 0] rfl) hf
  unfold fh_X10_runEnd at hf
  refine lv_iload_n hx hb dX10_runEnd_0 rfl (lv_at hl 1 rfl) ?_
  refine lv_iconst (v := 1) hx hb dX10_runEnd_1 (by decide) ?_
  refine lv_iadd hx hb dX10_runEnd_2 ?_
  refine lv_istore_n (lv' := [(3, .int (a1 + (1 : Int32))), (0, va_rf a0), (1, .int a1), (2, .int a2)]) hx hb dX10_runEnd_3 rfl hl (by decide) (by first | rfl | (simp [cat_rf, cat_i, cat_l, cat_r]; done) | (simp [cat_rf, cat_i, cat_l, cat_r]; decide)) (fun ls hl => ?_)
  refine hq_aload_n hx hb dX10_runEnd_4 rfl (lv_at hl 1 rfl) ?_
  refine lv_iload_n hx hb dX10_runEnd_5 rfl (lv_at hl 2 rfl) ?_
  obtain ⟨b1, hd2, hf⟩ := bnd_b hf
  obtain ⟨hq3, hk4⟩ := dr_e hd2
  refine W.eq (g2 := F0 m 6 ls [.int a1, .ref b1]) (by rw [hq3]; rfl) ?_
  obtain ⟨k5, hf⟩ := chk_b hf
  refine hl_B hx hb hI hk4 k5 dX10_runEnd_6 ?_
  obtain ⟨x6, hc7, hf⟩ := bnd_b hf
  refine hcall_Si (ex2 := True) (As := [.int (gA s0 b1 a1.toNatClampNeg)]) (rest := []) (n := 1) ⟨hx, hb, hml, hown, hts⟩ (ch_X10_isLetter l D cy (gA s0 b1 a1.toNatClampNeg) s0 x6 hc7) (va_cwS 1 hts gX10_runEnd_X10_isLetter rfl rfl rfl nd_X10_isLetter ⟨Nat.le_of_ble_eq_true rfl, Nat.le_of_ble_eq_true rfl⟩) hI (fun h => h.elim) (fun _ => ⟨trivial, trivial⟩) rfl hl.1 (Nat.le_of_ble_eq_true rfl) dX10_runEnd_7 ⟨Nat.le_of_ble_eq_true rfl, Nat.le_of_ble_eq_true rfl⟩ (fun H locs hI => ?_)
  refine lv_if_eq (tgt := 33) hx hb dX10_runEnd_10 (by decide) (fun c8 => ?_) (fun c8 => ?_)
  · replace hf := ifp c8 hf
    refine hq_aload_n hx hb dX10_runEnd_33 rfl (lv_at hl 1 rfl) ?_
    refine lv_iload_n hx hb dX10_runEnd_34 rfl (lv_at hl 2 rfl) ?_
    refine W.eq (g2 := F0 m 35 ls [.int a1, .ref b1]) (by rw [hq3]; rfl) ?_
    obtain ⟨k9, hf⟩ := chk_b hf
    obtain ⟨k10, hf⟩ := chk_b hf
    refine hl_B hx hb hI (isk_k k9) k10 dX10_runEnd_35 ?_
    obtain ⟨x11, hc12, hf⟩ := bnd_b hf
    refine hcall_Si (ex2 := True) (As := [.int (gA x6.1 b1 a1.toNatClampNeg)]) (rest := []) (n := 1) ⟨hx, hb, hml, hown, hts⟩ (ch_X10_isDigit l D cy (gA x6.1 b1 a1.toNatClampNeg) x6.1 x11 hc12) (va_cwS 1 hts gX10_runEnd_X10_isDigit rfl rfl rfl nd_X10_isDigit ⟨Nat.le_of_ble_eq_true rfl, Nat.le_of_ble_eq_true rfl⟩) hI (fun h => h.elim) (fun _ => ⟨trivial, trivial⟩) rfl hl.1 (Nat.le_of_ble_eq_true rfl) dX10_runEnd_36 ⟨Nat.le_of_ble_eq_true rfl, Nat.le_of_ble_eq_true rfl⟩ (fun H locs hI => ?_)
    refine lv_if_eq (tgt := 62) hx hb dX10_runEnd_39 (by decide) (fun c13 => ?_) (fun c13 => ?_)
    · replace hf := ifp c13 hf
      refine hq_aload_n hx hb dX10_runEnd_62 rfl (lv_at hl 1 rfl) ?_
      refine lv_iload_n hx hb dX10_runEnd_63 rfl (lv_at hl 2 rfl) ?_
      refine W.eq (g2 := F0 m 64 ls [.int a1, .ref b1]) (by rw [hq3]; rfl) ?_
      obtain ⟨k14, hf⟩ := chk_b hf
      obtain ⟨k15, hf⟩ := chk_b hf
      refine hl_B hx hb hI (isk_k k14) k15 dX10_runEnd_64 ?_
      refine lv_bipush (v := 60) hx hb dX10_runEnd_65 (by decide) ?_
      refine lv_icmp_eq (tgt := 78) hx hb dX10_runEnd_67 (by decide) (fun c16 => ?_) (fun c16 => ?_)
      · replace hf := ifp c16 hf
        exact B_78 a0 a2 (a1 + (1 : Int32)) x11.1 H locs ls hI (lv_sub hl [1, 3, 0] rfl) hf
      · replace hf := ifn c16 hf
        refine hq_aload_n hx hb dX10_runEnd_70 rfl (lv_at hl 1 rfl) ?_
        refine lv_iload_n hx hb dX10_runEnd_71 rfl (lv_at hl 2 rfl) ?_
        refine W.eq (g2 := F0 m 72 ls [.int a1, .ref b1]) (by rw [hq3]; rfl) ?_
        obtain ⟨k24, hf⟩ := chk_b hf
        refine hl_B hx hb hI (isk_k k14) k24 dX10_runEnd_72 ?_
        refine lv_bipush (v := 62) hx hb dX10_runEnd_73 (by decide) ?_
        refine lv_icmp_ne (tgt := 94) hx hb dX10_runEnd_75 (by decide) (fun c25 => ?_) (fun c25 => ?_)
        · replace hf := ifn c25 hf
          refine lv_iload_n hx hb dX10_runEnd_94 rfl (lv_at hl 0 rfl) ?_
          exact hret_i hx hb hr hlocks hI (by decide) (by decide) (fun _ => ⟨trivial, rfl⟩) (ret_e hK0 hf) dX10_runEnd_95
        · replace hf := ifp c25 hf
          exact B_78 a0 a2 (a1 + (1 : Int32)) x11.1 H locs ls hI (lv_sub hl [1, 3, 0] rfl) hf
    · replace hf := ifn c13 hf
      exact L_42 a0 a2 mFuel (a1 + (1 : Int32)) x11.1 H locs ls hI (lv_sub hl [1, 3, 0] rfl) (asc_b hf)
  · replace hf := ifn c8 hf
    exact L_13 a0 a2 mFuel (a1 + (1 : Int32)) x6.1 H locs ls hI (lv_sub hl [1, 3, 0] rfl) (asc_b hf)

noncomputable def fh_X10_valueOf_j48 (v3 : Int32)  (st : HSt) : Option (HSt × Int32) :=
  some (st, v3)
noncomputable def fh_X10_valueOf_s23 (v0 : Option Nat) (v2 : Int32) (v3 : Int32) (v4 : Int32) (st : HSt) : Option ((HSt × Int32) ⊕ ((Int32 × Int32 × HSt) ⊕ (Int32 × Int32 × HSt))) :=
  (if v2 ≤ v4 then some (.inr (.inr (v3, v4, st))) else (dr st v0 21).bind fun b11 => chk (inb v4 (gL st b11)) (some (.inr (.inl ((((v3 * (10 : Int32)) + (gA st b11 v4.toNatClampNeg)) - (48 : Int32)), (v4 + 1), st)))))
noncomputable def fh_X10_valueOf (a0 : Option Nat) (a1 : Int32) (a2 : Int32) (s0 : HSt) : Option (HSt × Int32) :=
  (if (5 : Int32) < (a2 - a1) then some (s0, (-1 : Int32)) else (dr s0 a0 21).bind fun b2 => chk (inb a1 (gL s0 b2)) ((fh_X10_isDigit (gA s0 b2 a1.toNatClampNeg) s0).bind fun x7 => (if x7.2 = 0 then some (x7.1, (-1 : Int32)) else (iter (fun x : (Int32 × Int32 × HSt) => fh_X10_valueOf_s23 a0 a2 x.1 x.2.1 x.2.2) mFuel ((0 : Int32), a1, x7.1)).bind (Sum.elim (fun o : HSt × Int32 => (some o : Option (HSt × Int32))) (fun x : (Int32 × Int32 × HSt) => fh_X10_valueOf_j48 x.1 x.2.2)))))
theorem nd_X10_valueOf : yX10_valueOf.cls ≠ "java/lang/invoke/MethodHandle" ∧ yX10_valueOf.cls ≠ "java/lang/invoke/VarHandle" ∧ (parseMethodDescriptor yX10_valueOf.desc).map (fun d => d.parameters.length) = some 3 := by decide +kernel
set_option maxHeartbeats 4000000 in
set_option maxRecDepth 100000 in
theorem ch_X10_valueOf (l : Launch) (D : va_G) (cy : Nat → ClassId) (a0 : Option Nat) (a1 : Int32) (a2 : Int32) (s0 : HSt) (out : HSt × Int32) (hf : fh_X10_valueOf a0 a1 a2 s0 = some out) : CHi l D cy yX10_valueOf wsX10_valueOf { frames := 1, cells := 0, slots := 0, locals := 20 } 0 0 False True [va_rf a0, .int a1, .int a2] s0 out := by
  refine Met.ofW (cc := cX10_valueOf) (maxL := 5) (ret := (some .int)) (by decide) rfl ?_
  intro p e s m args below meth c s₁ B hml hv
  obtain ⟨rfl, hP, hK, hD0, hkx, hsz, hal⟩ := hv
  have hx := B.exec
  have hb := B.bytes
  have hr := B.returns
  have hts := atoms_spec (ws := wsX10_valueOf) B.pre
  have hown : s.vm.findClass RX10 = some m.cls := findClass_of_methodNamed B.named
  have hlocks := B.notSynchronized
  have hI : HI D cy s s0 s0 s.heap [] 0 False True := ⟨hK, hP, hD0.weaken (fun k q hk _ => Or.inl (pl_mem hk)), va_S.rf, hsz.1, hkx, ⟨hsz, hal⟩, fun _ => rfl, Nat.le_refl _⟩
  have hl := lv_entry ([va_rf a0, .int a1, .int a2]) (n := 5) (by simp [lg_sl, cat_rf, cat_i, cat_l, cat_r])
  rw [lg_entry_eq]
  generalize (lg_sl ([va_rf a0, .int a1, .int a2]) ++ List.replicate (5 - (lg_sl ([va_rf a0, .int a1, .int a2])).length) Slot.unset).toArray = ls at hl ⊢
  have hl : lv_has ls 5 [(0, va_rf a0), (1, .int a1), (2, .int a2)] := (by simpa [lv_args, cat_rf, cat_i, cat_l, cat_r] using hl)
  obtain ⟨K0, hK0, hf⟩ := top_e hf
  have B_48 : ∀ (v3 : Int32)  (st : HSt) (H : Heap) (locs : List Loc) (ls : Array Slot), HI D cy s s0 st H locs 0 False True → lv_has ls 5 [(3, .int v3)] → (fh_X10_valueOf_j48 v3 st).bind K0 = some out → W p l e (headSpec wsX10_valueOf { frames := 1, cells := 0, slots := 0, locals := 20 }).room s m (([va_rf a0, .int a1, .int a2] : List Value).toArray) below meth c H locs 0 0 (MQ below (HQi D cy s0 0 True out) ([va_rf a0, .int a1, .int a2] : List Value).toArray s 0 0 (hF s0)) (F0 m 48 ls []) := by
    intro v3 st H locs ls hI hl hf
    unfold fh_X10_valueOf_j48 at hf
    refine lv_iload_n hx hb dX10_valueOf_48 rfl (lv_at hl 0 rfl) ?_
    exact hret_i hx hb hr hlocks hI (by decide) (by decide) (fun _ => ⟨trivial, rfl⟩) (ret_e hK0 hf) dX10_valueOf_49
  have L_23 : ∀ (v0 : Option Nat) (v2 : Int32) (n : Nat) (v3 : Int32) (v4 : Int32) (st : HSt) (H : Heap) (locs : List Loc) (ls : Array Slot), HI D cy s s0 st H locs 0 False True → lv_has ls 5 [(0, va_rf v0), (2, .int v2), (3, .int v3), (4, .int v4)] → (iter (fun x : (Int32 × Int32 × HSt) => fh_X10_valueOf_s23 v0 v2 x.1 x.2.1 x.2.2) n (v3, v4, st)).bind (fun x => ((Sum.elim (fun o : HSt × Int32 => (some o : Option (HSt × Int32))) (fun x : (Int32 × Int32 × HSt) => fh_X10_valueOf_j48 x.1 x.2.2)) x).bind K0) = some out → W p l e (headSpec wsX10_valueOf { frames := 1, cells := 0, slots := 0, locals := 20 }).room s m (([va_rf a0, .int a1, .int a2] : List Value).toArray) below meth c H locs 0 0 (MQ below (HQi D cy s0 0 True out) ([va_rf a0, .int a1, .int a2] : List Value).toArray s 0 0 (hF s0)) (F0 m 23 ls []) := by
    intro v0 v2 n
    induction n with
    | zero => intro v3 v4 st H locs ls hI hl hf; exact (iter_0 hf).elim
    | succ n ih =>
      intro v3 v4 st H locs ls hI hl hf
      obtain ⟨K1, hK1, hf⟩ := iter_e hf
      replace hf : (fh_X10_valueOf_s23 v0 v2 v3 v4 st).bind K1 = some out := hf
      unfold fh_X10_valueOf_s23 at hf
      refine lv_iload hx hb dX10_valueOf_23 (lv_at hl 3 rfl) ?_
      refine lv_iload_n hx hb dX10_valueOf_25 rfl (lv_at hl 1 rfl) ?_
      refine lv_icmp_ge (tgt := 48) hx hb dX10_valueOf_26 (by decide) (fun c10 => ?_) (fun c10 => ?_)
      · replace hf := ifp c10 hf
        replace hf := exit_b hK1 hf
        exact B_48 v3 st H locs ls hI (lv_sub hl [2] rfl) hf
      · replace hf := ifn c10 hf
        refine lv_iload_n hx hb dX10_valueOf_29 rfl (lv_at hl 2 rfl) ?_
        refine lv_bipush (v := 10) hx hb dX10_valueOf_30 (by decide) ?_
        refine lv_imul hx hb dX10_valueOf_32 ?_
        refine hq_aload_n hx hb dX10_valueOf_33 rfl (lv_at hl 0 rfl) ?_
        refine lv_iload hx hb dX10_valueOf_34 (lv_at hl 3 rfl) ?_
        obtain ⟨b11, hd12, hf⟩ := bnd_b hf
        obtain ⟨hq13, hk14⟩ := dr_e hd12
        refine W.eq (g2 := F0 m 36 ls [.int v4, .ref b11, .int (v3 * (10 : Int32))]) (by rw [hq13]; rfl) ?_
        obtain ⟨k15, hf⟩ := chk_b hf
        refine hl_B hx hb hI hk14 k15 dX10_valueOf_36 ?_
        refine lv_iadd hx hb dX10_valueOf_37 ?_
        refine lv_bipush (v := 48) hx hb dX10_valueOf_38 (by decide) ?_
        refine lv_isub hx hb dX10_valueOf_40 ?_
        refine lv_istore_n (lv' := [(3, .int (((v3 * (10 : Int32)) + (gA st b11 v4.toNatClampNeg)) - (48 : Int32))), (0, va_rf v0), (2, .int v2), (4, .int v4)]) hx hb dX10_valueOf_41 rfl hl (by decide) (by first | rfl | (simp [cat_rf, cat_i, cat_l, cat_r]; done) | (simp [cat_rf, cat_i, cat_l, cat_r]; decide)) (fun ls hl => ?_)
        refine lv_iinc (v := (v4 + 1)) (lv' := [(4, .int (v4 + 1)), (3, .int (((v3 * (10 : Int32)) + (gA st b11 v4.toNatClampNeg)) - (48 : Int32))), (0, va_rf v0), (2, .int v2)]) hx hb dX10_valueOf_42 hl (k := 3) rfl (ci_ _ (by decide)) (by decide) (by first | rfl | (simp [cat_rf, cat_i, cat_l, cat_r]; done) | (simp [cat_rf, cat_i, cat_l, cat_r]; decide)) (fun ls hl => ?_)
        refine lv_goto (tgt := 23) hx hb dX10_valueOf_45 (by decide) ?_
        replace hf := cont_b hK1 hf
        exact ih (((v3 * (10 : Int32)) + (gA st b11 v4.toNatClampNeg)) - (48 : Int32)) (v4 + 1) st H locs ls hI (lv_sub hl [2, 3, 1, 0] rfl) hf
  unfold fh_X10_valueOf at hf
  refine lv_iload_n hx hb dX10_valueOf_0 rfl (lv_at hl 2 rfl) ?_
  refine lv_iload_n hx hb dX10_valueOf_1 rfl (lv_at hl 1 rfl) ?_
  refine lv_isub hx hb dX10_valueOf_2 ?_
  refine lv_iconst (v := 5) hx hb dX10_valueOf_3 (by decide) ?_
  refine lv_icmp_gt (tgt := 16) hx hb dX10_valueOf_4 (by decide) (fun c1 => ?_) (fun c1 => ?_)
  · replace hf := ifp c1 hf
    refine lv_iconst (v := -1) hx hb dX10_valueOf_16 (by decide) ?_
    exact hret_i hx hb hr hlocks hI (by decide) (by decide) (fun _ => ⟨trivial, rfl⟩) (ret_e hK0 hf) dX10_valueOf_17
  · replace hf := ifn c1 hf
    refine hq_aload_n hx hb dX10_valueOf_7 rfl (lv_at hl 0 rfl) ?_
    refine lv_iload_n hx hb dX10_valueOf_8 rfl (lv_at hl 1 rfl) ?_
    obtain ⟨b2, hd3, hf⟩ := bnd_b hf
    obtain ⟨hq4, hk5⟩ := dr_e hd3
    refine W.eq (g2 := F0 m 9 ls [.int a1, .ref b2]) (by rw [hq4]; rfl) ?_
    obtain ⟨k6, hf⟩ := chk_b hf
    refine hl_B hx hb hI hk5 k6 dX10_valueOf_9 ?_
    obtain ⟨x7, hc8, hf⟩ := bnd_b hf
    refine hcall_Si (ex2 := True) (As := [.int (gA s0 b2 a1.toNatClampNeg)]) (rest := []) (n := 1) ⟨hx, hb, hml, hown, hts⟩ (ch_X10_isDigit l D cy (gA s0 b2 a1.toNatClampNeg) s0 x7 hc8) (va_cwS 1 hts gX10_valueOf_X10_isDigit rfl rfl rfl nd_X10_isDigit ⟨Nat.le_of_ble_eq_true rfl, Nat.le_of_ble_eq_true rfl⟩) hI (fun h => h.elim) (fun _ => ⟨trivial, trivial⟩) rfl hl.1 (Nat.le_of_ble_eq_true rfl) dX10_valueOf_10 ⟨Nat.le_of_ble_eq_true rfl, Nat.le_of_ble_eq_true rfl⟩ (fun H locs hI => ?_)
    refine lv_if_ne (tgt := 18) hx hb dX10_valueOf_13 (by decide) (fun c9 => ?_) (fun c9 => ?_)
    · replace hf := ifn c9 hf
      refine lv_iconst (v := 0) hx hb dX10_valueOf_18 (by decide) ?_
      refine lv_istore_n (lv' := [(3, .int (0 : Int32)), (0, va_rf a0), (1, .int a1), (2, .int a2)]) hx hb dX10_valueOf_19 rfl hl (by decide) (by first | rfl | (simp [cat_rf, cat_i, cat_l, cat_r]; done) | (simp [cat_rf, cat_i, cat_l, cat_r]; decide)) (fun ls hl => ?_)
      refine lv_iload_n hx hb dX10_valueOf_20 rfl (lv_at hl 2 rfl) ?_
      refine lv_istore (lv' := [(4, .int a1), (3, .int (0 : Int32)), (0, va_rf a0), (1, .int a1), (2, .int a2)]) hx hb dX10_valueOf_21 hl (by decide) (by first | rfl | (simp [cat_rf, cat_i, cat_l, cat_r]; done) | (simp [cat_rf, cat_i, cat_l, cat_r]; decide)) (fun ls hl => ?_)
      exact L_23 a0 a2 mFuel (0 : Int32) a1 x7.1 H locs ls hI (lv_sub hl [2, 4, 1, 0] rfl) (asc_b hf)
    · replace hf := ifp c9 hf
      refine lv_iconst (v := -1) hx hb dX10_valueOf_16 (by decide) ?_
      exact hret_i hx hb hr hlocks hI (by decide) (by decide) (fun _ => ⟨trivial, rfl⟩) (ret_e hK0 hf) dX10_valueOf_17

noncomputable def fh_X10_scan_j85 (h : Nat) (v3 : Int32)  (st : HSt) : Option (HSt) :=
  chk (isk st h 11) ((fh_X10_put h (0 : Int32) v3 (0 : Int32) st).bind fun x9 => some x9)
noncomputable def fh_X10_scan_s25 (h : Nat) (v1 : Option Nat) (v3 : Int32) (v4 : Int32) (st : HSt) : Option ((HSt) ⊕ ((Int32 × HSt) ⊕ (Int32 × HSt))) :=
  (if v3 ≤ v4 then some (.inr (.inr (v4, st))) else (fh_X10_runEnd v1 v4 v3 st).bind fun x12 => (dr x12.1 v1 21).bind fun b14 => chk (inb v4 (gL x12.1 b14)) ((if (gA x12.1 b14 v4.toNatClampNeg) = (32 : Int32) then some (.inr (.inl ((if x12.2 < (v4 + (1 : Int32)) then (v4 + (1 : Int32)) else x12.2), x12.1))) else (fh_X10_kindOf v1 v4 (if x12.2 < (v4 + (1 : Int32)) then (v4 + (1 : Int32)) else x12.2) x12.1).bind fun x20 => (fh_X10_valueOf v1 v4 (if x12.2 < (v4 + (1 : Int32)) then (v4 + (1 : Int32)) else x12.2) x20.1).bind fun x22 => chk (isk x22.1 h 11) ((fh_X10_put h x20.2 v4 x22.2 x22.1).bind fun x25 => some (.inr (.inl ((if x12.2 < (v4 + (1 : Int32)) then (v4 + (1 : Int32)) else x12.2), x25)))))))
noncomputable def fh_X10_scan (h : Nat) (a1 : Option Nat) (a2 : Int32) (s0 : HSt) : Option (HSt) :=
  chk (isk s0 h 11) ((some (sI (sI (sI s0 1003 h (0 : Int32)) 1004 h (0 : Int32)) 1005 h (0 : Int32))).bind fun x2 => (dr x2 a1 21).bind fun b4 => (iter (fun x : (Int32 × HSt) => fh_X10_scan_s25 h a1 (if (nI (gL x2 b4)) < a2 then (nI (gL x2 b4)) else a2) x.1 x.2) mFuel ((0 : Int32), x2)).bind (Sum.elim (fun o : HSt => (some o : Option (HSt))) (fun x : (Int32 × HSt) => fh_X10_scan_j85 h (if (nI (gL x2 b4)) < a2 then (nI (gL x2 b4)) else a2) x.2)))
theorem nd_X10_scan : yX10_scan.cls ≠ "java/lang/invoke/MethodHandle" ∧ yX10_scan.cls ≠ "java/lang/invoke/VarHandle" ∧ (parseMethodDescriptor yX10_scan.desc).map (fun d => d.parameters.length) = some 2 := by decide +kernel
set_option maxHeartbeats 4000000 in
set_option maxRecDepth 100000 in
theorem ch_X10_scan (l : Launch) (D : va_G) (cy : Nat → ClassId) (h : Nat) (a1 : Option Nat) (a2 : Int32) (s0 : HSt) (out : HSt) (hf : fh_X10_scan h a1 a2 s0 = some out) : CHv l D cy yX10_scan wsX10_scan { frames := 8, cells := 0, slots := 0, locals := 177 } 0 0 False True [.ref h, va_rf a1, .int a2] s0 out := by
  refine Met.ofW (cc := cX10_scan) (maxL := 6) (ret := none) (by decide) rfl ?_
  intro p e s m args below meth c s₁ B hml hv
  obtain ⟨rfl, hP, hK, hD0, hkx, hsz, hal⟩ := hv
  have hx := B.exec
  have hb := B.bytes
  have hr := B.returns
  have hts := atoms_spec (ws := wsX10_scan) B.pre
  have hown : s.vm.findClass RX10 = some m.cls := findClass_of_methodNamed B.named
  have hlocks := B.notSynchronized
  have hI : HI D cy s s0 s0 s.heap [] 0 False True := ⟨hK, hP, hD0.weaken (fun k q hk _ => Or.inl (pl_mem hk)), va_S.rf, hsz.1, hkx, ⟨hsz, hal⟩, fun _ => rfl, Nat.le_refl _⟩
  have hin_X10 : ∀ w ∈ u_ws RX10 TX10 6, w ∈ wsX10_scan := fun w hw => List.mem_cons_of_mem _ (List.mem_append_right _ hw)
  have kl_21 : Cond.fieldLink RX10 21 "HalfBridge$Tokens" "size" "I" ∈ wsX10_scan := by decide +kernel
  have kl_25 : Cond.fieldLink RX10 25 "HalfBridge$Tokens" "at" "I" ∈ wsX10_scan := by decide +kernel
  have kl_28 : Cond.fieldLink RX10 28 "HalfBridge$Tokens" "fault" "I" ∈ wsX10_scan := by decide +kernel
  have hl := lv_entry ([.ref h, va_rf a1, .int a2]) (n := 6) (by simp [lg_sl, cat_rf, cat_i, cat_l, cat_r])
  rw [lg_entry_eq]
  generalize (lg_sl ([.ref h, va_rf a1, .int a2]) ++ List.replicate (6 - (lg_sl ([.ref h, va_rf a1, .int a2])).length) Slot.unset).toArray = ls at hl ⊢
  have hl : lv_has ls 6 [(0, .ref h), (1, va_rf a1), (2, .int a2)] := (by simpa [lv_args, cat_rf, cat_i, cat_l, cat_r] using hl)
  obtain ⟨K0, hK0, hf⟩ := top_e hf
  have B_85 : ∀ (v3 : Int32)  (st : HSt) (H : Heap) (locs : List Loc) (ls : Array Slot), HI D cy s s0 st H locs 0 False True → lv_has ls 6 [(0, .ref h), (3, .int v3)] → (fh_X10_scan_j85 h v3 st).bind K0 = some out → W p l e (headSpec wsX10_scan { frames := 8, cells := 0, slots := 0, locals := 177 }).room s m (([.ref h, va_rf a1, .int a2] : List Value).toArray) below meth c H locs 0 0 (MQ below (HQv D cy s0 0 True out) ([.ref h, va_rf a1, .int a2] : List Value).toArray s 0 0 (hF s0)) (F0 m 85 ls []) := by
    intro v3 st H locs ls hI hl hf
    unfold fh_X10_scan_j85 at hf
    refine lv_aload_n hx hb dX10_scan_85 rfl (lv_at hl 0 rfl) ?_
    refine lv_iconst (v := 0) hx hb dX10_scan_86 (by decide) ?_
    refine lv_iload_n hx hb dX10_scan_87 rfl (lv_at hl 1 rfl) ?_
    refine lv_iconst (v := 0) hx hb dX10_scan_88 (by decide) ?_
    obtain ⟨k8, hf⟩ := chk_b hf
    obtain ⟨x9, hc10, hf⟩ := bnd_b hf
    refine hcall_Vv (ex2 := True) (As := [.int (0 : Int32), .int v3, .int (0 : Int32)]) (rest := []) (n := 3) (by rw [(isk_k k8)]; decide) (hC_11 (isk_k k8)) rfl ⟨hx, hb, hml, hown, hts⟩ (ch_X10_put l D cy h (0 : Int32) v3 (0 : Int32) st x9 hc10) (cwV 3 hts gX10_scan_X10_put rfl rfl rfl ⟨rfl, nd_X10_put⟩ ⟨Nat.le_of_ble_eq_true rfl, Nat.le_of_ble_eq_true rfl⟩) hI (fun h => h.elim) (fun _ => ⟨trivial, trivial⟩) rfl hl.1 (Nat.le_of_ble_eq_true rfl) dX10_scan_89 ⟨Nat.le_of_ble_eq_true rfl, Nat.le_of_ble_eq_true rfl⟩ (fun H locs hI => ?_)
    exact hret_v hx hb hr hlocks hI (by decide) (by decide) (fun _ => ⟨trivial, rfl⟩) (ret_e hK0 hf) dX10_scan_92
  have L_25 : ∀ (v1 : Option Nat) (v3 : Int32) (n : Nat) (v4 : Int32) (st : HSt) (H : Heap) (locs : List Loc) (ls : Array Slot), HI D cy s s0 st H locs 0 False True → lv_has ls 6 [(0, .ref h), (1, va_rf v1), (3, .int v3), (4, .int v4)] → (iter (fun x : (Int32 × HSt) => fh_X10_scan_s25 h v1 v3 x.1 x.2) n (v4, st)).bind (fun x => ((Sum.elim (fun o : HSt => (some o : Option (HSt))) (fun x : (Int32 × HSt) => fh_X10_scan_j85 h v3 x.2)) x).bind K0) = some out → W p l e (headSpec wsX10_scan { frames := 8, cells := 0, slots := 0, locals := 177 }).room s m (([.ref h, va_rf a1, .int a2] : List Value).toArray) below meth c H locs 0 0 (MQ below (HQv D cy s0 0 True out) ([.ref h, va_rf a1, .int a2] : List Value).toArray s 0 0 (hF s0)) (F0 m 25 ls []) := by
    intro v1 v3 n
    induction n with
    | zero => intro v4 st H locs ls hI hl hf; exact (iter_0 hf).elim
    | succ n ih =>
      intro v4 st H locs ls hI hl hf
      obtain ⟨K1, hK1, hf⟩ := iter_e hf
      replace hf : (fh_X10_scan_s25 h v1 v3 v4 st).bind K1 = some out := hf
      unfold fh_X10_scan_s25 at hf
      refine lv_iload hx hb dX10_scan_25 (lv_at hl 3 rfl) ?_
      refine lv_iload_n hx hb dX10_scan_27 rfl (lv_at hl 2 rfl) ?_
      refine lv_icmp_ge (tgt := 85) hx hb dX10_scan_28 (by decide) (fun c11 => ?_) (fun c11 => ?_)
      · replace hf := ifp c11 hf
        replace hf := exit_b hK1 hf
        exact B_85 v3 st H locs ls hI (lv_sub hl [0, 2] rfl) hf
      · replace hf := ifn c11 hf
        refine hq_aload_n hx hb dX10_scan_31 rfl (lv_at hl 1 rfl) ?_
        refine lv_iload hx hb dX10_scan_32 (lv_at hl 3 rfl) ?_
        refine lv_iload_n hx hb dX10_scan_34 rfl (lv_at hl 2 rfl) ?_
        obtain ⟨x12, hc13, hf⟩ := bnd_b hf
        refine hcall_Si (ex2 := True) (As := [va_rf v1, .int v4, .int v3]) (rest := []) (n := 3) ⟨hx, hb, hml, hown, hts⟩ (ch_X10_runEnd l D cy v1 v4 v3 st x12 hc13) (va_cwS 3 hts gX10_scan_X10_runEnd rfl rfl rfl nd_X10_runEnd ⟨Nat.le_of_ble_eq_true rfl, Nat.le_of_ble_eq_true rfl⟩) hI (fun h => h.elim) (fun _ => ⟨trivial, trivial⟩) rfl hl.1 (Nat.le_of_ble_eq_true rfl) dX10_scan_35 ⟨Nat.le_of_ble_eq_true rfl, Nat.le_of_ble_eq_true rfl⟩ (fun H locs hI => ?_)
        refine lv_iload hx hb dX10_scan_38 (lv_at hl 3 rfl) ?_
        refine lv_iconst (v := 1) hx hb dX10_scan_40 (by decide) ?_
        refine lv_iadd hx hb dX10_scan_41 ?_
        refine va_mmax hx hb (hml.trans hl.1.symm) hown (hts (.methodLink RX10 41 Lib.Math.max.name) (by decide +kernel)) (hts (.static Lib.Math.max.name) (by decide +kernel)) (hts (.initialized "java/lang/Math") (by decide +kernel)) (hts (.code Lib.Math.max.name Lib.Math.max.code 2 (some .int)) (by decide +kernel)) (Nat.le_of_ble_eq_true rfl) (Nat.le_of_ble_eq_true rfl) (Nat.le_of_ble_eq_true rfl) (Nat.le_of_ble_eq_true rfl) dX10_scan_42 ?_
        refine lv_istore (lv' := [(5, .int (if x12.2 < (v4 + (1 : Int32)) then (v4 + (1 : Int32)) else x12.2)), (0, .ref h), (1, va_rf v1), (3, .int v3), (4, .int v4)]) hx hb dX10_scan_45 hl (by decide) (by first | rfl | (simp [cat_rf, cat_i, cat_l, cat_r]; done) | (simp [cat_rf, cat_i, cat_l, cat_r]; decide)) (fun ls hl => ?_)
        refine hq_aload_n hx hb dX10_scan_47 rfl (lv_at hl 2 rfl) ?_
        refine lv_iload hx hb dX10_scan_48 (lv_at hl 4 rfl) ?_
        obtain ⟨b14, hd15, hf⟩ := bnd_b hf
        obtain ⟨hq16, hk17⟩ := dr_e hd15
        refine W.eq (g2 := F0 m 50 ls [.int v4, .ref b14]) (by rw [hq16]; rfl) ?_
        obtain ⟨k18, hf⟩ := chk_b hf
        refine hl_B hx hb hI hk17 k18 dX10_scan_50 ?_
        refine lv_bipush (v := 32) hx hb dX10_scan_51 (by decide) ?_
        refine lv_icmp_eq (tgt := 78) hx hb dX10_scan_53 (by decide) (fun c19 => ?_) (fun c19 => ?_)
        · replace hf := ifp c19 hf
          refine lv_iload hx hb dX10_scan_78 (lv_at hl 0 rfl) ?_
          refine lv_istore (lv' := [(4, .int (if x12.2 < (v4 + (1 : Int32)) then (v4 + (1 : Int32)) else x12.2)), (5, .int (if x12.2 < (v4 + (1 : Int32)) then (v4 + (1 : Int32)) else x12.2)), (0, .ref h), (1, va_rf v1), (3, .int v3)]) hx hb dX10_scan_80 hl (by decide) (by first | rfl | (simp [cat_rf, cat_i, cat_l, cat_r]; done) | (simp [cat_rf, cat_i, cat_l, cat_r]; decide)) (fun ls hl => ?_)
          refine lv_goto (tgt := 25) hx hb dX10_scan_82 (by decide) ?_
          replace hf := cont_b hK1 hf
          exact ih (if x12.2 < (v4 + (1 : Int32)) then (v4 + (1 : Int32)) else x12.2) x12.1 H locs ls hI (lv_sub hl [2, 3, 4, 0] rfl) hf
        · replace hf := ifn c19 hf
          refine lv_aload_n hx hb dX10_scan_56 rfl (lv_at hl 1 rfl) ?_
          refine hq_aload_n hx hb dX10_scan_57 rfl (lv_at hl 2 rfl) ?_
          refine lv_iload hx hb dX10_scan_58 (lv_at hl 4 rfl) ?_
          refine lv_iload hx hb dX10_scan_60 (lv_at hl 0 rfl) ?_
          obtain ⟨x20, hc21, hf⟩ := bnd_b hf
          refine hcall_Si (ex2 := True) (As := [va_rf v1, .int v4, .int (if x12.2 < (v4 + (1 : Int32)) then (v4 + (1 : Int32)) else x12.2)]) (rest := [.ref h]) (n := 3) ⟨hx, hb, hml, hown, hts⟩ (ch_X10_kindOf l D cy v1 v4 (if x12.2 < (v4 + (1 : Int32)) then (v4 + (1 : Int32)) else x12.2) x12.1 x20 hc21) (va_cwS 3 hts gX10_scan_X10_kindOf rfl rfl rfl nd_X10_kindOf ⟨Nat.le_of_ble_eq_true rfl, Nat.le_of_ble_eq_true rfl⟩) hI (fun h => h.elim) (fun _ => ⟨trivial, trivial⟩) rfl hl.1 (Nat.le_of_ble_eq_true rfl) dX10_scan_62 ⟨Nat.le_of_ble_eq_true rfl, Nat.le_of_ble_eq_true rfl⟩ (fun H locs hI => ?_)
          refine lv_iload hx hb dX10_scan_65 (lv_at hl 4 rfl) ?_
          refine hq_aload_n hx hb dX10_scan_67 rfl (lv_at hl 2 rfl) ?_
          refine lv_iload hx hb dX10_scan_68 (lv_at hl 4 rfl) ?_
          refine lv_iload hx hb dX10_scan_70 (lv_at hl 0 rfl) ?_
          obtain ⟨x22, hc23, hf⟩ := bnd_b hf
          refine hcall_Si (ex2 := True) (As := [va_rf v1, .int v4, .int (if x12.2 < (v4 + (1 : Int32)) then (v4 + (1 : Int32)) else x12.2)]) (rest := [.int v4, .int x20.2, .ref h]) (n := 3) ⟨hx, hb, hml, hown, hts⟩ (ch_X10_valueOf l D cy v1 v4 (if x12.2 < (v4 + (1 : Int32)) then (v4 + (1 : Int32)) else x12.2) x20.1 x22 hc23) (va_cwS 3 hts gX10_scan_X10_valueOf rfl rfl rfl nd_X10_valueOf ⟨Nat.le_of_ble_eq_true rfl, Nat.le_of_ble_eq_true rfl⟩) hI (fun h => h.elim) (fun _ => ⟨trivial, trivial⟩) rfl hl.1 (Nat.le_of_ble_eq_true rfl) dX10_scan_72 ⟨Nat.le_of_ble_eq_true rfl, Nat.le_of_ble_eq_true rfl⟩ (fun H locs hI => ?_)
          obtain ⟨k24, hf⟩ := chk_b hf
          obtain ⟨x25, hc26, hf⟩ := bnd_b hf
          refine hcall_Vv (ex2 := True) (As := [.int x20.2, .int v4, .int x22.2]) (rest := []) (n := 3) (by rw [(isk_k k24)]; decide) (hC_11 (isk_k k24)) rfl ⟨hx, hb, hml, hown, hts⟩ (ch_X10_put l D cy h x20.2 v4 x22.2 x22.1 x25 hc26) (cwV 3 hts gX10_scan_X10_put rfl rfl rfl ⟨rfl, nd_X10_put⟩ ⟨Nat.le_of_ble_eq_true rfl, Nat.le_of_ble_eq_true rfl⟩) hI (fun h => h.elim) (fun _ => ⟨trivial, trivial⟩) rfl hl.1 (Nat.le_of_ble_eq_true rfl) dX10_scan_75 ⟨Nat.le_of_ble_eq_true rfl, Nat.le_of_ble_eq_true rfl⟩ (fun H locs hI => ?_)
          refine lv_iload hx hb dX10_scan_78 (lv_at hl 0 rfl) ?_
          refine lv_istore (lv' := [(4, .int (if x12.2 < (v4 + (1 : Int32)) then (v4 + (1 : Int32)) else x12.2)), (5, .int (if x12.2 < (v4 + (1 : Int32)) then (v4 + (1 : Int32)) else x12.2)), (0, .ref h), (1, va_rf v1), (3, .int v3)]) hx hb dX10_scan_80 hl (by decide) (by first | rfl | (simp [cat_rf, cat_i, cat_l, cat_r]; done) | (simp [cat_rf, cat_i, cat_l, cat_r]; decide)) (fun ls hl => ?_)
          refine lv_goto (tgt := 25) hx hb dX10_scan_82 (by decide) ?_
          replace hf := cont_b hK1 hf
          exact ih (if x12.2 < (v4 + (1 : Int32)) then (v4 + (1 : Int32)) else x12.2) x25 H locs ls hI (lv_sub hl [2, 3, 4, 0] rfl) hf
  unfold fh_X10_scan at hf
  refine lv_aload_n hx hb dX10_scan_0 rfl (lv_at hl 0 rfl) ?_
  refine lv_iconst (v := 0) hx hb dX10_scan_1 (by decide) ?_
  obtain ⟨k1, hf⟩ := chk_b hf
  refine hp_10_3 hx hb hts hin_X10 hown kl_21 hI (isk_k k1) dX10_scan_2 (fun H locs hI => ?_)
  refine lv_aload_n hx hb dX10_scan_5 rfl (lv_at hl 0 rfl) ?_
  refine lv_iconst (v := 0) hx hb dX10_scan_6 (by decide) ?_
  refine hp_10_4 hx hb hts hin_X10 hown kl_25 hI (gK_sI.trans (isk_k k1)) dX10_scan_7 (fun H locs hI => ?_)
  refine lv_aload_n hx hb dX10_scan_10 rfl (lv_at hl 0 rfl) ?_
  refine lv_iconst (v := 0) hx hb dX10_scan_11 (by decide) ?_
  refine hp_10_5 hx hb hts hin_X10 hown kl_28 hI (gK_sI.trans (gK_sI.trans (isk_k k1))) dX10_scan_12 (fun H locs hI => ?_)
  obtain ⟨x2, hx2, hf⟩ := bnd_b hf
  replace hx2 := Option.some.inj hx2
  rw [hx2] at hI
  have hk3 : gK x2 h = 11 := by rw [← hx2]; exact (gK_sI.trans (gK_sI.trans (gK_sI.trans (isk_k k1))))
  refine lv_iload_n hx hb dX10_scan_15 rfl (lv_at hl 2 rfl) ?_
  refine hq_aload_n hx hb dX10_scan_16 rfl (lv_at hl 1 rfl) ?_
  obtain ⟨b4, hd5, hf⟩ := bnd_b hf
  obtain ⟨hq6, hk7⟩ := dr_e hd5
  refine W.eq (g2 := F0 m 17 ls [.ref b4, .int a2]) (by rw [hq6]; rfl) ?_
  refine ha_21 hx hb hI hk7 dX10_scan_17 ?_
  refine va_mmin hx hb (hml.trans hl.1.symm) hown (hts (.methodLink RX10 31 Lib.Math.min.name) (by decide +kernel)) (hts (.static Lib.Math.min.name) (by decide +kernel)) (hts (.initialized "java/lang/Math") (by decide +kernel)) (hts (.code Lib.Math.min.name Lib.Math.min.code 2 (some .int)) (by decide +kernel)) (Nat.le_of_ble_eq_true rfl) (Nat.le_of_ble_eq_true rfl) (Nat.le_of_ble_eq_true rfl) (Nat.le_of_ble_eq_true rfl) dX10_scan_18 ?_
  refine lv_istore_n (lv' := [(3, .int (if (nI (gL x2 b4)) < a2 then (nI (gL x2 b4)) else a2)), (0, .ref h), (1, va_rf a1), (2, .int a2)]) hx hb dX10_scan_21 rfl hl (by decide) (by first | rfl | (simp [cat_rf, cat_i, cat_l, cat_r]; done) | (simp [cat_rf, cat_i, cat_l, cat_r]; decide)) (fun ls hl => ?_)
  refine lv_iconst (v := 0) hx hb dX10_scan_22 (by decide) ?_
  refine lv_istore (lv' := [(4, .int (0 : Int32)), (3, .int (if (nI (gL x2 b4)) < a2 then (nI (gL x2 b4)) else a2)), (0, .ref h), (1, va_rf a1), (2, .int a2)]) hx hb dX10_scan_23 hl (by decide) (by first | rfl | (simp [cat_rf, cat_i, cat_l, cat_r]; done) | (simp [cat_rf, cat_i, cat_l, cat_r]; decide)) (fun ls hl => ?_)
  exact L_25 a1 (if (nI (gL x2 b4)) < a2 then (nI (gL x2 b4)) else a2) mFuel (0 : Int32) x2 H locs ls hI (lv_sub hl [2, 3, 1, 0] rfl) (asc_b hf)

noncomputable def fh_X10_value (h : Nat) (s0 : HSt) : Option (HSt × Int32) :=
  chk (isk s0 h 11) ((if (gI s0 1003 h) ≤ (gI s0 1004 h) then some (s0, (-1 : Int32)) else (dr s0 (gR s0 1002 h) 22).bind fun b3 => chk (inb (gI s0 1004 h) (gL s0 b3)) (some (s0, (gA s0 b3 (gI s0 1004 h).toNatClampNeg)))))
theorem nd_X10_value : yX10_value.cls ≠ "java/lang/invoke/MethodHandle" ∧ yX10_value.cls ≠ "java/lang/invoke/VarHandle" ∧ (parseMethodDescriptor yX10_value.desc).map (fun d => d.parameters.length) = some 0 := by decide +kernel
set_option maxHeartbeats 4000000 in
set_option maxRecDepth 100000 in
theorem ch_X10_value (l : Launch) (D : va_G) (cy : Nat → ClassId) (h : Nat)  (s0 : HSt) (out : HSt × Int32) (hf : fh_X10_value h s0 = some out) : CHi l D cy yX10_value wsX10_value { frames := 0, cells := 0, slots := 0, locals := 0 } 0 0 False True [.ref h] s0 out := by
  refine Met.ofW (cc := cX10_value) (maxL := 1) (ret := (some .int)) (by decide) rfl ?_
  intro p e s m args below meth c s₁ B hml hv
  obtain ⟨rfl, hP, hK, hD0, hkx, hsz, hal⟩ := hv
  have hx := B.exec
  have hb := B.bytes
  have hr := B.returns
  have hts := atoms_spec (ws := wsX10_value) B.pre
  have hown : s.vm.findClass RX10 = some m.cls := findClass_of_methodNamed B.named
  have hlocks := B.notSynchronized
  have hI : HI D cy s s0 s0 s.heap [] 0 False True := ⟨hK, hP, hD0.weaken (fun k q hk _ => Or.inl (pl_mem hk)), va_S.rf, hsz.1, hkx, ⟨hsz, hal⟩, fun _ => rfl, Nat.le_refl _⟩
  have hin_X10 : ∀ w ∈ u_ws RX10 TX10 6, w ∈ wsX10_value := fun w hw => List.mem_cons_of_mem _ (List.mem_append_right _ hw)
  have kl_18 : Cond.fieldLink RX10 18 "HalfBridge$Tokens" "values" "[I" ∈ wsX10_value := by decide +kernel
  have kl_21 : Cond.fieldLink RX10 21 "HalfBridge$Tokens" "size" "I" ∈ wsX10_value := by decide +kernel
  have kl_25 : Cond.fieldLink RX10 25 "HalfBridge$Tokens" "at" "I" ∈ wsX10_value := by decide +kernel
  have hl := lv_entry ([.ref h]) (n := 1) (Nat.le_of_ble_eq_true rfl)
  rw [lg_entry_eq]
  generalize (lg_sl ([.ref h]) ++ List.replicate (1 - (lg_sl ([.ref h])).length) Slot.unset).toArray = ls at hl ⊢
  have hl : lv_has ls 1 [(0, .ref h)] := hl
  obtain ⟨K0, hK0, hf⟩ := top_e hf
  unfold fh_X10_value at hf
  refine lv_aload_n hx hb dX10_value_0 rfl (lv_at hl 0 rfl) ?_
  obtain ⟨k1, hf⟩ := chk_b hf
  refine hg_10_4 hx hb hts hin_X10 hown kl_25 hI (isk_k k1) dX10_value_1 ?_
  refine lv_aload_n hx hb dX10_value_4 rfl (lv_at hl 0 rfl) ?_
  refine hg_10_3 hx hb hts hin_X10 hown kl_21 hI (isk_k k1) dX10_value_5 ?_
  refine lv_icmp_ge (tgt := 23) hx hb dX10_value_8 (by decide) (fun c2 => ?_) (fun c2 => ?_)
  · replace hf := ifp c2 hf
    refine lv_iconst (v := -1) hx hb dX10_value_23 (by decide) ?_
    exact hret_i hx hb hr hlocks hI (by decide) (by decide) (fun _ => ⟨trivial, rfl⟩) (ret_e hK0 hf) dX10_value_24
  · replace hf := ifn c2 hf
    refine lv_aload_n hx hb dX10_value_11 rfl (lv_at hl 0 rfl) ?_
    refine hg_10_2 hx hb hts hin_X10 hown kl_18 hI (isk_k k1) dX10_value_12 ?_
    refine lv_aload_n hx hb dX10_value_15 rfl (lv_at hl 0 rfl) ?_
    refine hg_10_4 hx hb hts hin_X10 hown kl_25 hI (isk_k k1) dX10_value_16 ?_
    obtain ⟨b3, hd4, hf⟩ := bnd_b hf
    obtain ⟨hq5, hk6⟩ := dr_e hd4
    refine W.eq (g2 := F0 m 19 ls [.int (gI s0 1004 h), .ref b3]) (by rw [hq5]; rfl) ?_
    obtain ⟨k7, hf⟩ := chk_b hf
    refine hl_I hx hb hI hk6 k7 dX10_value_19 ?_
    refine lv_goto (tgt := 24) hx hb dX10_value_20 (by decide) ?_
    exact hret_i hx hb hr hlocks hI (by decide) (by decide) (fun _ => ⟨trivial, rfl⟩) (ret_e hK0 hf) dX10_value_24

noncomputable def fh_X11_hasRiver (h : Nat) (s0 : HSt) : Option (HSt × Int32) :=
  chk (isk s0 h 12) ((dr s0 (gR s0 1104 h) 9).bind fun b2 => (dr s0 (gR s0 800 b2) 10).bind fun b6 => (dr s0 (gR s0 900 b6) 5).bind fun b10 => (if (gI s0 400 b10) ≤ 0 then some (s0, (0 : Int32)) else some (s0, (1 : Int32))))
theorem nd_X11_hasRiver : yX11_hasRiver.cls ≠ "java/lang/invoke/MethodHandle" ∧ yX11_hasRiver.cls ≠ "java/lang/invoke/VarHandle" ∧ (parseMethodDescriptor yX11_hasRiver.desc).map (fun d => d.parameters.length) = some 0 := by decide +kernel
set_option maxHeartbeats 4000000 in
set_option maxRecDepth 100000 in
theorem ch_X11_hasRiver (l : Launch) (D : va_G) (cy : Nat → ClassId) (h : Nat)  (s0 : HSt) (out : HSt × Int32) (hf : fh_X11_hasRiver h s0 = some out) : CHi l D cy yX11_hasRiver wsX11_hasRiver { frames := 0, cells := 0, slots := 0, locals := 0 } 0 0 False True [.ref h] s0 out := by
  refine Met.ofW (cc := cX11_hasRiver) (maxL := 1) (ret := (some .boolean)) (by decide) rfl ?_
  intro p e s m args below meth c s₁ B hml hv
  obtain ⟨rfl, hP, hK, hD0, hkx, hsz, hal⟩ := hv
  have hx := B.exec
  have hb := B.bytes
  have hr := B.returns
  have hts := atoms_spec (ws := wsX11_hasRiver) B.pre
  have hown : s.vm.findClass RX11 = some m.cls := findClass_of_methodNamed B.named
  have hlocks := B.notSynchronized
  have hI : HI D cy s s0 s0 s.heap [] 0 False True := ⟨hK, hP, hD0.weaken (fun k q hk _ => Or.inl (pl_mem hk)), va_S.rf, hsz.1, hkx, ⟨hsz, hal⟩, fun _ => rfl, Nat.le_refl _⟩
  have hin_X11 : ∀ w ∈ u_ws RX11 TX11 10, w ∈ wsX11_hasRiver := fun w hw => List.mem_cons_of_mem _ (List.mem_append_left _ (List.mem_append_left _ (List.mem_append_left _ (List.mem_append_right _ hw))))
  have hin_X4 : ∀ w ∈ u_ws RX4 TX4 9, w ∈ wsX11_hasRiver := fun w hw => List.mem_cons_of_mem _ (List.mem_append_right _ hw)
  have hin_X8 : ∀ w ∈ u_ws RX8 TX8 5, w ∈ wsX11_hasRiver := fun w hw => List.mem_cons_of_mem _ (List.mem_append_left _ (List.mem_append_left _ (List.mem_append_right _ hw)))
  have hin_X9 : ∀ w ∈ u_ws RX9 TX9 5, w ∈ wsX11_hasRiver := fun w hw => List.mem_cons_of_mem _ (List.mem_append_left _ (List.mem_append_right _ hw))
  have kl_22 : Cond.fieldLink RX11 22 "HalfBridge" "site" "LHalfBridge$Site;" ∈ wsX11_hasRiver := by decide +kernel
  have kl_82 : Cond.fieldLink RX11 82 "HalfBridge$River" "wide" "I" ∈ wsX11_hasRiver := by decide +kernel
  have kl_93 : Cond.fieldLink RX11 93 "HalfBridge$Site" "span" "LHalfBridge$Span;" ∈ wsX11_hasRiver := by decide +kernel
  have kl_140 : Cond.fieldLink RX11 140 "HalfBridge$Span" "river" "LHalfBridge$River;" ∈ wsX11_hasRiver := by decide +kernel
  have hl := lv_entry ([.ref h]) (n := 1) (Nat.le_of_ble_eq_true rfl)
  rw [lg_entry_eq]
  generalize (lg_sl ([.ref h]) ++ List.replicate (1 - (lg_sl ([.ref h])).length) Slot.unset).toArray = ls at hl ⊢
  have hl : lv_has ls 1 [(0, .ref h)] := hl
  obtain ⟨K0, hK0, hf⟩ := top_e hf
  unfold fh_X11_hasRiver at hf
  refine lv_aload_n hx hb dX11_hasRiver_0 rfl (lv_at hl 0 rfl) ?_
  obtain ⟨k1, hf⟩ := chk_b hf
  refine hg_11_4 hx hb hts hin_X11 hown kl_22 hI (isk_k k1) dX11_hasRiver_1 ?_
  obtain ⟨b2, hd3, hf⟩ := bnd_b hf
  obtain ⟨hq4, hk5⟩ := dr_e hd3
  refine W.eq (g2 := F0 m 4 ls [.ref b2]) (by rw [hq4]; rfl) ?_
  refine hg_8_0 hx hb hts hin_X8 hown kl_93 hI hk5 dX11_hasRiver_4 ?_
  obtain ⟨b6, hd7, hf⟩ := bnd_b hf
  obtain ⟨hq8, hk9⟩ := dr_e hd7
  refine W.eq (g2 := F0 m 7 ls [.ref b6]) (by rw [hq8]; rfl) ?_
  refine hg_9_0 hx hb hts hin_X9 hown kl_140 hI hk9 dX11_hasRiver_7 ?_
  obtain ⟨b10, hd11, hf⟩ := bnd_b hf
  obtain ⟨hq12, hk13⟩ := dr_e hd11
  refine W.eq (g2 := F0 m 10 ls [.ref b10]) (by rw [hq12]; rfl) ?_
  refine hg_4_0 hx hb hts hin_X4 hown kl_82 hI hk13 dX11_hasRiver_10 ?_
  refine lv_if_le (tgt := 20) hx hb dX11_hasRiver_13 (by decide) (fun c14 => ?_) (fun c14 => ?_)
  · replace hf := ifp c14 hf
    refine lv_iconst (v := 0) hx hb dX11_hasRiver_20 (by decide) ?_
    exact hret_z hx hb hr (by decide) hlocks hI (by decide) (by decide) (fun _ => ⟨trivial, rfl⟩) (ret_e hK0 hf) dX11_hasRiver_21
  · replace hf := ifn c14 hf
    refine lv_iconst (v := 1) hx hb dX11_hasRiver_16 (by decide) ?_
    refine lv_goto (tgt := 21) hx hb dX11_hasRiver_17 (by decide) ?_
    exact hret_z hx hb hr (by decide) hlocks hI (by decide) (by decide) (fun _ => ⟨trivial, rfl⟩) (ret_e hK0 hf) dX11_hasRiver_21

noncomputable def fh_X11_isRule (h : Nat) (a1 : Int32) (s0 : HSt) : Option (HSt × Int32) :=
  (if a1 < (-1 : Int32) then some (s0, (0 : Int32)) else chk (isk s0 h 12) ((if (gI s0 1103 h) ≤ a1 then some (s0, (0 : Int32)) else some (s0, (1 : Int32)))))
theorem nd_X11_isRule : yX11_isRule.cls ≠ "java/lang/invoke/MethodHandle" ∧ yX11_isRule.cls ≠ "java/lang/invoke/VarHandle" ∧ (parseMethodDescriptor yX11_isRule.desc).map (fun d => d.parameters.length) = some 1 := by decide +kernel
set_option maxHeartbeats 4000000 in
set_option maxRecDepth 100000 in
theorem ch_X11_isRule (l : Launch) (D : va_G) (cy : Nat → ClassId) (h : Nat) (a1 : Int32) (s0 : HSt) (out : HSt × Int32) (hf : fh_X11_isRule h a1 s0 = some out) : CHi l D cy yX11_isRule wsX11_isRule { frames := 0, cells := 0, slots := 0, locals := 0 } 0 0 False True [.ref h, .int a1] s0 out := by
  refine Met.ofW (cc := cX11_isRule) (maxL := 2) (ret := (some .boolean)) (by decide) rfl ?_
  intro p e s m args below meth c s₁ B hml hv
  obtain ⟨rfl, hP, hK, hD0, hkx, hsz, hal⟩ := hv
  have hx := B.exec
  have hb := B.bytes
  have hr := B.returns
  have hts := atoms_spec (ws := wsX11_isRule) B.pre
  have hown : s.vm.findClass RX11 = some m.cls := findClass_of_methodNamed B.named
  have hlocks := B.notSynchronized
  have hI : HI D cy s s0 s0 s.heap [] 0 False True := ⟨hK, hP, hD0.weaken (fun k q hk _ => Or.inl (pl_mem hk)), va_S.rf, hsz.1, hkx, ⟨hsz, hal⟩, fun _ => rfl, Nat.le_refl _⟩
  have hin_X11 : ∀ w ∈ u_ws RX11 TX11 10, w ∈ wsX11_isRule := fun w hw => List.mem_cons_of_mem _ (List.mem_append_right _ hw)
  have kl_87 : Cond.fieldLink RX11 87 "HalfBridge" "ruleCount" "I" ∈ wsX11_isRule := by decide +kernel
  have hl := lv_entry ([.ref h, .int a1]) (n := 2) (Nat.le_of_ble_eq_true rfl)
  rw [lg_entry_eq]
  generalize (lg_sl ([.ref h, .int a1]) ++ List.replicate (2 - (lg_sl ([.ref h, .int a1])).length) Slot.unset).toArray = ls at hl ⊢
  have hl : lv_has ls 2 [(0, .ref h), (1, .int a1)] := hl
  obtain ⟨K0, hK0, hf⟩ := top_e hf
  unfold fh_X11_isRule at hf
  refine lv_iload_n hx hb dX11_isRule_0 rfl (lv_at hl 1 rfl) ?_
  refine lv_iconst (v := -1) hx hb dX11_isRule_1 (by decide) ?_
  refine lv_icmp_lt (tgt := 17) hx hb dX11_isRule_2 (by decide) (fun c1 => ?_) (fun c1 => ?_)
  · replace hf := ifp c1 hf
    refine lv_iconst (v := 0) hx hb dX11_isRule_17 (by decide) ?_
    exact hret_z hx hb hr (by decide) hlocks hI (by decide) (by decide) (fun _ => ⟨trivial, rfl⟩) (ret_e hK0 hf) dX11_isRule_18
  · replace hf := ifn c1 hf
    refine lv_iload_n hx hb dX11_isRule_5 rfl (lv_at hl 1 rfl) ?_
    refine lv_aload_n hx hb dX11_isRule_6 rfl (lv_at hl 0 rfl) ?_
    obtain ⟨k2, hf⟩ := chk_b hf
    refine hg_11_3 hx hb hts hin_X11 hown kl_87 hI (isk_k k2) dX11_isRule_7 ?_
    refine lv_icmp_ge (tgt := 17) hx hb dX11_isRule_10 (by decide) (fun c3 => ?_) (fun c3 => ?_)
    · replace hf := ifp c3 hf
      refine lv_iconst (v := 0) hx hb dX11_isRule_17 (by decide) ?_
      exact hret_z hx hb hr (by decide) hlocks hI (by decide) (by decide) (fun _ => ⟨trivial, rfl⟩) (ret_e hK0 hf) dX11_isRule_18
    · replace hf := ifn c3 hf
      refine lv_iconst (v := 1) hx hb dX11_isRule_13 (by decide) ?_
      refine lv_goto (tgt := 18) hx hb dX11_isRule_14 (by decide) ?_
      exact hret_z hx hb hr (by decide) hlocks hI (by decide) (by decide) (fun _ => ⟨trivial, rfl⟩) (ret_e hK0 hf) dX11_isRule_18

noncomputable def fh_X11_areRulesAtRiver (h : Nat) (a1 : Int32) (a2 : Int32) (s0 : HSt) : Option (HSt × Int32) :=
  chk (isk s0 h 12) ((fh_X11_hasRiver h s0).bind fun x2 => (if x2.2 = 0 then some (x2.1, (0 : Int32)) else chk (isk x2.1 h 12) ((fh_X11_isRule h a1 x2.1).bind fun x6 => (if x6.2 = 0 then some (x6.1, (0 : Int32)) else chk (isk x6.1 h 12) ((fh_X11_isRule h a2 x6.1).bind fun x10 => (if x10.2 = 0 then some (x10.1, (0 : Int32)) else some (x10.1, (1 : Int32))))))))
theorem nd_X11_areRulesAtRiver : yX11_areRulesAtRiver.cls ≠ "java/lang/invoke/MethodHandle" ∧ yX11_areRulesAtRiver.cls ≠ "java/lang/invoke/VarHandle" ∧ (parseMethodDescriptor yX11_areRulesAtRiver.desc).map (fun d => d.parameters.length) = some 2 := by decide +kernel
set_option maxHeartbeats 4000000 in
set_option maxRecDepth 100000 in
theorem ch_X11_areRulesAtRiver (l : Launch) (D : va_G) (cy : Nat → ClassId) (h : Nat) (a1 : Int32) (a2 : Int32) (s0 : HSt) (out : HSt × Int32) (hf : fh_X11_areRulesAtRiver h a1 a2 s0 = some out) : CHi l D cy yX11_areRulesAtRiver wsX11_areRulesAtRiver { frames := 1, cells := 0, slots := 0, locals := 21 } 0 0 False True [.ref h, .int a1, .int a2] s0 out := by
  refine Met.ofW (cc := cX11_areRulesAtRiver) (maxL := 3) (ret := (some .boolean)) (by decide) rfl ?_
  intro p e s m args below meth c s₁ B hml hv
  obtain ⟨rfl, hP, hK, hD0, hkx, hsz, hal⟩ := hv
  have hx := B.exec
  have hb := B.bytes
  have hr := B.returns
  have hts := atoms_spec (ws := wsX11_areRulesAtRiver) B.pre
  have hown : s.vm.findClass RX11 = some m.cls := findClass_of_methodNamed B.named
  have hlocks := B.notSynchronized
  have hI : HI D cy s s0 s0 s.heap [] 0 False True := ⟨hK, hP, hD0.weaken (fun k q hk _ => Or.inl (pl_mem hk)), va_S.rf, hsz.1, hkx, ⟨hsz, hal⟩, fun _ => rfl, Nat.le_refl _⟩
  have hl := lv_entry ([.ref h, .int a1, .int a2]) (n := 3) (Nat.le_of_ble_eq_true rfl)
  rw [lg_entry_eq]
  generalize (lg_sl ([.ref h, .int a1, .int a2]) ++ List.replicate (3 - (lg_sl ([.ref h, .int a1, .int a2])).length) Slot.unset).toArray = ls at hl ⊢
  have hl : lv_has ls 3 [(0, .ref h), (1, .int a1), (2, .int a2)] := hl
  obtain ⟨K0, hK0, hf⟩ := top_e hf
  unfold fh_X11_areRulesAtRiver at hf
  refine lv_aload_n hx hb dX11_areRulesAtRiver_0 rfl (lv_at hl 0 rfl) ?_
  obtain ⟨k1, hf⟩ := chk_b hf
  obtain ⟨x2, hc3, hf⟩ := bnd_b hf
  refine hcall_Vi (ex2 := True) (As := []) (rest := []) (n := 0) (by rw [(isk_k k1)]; decide) (hC_12 (isk_k k1)) rfl ⟨hx, hb, hml, hown, hts⟩ (ch_X11_hasRiver l D cy h s0 x2 hc3) (cwV 0 hts gX11_areRulesAtRiver_X11_hasRiver rfl rfl rfl ⟨rfl, nd_X11_hasRiver⟩ ⟨Nat.le_of_ble_eq_true rfl, Nat.le_of_ble_eq_true rfl⟩) hI (fun h => h.elim) (fun _ => ⟨trivial, trivial⟩) rfl hl.1 (Nat.le_of_ble_eq_true rfl) dX11_areRulesAtRiver_1 ⟨Nat.le_of_ble_eq_true rfl, Nat.le_of_ble_eq_true rfl⟩ (fun H locs hI => ?_)
  refine lv_if_eq (tgt := 27) hx hb dX11_areRulesAtRiver_4 (by decide) (fun c4 => ?_) (fun c4 => ?_)
  · replace hf := ifp c4 hf
    refine lv_iconst (v := 0) hx hb dX11_areRulesAtRiver_27 (by decide) ?_
    exact hret_z hx hb hr (by decide) hlocks hI (by decide) (by decide) (fun _ => ⟨trivial, rfl⟩) (ret_e hK0 hf) dX11_areRulesAtRiver_28
  · replace hf := ifn c4 hf
    refine lv_aload_n hx hb dX11_areRulesAtRiver_7 rfl (lv_at hl 0 rfl) ?_
    refine lv_iload_n hx hb dX11_areRulesAtRiver_8 rfl (lv_at hl 1 rfl) ?_
    obtain ⟨k5, hf⟩ := chk_b hf
    obtain ⟨x6, hc7, hf⟩ := bnd_b hf
    refine hcall_Vi (ex2 := True) (As := [.int a1]) (rest := []) (n := 1) (by rw [(isk_k k5)]; decide) (hC_12 (isk_k k5)) rfl ⟨hx, hb, hml, hown, hts⟩ (ch_X11_isRule l D cy h a1 x2.1 x6 hc7) (cwV 1 hts gX11_areRulesAtRiver_X11_isRule rfl rfl rfl ⟨rfl, nd_X11_isRule⟩ ⟨Nat.le_of_ble_eq_true rfl, Nat.le_of_ble_eq_true rfl⟩) hI (fun h => h.elim) (fun _ => ⟨trivial, trivial⟩) rfl hl.1 (Nat.le_of_ble_eq_true rfl) dX11_areRulesAtRiver_9 ⟨Nat.le_of_ble_eq_true rfl, Nat.le_of_ble_eq_true rfl⟩ (fun H locs hI => ?_)
    refine lv_if_eq (tgt := 27) hx hb dX11_areRulesAtRiver_12 (by decide) (fun c8 => ?_) (fun c8 => ?_)
    · replace hf := ifp c8 hf
      refine lv_iconst (v := 0) hx hb dX11_areRulesAtRiver_27 (by decide) ?_
      exact hret_z hx hb hr (by decide) hlocks hI (by decide) (by decide) (fun _ => ⟨trivial, rfl⟩) (ret_e hK0 hf) dX11_areRulesAtRiver_28
    · replace hf := ifn c8 hf
      refine lv_aload_n hx hb dX11_areRulesAtRiver_15 rfl (lv_at hl 0 rfl) ?_
      refine lv_iload_n hx hb dX11_areRulesAtRiver_16 rfl (lv_at hl 2 rfl) ?_
      obtain ⟨k9, hf⟩ := chk_b hf
      obtain ⟨x10, hc11, hf⟩ := bnd_b hf
      refine hcall_Vi (ex2 := True) (As := [.int a2]) (rest := []) (n := 1) (by rw [(isk_k k9)]; decide) (hC_12 (isk_k k9)) rfl ⟨hx, hb, hml, hown, hts⟩ (ch_X11_isRule l D cy h a2 x6.1 x10 hc11) (cwV 1 hts gX11_areRulesAtRiver_X11_isRule rfl rfl rfl ⟨rfl, nd_X11_isRule⟩ ⟨Nat.le_of_ble_eq_true rfl, Nat.le_of_ble_eq_true rfl⟩) hI (fun h => h.elim) (fun _ => ⟨trivial, trivial⟩) rfl hl.1 (Nat.le_of_ble_eq_true rfl) dX11_areRulesAtRiver_17 ⟨Nat.le_of_ble_eq_true rfl, Nat.le_of_ble_eq_true rfl⟩ (fun H locs hI => ?_)
      refine lv_if_eq (tgt := 27) hx hb dX11_areRulesAtRiver_20 (by decide) (fun c12 => ?_) (fun c12 => ?_)
      · replace hf := ifp c12 hf
        refine lv_iconst (v := 0) hx hb dX11_areRulesAtRiver_27 (by decide) ?_
        exact hret_z hx hb hr (by decide) hlocks hI (by decide) (by decide) (fun _ => ⟨trivial, rfl⟩) (ret_e hK0 hf) dX11_areRulesAtRiver_28
      · replace hf := ifn c12 hf
        refine lv_iconst (v := 1) hx hb dX11_areRulesAtRiver_23 (by decide) ?_
        refine lv_goto (tgt := 28) hx hb dX11_areRulesAtRiver_24 (by decide) ?_
        exact hret_z hx hb hr (by decide) hlocks hI (by decide) (by decide) (fun _ => ⟨trivial, rfl⟩) (ret_e hK0 hf) dX11_areRulesAtRiver_28
