theorem nd_X9_pack : yX9_pack.cls ≠ "java/lang/invoke/MethodHandle" ∧ yX9_pack.cls ≠ "java/lang/invoke/VarHandle" ∧ (parseMethodDescriptor yX9_pack.desc).map (fun d => d.parameters.length) = some 2 := by decide +kernel
set_option maxHeartbeats 4000000 in
set_option maxRecDepth 100000 in
theorem ch_X9_pack (l : Launch) (D : va_G) (cy : Nat → ClassId) (h : Nat) (a1 : Option Nat) (a2 : Int32) (s0 : HSt) (out : HSt) (hf : fh_X9_pack h a1 a2 s0 = some out) : CHv l D cy yX9_pack wsX9_pack { frames := 1, cells := 0, slots := 0, locals := 22 } 0 0 False True [.ref h, va_rf a1, .int a2] s0 out := by
  refine Met.ofW (cc := cX9_pack) (maxL := 9) (ret := none) (by decide) rfl ?_
  intro p e s m args below meth c s₁ B hml hv
  obtain ⟨rfl, hP, hK, hD0, hkx, hsz, hal⟩ := hv
  have hx := B.exec
  have hb := B.bytes
  have hr := B.returns
  have hts := atoms_spec (ws := wsX9_pack) B.pre
  have hown : s.vm.findClass RX9 = some m.cls := findClass_of_methodNamed B.named
  have hlocks := B.notSynchronized
  have hI : HI D cy s s0 s0 s.heap [] 0 False True := ⟨hK, hP, hD0.weaken (fun k q hk _ => Or.inl (pl_mem hk)), va_S.rf, hsz.1, hkx, ⟨hsz, hal⟩, fun _ => rfl, Nat.le_refl _⟩
  have hin_X9 : ∀ w ∈ u_ws RX9 TX9 5, w ∈ wsX9_pack := fun w hw => List.mem_cons_of_mem _ (List.mem_append_left _ (List.mem_append_right _ hw))
  have kl_16 : Cond.fieldLink RX9 16 "HalfBridge$Span" "yards" "[I" ∈ wsX9_pack := by decide +kernel
  have hl := lv_entry ([.ref h, va_rf a1, .int a2]) (n := 9) (by simp [lg_sl, cat_rf, cat_i, cat_l, cat_r])
  rw [lg_entry_eq]
  generalize (lg_sl ([.ref h, va_rf a1, .int a2]) ++ List.replicate (9 - (lg_sl ([.ref h, va_rf a1, .int a2])).length) Slot.unset).toArray = ls at hl ⊢
  have hl : lv_has ls 9 [(0, .ref h), (1, va_rf a1), (2, .int a2)] := (by simpa [lv_args, cat_rf, cat_i, cat_l, cat_r] using hl)
  obtain ⟨K0, hK0, hf⟩ := top_e hf
  have B_177 : ∀   (st : HSt) (H : Heap) (locs : List Loc) (ls : Array Slot), HI D cy s s0 st H locs 0 False True → lv_has ls 9 [] → (fh_X9_pack_j177 h st).bind K0 = some out → W p l e (headSpec wsX9_pack { frames := 1, cells := 0, slots := 0, locals := 22 }).room s m (([.ref h, va_rf a1, .int a2] : List Value).toArray) below meth c H locs 0 0 (MQ below (HQv D cy s0 0 True out) ([.ref h, va_rf a1, .int a2] : List Value).toArray s 0 0 (hF s0)) (F0 m 177 ls []) := by
    intro st H locs ls hI hl hf
    unfold fh_X9_pack_j177 at hf
    exact hret_v hx hb hr hlocks hI (by decide) (by decide) (fun _ => ⟨trivial, rfl⟩) (ret_e hK0 hf) dX9_pack_177
  have L_59 : ∀ (v1 : Option Nat) (v2 : Int32) (n : Nat) (v3 : Int32) (v4 : Int32) (st : HSt) (H : Heap) (locs : List Loc) (ls : Array Slot), HI D cy s s0 st H locs 0 False True → lv_has ls 9 [(0, .ref h), (1, va_rf v1), (2, .int v2), (3, .int v3), (4, .int v4)] → (iter (fun x : (Int32 × Int32 × HSt) => fh_X9_pack_s59 h v1 v2 x.1 x.2.1 x.2.2) n (v3, v4, st)).bind (fun x => ((Sum.elim (fun o : HSt => (some o : Option (HSt))) (fun x : (Int32 × Int32 × HSt) => fh_X9_pack_j177 h x.2.2)) x).bind K0) = some out → W p l e (headSpec wsX9_pack { frames := 1, cells := 0, slots := 0, locals := 22 }).room s m (([.ref h, va_rf a1, .int a2] : List Value).toArray) below meth c H locs 0 0 (MQ below (HQv D cy s0 0 True out) ([.ref h, va_rf a1, .int a2] : List Value).toArray s 0 0 (hF s0)) (F0 m 59 ls []) := by
    intro v1 v2 n
    induction n with
    | zero => intro v3 v4 st H locs ls hI hl hf; exact (iter_0 hf).elim
    | succ n ih =>
      intro v3 v4 st H locs ls hI hl hf
      obtain ⟨K1, hK1, hf⟩ := iter_e hf
      replace hf : (fh_X9_pack_s59 h v1 v2 v3 v4 st).bind K1 = some out := hf
      have B_59_171 : ∀ (v3 : Int32) (v4 : Int32)  (st : HSt) (H : Heap) (locs : List Loc) (ls : Array Slot), HI D cy s s0 st H locs 0 False True → lv_has ls 9 [(0, .ref h), (1, va_rf v1), (2, .int v2), (3, .int v3), (4, .int v4)] → (fh_X9_pack_j171 h v1 v2 v3 v4 st).bind K1 = some out → W p l e (headSpec wsX9_pack { frames := 1, cells := 0, slots := 0, locals := 22 }).room s m (([.ref h, va_rf a1, .int a2] : List Value).toArray) below meth c H locs 0 0 (MQ below (HQv D cy s0 0 True out) ([.ref h, va_rf a1, .int a2] : List Value).toArray s 0 0 (hF s0)) (F0 m 171 ls []) := by
        intro v3 v4 st H locs ls hI hl hf
        unfold fh_X9_pack_j171 at hf
        refine lv_iinc (v := (v4 + 1)) (lv' := [(4, .int (v4 + 1)), (0, .ref h), (1, va_rf v1), (2, .int v2), (3, .int v3)]) hx hb dX9_pack_171 hl (k := 4) rfl (ci_ _ (by decide)) (by decide) (by first | rfl | (simp [cat_rf, cat_i, cat_l, cat_r]; done) | (simp [cat_rf, cat_i, cat_l, cat_r]; decide)) (fun ls hl => ?_)
        refine lv_goto (tgt := 59) hx hb dX9_pack_174 (by decide) ?_
        replace hf := cont_b hK1 hf
        exact ih v3 (v4 + 1) st H locs ls hI (lv_sub hl [1, 2, 3, 4, 0] rfl) hf
      have L_59_68 : ∀ (v4 : Int32) (n : Nat) (v3 : Int32) (v5 : Int32) (st : HSt) (H : Heap) (locs : List Loc) (ls : Array Slot), HI D cy s s0 st H locs 0 False True → lv_has ls 9 [(0, .ref h), (1, va_rf v1), (2, .int v2), (3, .int v3), (4, .int v4), (5, .int v5)] → (iter (fun x : (Int32 × Int32 × HSt) => fh_X9_pack_s68 h v1 v2 v4 x.1 x.2.1 x.2.2) n (v3, v5, st)).bind (fun x => ((Sum.elim (fun o : HSt => (some (.inl o) : Option ((HSt) ⊕ ((Int32 × Int32 × HSt) ⊕ (Int32 × Int32 × HSt))))) (fun x : (Int32 × Int32 × HSt) => fh_X9_pack_j171 h v1 v2 x.1 v4 x.2.2)) x).bind K1) = some out → W p l e (headSpec wsX9_pack { frames := 1, cells := 0, slots := 0, locals := 22 }).room s m (([.ref h, va_rf a1, .int a2] : List Value).toArray) below meth c H locs 0 0 (MQ below (HQv D cy s0 0 True out) ([.ref h, va_rf a1, .int a2] : List Value).toArray s 0 0 (hF s0)) (F0 m 68 ls []) := by
        intro v4 n
        induction n with
        | zero => intro v3 v5 st H locs ls hI hl hf; exact (iter_0 hf).elim
        | succ n ih =>
          intro v3 v5 st H locs ls hI hl hf
          obtain ⟨K2, hK2, hf⟩ := iter_e hf
          replace hf : (fh_X9_pack_s68 h v1 v2 v4 v3 v5 st).bind K2 = some out := hf
          unfold fh_X9_pack_s68 at hf
          refine lv_iload hx hb dX9_pack_68 (lv_at hl 5 rfl) ?_
          refine lv_aload_n hx hb dX9_pack_70 rfl (lv_at hl 0 rfl) ?_
          obtain ⟨k24, hf⟩ := chk_b hf
          refine hg_9_2 hx hb hts hin_X9 hown kl_16 hI (isk_k k24) dX9_pack_71 ?_
          refine lv_iload hx hb dX9_pack_74 (lv_at hl 4 rfl) ?_
          obtain ⟨b25, hd26, hf⟩ := bnd_b hf
          obtain ⟨hq27, hk28⟩ := dr_e hd26
          refine W.eq (g2 := F0 m 76 ls [.int v4, .ref b25, .int v5]) (by rw [hq27]; rfl) ?_
          obtain ⟨k29, hf⟩ := chk_b hf
          refine hl_I hx hb hI hk28 k29 dX9_pack_76 ?_
          refine lv_icmp_ge (tgt := 171) hx hb dX9_pack_77 (by decide) (fun c30 => ?_) (fun c30 => ?_)
          · replace hf := ifp c30 hf
            replace hf := exit_b hK2 hf
            exact B_59_171 v3 v4 st H locs ls hI (lv_sub hl [0, 1, 2, 3, 4] rfl) hf
          · replace hf := ifn c30 hf
            refine lv_iload_n hx hb dX9_pack_80 rfl (lv_at hl 3 rfl) ?_
            refine lv_bipush (v := 40) hx hb dX9_pack_81 (by decide) ?_
            refine lv_icmp_ge (tgt := 171) hx hb dX9_pack_83 (by decide) (fun c31 => ?_) (fun c31 => ?_)
            · replace hf := ifp c31 hf
              replace hf := exit_b hK2 hf
              exact B_59_171 v3 v4 st H locs ls hI (lv_sub hl [0, 1, 2, 3, 4] rfl) hf
            · replace hf := ifn c31 hf
              refine lv_aload_n hx hb dX9_pack_86 rfl (lv_at hl 0 rfl) ?_
              refine lv_iload hx hb dX9_pack_87 (lv_at hl 4 rfl) ?_
              refine lv_iload hx hb dX9_pack_89 (lv_at hl 5 rfl) ?_
              obtain ⟨x32, hc33, hf⟩ := bnd_b hf
              refine hcall_Vi (ex2 := True) (As := [.int v4, .int v5]) (rest := []) (n := 2) (by rw [(isk_k k24)]; decide) (hC_10 (isk_k k24)) rfl ⟨hx, hb, hml, hown, hts⟩ (ch_X9_lineAt l D cy h v4 v5 st x32 hc33) (cwV 2 hts gX9_pack_X9_lineAt rfl rfl rfl ⟨rfl, nd_X9_lineAt⟩ ⟨Nat.le_of_ble_eq_true rfl, Nat.le_of_ble_eq_true rfl⟩) hI (fun h => h.elim) (fun _ => ⟨trivial, trivial⟩) rfl hl.1 (Nat.le_of_ble_eq_true rfl) dX9_pack_91 ⟨Nat.le_of_ble_eq_true rfl, Nat.le_of_ble_eq_true rfl⟩ (fun H locs hI => ?_)
              refine lv_aload_n hx hb dX9_pack_94 rfl (lv_at hl 0 rfl) ?_
              refine lv_iload hx hb dX9_pack_95 (lv_at hl 4 rfl) ?_
              refine lv_iload hx hb dX9_pack_97 (lv_at hl 5 rfl) ?_
              refine lv_iconst (v := 1) hx hb dX9_pack_99 (by decide) ?_
              refine lv_isub hx hb dX9_pack_100 ?_
              obtain ⟨k34, hf⟩ := chk_b hf
              obtain ⟨x35, hc36, hf⟩ := bnd_b hf
              refine hcall_Vi (ex2 := True) (As := [.int v4, .int (v5 - (1 : Int32))]) (rest := [.int x32.2]) (n := 2) (by rw [(isk_k k34)]; decide) (hC_10 (isk_k k34)) rfl ⟨hx, hb, hml, hown, hts⟩ (ch_X9_lineAt l D cy h v4 (v5 - (1 : Int32)) x32.1 x35 hc36) (cwV 2 hts gX9_pack_X9_lineAt rfl rfl rfl ⟨rfl, nd_X9_lineAt⟩ ⟨Nat.le_of_ble_eq_true rfl, Nat.le_of_ble_eq_true rfl⟩) hI (fun h => h.elim) (fun _ => ⟨trivial, trivial⟩) rfl hl.1 (Nat.le_of_ble_eq_true rfl) dX9_pack_101 ⟨Nat.le_of_ble_eq_true rfl, Nat.le_of_ble_eq_true rfl⟩ (fun H locs hI => ?_)
              refine lv_isub hx hb dX9_pack_104 ?_
              refine lv_istore (lv' := [(6, .int (x32.2 - x35.2)), (0, .ref h), (1, va_rf v1), (2, .int v2), (3, .int v3), (4, .int v4), (5, .int v5)]) hx hb dX9_pack_105 hl (by decide) (by first | rfl | (simp [cat_rf, cat_i, cat_l, cat_r]; done) | (simp [cat_rf, cat_i, cat_l, cat_r]; decide)) (fun ls hl => ?_)
              refine lv_aload_n hx hb dX9_pack_107 rfl (lv_at hl 1 rfl) ?_
              refine lv_iload hx hb dX9_pack_108 (lv_at hl 5 rfl) ?_
              refine lv_iload hx hb dX9_pack_110 (lv_at hl 6 rfl) ?_
              obtain ⟨k37, hf⟩ := chk_b hf
              obtain ⟨x38, hc39, hf⟩ := bnd_b hf
              refine hcall_Vi (ex2 := True) (As := [.int v4, .int v5]) (rest := []) (n := 2) (by rw [(isk_k k37)]; decide) (hC_10 (isk_k k37)) rfl ⟨hx, hb, hml, hown, hts⟩ (ch_X9_heightAt l D cy h v4 v5 x35.1 x38 hc39) (cwV 2 hts gX9_pack_X9_heightAt rfl rfl rfl ⟨rfl, nd_X9_heightAt⟩ ⟨Nat.le_of_ble_eq_true rfl, Nat.le_of_ble_eq_true rfl⟩) hI (fun h => h.elim) (fun _ => ⟨trivial, trivial⟩) rfl hl.1 (Nat.le_of_ble_eq_true rfl) dX9_pack_112 ⟨Nat.le_of_ble_eq_true rfl, Nat.le_of_ble_eq_true rfl⟩ (fun H locs hI => ?_)
              refine lv_aload_n hx hb dX9_pack_115 rfl (lv_at hl 1 rfl) ?_
              refine lv_iload hx hb dX9_pack_116 (lv_at hl 5 rfl) ?_
              refine lv_iload hx hb dX9_pack_118 (lv_at hl 6 rfl) ?_
              refine lv_iconst (v := 1) hx hb dX9_pack_120 (by decide) ?_
              refine lv_isub hx hb dX9_pack_121 ?_
              obtain ⟨k40, hf⟩ := chk_b hf
              obtain ⟨x41, hc42, hf⟩ := bnd_b hf
              refine hcall_Vi (ex2 := True) (As := [.int v4, .int (v5 - (1 : Int32))]) (rest := [.int x38.2]) (n := 2) (by rw [(isk_k k40)]; decide) (hC_10 (isk_k k40)) rfl ⟨hx, hb, hml, hown, hts⟩ (ch_X9_heightAt l D cy h v4 (v5 - (1 : Int32)) x38.1 x41 hc42) (cwV 2 hts gX9_pack_X9_heightAt rfl rfl rfl ⟨rfl, nd_X9_heightAt⟩ ⟨Nat.le_of_ble_eq_true rfl, Nat.le_of_ble_eq_true rfl⟩) hI (fun h => h.elim) (fun _ => ⟨trivial, trivial⟩) rfl hl.1 (Nat.le_of_ble_eq_true rfl) dX9_pack_122 ⟨Nat.le_of_ble_eq_true rfl, Nat.le_of_ble_eq_true rfl⟩ (fun H locs hI => ?_)
              refine lv_isub hx hb dX9_pack_125 ?_
              refine lv_istore (lv' := [(7, .int (x38.2 - x41.2)), (6, .int (x32.2 - x35.2)), (0, .ref h), (1, va_rf v1), (2, .int v2), (3, .int v3), (4, .int v4), (5, .int v5)]) hx hb dX9_pack_126 hl (by decide) (by first | rfl | (simp [cat_rf, cat_i, cat_l, cat_r]; done) | (simp [cat_rf, cat_i, cat_l, cat_r]; decide)) (fun ls hl => ?_)
              refine lv_iload_n hx hb dX9_pack_128 rfl (lv_at hl 4 rfl) ?_
              refine lv_iconst (v := 1) hx hb dX9_pack_129 (by decide) ?_
              refine lv_iadd hx hb dX9_pack_130 ?_
              refine lv_iload_n hx hb dX9_pack_131 rfl (lv_at hl 5 rfl) ?_
              refine lv_iconst (v := 5) hx hb dX9_pack_132 (by decide) ?_
              refine lv_idiv hx hb dX9_pack_133 (by decide) ?_
              refine lv_iadd hx hb dX9_pack_134 ?_
              refine lv_istore (lv' := [(8, .int ((v2 + (1 : Int32)) + (v3 / (5 : Int32)))), (7, .int (x38.2 - x41.2)), (6, .int (x32.2 - x35.2)), (0, .ref h), (1, va_rf v1), (2, .int v2), (3, .int v3), (4, .int v4), (5, .int v5)]) hx hb dX9_pack_135 hl (by decide) (by first | rfl | (simp [cat_rf, cat_i, cat_l, cat_r]; done) | (simp [cat_rf, cat_i, cat_l, cat_r]; decide)) (fun ls hl => ?_)
              refine hq_aload_n hx hb dX9_pack_137 rfl (lv_at hl 4 rfl) ?_
              refine lv_iload hx hb dX9_pack_138 (lv_at hl 0 rfl) ?_
              refine hq_aload_n hx hb dX9_pack_140 rfl (lv_at hl 4 rfl) ?_
              refine lv_iload hx hb dX9_pack_141 (lv_at hl 0 rfl) ?_
              obtain ⟨b43, hd44, hf⟩ := bnd_b hf
              obtain ⟨hq45, hk46⟩ := dr_e hd44
              refine W.eq (g2 := F0 m 143 ls [.int ((v2 + (1 : Int32)) + (v3 / (5 : Int32))), .ref b43, .int ((v2 + (1 : Int32)) + (v3 / (5 : Int32))), va_rf v1]) (by rw [hq45]; rfl) ?_
              obtain ⟨k47, hf⟩ := chk_b hf
              refine hl_J hx hb hI hk46 k47 dX9_pack_143 ?_
              refine lv_ldc2 (v := 41) hx hb hown (hts (.constantLong RX9 107 (41)) (by decide +kernel)) dX9_pack_144 ?_
              refine lv_lmul hx hb dX9_pack_147 ?_
              refine lv_ldc2 (v := 41) hx hb hown (hts (.constantLong RX9 107 (41)) (by decide +kernel)) dX9_pack_148 ?_
              refine lv_lmul hx hb dX9_pack_151 ?_
              refine lv_iload hx hb dX9_pack_152 (lv_at hl 2 rfl) ?_
              refine lv_iload hx hb dX9_pack_154 (lv_at hl 1 rfl) ?_
              obtain ⟨x48, hc49, hf⟩ := bnd_b hf
              refine hcall_Si (ex2 := True) (As := [.int (x32.2 - x35.2), .int (x38.2 - x41.2)]) (rest := [.long (((gJ x41.1 b43 ((v2 + (1 : Int32)) + (v3 / (5 : Int32))).toNatClampNeg) * (41 : Int64)) * (41 : Int64)), .int ((v2 + (1 : Int32)) + (v3 / (5 : Int32))), va_rf v1]) (n := 2) ⟨hx, hb, hml, hown, hts⟩ (ch_X9_planOfYard l D cy (x32.2 - x35.2) (x38.2 - x41.2) x41.1 x48 hc49) (va_cwS 2 hts gX9_pack_X9_planOfYard rfl rfl rfl nd_X9_planOfYard ⟨Nat.le_of_ble_eq_true rfl, Nat.le_of_ble_eq_true rfl⟩) hI (fun h => h.elim) (fun _ => ⟨trivial, trivial⟩) rfl hl.1 (by simp [cat_rf, cat_i, cat_l, cat_r]) dX9_pack_156 ⟨Nat.le_of_ble_eq_true rfl, Nat.le_of_ble_eq_true rfl⟩ (fun H locs hI => ?_)
              refine lv_i2l (v := (x48.2.toInt64)) hx hb dX9_pack_159 rfl ?_
              refine lv_ladd hx hb dX9_pack_160 ?_
              refine W.eq (g2 := F0 m 161 ls [.long ((((gJ x41.1 b43 ((v2 + (1 : Int32)) + (v3 / (5 : Int32))).toNatClampNeg) * (41 : Int64)) * (41 : Int64)) + (x48.2.toInt64)), .int ((v2 + (1 : Int32)) + (v3 / (5 : Int32))), .ref b43]) (by rw [hq45]; rfl) ?_
              obtain ⟨k50, hf⟩ := chk_b hf
              obtain ⟨k51, hf⟩ := chk_b hf
              refine hs_J hx hb hI (isk_k k50) k51 dX9_pack_161 (fun H locs hI => ?_)
              obtain ⟨x52, hx52, hf⟩ := bnd_b hf
              replace hx52 := Option.some.inj hx52
              rw [hx52] at hI
              have hk53 : gK x52 b43 = 23 := by rw [← hx52]; exact (gK_sJ.trans (isk_k k50))
              refine lv_iinc (v := (v3 + 1)) (lv' := [(3, .int (v3 + 1)), (8, .int ((v2 + (1 : Int32)) + (v3 / (5 : Int32)))), (7, .int (x38.2 - x41.2)), (6, .int (x32.2 - x35.2)), (0, .ref h), (1, va_rf v1), (2, .int v2), (4, .int v4), (5, .int v5)]) hx hb dX9_pack_162 hl (k := 6) rfl (ci_ _ (by decide)) (by decide) (by first | rfl | (simp [cat_rf, cat_i, cat_l, cat_r]; done) | (simp [cat_rf, cat_i, cat_l, cat_r]; decide)) (fun ls hl => ?_)
              refine lv_iinc (v := (v5 + 1)) (lv' := [(5, .int (v5 + 1)), (3, .int (v3 + 1)), (8, .int ((v2 + (1 : Int32)) + (v3 / (5 : Int32)))), (7, .int (x38.2 - x41.2)), (6, .int (x32.2 - x35.2)), (0, .ref h), (1, va_rf v1), (2, .int v2), (4, .int v4)]) hx hb dX9_pack_165 hl (k := 8) rfl (ci_ _ (by decide)) (by decide) (by first | rfl | (simp [cat_rf, cat_i, cat_l, cat_r]; done) | (simp [cat_rf, cat_i, cat_l, cat_r]; decide)) (fun ls hl => ?_)
              refine lv_goto (tgt := 68) hx hb dX9_pack_168 (by decide) ?_
              replace hf := cont_b hK2 hf
              exact ih (v3 + 1) (v5 + 1) x52 H locs ls hI (lv_sub hl [5, 6, 7, 1, 8, 0] rfl) hf
      unfold fh_X9_pack_s59 at hf
      refine lv_iload hx hb dX9_pack_59 (lv_at hl 4 rfl) ?_
      refine lv_iconst (v := 2) hx hb dX9_pack_61 (by decide) ?_
      refine lv_icmp_ge (tgt := 177) hx hb dX9_pack_62 (by decide) (fun c23 => ?_) (fun c23 => ?_)
      · replace hf := ifp c23 hf
        replace hf := exit_b hK1 hf
        exact B_177  st H locs ls hI (lv_sub hl [] rfl) hf
      · replace hf := ifn c23 hf
        refine lv_iconst (v := 0) hx hb dX9_pack_65 (by decide) ?_
        refine lv_istore (lv' := [(5, .int (0 : Int32)), (0, .ref h), (1, va_rf v1), (2, .int v2), (3, .int v3), (4, .int v4)]) hx hb dX9_pack_66 hl (by decide) (by first | rfl | (simp [cat_rf, cat_i, cat_l, cat_r]; done) | (simp [cat_rf, cat_i, cat_l, cat_r]; decide)) (fun ls hl => ?_)
        exact L_59_68 v4 mFuel v3 (0 : Int32) st H locs ls hI (lv_sub hl [1, 2, 3, 4, 5, 0] rfl) (asc_b hf)
  have B_34 : ∀ (v1 : Option Nat) (v2 : Int32)  (st : HSt) (H : Heap) (locs : List Loc) (ls : Array Slot), HI D cy s s0 st H locs 0 False True → lv_has ls 9 [(0, .ref h), (1, va_rf v1), (2, .int v2)] → (fh_X9_pack_j34 h v1 v2 st).bind K0 = some out → W p l e (headSpec wsX9_pack { frames := 1, cells := 0, slots := 0, locals := 22 }).room s m (([.ref h, va_rf a1, .int a2] : List Value).toArray) below meth c H locs 0 0 (MQ below (HQv D cy s0 0 True out) ([.ref h, va_rf a1, .int a2] : List Value).toArray s 0 0 (hF s0)) (F0 m 34 ls []) := by
    intro v1 v2 st H locs ls hI hl hf
    unfold fh_X9_pack_j34 at hf
    refine hq_aload_n hx hb dX9_pack_34 rfl (lv_at hl 1 rfl) ?_
    refine lv_iload_n hx hb dX9_pack_35 rfl (lv_at hl 2 rfl) ?_
    refine lv_aload_n hx hb dX9_pack_36 rfl (lv_at hl 0 rfl) ?_
    obtain ⟨k7, hf⟩ := chk_b hf
    refine hg_9_2 hx hb hts hin_X9 hown kl_16 hI (isk_k k7) dX9_pack_37 ?_
    refine lv_iconst (v := 0) hx hb dX9_pack_40 (by decide) ?_
    obtain ⟨b8, hd9, hf⟩ := bnd_b hf
    obtain ⟨hq10, hk11⟩ := dr_e hd9
    refine W.eq (g2 := F0 m 41 ls [.int (0 : Int32), .ref b8, .int v2, va_rf v1]) (by rw [hq10]; rfl) ?_
    obtain ⟨k12, hf⟩ := chk_b hf
    refine hl_I hx hb hI hk11 k12 dX9_pack_41 ?_
    refine lv_bipush (v := 41) hx hb dX9_pack_42 (by decide) ?_
    refine lv_imul hx hb dX9_pack_44 ?_
    refine lv_aload_n hx hb dX9_pack_45 rfl (lv_at hl 0 rfl) ?_
    refine hg_9_2 hx hb hts hin_X9 hown kl_16 hI (isk_k k7) dX9_pack_46 ?_
    refine lv_iconst (v := 1) hx hb dX9_pack_49 (by decide) ?_
    refine W.eq (g2 := F0 m 50 ls [.int (1 : Int32), .ref b8, .int ((gA st b8 (0 : Int32).toNatClampNeg) * (41 : Int32)), .int v2, va_rf v1]) (by rw [hq10]; rfl) ?_
    obtain ⟨k13, hf⟩ := chk_b hf
    refine hl_I hx hb hI hk11 k13 dX9_pack_50 ?_
    refine lv_iadd hx hb dX9_pack_51 ?_
    refine lv_i2l (v := ((((gA st b8 (0 : Int32).toNatClampNeg) * (41 : Int32)) + (gA st b8 (1 : Int32).toNatClampNeg)).toInt64)) hx hb dX9_pack_52 rfl ?_
    obtain ⟨b14, hd15, hf⟩ := bnd_b hf
    obtain ⟨hq16, hk17⟩ := dr_e hd15
    refine W.eq (g2 := F0 m 53 ls [.long ((((gA st b8 (0 : Int32).toNatClampNeg) * (41 : Int32)) + (gA st b8 (1 : Int32).toNatClampNeg)).toInt64), .int v2, .ref b14]) (by rw [hq16]; rfl) ?_
    obtain ⟨k18, hf⟩ := chk_b hf
    refine hs_J hx hb hI hk17 k18 dX9_pack_53 (fun H locs hI => ?_)
    obtain ⟨x19, hx19, hf⟩ := bnd_b hf
    replace hx19 := Option.some.inj hx19
    rw [hx19] at hI
    have hk20 : gK x19 h = 10 := by rw [← hx19]; exact (gK_sJ.trans (isk_k k7))
    have hk21 : gK x19 b8 = 22 := by rw [← hx19]; exact (gK_sJ.trans hk11)
    have hk22 : gK x19 b14 = 23 := by rw [← hx19]; exact (gK_sJ.trans hk17)
    refine lv_iconst (v := 0) hx hb dX9_pack_54 (by decide) ?_
    refine lv_istore_n (lv' := [(3, .int (0 : Int32)), (0, .ref h), (1, va_rf v1), (2, .int v2)]) hx hb dX9_pack_55 rfl hl (by decide) (by first | rfl | (simp [cat_rf, cat_i, cat_l, cat_r]; done) | (simp [cat_rf, cat_i, cat_l, cat_r]; decide)) (fun ls hl => ?_)
    refine lv_iconst (v := 0) hx hb dX9_pack_56 (by decide) ?_
    refine lv_istore (lv' := [(4, .int (0 : Int32)), (3, .int (0 : Int32)), (0, .ref h), (1, va_rf v1), (2, .int v2)]) hx hb dX9_pack_57 hl (by decide) (by first | rfl | (simp [cat_rf, cat_i, cat_l, cat_r]; done) | (simp [cat_rf, cat_i, cat_l, cat_r]; decide)) (fun ls hl => ?_)
    exact L_59 v1 v2 mFuel (0 : Int32) (0 : Int32) x19 H locs ls hI (lv_sub hl [2, 3, 4, 1, 0] rfl) (asc_b hf)
  have L_16 : ∀ (v1 : Option Nat) (v2 : Int32) (n : Nat) (v3 : Int32) (st : HSt) (H : Heap) (locs : List Loc) (ls : Array Slot), HI D cy s s0 st H locs 0 False True → lv_has ls 9 [(0, .ref h), (1, va_rf v1), (2, .int v2), (3, .int v3)] → (iter (fun x : (Int32 × HSt) => fh_X9_pack_s16 h v1 v2 x.1 x.2) n (v3, st)).bind (fun x => ((Sum.elim (fun o : HSt => (some o : Option (HSt))) (fun x : (Int32 × HSt) => fh_X9_pack_j34 h v1 v2 x.2)) x).bind K0) = some out → W p l e (headSpec wsX9_pack { frames := 1, cells := 0, slots := 0, locals := 22 }).room s m (([.ref h, va_rf a1, .int a2] : List Value).toArray) below meth c H locs 0 0 (MQ below (HQv D cy s0 0 True out) ([.ref h, va_rf a1, .int a2] : List Value).toArray s 0 0 (hF s0)) (F0 m 16 ls []) := by
    intro v1 v2 n
    induction n with
    | zero => intro v3 st H locs ls hI hl hf; exact (iter_0 hf).elim
    | succ n ih =>
      intro v3 st H locs ls hI hl hf
      obtain ⟨K1, hK1, hf⟩ := iter_e hf
      replace hf : (fh_X9_pack_s16 h v1 v2 v3 st).bind K1 = some out := hf
      unfold fh_X9_pack_s16 at hf
      refine lv_iload_n hx hb dX9_pack_16 rfl (lv_at hl 3 rfl) ?_
      refine lv_bipush (v := 9) hx hb dX9_pack_17 (by decide) ?_
      refine lv_icmp_ge (tgt := 34) hx hb dX9_pack_19 (by decide) (fun c54 => ?_) (fun c54 => ?_)
      · replace hf := ifp c54 hf
        replace hf := exit_b hK1 hf
        exact B_34 v1 v2 st H locs ls hI (lv_sub hl [0, 1, 2] rfl) hf
      · replace hf := ifn c54 hf
        refine hq_aload_n hx hb dX9_pack_22 rfl (lv_at hl 1 rfl) ?_
        refine lv_iload_n hx hb dX9_pack_23 rfl (lv_at hl 2 rfl) ?_
        refine lv_iload_n hx hb dX9_pack_24 rfl (lv_at hl 3 rfl) ?_
        refine lv_iadd hx hb dX9_pack_25 ?_
        refine lv_lconst (v := 0) hx hb dX9_pack_26 (by decide) ?_
        obtain ⟨b55, hd56, hf⟩ := bnd_b hf
        obtain ⟨hq57, hk58⟩ := dr_e hd56
        refine W.eq (g2 := F0 m 27 ls [.long (0 : Int64), .int (v2 + v3), .ref b55]) (by rw [hq57]; rfl) ?_
        obtain ⟨k59, hf⟩ := chk_b hf
        refine hs_J hx hb hI hk58 k59 dX9_pack_27 (fun H locs hI => ?_)
        refine lv_iinc (v := (v3 + 1)) (lv' := [(3, .int (v3 + 1)), (0, .ref h), (1, va_rf v1), (2, .int v2)]) hx hb dX9_pack_28 hl (k := 3) rfl (ci_ _ (by decide)) (by decide) (by first | rfl | (simp [cat_rf, cat_i, cat_l, cat_r]; done) | (simp [cat_rf, cat_i, cat_l, cat_r]; decide)) (fun ls hl => ?_)
        refine lv_goto (tgt := 16) hx hb dX9_pack_31 (by decide) ?_
        replace hf := cont_b hK1 hf
        exact ih (v3 + 1) (sJ st b55 (v2 + v3).toNatClampNeg (0 : Int64)) H locs ls hI (lv_sub hl [1, 2, 3, 0] rfl) hf
  unfold fh_X9_pack at hf
  refine lv_iload_n hx hb dX9_pack_0 rfl (lv_at hl 2 rfl) ?_
  refine lv_if_lt (tgt := 13) hx hb dX9_pack_1 (by decide) (fun c1 => ?_) (fun c1 => ?_)
  · replace hf := ifp c1 hf
    exact hret_v hx hb hr hlocks hI (by decide) (by decide) (fun _ => ⟨trivial, rfl⟩) (ret_e hK0 hf) dX9_pack_13
  · replace hf := ifn c1 hf
    refine lv_iload_n hx hb dX9_pack_4 rfl (lv_at hl 2 rfl) ?_
    refine lv_bipush (v := 9) hx hb dX9_pack_5 (by decide) ?_
    refine lv_iadd hx hb dX9_pack_7 ?_
    refine hq_aload_n hx hb dX9_pack_8 rfl (lv_at hl 1 rfl) ?_
    obtain ⟨b2, hd3, hf⟩ := bnd_b hf
    obtain ⟨hq4, hk5⟩ := dr_e hd3
    refine W.eq (g2 := F0 m 9 ls [.ref b2, .int (a2 + (9 : Int32))]) (by rw [hq4]; rfl) ?_
    refine ha_23 hx hb hI hk5 dX9_pack_9 ?_
    refine lv_icmp_le (tgt := 14) hx hb dX9_pack_10 (by decide) (fun c6 => ?_) (fun c6 => ?_)
    · replace hf := ifp c6 hf
      refine lv_iconst (v := 0) hx hb dX9_pack_14 (by decide) ?_
      refine lv_istore_n (lv' := [(3, .int (0 : Int32)), (0, .ref h), (1, va_rf a1), (2, .int a2)]) hx hb dX9_pack_15 rfl hl (by decide) (by first | rfl | (simp [cat_rf, cat_i, cat_l, cat_r]; done) | (simp [cat_rf, cat_i, cat_l, cat_r]; decide)) (fun ls hl => ?_)
      exact L_16 a1 a2 mFuel (0 : Int32) s0 s.heap [] ls hI (lv_sub hl [1, 2, 3, 0] rfl) (asc_b hf)
    · replace hf := ifn c6 hf
      exact hret_v hx hb hr hlocks hI (by decide) (by decide) (fun _ => ⟨trivial, rfl⟩) (ret_e hK0 hf) dX9_pack_13

theorem nd_X0_firstLike : yX0_firstLike.cls ≠ "java/lang/invoke/MethodHandle" ∧ yX0_firstLike.cls ≠ "java/lang/invoke/VarHandle" ∧ (parseMethodDescriptor yX0_firstLike.desc).map (fun d => d.parameters.length) = some 1 := by decide +kernel
set_option maxHeartbeats 4000000 in
set_option maxRecDepth 100000 in
theorem ch_X0_firstLike (l : Launch) (D : va_G) (cy : Nat → ClassId) (h : Nat) (a1 : Int32) (s0 : HSt) (out : HSt × Int32) (hf : fh_X0_firstLike h a1 s0 = some out) : CHi l D cy yX0_firstLike wsX0_firstLike { frames := 0, cells := 0, slots := 0, locals := 0 } 0 0 False True [.ref h, .int a1] s0 out := by
  refine Met.ofW (cc := cX0_firstLike) (maxL := 5) (ret := (some .int)) (by decide) rfl ?_
  intro p e s m args below meth c s₁ B hml hv
  obtain ⟨rfl, hP, hK, hD0, hkx, hsz, hal⟩ := hv
  have hx := B.exec
  have hb := B.bytes
  have hr := B.returns
  have hts := atoms_spec (ws := wsX0_firstLike) B.pre
  have hown : s.vm.findClass RX0 = some m.cls := findClass_of_methodNamed B.named
  have hlocks := B.notSynchronized
  have hI : HI D cy s s0 s0 s.heap [] 0 False True := ⟨hK, hP, hD0.weaken (fun k q hk _ => Or.inl (pl_mem hk)), va_S.rf, hsz.1, hkx, ⟨hsz, hal⟩, fun _ => rfl, Nat.le_refl _⟩
  have hin_X0 : ∀ w ∈ u_ws RX0 TX0 11, w ∈ wsX0_firstLike := fun w hw => List.mem_cons_of_mem _ (List.mem_append_right _ hw)
  have kl_112 : Cond.fieldLink RX0 112 "HalfBridge$Foresight" "packed" "[J" ∈ wsX0_firstLike := by decide +kernel
  have hl := lv_entry ([.ref h, .int a1]) (n := 5) (Nat.le_of_ble_eq_true rfl)
  rw [lg_entry_eq]
  generalize (lg_sl ([.ref h, .int a1]) ++ List.replicate (5 - (lg_sl ([.ref h, .int a1])).length) Slot.unset).toArray = ls at hl ⊢
  have hl : lv_has ls 5 [(0, .ref h), (1, .int a1)] := hl
  obtain ⟨K0, hK0, hf⟩ := top_e hf
  have B_65 : ∀ (v1 : Int32)  (st : HSt) (H : Heap) (locs : List Loc) (ls : Array Slot), HI D cy s s0 st H locs 0 False True → lv_has ls 5 [(1, .int v1)] → (fh_X0_firstLike_j65 h v1 st).bind K0 = some out → W p l e (headSpec wsX0_firstLike { frames := 0, cells := 0, slots := 0, locals := 0 }).room s m (([.ref h, .int a1] : List Value).toArray) below meth c H locs 0 0 (MQ below (HQi D cy s0 0 True out) ([.ref h, .int a1] : List Value).toArray s 0 0 (hF s0)) (F0 m 65 ls []) := by
    intro v1 st H locs ls hI hl hf
    unfold fh_X0_firstLike_j65 at hf
    refine lv_iload_n hx hb dX0_firstLike_65 rfl (lv_at hl 0 rfl) ?_
    exact hret_i hx hb hr hlocks hI (by decide) (by decide) (fun _ => ⟨trivial, rfl⟩) (ret_e hK0 hf) dX0_firstLike_66
  have L_5 : ∀ (v1 : Int32) (v2 : Int32) (n : Nat) (v3 : Int32) (st : HSt) (H : Heap) (locs : List Loc) (ls : Array Slot), HI D cy s s0 st H locs 0 False True → lv_has ls 5 [(0, .ref h), (1, .int v1), (2, .int v2), (3, .int v3)] → (iter (fun x : (Int32 × HSt) => fh_X0_firstLike_s5 h v1 v2 x.1 x.2) n (v3, st)).bind (fun x => ((Sum.elim (fun o : HSt × Int32 => (some o : Option (HSt × Int32))) (fun x : (Int32 × HSt) => fh_X0_firstLike_j65 h v1 x.2)) x).bind K0) = some out → W p l e (headSpec wsX0_firstLike { frames := 0, cells := 0, slots := 0, locals := 0 }).room s m (([.ref h, .int a1] : List Value).toArray) below meth c H locs 0 0 (MQ below (HQi D cy s0 0 True out) ([.ref h, .int a1] : List Value).toArray s 0 0 (hF s0)) (F0 m 5 ls []) := by
    intro v1 v2 n
    induction n with
    | zero => intro v3 st H locs ls hI hl hf; exact (iter_0 hf).elim
    | succ n ih =>
      intro v3 st H locs ls hI hl hf
      obtain ⟨K1, hK1, hf⟩ := iter_e hf
      replace hf : (fh_X0_firstLike_s5 h v1 v2 v3 st).bind K1 = some out := hf
      have B_5_51 : ∀ (v3 : Int32) (v4 : Int32)  (st : HSt) (H : Heap) (locs : List Loc) (ls : Array Slot), HI D cy s s0 st H locs 0 False True → lv_has ls 5 [(0, .ref h), (1, .int v1), (2, .int v2), (3, .int v3), (4, .int v4)] → (fh_X0_firstLike_j51 h v1 v2 v3 v4 st).bind K1 = some out → W p l e (headSpec wsX0_firstLike { frames := 0, cells := 0, slots := 0, locals := 0 }).room s m (([.ref h, .int a1] : List Value).toArray) below meth c H locs 0 0 (MQ below (HQi D cy s0 0 True out) ([.ref h, .int a1] : List Value).toArray s 0 0 (hF s0)) (F0 m 51 ls []) := by
        intro v3 v4 st H locs ls hI hl hf
        unfold fh_X0_firstLike_j51 at hf
        refine lv_iload hx hb dX0_firstLike_51 (lv_at hl 4 rfl) ?_
        refine lv_iload_n hx hb dX0_firstLike_53 rfl (lv_at hl 2 rfl) ?_
        refine lv_icmp_ne (tgt := 59) hx hb dX0_firstLike_54 (by decide) (fun c2 => ?_) (fun c2 => ?_)
        · replace hf := ifn c2 hf
          refine lv_iinc (v := (v3 + 1)) (lv' := [(3, .int (v3 + 1)), (0, .ref h), (1, .int v1), (2, .int v2), (4, .int v4)]) hx hb dX0_firstLike_59 hl (k := 3) rfl (ci_ _ (by decide)) (by decide) rfl (fun ls hl => ?_)
          refine lv_goto (tgt := 5) hx hb dX0_firstLike_62 (by decide) ?_
          replace hf := cont_b hK1 hf
          exact ih (v3 + 1) st H locs ls hI (lv_sub hl [1, 2, 3, 0] rfl) hf
        · replace hf := ifp c2 hf
          refine lv_iload_n hx hb dX0_firstLike_57 rfl (lv_at hl 3 rfl) ?_
          replace hf := inl_b hK1 hf
          replace hf : Option.bind (some (st, v3)) K0 = some out := hf
          exact hret_i hx hb hr hlocks hI (by decide) (by decide) (fun _ => ⟨trivial, rfl⟩) (ret_e hK0 hf) dX0_firstLike_58
      have L_5_13 : ∀ (v3 : Int32) (n : Nat) (v4 : Int32) (st : HSt) (H : Heap) (locs : List Loc) (ls : Array Slot), HI D cy s s0 st H locs 0 False True → lv_has ls 5 [(0, .ref h), (1, .int v1), (2, .int v2), (3, .int v3), (4, .int v4)] → (iter (fun x : (Int32 × HSt) => fh_X0_firstLike_s13 h v1 v2 v3 x.1 x.2) n (v4, st)).bind (fun x => ((Sum.elim (fun o : HSt × Int32 => (some (.inl o) : Option ((HSt × Int32) ⊕ ((Int32 × HSt) ⊕ (Int32 × HSt))))) (fun x : (Int32 × HSt) => fh_X0_firstLike_j51 h v1 v2 v3 x.1 x.2)) x).bind K1) = some out → W p l e (headSpec wsX0_firstLike { frames := 0, cells := 0, slots := 0, locals := 0 }).room s m (([.ref h, .int a1] : List Value).toArray) below meth c H locs 0 0 (MQ below (HQi D cy s0 0 True out) ([.ref h, .int a1] : List Value).toArray s 0 0 (hF s0)) (F0 m 13 ls []) := by
        intro v3 n
        induction n with
        | zero => intro v4 st H locs ls hI hl hf; exact (iter_0 hf).elim
        | succ n ih =>
          intro v4 st H locs ls hI hl hf
          obtain ⟨K2, hK2, hf⟩ := iter_e hf
          replace hf : (fh_X0_firstLike_s13 h v1 v2 v3 v4 st).bind K2 = some out := hf
          unfold fh_X0_firstLike_s13 at hf
          refine lv_iload hx hb dX0_firstLike_13 (lv_at hl 4 rfl) ?_
          refine lv_iload_n hx hb dX0_firstLike_15 rfl (lv_at hl 2 rfl) ?_
          refine lv_icmp_ge (tgt := 51) hx hb dX0_firstLike_16 (by decide) (fun c3 => ?_) (fun c3 => ?_)
          · replace hf := ifp c3 hf
            replace hf := exit_b hK2 hf
            exact B_5_51 v3 v4 st H locs ls hI (lv_sub hl [0, 1, 2, 3, 4] rfl) hf
          · replace hf := ifn c3 hf
            refine lv_aload_n hx hb dX0_firstLike_19 rfl (lv_at hl 0 rfl) ?_
            obtain ⟨k4, hf⟩ := chk_b hf
            refine hg_0_10 hx hb hts hin_X0 hown kl_112 hI (isk_k k4) dX0_firstLike_20 ?_
            refine lv_iload_n hx hb dX0_firstLike_23 rfl (lv_at hl 3 rfl) ?_
            refine lv_iload_n hx hb dX0_firstLike_24 rfl (lv_at hl 2 rfl) ?_
            refine lv_imul hx hb dX0_firstLike_25 ?_
            refine lv_iload hx hb dX0_firstLike_26 (lv_at hl 4 rfl) ?_
            refine lv_iadd hx hb dX0_firstLike_28 ?_
            obtain ⟨b5, hd6, hf⟩ := bnd_b hf
            obtain ⟨hq7, hk8⟩ := dr_e hd6
            refine W.eq (g2 := F0 m 29 ls [.int ((v3 * v2) + v4), .ref b5]) (by rw [hq7]; rfl) ?_
            obtain ⟨k9, hf⟩ := chk_b hf
            refine hl_J hx hb hI hk8 k9 dX0_firstLike_29 ?_
            refine lv_aload_n hx hb dX0_firstLike_30 rfl (lv_at hl 0 rfl) ?_
            refine hg_0_10 hx hb hts hin_X0 hown kl_112 hI (isk_k k4) dX0_firstLike_31 ?_
            refine lv_iload_n hx hb dX0_firstLike_34 rfl (lv_at hl 1 rfl) ?_
            refine lv_iload_n hx hb dX0_firstLike_35 rfl (lv_at hl 2 rfl) ?_
            refine lv_imul hx hb dX0_firstLike_36 ?_
            refine lv_iload hx hb dX0_firstLike_37 (lv_at hl 4 rfl) ?_
            refine lv_iadd hx hb dX0_firstLike_39 ?_
            refine W.eq (g2 := F0 m 40 ls [.int ((v1 * v2) + v4), .ref b5, .long (gJ st b5 ((v3 * v2) + v4).toNatClampNeg)]) (by rw [hq7]; rfl) ?_
            obtain ⟨k10, hf⟩ := chk_b hf
            refine hl_J hx hb hI hk8 k10 dX0_firstLike_40 ?_
            refine W.lcmp hx hb dX0_firstLike_41 ?_
            refine lv_if_ne (tgt := 51) hx hb dX0_firstLike_42 (by decide) (fun c11 => ?_) (fun c11 => ?_)
            · replace hf := ifn c11 hf
              replace hf := exit_b hK2 hf
              exact B_5_51 v3 v4 st H locs ls hI (lv_sub hl [0, 1, 2, 3, 4] rfl) hf
            · replace hf := ifp c11 hf
              refine lv_iinc (v := (v4 + 1)) (lv' := [(4, .int (v4 + 1)), (0, .ref h), (1, .int v1), (2, .int v2), (3, .int v3)]) hx hb dX0_firstLike_45 hl (k := 4) rfl (ci_ _ (by decide)) (by decide) rfl (fun ls hl => ?_)
              refine lv_goto (tgt := 13) hx hb dX0_firstLike_48 (by decide) ?_
              replace hf := cont_b hK2 hf
              exact ih (v4 + 1) st H locs ls hI (lv_sub hl [1, 2, 3, 4, 0] rfl) hf
      unfold fh_X0_firstLike_s5 at hf
      refine lv_iload_n hx hb dX0_firstLike_5 rfl (lv_at hl 3 rfl) ?_
      refine lv_iload_n hx hb dX0_firstLike_6 rfl (lv_at hl 1 rfl) ?_
      refine lv_icmp_ge (tgt := 65) hx hb dX0_firstLike_7 (by decide) (fun c1 => ?_) (fun c1 => ?_)
      · replace hf := ifp c1 hf
        replace hf := exit_b hK1 hf
        exact B_65 v1 st H locs ls hI (lv_sub hl [1] rfl) hf
      · replace hf := ifn c1 hf
        refine lv_iconst (v := 0) hx hb dX0_firstLike_10 (by decide) ?_
        refine lv_istore (lv' := [(4, .int (0 : Int32)), (0, .ref h), (1, .int v1), (2, .int v2), (3, .int v3)]) hx hb dX0_firstLike_11 hl (by decide) rfl (fun ls hl => ?_)
        exact L_5_13 v3 mFuel (0 : Int32) st H locs ls hI (lv_sub hl [1, 2, 3, 4, 0] rfl) (asc_b hf)
  unfold fh_X0_firstLike at hf
  refine lv_bipush (v := 9) hx hb dX0_firstLike_0 (by decide) ?_
  refine lv_istore_n (lv' := [(2, .int (9 : Int32)), (0, .ref h), (1, .int a1)]) hx hb dX0_firstLike_2 rfl hl (by decide) rfl (fun ls hl => ?_)
  refine lv_iconst (v := 0) hx hb dX0_firstLike_3 (by decide) ?_
  refine lv_istore_n (lv' := [(3, .int (0 : Int32)), (2, .int (9 : Int32)), (0, .ref h), (1, .int a1)]) hx hb dX0_firstLike_4 rfl hl (by decide) rfl (fun ls hl => ?_)
  exact L_5 a1 (9 : Int32) mFuel (0 : Int32) s0 s.heap [] ls hI (lv_sub hl [2, 3, 1, 0] rfl) (asc_b hf)

theorem nd_X9_isMet : yX9_isMet.cls ≠ "java/lang/invoke/MethodHandle" ∧ yX9_isMet.cls ≠ "java/lang/invoke/VarHandle" ∧ (parseMethodDescriptor yX9_isMet.desc).map (fun d => d.parameters.length) = some 0 := by decide +kernel
set_option maxHeartbeats 4000000 in
set_option maxRecDepth 100000 in
theorem ch_X9_isMet (l : Launch) (D : va_G) (cy : Nat → ClassId) (h : Nat)  (s0 : HSt) (out : HSt × Int32) (hf : fh_X9_isMet h s0 = some out) : CHi l D cy yX9_isMet wsX9_isMet { frames := 1, cells := 0, slots := 0, locals := 20 } 0 0 False True [.ref h] s0 out := by
  refine Met.ofW (cc := cX9_isMet) (maxL := 1) (ret := (some .boolean)) (by decide) rfl ?_
  intro p e s m args below meth c s₁ B hml hv
  obtain ⟨rfl, hP, hK, hD0, hkx, hsz, hal⟩ := hv
  have hx := B.exec
  have hb := B.bytes
  have hr := B.returns
  have hts := atoms_spec (ws := wsX9_isMet) B.pre
  have hown : s.vm.findClass RX9 = some m.cls := findClass_of_methodNamed B.named
  have hlocks := B.notSynchronized
  have hI : HI D cy s s0 s0 s.heap [] 0 False True := ⟨hK, hP, hD0.weaken (fun k q hk _ => Or.inl (pl_mem hk)), va_S.rf, hsz.1, hkx, ⟨hsz, hal⟩, fun _ => rfl, Nat.le_refl _⟩
  have hl := lv_entry ([.ref h]) (n := 1) (Nat.le_of_ble_eq_true rfl)
  rw [lg_entry_eq]
  generalize (lg_sl ([.ref h]) ++ List.replicate (1 - (lg_sl ([.ref h])).length) Slot.unset).toArray = ls at hl ⊢
  have hl : lv_has ls 1 [(0, .ref h)] := hl
  obtain ⟨K0, hK0, hf⟩ := top_e hf
  unfold fh_X9_isMet at hf
  refine lv_aload_n hx hb dX9_isMet_0 rfl (lv_at hl 0 rfl) ?_
  obtain ⟨k1, hf⟩ := chk_b hf
  obtain ⟨x2, hc3, hf⟩ := bnd_b hf
  refine hcall_Vi (ex2 := True) (As := []) (rest := []) (n := 0) (by rw [(isk_k k1)]; decide) (hC_10 (isk_k k1)) rfl ⟨hx, hb, hml, hown, hts⟩ (ch_X9_gap l D cy h s0 x2 hc3) (cwV 0 hts gX9_isMet_X9_gap rfl rfl rfl ⟨rfl, nd_X9_gap⟩ ⟨Nat.le_of_ble_eq_true rfl, Nat.le_of_ble_eq_true rfl⟩) hI (fun h => h.elim) (fun _ => ⟨trivial, trivial⟩) rfl hl.1 (Nat.le_of_ble_eq_true rfl) dX9_isMet_1 ⟨Nat.le_of_ble_eq_true rfl, Nat.le_of_ble_eq_true rfl⟩ (fun H locs hI => ?_)
  refine lv_if_ne (tgt := 11) hx hb dX9_isMet_4 (by decide) (fun c4 => ?_) (fun c4 => ?_)
  · replace hf := ifn c4 hf
    refine lv_iconst (v := 0) hx hb dX9_isMet_11 (by decide) ?_
    exact hret_z hx hb hr (by decide) hlocks hI (by decide) (by decide) (fun _ => ⟨trivial, rfl⟩) (ret_e hK0 hf) dX9_isMet_12
  · replace hf := ifp c4 hf
    refine lv_iconst (v := 1) hx hb dX9_isMet_7 (by decide) ?_
    refine lv_goto (tgt := 12) hx hb dX9_isMet_8 (by decide) ?_
    exact hret_z hx hb hr (by decide) hlocks hI (by decide) (by decide) (fun _ => ⟨trivial, rfl⟩) (ret_e hK0 hf) dX9_isMet_12

theorem nd_X8_errorOn : yX8_errorOn.cls ≠ "java/lang/invoke/MethodHandle" ∧ yX8_errorOn.cls ≠ "java/lang/invoke/VarHandle" ∧ (parseMethodDescriptor yX8_errorOn.desc).map (fun d => d.parameters.length) = some 2 := by decide +kernel
set_option maxHeartbeats 4000000 in
set_option maxRecDepth 100000 in
theorem ch_X8_errorOn (l : Launch) (D : va_G) (cy : Nat → ClassId) (h : Nat) (a1 : Int32) (a2 : Int32) (s0 : HSt) (out : HSt × Int32) (hf : fh_X8_errorOn h a1 a2 s0 = some out) : CHi l D cy yX8_errorOn wsX8_errorOn { frames := 1, cells := 0, slots := 0, locals := 22 } 0 0 False True [.ref h, .int a1, .int a2] s0 out := by
  refine Met.ofW (cc := cX8_errorOn) (maxL := 3) (ret := (some .int)) (by decide) rfl ?_
  intro p e s m args below meth c s₁ B hml hv
  obtain ⟨rfl, hP, hK, hD0, hkx, hsz, hal⟩ := hv
  have hx := B.exec
  have hb := B.bytes
  have hr := B.returns
  have hts := atoms_spec (ws := wsX8_errorOn) B.pre
  have hown : s.vm.findClass RX8 = some m.cls := findClass_of_methodNamed B.named
  have hlocks := B.notSynchronized
  have hI : HI D cy s s0 s0 s.heap [] 0 False True := ⟨hK, hP, hD0.weaken (fun k q hk _ => Or.inl (pl_mem hk)), va_S.rf, hsz.1, hkx, ⟨hsz, hal⟩, fun _ => rfl, Nat.le_refl _⟩
  have hin_X8 : ∀ w ∈ u_ws RX8 TX8 5, w ∈ wsX8_errorOn := fun w hw => List.mem_cons_of_mem _ (List.mem_append_right _ hw)
  have kl_16 : Cond.fieldLink RX8 16 "HalfBridge$Site" "errors" "[I" ∈ wsX8_errorOn := by decide +kernel
  have hl := lv_entry ([.ref h, .int a1, .int a2]) (n := 3) (Nat.le_of_ble_eq_true rfl)
  rw [lg_entry_eq]
  generalize (lg_sl ([.ref h, .int a1, .int a2]) ++ List.replicate (3 - (lg_sl ([.ref h, .int a1, .int a2])).length) Slot.unset).toArray = ls at hl ⊢
  have hl : lv_has ls 3 [(0, .ref h), (1, .int a1), (2, .int a2)] := hl
  obtain ⟨K0, hK0, hf⟩ := top_e hf
  unfold fh_X8_errorOn at hf
  refine lv_aload_n hx hb dX8_errorOn_0 rfl (lv_at hl 0 rfl) ?_
  obtain ⟨k1, hf⟩ := chk_b hf
  refine hg_8_3 hx hb hts hin_X8 hown kl_16 hI (isk_k k1) dX8_errorOn_1 ?_
  refine lv_iload_n hx hb dX8_errorOn_4 rfl (lv_at hl 1 rfl) ?_
  refine lv_bipush (v := 8) hx hb dX8_errorOn_5 (by decide) ?_
  refine lv_imul hx hb dX8_errorOn_7 ?_
  refine lv_iload_n hx hb dX8_errorOn_8 rfl (lv_at hl 2 rfl) ?_
  refine lv_bipush (v := 8) hx hb dX8_errorOn_9 (by decide) ?_
  obtain ⟨x2, hc3, hf⟩ := bnd_b hf
  refine hcall_Si (ex2 := True) (As := [.int a2, .int (8 : Int32)]) (rest := [.int (a1 * (8 : Int32)), va_rf (gR s0 803 h)]) (n := 2) ⟨hx, hb, hml, hown, hts⟩ (ch_J9_floorMod_7cf53 l D cy a2 (8 : Int32) s0 x2 hc3) (va_cwS 2 hts gX8_errorOn_J9_floorMod_7cf53 rfl rfl rfl nd_J9_floorMod_7cf53 ⟨Nat.le_of_ble_eq_true rfl, Nat.le_of_ble_eq_true rfl⟩) hI (fun h => h.elim) (fun _ => ⟨trivial, trivial⟩) rfl hl.1 (by simp [cat_rf, cat_i, cat_l, cat_r]) dX8_errorOn_11 ⟨Nat.le_of_ble_eq_true rfl, Nat.le_of_ble_eq_true rfl⟩ (fun H locs hI => ?_)
  refine lv_iadd hx hb dX8_errorOn_14 ?_
  obtain ⟨b4, hd5, hf⟩ := bnd_b hf
  obtain ⟨hq6, hk7⟩ := dr_e hd5
  refine W.eq (g2 := F0 m 15 ls [.int ((a1 * (8 : Int32)) + x2.2), .ref b4]) (by rw [hq6]; rfl) ?_
  obtain ⟨k8, hf⟩ := chk_b hf
  refine hl_I hx hb hI hk7 k8 dX8_errorOn_15 ?_
  exact hret_i hx hb hr hlocks hI (by decide) (by decide) (fun _ => ⟨trivial, rfl⟩) (ret_e hK0 hf) dX8_errorOn_16
