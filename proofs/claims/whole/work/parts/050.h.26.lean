noncomputable def fh_X11_yard (h : Nat) (a1 : Int32) (a2 : Int32) (a3 : Int32) (s0 : HSt) : Option (HSt × Int32) :=
  chk (isk s0 h 12) ((dr s0 (gR s0 1104 h) 9).bind fun b2 => (fh_X11_isSide a1 s0).bind fun x6 => (if x6.2 = 0 then some (x6.1, (-100000 : Int32)) else (if a2 < 0 then some (x6.1, (-100000 : Int32)) else (dr x6.1 (gR s0 800 b2) 10).bind fun b10 => (fh_X9_yardsOf b10 a1 x6.1).bind fun x14 => (if a2 < x14.2 then (if a3 = 0 then chk (isk x14.1 b10 10) ((fh_X9_lineAt b10 a1 a2 x14.1).bind fun x22 => some (x22.1, x22.2)) else if a3 = 1 then chk (isk x14.1 b10 10) ((fh_X9_heightAt b10 a1 a2 x14.1).bind fun x25 => some (x25.1, x25.2)) else if a3 = 2 then chk (isk x14.1 b10 10) ((fh_X9_lineAt b10 a1 a2 x14.1).bind fun x28 => chk (isk x28.1 b10 10) ((fh_X9_lineAt b10 a1 (a2 - (1 : Int32)) x28.1).bind fun x31 => some (x31.1, (x28.2 - x31.2)))) else if a3 = 3 then chk (isk x14.1 b10 10) ((fh_X9_heightAt b10 a1 a2 x14.1).bind fun x34 => chk (isk x34.1 b10 10) ((fh_X9_heightAt b10 a1 (a2 - (1 : Int32)) x34.1).bind fun x37 => some (x37.1, (x34.2 - x37.2)))) else some (x14.1, (-100000 : Int32))) else some (x14.1, (-100000 : Int32))))))
theorem nd_X11_yard : yX11_yard.cls ≠ "java/lang/invoke/MethodHandle" ∧ yX11_yard.cls ≠ "java/lang/invoke/VarHandle" ∧ (parseMethodDescriptor yX11_yard.desc).map (fun d => d.parameters.length) = some 3 := by decide +kernel
set_option maxHeartbeats 4000000 in
set_option maxRecDepth 100000 in
theorem ch_X11_yard (l : Launch) (D : va_G) (cy : Nat → ClassId) (h : Nat) (a1 : Int32) (a2 : Int32) (a3 : Int32) (s0 : HSt) (out : HSt × Int32) (hf : fh_X11_yard h a1 a2 a3 s0 = some out) : CHi l D cy yX11_yard wsX11_yard { frames := 1, cells := 0, slots := 0, locals := 22 } 0 0 False True [.ref h, .int a1, .int a2, .int a3] s0 out := by
  refine Met.ofW (cc := cX11_yard) (maxL := 5) (ret := (some .int)) (by decide) rfl ?_
  intro p e s m args below meth c s₁ B hml hv
  obtain ⟨rfl, hP, hK, hD0, hkx, hsz, hal⟩ := hv
  have hx := B.exec
  have hb := B.bytes
  have hr := B.returns
  have hts := atoms_spec (ws := wsX11_yard) B.pre
  have hown : s.vm.findClass RX11 = some m.cls := findClass_of_methodNamed B.named
  have hlocks := B.notSynchronized
  have hI : HI D cy s s0 s0 s.heap [] 0 False True := ⟨hK, hP, hD0.weaken (fun k q hk _ => Or.inl (pl_mem hk)), va_S.rf, hsz.1, hkx, ⟨hsz, hal⟩, fun _ => rfl, Nat.le_refl _⟩
  have hin_X11 : ∀ w ∈ u_ws RX11 TX11 10, w ∈ wsX11_yard := fun w hw => List.mem_cons_of_mem _ (List.mem_append_left _ (List.mem_append_left _ (List.mem_append_left _ (List.mem_append_right _ hw))))
  have hin_X8 : ∀ w ∈ u_ws RX8 TX8 5, w ∈ wsX11_yard := fun w hw => List.mem_cons_of_mem _ (List.mem_append_left _ (List.mem_append_left _ (List.mem_append_right _ hw)))
  have kl_22 : Cond.fieldLink RX11 22 "HalfBridge" "site" "LHalfBridge$Site;" ∈ wsX11_yard := by decide +kernel
  have kl_93 : Cond.fieldLink RX11 93 "HalfBridge$Site" "span" "LHalfBridge$Span;" ∈ wsX11_yard := by decide +kernel
  have hl := lv_entry ([.ref h, .int a1, .int a2, .int a3]) (n := 5) (Nat.le_of_ble_eq_true rfl)
  rw [lg_entry_eq]
  generalize (lg_sl ([.ref h, .int a1, .int a2, .int a3]) ++ List.replicate (5 - (lg_sl ([.ref h, .int a1, .int a2, .int a3])).length) Slot.unset).toArray = ls at hl ⊢
  have hl : lv_has ls 5 [(0, .ref h), (1, .int a1), (2, .int a2), (3, .int a3)] := hl
  obtain ⟨K0, hK0, hf⟩ := top_e hf
  unfold fh_X11_yard at hf
  refine lv_aload_n hx hb dX11_yard_0 rfl (lv_at hl 0 rfl) ?_
  obtain ⟨k1, hf⟩ := chk_b hf
  refine hg_11_4 hx hb hts hin_X11 hown kl_22 hI (isk_k k1) dX11_yard_1 ?_
  obtain ⟨b2, hd3, hf⟩ := bnd_b hf
  obtain ⟨hq4, hk5⟩ := dr_e hd3
  refine W.eq (g2 := F0 m 4 ls [.ref b2]) (by rw [hq4]; rfl) ?_
  refine hg_8_0 hx hb hts hin_X8 hown kl_93 hI hk5 dX11_yard_4 ?_
  refine hq_astore (lv' := [(4, va_rf (gR s0 800 b2)), (0, .ref h), (1, .int a1), (2, .int a2), (3, .int a3)]) hx hb dX11_yard_7 hl (by decide) (by first | rfl | (simp [cat_rf, cat_i, cat_l, cat_r]; done) | (simp [cat_rf, cat_i, cat_l, cat_r]; decide)) (fun ls hl => ?_)
  refine lv_iload_n hx hb dX11_yard_9 rfl (lv_at hl 2 rfl) ?_
  obtain ⟨x6, hc7, hf⟩ := bnd_b hf
  refine hcall_Si (ex2 := True) (As := [.int a1]) (rest := []) (n := 1) ⟨hx, hb, hml, hown, hts⟩ (ch_X11_isSide l D cy a1 s0 x6 hc7) (va_cwS 1 hts gX11_yard_X11_isSide rfl rfl rfl nd_X11_isSide ⟨Nat.le_of_ble_eq_true rfl, Nat.le_of_ble_eq_true rfl⟩) hI (fun h => h.elim) (fun _ => ⟨trivial, trivial⟩) rfl hl.1 (Nat.le_of_ble_eq_true rfl) dX11_yard_10 ⟨Nat.le_of_ble_eq_true rfl, Nat.le_of_ble_eq_true rfl⟩ (fun H locs hI => ?_)
  refine lv_if_eq (tgt := 30) hx hb dX11_yard_13 (by decide) (fun c8 => ?_) (fun c8 => ?_)
  · replace hf := ifp c8 hf
    refine lv_ldc (v := -100000) hx hb hown (hts (.constant RX11 107 (-100000)) (by decide +kernel)) dX11_yard_30 ?_
    exact hret_i hx hb hr hlocks hI (by decide) (by decide) (fun _ => ⟨trivial, rfl⟩) (ret_e hK0 hf) dX11_yard_32
  · replace hf := ifn c8 hf
    refine lv_iload_n hx hb dX11_yard_16 rfl (lv_at hl 3 rfl) ?_
    refine lv_if_lt (tgt := 30) hx hb dX11_yard_17 (by decide) (fun c9 => ?_) (fun c9 => ?_)
    · replace hf := ifp c9 hf
      refine lv_ldc (v := -100000) hx hb hown (hts (.constant RX11 107 (-100000)) (by decide +kernel)) dX11_yard_30 ?_
      exact hret_i hx hb hr hlocks hI (by decide) (by decide) (fun _ => ⟨trivial, rfl⟩) (ret_e hK0 hf) dX11_yard_32
    · replace hf := ifn c9 hf
      refine lv_iload_n hx hb dX11_yard_20 rfl (lv_at hl 3 rfl) ?_
      refine hq_aload hx hb dX11_yard_21 (lv_at hl 0 rfl) ?_
      refine lv_iload_n hx hb dX11_yard_23 rfl (lv_at hl 2 rfl) ?_
      obtain ⟨b10, hd11, hf⟩ := bnd_b hf
      obtain ⟨hq12, hk13⟩ := dr_e hd11
      refine W.eq (g2 := F0 m 24 ls [.int a1, .ref b10, .int a2]) (by rw [hq12]; rfl) ?_
      obtain ⟨x14, hc15, hf⟩ := bnd_b hf
      refine hcall_Vi (ex2 := True) (As := [.int a1]) (rest := [.int a2]) (n := 1) (by rw [hk13]; decide) (hC_10 hk13) rfl ⟨hx, hb, hml, hown, hts⟩ (ch_X9_yardsOf l D cy b10 a1 x6.1 x14 hc15) (cwV 1 hts gX11_yard_X9_yardsOf rfl rfl rfl ⟨rfl, nd_X9_yardsOf⟩ ⟨Nat.le_of_ble_eq_true rfl, Nat.le_of_ble_eq_true rfl⟩) hI (fun h => h.elim) (fun _ => ⟨trivial, trivial⟩) rfl hl.1 (Nat.le_of_ble_eq_true rfl) dX11_yard_24 ⟨Nat.le_of_ble_eq_true rfl, Nat.le_of_ble_eq_true rfl⟩ (fun H locs hI => ?_)
      refine lv_icmp_lt (tgt := 33) hx hb dX11_yard_27 (by decide) (fun c16 => ?_) (fun c16 => ?_)
      · replace hf := ifp c16 hf
        refine lv_iload_n hx hb dX11_yard_33 rfl (lv_at hl 4 rfl) ?_
        by_cases c17 : a3 = 0
        · replace hf := ifp c17 hf
          refine lv_tableIn (off := 30) (tgt := 64) hx hb dX11_yard_34 (by rw [c17]; decide) (by rw [c17]; decide) (by rw [c17]; rfl) (by decide) ?_
          refine hq_aload hx hb dX11_yard_64 (lv_at hl 0 rfl) ?_
          refine lv_iload_n hx hb dX11_yard_66 rfl (lv_at hl 2 rfl) ?_
          refine lv_iload_n hx hb dX11_yard_67 rfl (lv_at hl 3 rfl) ?_
          refine W.eq (g2 := F0 m 68 ls [.int a2, .int a1, .ref b10]) (by rw [hq12]; rfl) ?_
          obtain ⟨k21, hf⟩ := chk_b hf
          obtain ⟨x22, hc23, hf⟩ := bnd_b hf
          refine hcall_Vi (ex2 := True) (As := [.int a1, .int a2]) (rest := []) (n := 2) (by rw [(isk_k k21)]; decide) (hC_10 (isk_k k21)) rfl ⟨hx, hb, hml, hown, hts⟩ (ch_X9_lineAt l D cy b10 a1 a2 x14.1 x22 hc23) (cwV 2 hts gX11_yard_X9_lineAt rfl rfl rfl ⟨rfl, nd_X9_lineAt⟩ ⟨Nat.le_of_ble_eq_true rfl, Nat.le_of_ble_eq_true rfl⟩) hI (fun h => h.elim) (fun _ => ⟨trivial, trivial⟩) rfl hl.1 (Nat.le_of_ble_eq_true rfl) dX11_yard_68 ⟨Nat.le_of_ble_eq_true rfl, Nat.le_of_ble_eq_true rfl⟩ (fun H locs hI => ?_)
          exact hret_i hx hb hr hlocks hI (by decide) (by decide) (fun _ => ⟨trivial, rfl⟩) (ret_e hK0 hf) dX11_yard_71
        replace hf := ifn c17 hf
        by_cases c18 : a3 = 1
        · replace hf := ifp c18 hf
          refine lv_tableIn (off := 38) (tgt := 72) hx hb dX11_yard_34 (by rw [c18]; decide) (by rw [c18]; decide) (by rw [c18]; rfl) (by decide) ?_
          refine hq_aload hx hb dX11_yard_72 (lv_at hl 0 rfl) ?_
          refine lv_iload_n hx hb dX11_yard_74 rfl (lv_at hl 2 rfl) ?_
          refine lv_iload_n hx hb dX11_yard_75 rfl (lv_at hl 3 rfl) ?_
          refine W.eq (g2 := F0 m 76 ls [.int a2, .int a1, .ref b10]) (by rw [hq12]; rfl) ?_
          obtain ⟨k24, hf⟩ := chk_b hf
          obtain ⟨x25, hc26, hf⟩ := bnd_b hf
          refine hcall_Vi (ex2 := True) (As := [.int a1, .int a2]) (rest := []) (n := 2) (by rw [(isk_k k24)]; decide) (hC_10 (isk_k k24)) rfl ⟨hx, hb, hml, hown, hts⟩ (ch_X9_heightAt l D cy b10 a1 a2 x14.1 x25 hc26) (cwV 2 hts gX11_yard_X9_heightAt rfl rfl rfl ⟨rfl, nd_X9_heightAt⟩ ⟨Nat.le_of_ble_eq_true rfl, Nat.le_of_ble_eq_true rfl⟩) hI (fun h => h.elim) (fun _ => ⟨trivial, trivial⟩) rfl hl.1 (Nat.le_of_ble_eq_true rfl) dX11_yard_76 ⟨Nat.le_of_ble_eq_true rfl, Nat.le_of_ble_eq_true rfl⟩ (fun H locs hI => ?_)
          exact hret_i hx hb hr hlocks hI (by decide) (by decide) (fun _ => ⟨trivial, rfl⟩) (ret_e hK0 hf) dX11_yard_79
        replace hf := ifn c18 hf
        by_cases c19 : a3 = 2
        · replace hf := ifp c19 hf
          refine lv_tableIn (off := 46) (tgt := 80) hx hb dX11_yard_34 (by rw [c19]; decide) (by rw [c19]; decide) (by rw [c19]; rfl) (by decide) ?_
          refine hq_aload hx hb dX11_yard_80 (lv_at hl 0 rfl) ?_
          refine lv_iload_n hx hb dX11_yard_82 rfl (lv_at hl 2 rfl) ?_
          refine lv_iload_n hx hb dX11_yard_83 rfl (lv_at hl 3 rfl) ?_
          refine W.eq (g2 := F0 m 84 ls [.int a2, .int a1, .ref b10]) (by rw [hq12]; rfl) ?_
          obtain ⟨k27, hf⟩ := chk_b hf
          obtain ⟨x28, hc29, hf⟩ := bnd_b hf
          refine hcall_Vi (ex2 := True) (As := [.int a1, .int a2]) (rest := []) (n := 2) (by rw [(isk_k k27)]; decide) (hC_10 (isk_k k27)) rfl ⟨hx, hb, hml, hown, hts⟩ (ch_X9_lineAt l D cy b10 a1 a2 x14.1 x28 hc29) (cwV 2 hts gX11_yard_X9_lineAt rfl rfl rfl ⟨rfl, nd_X9_lineAt⟩ ⟨Nat.le_of_ble_eq_true rfl, Nat.le_of_ble_eq_true rfl⟩) hI (fun h => h.elim) (fun _ => ⟨trivial, trivial⟩) rfl hl.1 (Nat.le_of_ble_eq_true rfl) dX11_yard_84 ⟨Nat.le_of_ble_eq_true rfl, Nat.le_of_ble_eq_true rfl⟩ (fun H locs hI => ?_)
          refine hq_aload hx hb dX11_yard_87 (lv_at hl 0 rfl) ?_
          refine lv_iload_n hx hb dX11_yard_89 rfl (lv_at hl 2 rfl) ?_
          refine lv_iload_n hx hb dX11_yard_90 rfl (lv_at hl 3 rfl) ?_
          refine lv_iconst (v := 1) hx hb dX11_yard_91 (by decide) ?_
          refine lv_isub hx hb dX11_yard_92 ?_
          refine W.eq (g2 := F0 m 93 ls [.int (a2 - (1 : Int32)), .int a1, .ref b10, .int x28.2]) (by rw [hq12]; rfl) ?_
          obtain ⟨k30, hf⟩ := chk_b hf
          obtain ⟨x31, hc32, hf⟩ := bnd_b hf
          refine hcall_Vi (ex2 := True) (As := [.int a1, .int (a2 - (1 : Int32))]) (rest := [.int x28.2]) (n := 2) (by rw [(isk_k k30)]; decide) (hC_10 (isk_k k30)) rfl ⟨hx, hb, hml, hown, hts⟩ (ch_X9_lineAt l D cy b10 a1 (a2 - (1 : Int32)) x28.1 x31 hc32) (cwV 2 hts gX11_yard_X9_lineAt rfl rfl rfl ⟨rfl, nd_X9_lineAt⟩ ⟨Nat.le_of_ble_eq_true rfl, Nat.le_of_ble_eq_true rfl⟩) hI (fun h => h.elim) (fun _ => ⟨trivial, trivial⟩) rfl hl.1 (Nat.le_of_ble_eq_true rfl) dX11_yard_93 ⟨Nat.le_of_ble_eq_true rfl, Nat.le_of_ble_eq_true rfl⟩ (fun H locs hI => ?_)
          refine lv_isub hx hb dX11_yard_96 ?_
          exact hret_i hx hb hr hlocks hI (by decide) (by decide) (fun _ => ⟨trivial, rfl⟩) (ret_e hK0 hf) dX11_yard_97
        replace hf := ifn c19 hf
        by_cases c20 : a3 = 3
        · replace hf := ifp c20 hf
          refine lv_tableIn (off := 64) (tgt := 98) hx hb dX11_yard_34 (by rw [c20]; decide) (by rw [c20]; decide) (by rw [c20]; rfl) (by decide) ?_
          refine hq_aload hx hb dX11_yard_98 (lv_at hl 0 rfl) ?_
          refine lv_iload_n hx hb dX11_yard_100 rfl (lv_at hl 2 rfl) ?_
          refine lv_iload_n hx hb dX11_yard_101 rfl (lv_at hl 3 rfl) ?_
          refine W.eq (g2 := F0 m 102 ls [.int a2, .int a1, .ref b10]) (by rw [hq12]; rfl) ?_
          obtain ⟨k33, hf⟩ := chk_b hf
          obtain ⟨x34, hc35, hf⟩ := bnd_b hf
          refine hcall_Vi (ex2 := True) (As := [.int a1, .int a2]) (rest := []) (n := 2) (by rw [(isk_k k33)]; decide) (hC_10 (isk_k k33)) rfl ⟨hx, hb, hml, hown, hts⟩ (ch_X9_heightAt l D cy b10 a1 a2 x14.1 x34 hc35) (cwV 2 hts gX11_yard_X9_heightAt rfl rfl rfl ⟨rfl, nd_X9_heightAt⟩ ⟨Nat.le_of_ble_eq_true rfl, Nat.le_of_ble_eq_true rfl⟩) hI (fun h => h.elim) (fun _ => ⟨trivial, trivial⟩) rfl hl.1 (Nat.le_of_ble_eq_true rfl) dX11_yard_102 ⟨Nat.le_of_ble_eq_true rfl, Nat.le_of_ble_eq_true rfl⟩ (fun H locs hI => ?_)
          refine hq_aload hx hb dX11_yard_105 (lv_at hl 0 rfl) ?_
          refine lv_iload_n hx hb dX11_yard_107 rfl (lv_at hl 2 rfl) ?_
          refine lv_iload_n hx hb dX11_yard_108 rfl (lv_at hl 3 rfl) ?_
          refine lv_iconst (v := 1) hx hb dX11_yard_109 (by decide) ?_
          refine lv_isub hx hb dX11_yard_110 ?_
          refine W.eq (g2 := F0 m 111 ls [.int (a2 - (1 : Int32)), .int a1, .ref b10, .int x34.2]) (by rw [hq12]; rfl) ?_
          obtain ⟨k36, hf⟩ := chk_b hf
          obtain ⟨x37, hc38, hf⟩ := bnd_b hf
          refine hcall_Vi (ex2 := True) (As := [.int a1, .int (a2 - (1 : Int32))]) (rest := [.int x34.2]) (n := 2) (by rw [(isk_k k36)]; decide) (hC_10 (isk_k k36)) rfl ⟨hx, hb, hml, hown, hts⟩ (ch_X9_heightAt l D cy b10 a1 (a2 - (1 : Int32)) x34.1 x37 hc38) (cwV 2 hts gX11_yard_X9_heightAt rfl rfl rfl ⟨rfl, nd_X9_heightAt⟩ ⟨Nat.le_of_ble_eq_true rfl, Nat.le_of_ble_eq_true rfl⟩) hI (fun h => h.elim) (fun _ => ⟨trivial, trivial⟩) rfl hl.1 (Nat.le_of_ble_eq_true rfl) dX11_yard_111 ⟨Nat.le_of_ble_eq_true rfl, Nat.le_of_ble_eq_true rfl⟩ (fun H locs hI => ?_)
          refine lv_isub hx hb dX11_yard_114 ?_
          exact hret_i hx hb hr hlocks hI (by decide) (by decide) (fun _ => ⟨trivial, rfl⟩) (ret_e hK0 hf) dX11_yard_115
        replace hf := ifn c20 hf
        refine lv_tableOut (tgt := 116) hx hb dX11_yard_34 (tsw_out (fun k k1 k2 => ?_)) (by decide) ?_
        · rcases (show k = 0 ∨ k = 1 ∨ k = 2 ∨ k = 3 by omega) with rfl | rfl | rfl | rfl
          · exact c17
          · exact c18
          · exact c19
          · exact c20
        · refine lv_ldc (v := -100000) hx hb hown (hts (.constant RX11 107 (-100000)) (by decide +kernel)) dX11_yard_116 ?_
          exact hret_i hx hb hr hlocks hI (by decide) (by decide) (fun _ => ⟨trivial, rfl⟩) (ret_e hK0 hf) dX11_yard_118
      · replace hf := ifn c16 hf
        refine lv_ldc (v := -100000) hx hb hown (hts (.constant RX11 107 (-100000)) (by decide +kernel)) dX11_yard_30 ?_
        exact hret_i hx hb hr hlocks hI (by decide) (by decide) (fun _ => ⟨trivial, rfl⟩) (ret_e hK0 hf) dX11_yard_32

noncomputable def fh_X11_zigzag (h : Nat) (a1 : Int32) (a2 : Int32) (a3 : Int32) (s0 : HSt) : Option (HSt × Int32) :=
  chk (isk s0 h 12) ((fh_X11_areRulesAtRiver h a1 a2 s0).bind fun x2 => (if x2.2 = 0 then some (x2.1, (-1 : Int32)) else (fh_X11_isWithin a3 (0 : Int32) (1 : Int32) x2.1).bind fun x5 => (if x5.2 = 0 then some (x5.1, (-1 : Int32)) else chk (isk x5.1 h 12) ((fh_X11_ruleOf h a1 x5.1).bind fun x9 => chk (isk x9.1 h 12) ((fh_X11_ruleOf h a2 x9.1).bind fun x12 => (dr x12.1 (gR x5.1 1109 h) 1).bind fun b14 => (fh_X0_comesAgain b14 (gR x5.1 1104 h) x9.2 x12.2 x12.1).bind fun x18 => (if x18.2 = 0 then some (x18.1, (-2 : Int32)) else (if a3 = 0 then chk (isk x18.1 h 12) ((dr x18.1 (gR x18.1 1109 h) 1).bind fun b28 => some (x18.1, (gI x18.1 4 b28))) else chk (isk x18.1 h 12) ((dr x18.1 (gR x18.1 1109 h) 1).bind fun b23 => some (x18.1, (gI x18.1 5 b23))))))))))
theorem nd_X11_zigzag : yX11_zigzag.cls ≠ "java/lang/invoke/MethodHandle" ∧ yX11_zigzag.cls ≠ "java/lang/invoke/VarHandle" ∧ (parseMethodDescriptor yX11_zigzag.desc).map (fun d => d.parameters.length) = some 3 := by decide +kernel
set_option maxHeartbeats 4000000 in
set_option maxRecDepth 100000 in
theorem ch_X11_zigzag (l : Launch) (D : va_G) (cy : Nat → ClassId) (h : Nat) (a1 : Int32) (a2 : Int32) (a3 : Int32) (s0 : HSt) (out : HSt × Int32) (hf : fh_X11_zigzag h a1 a2 a3 s0 = some out) : CHi l D cy yX11_zigzag wsX11_zigzag { frames := 6, cells := 1, slots := 2709, locals := 169 } 1 2709 True False [.ref h, .int a1, .int a2, .int a3] s0 out := by
  refine Met.ofW (cc := cX11_zigzag) (maxL := 4) (ret := (some .int)) (by decide) rfl ?_
  intro p e s m args below meth c s₁ B hml hv
  obtain ⟨rfl, hP, hK, hD0, hkx, hsz, hal⟩ := hv
  have hx := B.exec
  have hb := B.bytes
  have hr := B.returns
  have hts := atoms_spec (ws := wsX11_zigzag) B.pre
  have hown : s.vm.findClass RX11 = some m.cls := findClass_of_methodNamed B.named
  have hlocks := B.notSynchronized
  have hI : HI D cy s s0 s0 s.heap [] 0 True True := ⟨hK, hP, hD0.weaken (fun k q hk _ => Or.inl (pl_mem hk)), va_S.rf, hsz.1, hkx, ⟨hsz, hal⟩, fun _ => rfl, Nat.le_refl _⟩
  have hin_X0 : ∀ w ∈ u_ws RX0 TX0 11, w ∈ wsX11_zigzag := fun w hw => List.mem_cons_of_mem _ (List.mem_append_left _ (List.mem_append_left _ (List.mem_append_left _ (List.mem_append_left _ (List.mem_append_left _ (List.mem_append_right _ hw))))))
  have hin_X11 : ∀ w ∈ u_ws RX11 TX11 10, w ∈ wsX11_zigzag := fun w hw => List.mem_cons_of_mem _ (List.mem_append_left _ (List.mem_append_left _ (List.mem_append_left _ (List.mem_append_left _ (List.mem_append_left _ (List.mem_append_left _ (List.mem_append_right _ hw)))))))
  have kl_22 : Cond.fieldLink RX11 22 "HalfBridge" "site" "LHalfBridge$Site;" ∈ wsX11_zigzag := by decide +kernel
  have kl_56 : Cond.fieldLink RX11 56 "HalfBridge" "foresight" "LHalfBridge$Foresight;" ∈ wsX11_zigzag := by decide +kernel
  have kl_199 : Cond.fieldLink RX11 199 "HalfBridge$Foresight" "leadIn" "I" ∈ wsX11_zigzag := by decide +kernel
  have kl_202 : Cond.fieldLink RX11 202 "HalfBridge$Foresight" "period" "I" ∈ wsX11_zigzag := by decide +kernel
  have hl := lv_entry ([.ref h, .int a1, .int a2, .int a3]) (n := 4) (Nat.le_of_ble_eq_true rfl)
  rw [lg_entry_eq]
  generalize (lg_sl ([.ref h, .int a1, .int a2, .int a3]) ++ List.replicate (4 - (lg_sl ([.ref h, .int a1, .int a2, .int a3])).length) Slot.unset).toArray = ls at hl ⊢
  have hl : lv_has ls 4 [(0, .ref h), (1, .int a1), (2, .int a2), (3, .int a3)] := hl
  obtain ⟨K0, hK0, hf⟩ := top_e hf
  unfold fh_X11_zigzag at hf
  refine lv_aload_n hx hb dX11_zigzag_0 rfl (lv_at hl 0 rfl) ?_
  refine lv_iload_n hx hb dX11_zigzag_1 rfl (lv_at hl 1 rfl) ?_
  refine lv_iload_n hx hb dX11_zigzag_2 rfl (lv_at hl 2 rfl) ?_
  obtain ⟨k1, hf⟩ := chk_b hf
  obtain ⟨x2, hc3, hf⟩ := bnd_b hf
  refine hcall_Vi (ex2 := True) (As := [.int a1, .int a2]) (rest := []) (n := 2) (by rw [(isk_k k1)]; decide) (hC_12 (isk_k k1)) rfl ⟨hx, hb, hml, hown, hts⟩ (ch_X11_areRulesAtRiver l D cy h a1 a2 s0 x2 hc3) (cwV 2 hts gX11_zigzag_X11_areRulesAtRiver rfl rfl rfl ⟨rfl, nd_X11_areRulesAtRiver⟩ ⟨Nat.le_of_ble_eq_true rfl, Nat.le_of_ble_eq_true rfl⟩) hI (fun h => h.elim) (fun _ => ⟨trivial, trivial⟩) rfl hl.1 (Nat.le_of_ble_eq_true rfl) dX11_zigzag_3 ⟨Nat.le_of_ble_eq_true rfl, Nat.le_of_ble_eq_true rfl⟩ (fun H locs hI => ?_)
  refine lv_if_eq (tgt := 18) hx hb dX11_zigzag_6 (by decide) (fun c4 => ?_) (fun c4 => ?_)
  · replace hf := ifp c4 hf
    refine lv_iconst (v := -1) hx hb dX11_zigzag_18 (by decide) ?_
    exact hret_i hx hb hr hlocks hI (by decide) (by decide) (fun h => h.elim) (ret_e hK0 hf) dX11_zigzag_19
  · replace hf := ifn c4 hf
    refine lv_iload_n hx hb dX11_zigzag_9 rfl (lv_at hl 3 rfl) ?_
    refine lv_iconst (v := 0) hx hb dX11_zigzag_10 (by decide) ?_
    refine lv_iconst (v := 1) hx hb dX11_zigzag_11 (by decide) ?_
    obtain ⟨x5, hc6, hf⟩ := bnd_b hf
    refine hcall_Si (ex2 := True) (As := [.int a3, .int (0 : Int32), .int (1 : Int32)]) (rest := []) (n := 3) ⟨hx, hb, hml, hown, hts⟩ (ch_X11_isWithin l D cy a3 (0 : Int32) (1 : Int32) x2.1 x5 hc6) (va_cwS 3 hts gX11_zigzag_X11_isWithin rfl rfl rfl nd_X11_isWithin ⟨Nat.le_of_ble_eq_true rfl, Nat.le_of_ble_eq_true rfl⟩) hI (fun h => h.elim) (fun _ => ⟨trivial, trivial⟩) rfl hl.1 (Nat.le_of_ble_eq_true rfl) dX11_zigzag_12 ⟨Nat.le_of_ble_eq_true rfl, Nat.le_of_ble_eq_true rfl⟩ (fun H locs hI => ?_)
    refine lv_if_ne (tgt := 20) hx hb dX11_zigzag_15 (by decide) (fun c7 => ?_) (fun c7 => ?_)
    · replace hf := ifn c7 hf
      refine lv_aload_n hx hb dX11_zigzag_20 rfl (lv_at hl 0 rfl) ?_
      obtain ⟨k8, hf⟩ := chk_b hf
      refine hg_11_9 hx hb hts hin_X11 hown kl_56 hI (isk_k k8) dX11_zigzag_21 ?_
      refine lv_aload_n hx hb dX11_zigzag_24 rfl (lv_at hl 0 rfl) ?_
      refine hg_11_4 hx hb hts hin_X11 hown kl_22 hI (isk_k k8) dX11_zigzag_25 ?_
      refine lv_aload_n hx hb dX11_zigzag_28 rfl (lv_at hl 0 rfl) ?_
      refine lv_iload_n hx hb dX11_zigzag_29 rfl (lv_at hl 1 rfl) ?_
      obtain ⟨x9, hc10, hf⟩ := bnd_b hf
      refine hcall_Vq (ex2 := True) (As := [.int a1]) (rest := [va_rf (gR x5.1 1104 h), va_rf (gR x5.1 1109 h)]) (n := 1) (by rw [(isk_k k8)]; decide) (hC_12 (isk_k k8)) rfl ⟨hx, hb, hml, hown, hts⟩ (ch_X11_ruleOf l D cy h a1 x5.1 x9 hc10) (cwV 1 hts gX11_zigzag_X11_ruleOf rfl rfl rfl ⟨rfl, nd_X11_ruleOf⟩ ⟨Nat.le_of_ble_eq_true rfl, Nat.le_of_ble_eq_true rfl⟩) hI (fun h => h.elim) (fun _ => ⟨trivial, trivial⟩) rfl hl.1 (by simp [cat_rf, cat_i, cat_l, cat_r]) dX11_zigzag_30 ⟨Nat.le_of_ble_eq_true rfl, Nat.le_of_ble_eq_true rfl⟩ (fun H locs hI => ?_)
      refine lv_aload_n hx hb dX11_zigzag_33 rfl (lv_at hl 0 rfl) ?_
      refine lv_iload_n hx hb dX11_zigzag_34 rfl (lv_at hl 2 rfl) ?_
      obtain ⟨k11, hf⟩ := chk_b hf
      obtain ⟨x12, hc13, hf⟩ := bnd_b hf
      refine hcall_Vq (ex2 := True) (As := [.int a2]) (rest := [va_rf x9.2, va_rf (gR x5.1 1104 h), va_rf (gR x5.1 1109 h)]) (n := 1) (by rw [(isk_k k11)]; decide) (hC_12 (isk_k k11)) rfl ⟨hx, hb, hml, hown, hts⟩ (ch_X11_ruleOf l D cy h a2 x9.1 x12 hc13) (cwV 1 hts gX11_zigzag_X11_ruleOf rfl rfl rfl ⟨rfl, nd_X11_ruleOf⟩ ⟨Nat.le_of_ble_eq_true rfl, Nat.le_of_ble_eq_true rfl⟩) hI (fun h => h.elim) (fun _ => ⟨trivial, trivial⟩) rfl hl.1 (by simp [cat_rf, cat_i, cat_l, cat_r]) dX11_zigzag_35 ⟨Nat.le_of_ble_eq_true rfl, Nat.le_of_ble_eq_true rfl⟩ (fun H locs hI => ?_)
      obtain ⟨b14, hd15, hf⟩ := bnd_b hf
      obtain ⟨hq16, hk17⟩ := dr_e hd15
      refine W.eq (g2 := F0 m 38 ls [va_rf x12.2, va_rf x9.2, va_rf (gR x5.1 1104 h), .ref b14]) (by rw [hq16]; rfl) ?_
      obtain ⟨x18, hc19, hf⟩ := bnd_b hf
      refine hcall_Vi (ex2 := False) (As := [va_rf (gR x5.1 1104 h), va_rf x9.2, va_rf x12.2]) (rest := []) (n := 3) (by rw [hk17]; decide) (hC_1 hk17) rfl ⟨hx, hb, hml, hown, hts⟩ (ch_X0_comesAgain l D cy b14 (gR x5.1 1104 h) x9.2 x12.2 x12.1 x18 hc19) (cwV 3 hts gX11_zigzag_X0_comesAgain rfl rfl rfl ⟨rfl, nd_X0_comesAgain⟩ ⟨Nat.le_of_ble_eq_true rfl, Nat.le_of_ble_eq_true rfl⟩) hI (fun h => ⟨trivial, trivial⟩) (fun h => h.elim) rfl hl.1 (Nat.le_of_ble_eq_true rfl) dX11_zigzag_38 ⟨Nat.le_of_ble_eq_true rfl, Nat.le_of_ble_eq_true rfl⟩ (fun H locs hI => ?_)
      refine lv_if_ne (tgt := 47) hx hb dX11_zigzag_41 (by decide) (fun c20 => ?_) (fun c20 => ?_)
      · replace hf := ifn c20 hf
        refine lv_iload_n hx hb dX11_zigzag_47 rfl (lv_at hl 3 rfl) ?_
        refine lv_if_ne (tgt := 61) hx hb dX11_zigzag_48 (by decide) (fun c21 => ?_) (fun c21 => ?_)
        · replace hf := ifn c21 hf
          refine lv_aload_n hx hb dX11_zigzag_61 rfl (lv_at hl 0 rfl) ?_
          obtain ⟨k22, hf⟩ := chk_b hf
          refine hg_11_9 hx hb hts hin_X11 hown kl_56 hI (isk_k k22) dX11_zigzag_62 ?_
          obtain ⟨b23, hd24, hf⟩ := bnd_b hf
          obtain ⟨hq25, hk26⟩ := dr_e hd24
          refine W.eq (g2 := F0 m 65 ls [.ref b23]) (by rw [hq25]; rfl) ?_
          refine hg_0_5 hx hb hts hin_X0 hown kl_202 hI hk26 dX11_zigzag_65 ?_
          exact hret_i hx hb hr hlocks hI (by decide) (by decide) (fun h => h.elim) (ret_e hK0 hf) dX11_zigzag_68
        · replace hf := ifp c21 hf
          refine lv_aload_n hx hb dX11_zigzag_51 rfl (lv_at hl 0 rfl) ?_
          obtain ⟨k27, hf⟩ := chk_b hf
          refine hg_11_9 hx hb hts hin_X11 hown kl_56 hI (isk_k k27) dX11_zigzag_52 ?_
          obtain ⟨b28, hd29, hf⟩ := bnd_b hf
          obtain ⟨hq30, hk31⟩ := dr_e hd29
          refine W.eq (g2 := F0 m 55 ls [.ref b28]) (by rw [hq30]; rfl) ?_
          refine hg_0_4 hx hb hts hin_X0 hown kl_199 hI hk31 dX11_zigzag_55 ?_
          refine lv_goto (tgt := 68) hx hb dX11_zigzag_58 (by decide) ?_
          exact hret_i hx hb hr hlocks hI (by decide) (by decide) (fun h => h.elim) (ret_e hK0 hf) dX11_zigzag_68
      · replace hf := ifp c20 hf
        refine lv_bipush (v := -2) hx hb dX11_zigzag_44 (by decide) ?_
        exact hret_i hx hb hr hlocks hI (by decide) (by decide) (fun h => h.elim) (ret_e hK0 hf) dX11_zigzag_46
    · replace hf := ifp c7 hf
      refine lv_iconst (v := -1) hx hb dX11_zigzag_18 (by decide) ?_
      exact hret_i hx hb hr hlocks hI (by decide) (by decide) (fun h => h.elim) (ret_e hK0 hf) dX11_zigzag_19
