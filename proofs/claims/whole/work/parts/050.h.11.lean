noncomputable def fh_X10_valueWord (a0 : Option Nat) (a1 : Int32) (a2 : Int32) (s0 : HSt) : Option (HSt × Int32) :=
  (fh_X10_spells a0 a1 a2 14 s0).bind fun x1 => (if x1.2 = 0 then (fh_X10_spells a0 a1 a2 15 x1.1).bind fun x4 => (if x4.2 = 0 then (fh_X10_spells a0 a1 a2 16 x4.1).bind fun x7 => (if x7.2 = 0 then (fh_X10_spells a0 a1 a2 17 x7.1).bind fun x10 => (if x10.2 = 0 then (fh_X10_spells a0 a1 a2 18 x10.1).bind fun x13 => (if x13.2 = 0 then (fh_X10_spells a0 a1 a2 19 x13.1).bind fun x16 => (if x16.2 = 0 then (fh_X10_spells a0 a1 a2 20 x16.1).bind fun x19 => (if x19.2 = 0 then (fh_X10_spells a0 a1 a2 21 x19.1).bind fun x22 => (if x22.2 = 0 then (fh_X10_spells a0 a1 a2 22 x22.1).bind fun x25 => (if x25.2 = 0 then some (x25.1, (1 : Int32)) else some (x25.1, (278 : Int32))) else some (x22.1, (277 : Int32))) else some (x19.1, (276 : Int32))) else some (x16.1, (275 : Int32))) else some (x13.1, (274 : Int32))) else some (x10.1, (273 : Int32))) else some (x7.1, (272 : Int32))) else some (x4.1, (271 : Int32))) else some (x1.1, (270 : Int32)))
theorem nd_X10_valueWord : yX10_valueWord.cls ≠ "java/lang/invoke/MethodHandle" ∧ yX10_valueWord.cls ≠ "java/lang/invoke/VarHandle" ∧ (parseMethodDescriptor yX10_valueWord.desc).map (fun d => d.parameters.length) = some 3 := by decide +kernel
set_option maxHeartbeats 4000000 in
set_option maxRecDepth 100000 in
theorem ch_X10_valueWord (l : Launch) (D : va_G) (cy : Nat → ClassId) (a0 : Option Nat) (a1 : Int32) (a2 : Int32) (s0 : HSt) (out : HSt × Int32) (hf : fh_X10_valueWord a0 a1 a2 s0 = some out) : CHi l D cy yX10_valueWord wsX10_valueWord { frames := 5, cells := 0, slots := 0, locals := 109 } 0 0 False True [va_rf a0, .int a1, .int a2] s0 out := by
  refine Met.ofW (cc := cX10_valueWord) (maxL := 3) (ret := (some .int)) (by decide) rfl ?_
  intro p e s m args below meth c s₁ B hml hv
  obtain ⟨rfl, hP, hK, hD0, hkx, hsz, hal⟩ := hv
  have hx := B.exec
  have hb := B.bytes
  have hr := B.returns
  have hts := atoms_spec (ws := wsX10_valueWord) B.pre
  have hown : s.vm.findClass RX10 = some m.cls := findClass_of_methodNamed B.named
  have hlocks := B.notSynchronized
  have hI : HI D cy s s0 s0 s.heap [] 0 False True := ⟨hK, hP, hD0.weaken (fun k q hk _ => Or.inl (pl_mem hk)), va_S.rf, hsz.1, hkx, ⟨hsz, hal⟩, fun _ => rfl, Nat.le_refl _⟩
  have hl := lv_entry ([va_rf a0, .int a1, .int a2]) (n := 3) (by simp [lg_sl, cat_rf, cat_i, cat_l, cat_r])
  rw [lg_entry_eq]
  generalize (lg_sl ([va_rf a0, .int a1, .int a2]) ++ List.replicate (3 - (lg_sl ([va_rf a0, .int a1, .int a2])).length) Slot.unset).toArray = ls at hl ⊢
  have hl : lv_has ls 3 [(0, va_rf a0), (1, .int a1), (2, .int a2)] := (by simpa [lv_args, cat_rf, cat_i, cat_l, cat_r] using hl)
  obtain ⟨K0, hK0, hf⟩ := top_e hf
  unfold fh_X10_valueWord at hf
  refine hq_aload_n hx hb dX10_valueWord_0 rfl (lv_at hl 0 rfl) ?_
  refine lv_iload_n hx hb dX10_valueWord_1 rfl (lv_at hl 1 rfl) ?_
  refine lv_iload_n hx hb dX10_valueWord_2 rfl (lv_at hl 2 rfl) ?_
  refine hs_ldc (i := 14) hx hb hown hI (by decide) dX10_valueWord_3 ?_
  obtain ⟨x1, hc2, hf⟩ := bnd_b hf
  refine hcall_Si (ex2 := True) (As := [va_rf a0, .int a1, .int a2, .ref (cy (100 + 14))]) (rest := []) (n := 4) ⟨hx, hb, hml, hown, hts⟩ (ch_X10_spells l D cy a0 a1 a2 14 s0 x1 hc2) (va_cwS 4 hts gX10_valueWord_X10_spells rfl rfl rfl nd_X10_spells ⟨Nat.le_of_ble_eq_true rfl, Nat.le_of_ble_eq_true rfl⟩) hI (fun h => h.elim) (fun _ => ⟨trivial, trivial⟩) rfl hl.1 (Nat.le_of_ble_eq_true rfl) dX10_valueWord_5 ⟨Nat.le_of_ble_eq_true rfl, Nat.le_of_ble_eq_true rfl⟩ (fun H locs hI => ?_)
  refine lv_if_eq (tgt := 15) hx hb dX10_valueWord_8 (by decide) (fun c3 => ?_) (fun c3 => ?_)
  · replace hf := ifp c3 hf
    refine hq_aload_n hx hb dX10_valueWord_15 rfl (lv_at hl 0 rfl) ?_
    refine lv_iload_n hx hb dX10_valueWord_16 rfl (lv_at hl 1 rfl) ?_
    refine lv_iload_n hx hb dX10_valueWord_17 rfl (lv_at hl 2 rfl) ?_
    refine hs_ldc (i := 15) hx hb hown hI (by decide) dX10_valueWord_18 ?_
    obtain ⟨x4, hc5, hf⟩ := bnd_b hf
    refine hcall_Si (ex2 := True) (As := [va_rf a0, .int a1, .int a2, .ref (cy (100 + 15))]) (rest := []) (n := 4) ⟨hx, hb, hml, hown, hts⟩ (ch_X10_spells l D cy a0 a1 a2 15 x1.1 x4 hc5) (va_cwS 4 hts gX10_valueWord_X10_spells rfl rfl rfl nd_X10_spells ⟨Nat.le_of_ble_eq_true rfl, Nat.le_of_ble_eq_true rfl⟩) hI (fun h => h.elim) (fun _ => ⟨trivial, trivial⟩) rfl hl.1 (Nat.le_of_ble_eq_true rfl) dX10_valueWord_20 ⟨Nat.le_of_ble_eq_true rfl, Nat.le_of_ble_eq_true rfl⟩ (fun H locs hI => ?_)
    refine lv_if_eq (tgt := 30) hx hb dX10_valueWord_23 (by decide) (fun c6 => ?_) (fun c6 => ?_)
    · replace hf := ifp c6 hf
      refine hq_aload_n hx hb dX10_valueWord_30 rfl (lv_at hl 0 rfl) ?_
      refine lv_iload_n hx hb dX10_valueWord_31 rfl (lv_at hl 1 rfl) ?_
      refine lv_iload_n hx hb dX10_valueWord_32 rfl (lv_at hl 2 rfl) ?_
      refine hs_ldc (i := 16) hx hb hown hI (by decide) dX10_valueWord_33 ?_
      obtain ⟨x7, hc8, hf⟩ := bnd_b hf
      refine hcall_Si (ex2 := True) (As := [va_rf a0, .int a1, .int a2, .ref (cy (100 + 16))]) (rest := []) (n := 4) ⟨hx, hb, hml, hown, hts⟩ (ch_X10_spells l D cy a0 a1 a2 16 x4.1 x7 hc8) (va_cwS 4 hts gX10_valueWord_X10_spells rfl rfl rfl nd_X10_spells ⟨Nat.le_of_ble_eq_true rfl, Nat.le_of_ble_eq_true rfl⟩) hI (fun h => h.elim) (fun _ => ⟨trivial, trivial⟩) rfl hl.1 (Nat.le_of_ble_eq_true rfl) dX10_valueWord_35 ⟨Nat.le_of_ble_eq_true rfl, Nat.le_of_ble_eq_true rfl⟩ (fun H locs hI => ?_)
      refine lv_if_eq (tgt := 45) hx hb dX10_valueWord_38 (by decide) (fun c9 => ?_) (fun c9 => ?_)
      · replace hf := ifp c9 hf
        refine hq_aload_n hx hb dX10_valueWord_45 rfl (lv_at hl 0 rfl) ?_
        refine lv_iload_n hx hb dX10_valueWord_46 rfl (lv_at hl 1 rfl) ?_
        refine lv_iload_n hx hb dX10_valueWord_47 rfl (lv_at hl 2 rfl) ?_
        refine hs_ldc (i := 17) hx hb hown hI (by decide) dX10_valueWord_48 ?_
        obtain ⟨x10, hc11, hf⟩ := bnd_b hf
        refine hcall_Si (ex2 := True) (As := [va_rf a0, .int a1, .int a2, .ref (cy (100 + 17))]) (rest := []) (n := 4) ⟨hx, hb, hml, hown, hts⟩ (ch_X10_spells l D cy a0 a1 a2 17 x7.1 x10 hc11) (va_cwS 4 hts gX10_valueWord_X10_spells rfl rfl rfl nd_X10_spells ⟨Nat.le_of_ble_eq_true rfl, Nat.le_of_ble_eq_true rfl⟩) hI (fun h => h.elim) (fun _ => ⟨trivial, trivial⟩) rfl hl.1 (Nat.le_of_ble_eq_true rfl) dX10_valueWord_50 ⟨Nat.le_of_ble_eq_true rfl, Nat.le_of_ble_eq_true rfl⟩ (fun H locs hI => ?_)
        refine lv_if_eq (tgt := 60) hx hb dX10_valueWord_53 (by decide) (fun c12 => ?_) (fun c12 => ?_)
        · replace hf := ifp c12 hf
          refine hq_aload_n hx hb dX10_valueWord_60 rfl (lv_at hl 0 rfl) ?_
          refine lv_iload_n hx hb dX10_valueWord_61 rfl (lv_at hl 1 rfl) ?_
          refine lv_iload_n hx hb dX10_valueWord_62 rfl (lv_at hl 2 rfl) ?_
          refine hs_ldc (i := 18) hx hb hown hI (by decide) dX10_valueWord_63 ?_
          obtain ⟨x13, hc14, hf⟩ := bnd_b hf
          refine hcall_Si (ex2 := True) (As := [va_rf a0, .int a1, .int a2, .ref (cy (100 + 18))]) (rest := []) (n := 4) ⟨hx, hb, hml, hown, hts⟩ (ch_X10_spells l D cy a0 a1 a2 18 x10.1 x13 hc14) (va_cwS 4 hts gX10_valueWord_X10_spells rfl rfl rfl nd_X10_spells ⟨Nat.le_of_ble_eq_true rfl, Nat.le_of_ble_eq_true rfl⟩) hI (fun h => h.elim) (fun _ => ⟨trivial, trivial⟩) rfl hl.1 (Nat.le_of_ble_eq_true rfl) dX10_valueWord_65 ⟨Nat.le_of_ble_eq_true rfl, Nat.le_of_ble_eq_true rfl⟩ (fun H locs hI => ?_)
          refine lv_if_eq (tgt := 75) hx hb dX10_valueWord_68 (by decide) (fun c15 => ?_) (fun c15 => ?_)
          · replace hf := ifp c15 hf
            refine hq_aload_n hx hb dX10_valueWord_75 rfl (lv_at hl 0 rfl) ?_
            refine lv_iload_n hx hb dX10_valueWord_76 rfl (lv_at hl 1 rfl) ?_
            refine lv_iload_n hx hb dX10_valueWord_77 rfl (lv_at hl 2 rfl) ?_
            refine hs_ldc (i := 19) hx hb hown hI (by decide) dX10_valueWord_78 ?_
            obtain ⟨x16, hc17, hf⟩ := bnd_b hf
            refine hcall_Si (ex2 := True) (As := [va_rf a0, .int a1, .int a2, .ref (cy (100 + 19))]) (rest := []) (n := 4) ⟨hx, hb, hml, hown, hts⟩ (ch_X10_spells l D cy a0 a1 a2 19 x13.1 x16 hc17) (va_cwS 4 hts gX10_valueWord_X10_spells rfl rfl rfl nd_X10_spells ⟨Nat.le_of_ble_eq_true rfl, Nat.le_of_ble_eq_true rfl⟩) hI (fun h => h.elim) (fun _ => ⟨trivial, trivial⟩) rfl hl.1 (Nat.le_of_ble_eq_true rfl) dX10_valueWord_80 ⟨Nat.le_of_ble_eq_true rfl, Nat.le_of_ble_eq_true rfl⟩ (fun H locs hI => ?_)
            refine lv_if_eq (tgt := 90) hx hb dX10_valueWord_83 (by decide) (fun c18 => ?_) (fun c18 => ?_)
            · replace hf := ifp c18 hf
              refine hq_aload_n hx hb dX10_valueWord_90 rfl (lv_at hl 0 rfl) ?_
              refine lv_iload_n hx hb dX10_valueWord_91 rfl (lv_at hl 1 rfl) ?_
              refine lv_iload_n hx hb dX10_valueWord_92 rfl (lv_at hl 2 rfl) ?_
              refine hs_ldc (i := 20) hx hb hown hI (by decide) dX10_valueWord_93 ?_
              obtain ⟨x19, hc20, hf⟩ := bnd_b hf
              refine hcall_Si (ex2 := True) (As := [va_rf a0, .int a1, .int a2, .ref (cy (100 + 20))]) (rest := []) (n := 4) ⟨hx, hb, hml, hown, hts⟩ (ch_X10_spells l D cy a0 a1 a2 20 x16.1 x19 hc20) (va_cwS 4 hts gX10_valueWord_X10_spells rfl rfl rfl nd_X10_spells ⟨Nat.le_of_ble_eq_true rfl, Nat.le_of_ble_eq_true rfl⟩) hI (fun h => h.elim) (fun _ => ⟨trivial, trivial⟩) rfl hl.1 (Nat.le_of_ble_eq_true rfl) dX10_valueWord_95 ⟨Nat.le_of_ble_eq_true rfl, Nat.le_of_ble_eq_true rfl⟩ (fun H locs hI => ?_)
              refine lv_if_eq (tgt := 105) hx hb dX10_valueWord_98 (by decide) (fun c21 => ?_) (fun c21 => ?_)
              · replace hf := ifp c21 hf
                refine hq_aload_n hx hb dX10_valueWord_105 rfl (lv_at hl 0 rfl) ?_
                refine lv_iload_n hx hb dX10_valueWord_106 rfl (lv_at hl 1 rfl) ?_
                refine lv_iload_n hx hb dX10_valueWord_107 rfl (lv_at hl 2 rfl) ?_
                refine hs_ldc (i := 21) hx hb hown hI (by decide) dX10_valueWord_108 ?_
                obtain ⟨x22, hc23, hf⟩ := bnd_b hf
                refine hcall_Si (ex2 := True) (As := [va_rf a0, .int a1, .int a2, .ref (cy (100 + 21))]) (rest := []) (n := 4) ⟨hx, hb, hml, hown, hts⟩ (ch_X10_spells l D cy a0 a1 a2 21 x19.1 x22 hc23) (va_cwS 4 hts gX10_valueWord_X10_spells rfl rfl rfl nd_X10_spells ⟨Nat.le_of_ble_eq_true rfl, Nat.le_of_ble_eq_true rfl⟩) hI (fun h => h.elim) (fun _ => ⟨trivial, trivial⟩) rfl hl.1 (Nat.le_of_ble_eq_true rfl) dX10_valueWord_110 ⟨Nat.le_of_ble_eq_true rfl, Nat.le_of_ble_eq_true rfl⟩ (fun H locs hI => ?_)
                refine lv_if_eq (tgt := 120) hx hb dX10_valueWord_113 (by decide) (fun c24 => ?_) (fun c24 => ?_)
                · replace hf := ifp c24 hf
                  refine hq_aload_n hx hb dX10_valueWord_120 rfl (lv_at hl 0 rfl) ?_
                  refine lv_iload_n hx hb dX10_valueWord_121 rfl (lv_at hl 1 rfl) ?_
                  refine lv_iload_n hx hb dX10_valueWord_122 rfl (lv_at hl 2 rfl) ?_
                  refine hs_ldc (i := 22) hx hb hown hI (by decide) dX10_valueWord_123 ?_
                  obtain ⟨x25, hc26, hf⟩ := bnd_b hf
                  refine hcall_Si (ex2 := True) (As := [va_rf a0, .int a1, .int a2, .ref (cy (100 + 22))]) (rest := []) (n := 4) ⟨hx, hb, hml, hown, hts⟩ (ch_X10_spells l D cy a0 a1 a2 22 x22.1 x25 hc26) (va_cwS 4 hts gX10_valueWord_X10_spells rfl rfl rfl nd_X10_spells ⟨Nat.le_of_ble_eq_true rfl, Nat.le_of_ble_eq_true rfl⟩) hI (fun h => h.elim) (fun _ => ⟨trivial, trivial⟩) rfl hl.1 (Nat.le_of_ble_eq_true rfl) dX10_valueWord_125 ⟨Nat.le_of_ble_eq_true rfl, Nat.le_of_ble_eq_true rfl⟩ (fun H locs hI => ?_)
                  refine lv_if_eq (tgt := 137) hx hb dX10_valueWord_128 (by decide) (fun c27 => ?_) (fun c27 => ?_)
                  · replace hf := ifp c27 hf
                    refine lv_iconst (v := 1) hx hb dX10_valueWord_137 (by decide) ?_
                    exact hret_i hx hb hr hlocks hI (by decide) (by decide) (fun _ => ⟨trivial, rfl⟩) (ret_e hK0 hf) dX10_valueWord_138
                  · replace hf := ifn c27 hf
                    refine lv_sipush (v := 278) hx hb dX10_valueWord_131 (by decide) ?_
                    refine lv_goto (tgt := 138) hx hb dX10_valueWord_134 (by decide) ?_
                    exact hret_i hx hb hr hlocks hI (by decide) (by decide) (fun _ => ⟨trivial, rfl⟩) (ret_e hK0 hf) dX10_valueWord_138
                · replace hf := ifn c24 hf
                  refine lv_sipush (v := 277) hx hb dX10_valueWord_116 (by decide) ?_
                  exact hret_i hx hb hr hlocks hI (by decide) (by decide) (fun _ => ⟨trivial, rfl⟩) (ret_e hK0 hf) dX10_valueWord_119
              · replace hf := ifn c21 hf
                refine lv_sipush (v := 276) hx hb dX10_valueWord_101 (by decide) ?_
                exact hret_i hx hb hr hlocks hI (by decide) (by decide) (fun _ => ⟨trivial, rfl⟩) (ret_e hK0 hf) dX10_valueWord_104
            · replace hf := ifn c18 hf
              refine lv_sipush (v := 275) hx hb dX10_valueWord_86 (by decide) ?_
              exact hret_i hx hb hr hlocks hI (by decide) (by decide) (fun _ => ⟨trivial, rfl⟩) (ret_e hK0 hf) dX10_valueWord_89
          · replace hf := ifn c15 hf
            refine lv_sipush (v := 274) hx hb dX10_valueWord_71 (by decide) ?_
            exact hret_i hx hb hr hlocks hI (by decide) (by decide) (fun _ => ⟨trivial, rfl⟩) (ret_e hK0 hf) dX10_valueWord_74
        · replace hf := ifn c12 hf
          refine lv_sipush (v := 273) hx hb dX10_valueWord_56 (by decide) ?_
          exact hret_i hx hb hr hlocks hI (by decide) (by decide) (fun _ => ⟨trivial, rfl⟩) (ret_e hK0 hf) dX10_valueWord_59
      · replace hf := ifn c9 hf
        refine lv_sipush (v := 272) hx hb dX10_valueWord_41 (by decide) ?_
        exact hret_i hx hb hr hlocks hI (by decide) (by decide) (fun _ => ⟨trivial, rfl⟩) (ret_e hK0 hf) dX10_valueWord_44
    · replace hf := ifn c6 hf
      refine lv_sipush (v := 271) hx hb dX10_valueWord_26 (by decide) ?_
      exact hret_i hx hb hr hlocks hI (by decide) (by decide) (fun _ => ⟨trivial, rfl⟩) (ret_e hK0 hf) dX10_valueWord_29
  · replace hf := ifn c3 hf
    refine lv_sipush (v := 270) hx hb dX10_valueWord_11 (by decide) ?_
    exact hret_i hx hb hr hlocks hI (by decide) (by decide) (fun _ => ⟨trivial, rfl⟩) (ret_e hK0 hf) dX10_valueWord_14

noncomputable def fh_X10_ruleWord (a0 : Option Nat) (a1 : Int32) (a2 : Int32) (s0 : HSt) : Option (HSt × Int32) :=
  (fh_X10_spells a0 a1 a2 6 s0).bind fun x1 => (if x1.2 = 0 then (fh_X10_spells a0 a1 a2 7 x1.1).bind fun x4 => (if x4.2 = 0 then (fh_X10_spells a0 a1 a2 8 x4.1).bind fun x7 => (if x7.2 = 0 then (fh_X10_spells a0 a1 a2 9 x7.1).bind fun x10 => (if x10.2 = 0 then (fh_X10_spells a0 a1 a2 10 x10.1).bind fun x13 => (if x13.2 = 0 then (fh_X10_spells a0 a1 a2 11 x13.1).bind fun x16 => (if x16.2 = 0 then (fh_X10_spells a0 a1 a2 12 x16.1).bind fun x19 => (if x19.2 = 0 then (fh_X10_spells a0 a1 a2 13 x19.1).bind fun x22 => (if x22.2 = 0 then (fh_X10_valueWord a0 a1 a2 x22.1).bind fun x25 => some (x25.1, x25.2) else some (x22.1, (269 : Int32))) else some (x19.1, (268 : Int32))) else some (x16.1, (267 : Int32))) else some (x13.1, (266 : Int32))) else some (x10.1, (265 : Int32))) else some (x7.1, (264 : Int32))) else some (x4.1, (263 : Int32))) else some (x1.1, (262 : Int32)))
theorem nd_X10_ruleWord : yX10_ruleWord.cls ≠ "java/lang/invoke/MethodHandle" ∧ yX10_ruleWord.cls ≠ "java/lang/invoke/VarHandle" ∧ (parseMethodDescriptor yX10_ruleWord.desc).map (fun d => d.parameters.length) = some 3 := by decide +kernel
set_option maxHeartbeats 4000000 in
set_option maxRecDepth 100000 in
theorem ch_X10_ruleWord (l : Launch) (D : va_G) (cy : Nat → ClassId) (a0 : Option Nat) (a1 : Int32) (a2 : Int32) (s0 : HSt) (out : HSt × Int32) (hf : fh_X10_ruleWord a0 a1 a2 s0 = some out) : CHi l D cy yX10_ruleWord wsX10_ruleWord { frames := 6, cells := 0, slots := 0, locals := 131 } 0 0 False True [va_rf a0, .int a1, .int a2] s0 out := by
  refine Met.ofW (cc := cX10_ruleWord) (maxL := 3) (ret := (some .int)) (by decide) rfl ?_
  intro p e s m args below meth c s₁ B hml hv
  obtain ⟨rfl, hP, hK, hD0, hkx, hsz, hal⟩ := hv
  have hx := B.exec
  have hb := B.bytes
  have hr := B.returns
  have hts := atoms_spec (ws := wsX10_ruleWord) B.pre
  have hown : s.vm.findClass RX10 = some m.cls := findClass_of_methodNamed B.named
  have hlocks := B.notSynchronized
  have hI : HI D cy s s0 s0 s.heap [] 0 False True := ⟨hK, hP, hD0.weaken (fun k q hk _ => Or.inl (pl_mem hk)), va_S.rf, hsz.1, hkx, ⟨hsz, hal⟩, fun _ => rfl, Nat.le_refl _⟩
  have hl := lv_entry ([va_rf a0, .int a1, .int a2]) (n := 3) (by simp [lg_sl, cat_rf, cat_i, cat_l, cat_r])
  rw [lg_entry_eq]
  generalize (lg_sl ([va_rf a0, .int a1, .int a2]) ++ List.replicate (3 - (lg_sl ([va_rf a0, .int a1, .int a2])).length) Slot.unset).toArray = ls at hl ⊢
  have hl : lv_has ls 3 [(0, va_rf a0), (1, .int a1), (2, .int a2)] := (by simpa [lv_args, cat_rf, cat_i, cat_l, cat_r] using hl)
  obtain ⟨K0, hK0, hf⟩ := top_e hf
  unfold fh_X10_ruleWord at hf
  refine hq_aload_n hx hb dX10_ruleWord_0 rfl (lv_at hl 0 rfl) ?_
  refine lv_iload_n hx hb dX10_ruleWord_1 rfl (lv_at hl 1 rfl) ?_
  refine lv_iload_n hx hb dX10_ruleWord_2 rfl (lv_at hl 2 rfl) ?_
  refine hs_ldc (i := 6) hx hb hown hI (by decide) dX10_ruleWord_3 ?_
  obtain ⟨x1, hc2, hf⟩ := bnd_b hf
  refine hcall_Si (ex2 := True) (As := [va_rf a0, .int a1, .int a2, .ref (cy (100 + 6))]) (rest := []) (n := 4) ⟨hx, hb, hml, hown, hts⟩ (ch_X10_spells l D cy a0 a1 a2 6 s0 x1 hc2) (va_cwS 4 hts gX10_ruleWord_X10_spells rfl rfl rfl nd_X10_spells ⟨Nat.le_of_ble_eq_true rfl, Nat.le_of_ble_eq_true rfl⟩) hI (fun h => h.elim) (fun _ => ⟨trivial, trivial⟩) rfl hl.1 (Nat.le_of_ble_eq_true rfl) dX10_ruleWord_5 ⟨Nat.le_of_ble_eq_true rfl, Nat.le_of_ble_eq_true rfl⟩ (fun H locs hI => ?_)
  refine lv_if_eq (tgt := 15) hx hb dX10_ruleWord_8 (by decide) (fun c3 => ?_) (fun c3 => ?_)
  · replace hf := ifp c3 hf
    refine hq_aload_n hx hb dX10_ruleWord_15 rfl (lv_at hl 0 rfl) ?_
    refine lv_iload_n hx hb dX10_ruleWord_16 rfl (lv_at hl 1 rfl) ?_
    refine lv_iload_n hx hb dX10_ruleWord_17 rfl (lv_at hl 2 rfl) ?_
    refine hs_ldc (i := 7) hx hb hown hI (by decide) dX10_ruleWord_18 ?_
    obtain ⟨x4, hc5, hf⟩ := bnd_b hf
    refine hcall_Si (ex2 := True) (As := [va_rf a0, .int a1, .int a2, .ref (cy (100 + 7))]) (rest := []) (n := 4) ⟨hx, hb, hml, hown, hts⟩ (ch_X10_spells l D cy a0 a1 a2 7 x1.1 x4 hc5) (va_cwS 4 hts gX10_ruleWord_X10_spells rfl rfl rfl nd_X10_spells ⟨Nat.le_of_ble_eq_true rfl, Nat.le_of_ble_eq_true rfl⟩) hI (fun h => h.elim) (fun _ => ⟨trivial, trivial⟩) rfl hl.1 (Nat.le_of_ble_eq_true rfl) dX10_ruleWord_20 ⟨Nat.le_of_ble_eq_true rfl, Nat.le_of_ble_eq_true rfl⟩ (fun H locs hI => ?_)
    refine lv_if_eq (tgt := 30) hx hb dX10_ruleWord_23 (by decide) (fun c6 => ?_) (fun c6 => ?_)
    · replace hf := ifp c6 hf
      refine hq_aload_n hx hb dX10_ruleWord_30 rfl (lv_at hl 0 rfl) ?_
      refine lv_iload_n hx hb dX10_ruleWord_31 rfl (lv_at hl 1 rfl) ?_
      refine lv_iload_n hx hb dX10_ruleWord_32 rfl (lv_at hl 2 rfl) ?_
      refine hs_ldc (i := 8) hx hb hown hI (by decide) dX10_ruleWord_33 ?_
      obtain ⟨x7, hc8, hf⟩ := bnd_b hf
      refine hcall_Si (ex2 := True) (As := [va_rf a0, .int a1, .int a2, .ref (cy (100 + 8))]) (rest := []) (n := 4) ⟨hx, hb, hml, hown, hts⟩ (ch_X10_spells l D cy a0 a1 a2 8 x4.1 x7 hc8) (va_cwS 4 hts gX10_ruleWord_X10_spells rfl rfl rfl nd_X10_spells ⟨Nat.le_of_ble_eq_true rfl, Nat.le_of_ble_eq_true rfl⟩) hI (fun h => h.elim) (fun _ => ⟨trivial, trivial⟩) rfl hl.1 (Nat.le_of_ble_eq_true rfl) dX10_ruleWord_35 ⟨Nat.le_of_ble_eq_true rfl, Nat.le_of_ble_eq_true rfl⟩ (fun H locs hI => ?_)
      refine lv_if_eq (tgt := 45) hx hb dX10_ruleWord_38 (by decide) (fun c9 => ?_) (fun c9 => ?_)
      · replace hf := ifp c9 hf
        refine hq_aload_n hx hb dX10_ruleWord_45 rfl (lv_at hl 0 rfl) ?_
        refine lv_iload_n hx hb dX10_ruleWord_46 rfl (lv_at hl 1 rfl) ?_
        refine lv_iload_n hx hb dX10_ruleWord_47 rfl (lv_at hl 2 rfl) ?_
        refine hs_ldc (i := 9) hx hb hown hI (by decide) dX10_ruleWord_48 ?_
        obtain ⟨x10, hc11, hf⟩ := bnd_b hf
        refine hcall_Si (ex2 := True) (As := [va_rf a0, .int a1, .int a2, .ref (cy (100 + 9))]) (rest := []) (n := 4) ⟨hx, hb, hml, hown, hts⟩ (ch_X10_spells l D cy a0 a1 a2 9 x7.1 x10 hc11) (va_cwS 4 hts gX10_ruleWord_X10_spells rfl rfl rfl nd_X10_spells ⟨Nat.le_of_ble_eq_true rfl, Nat.le_of_ble_eq_true rfl⟩) hI (fun h => h.elim) (fun _ => ⟨trivial, trivial⟩) rfl hl.1 (Nat.le_of_ble_eq_true rfl) dX10_ruleWord_50 ⟨Nat.le_of_ble_eq_true rfl, Nat.le_of_ble_eq_true rfl⟩ (fun H locs hI => ?_)
        refine lv_if_eq (tgt := 60) hx hb dX10_ruleWord_53 (by decide) (fun c12 => ?_) (fun c12 => ?_)
        · replace hf := ifp c12 hf
          refine hq_aload_n hx hb dX10_ruleWord_60 rfl (lv_at hl 0 rfl) ?_
          refine lv_iload_n hx hb dX10_ruleWord_61 rfl (lv_at hl 1 rfl) ?_
          refine lv_iload_n hx hb dX10_ruleWord_62 rfl (lv_at hl 2 rfl) ?_
          refine hs_ldc (i := 10) hx hb hown hI (by decide) dX10_ruleWord_63 ?_
          obtain ⟨x13, hc14, hf⟩ := bnd_b hf
          refine hcall_Si (ex2 := True) (As := [va_rf a0, .int a1, .int a2, .ref (cy (100 + 10))]) (rest := []) (n := 4) ⟨hx, hb, hml, hown, hts⟩ (ch_X10_spells l D cy a0 a1 a2 10 x10.1 x13 hc14) (va_cwS 4 hts gX10_ruleWord_X10_spells rfl rfl rfl nd_X10_spells ⟨Nat.le_of_ble_eq_true rfl, Nat.le_of_ble_eq_true rfl⟩) hI (fun h => h.elim) (fun _ => ⟨trivial, trivial⟩) rfl hl.1 (Nat.le_of_ble_eq_true rfl) dX10_ruleWord_65 ⟨Nat.le_of_ble_eq_true rfl, Nat.le_of_ble_eq_true rfl⟩ (fun H locs hI => ?_)
          refine lv_if_eq (tgt := 75) hx hb dX10_ruleWord_68 (by decide) (fun c15 => ?_) (fun c15 => ?_)
          · replace hf := ifp c15 hf
            refine hq_aload_n hx hb dX10_ruleWord_75 rfl (lv_at hl 0 rfl) ?_
            refine lv_iload_n hx hb dX10_ruleWord_76 rfl (lv_at hl 1 rfl) ?_
            refine lv_iload_n hx hb dX10_ruleWord_77 rfl (lv_at hl 2 rfl) ?_
            refine hs_ldc (i := 11) hx hb hown hI (by decide) dX10_ruleWord_78 ?_
            obtain ⟨x16, hc17, hf⟩ := bnd_b hf
            refine hcall_Si (ex2 := True) (As := [va_rf a0, .int a1, .int a2, .ref (cy (100 + 11))]) (rest := []) (n := 4) ⟨hx, hb, hml, hown, hts⟩ (ch_X10_spells l D cy a0 a1 a2 11 x13.1 x16 hc17) (va_cwS 4 hts gX10_ruleWord_X10_spells rfl rfl rfl nd_X10_spells ⟨Nat.le_of_ble_eq_true rfl, Nat.le_of_ble_eq_true rfl⟩) hI (fun h => h.elim) (fun _ => ⟨trivial, trivial⟩) rfl hl.1 (Nat.le_of_ble_eq_true rfl) dX10_ruleWord_80 ⟨Nat.le_of_ble_eq_true rfl, Nat.le_of_ble_eq_true rfl⟩ (fun H locs hI => ?_)
            refine lv_if_eq (tgt := 90) hx hb dX10_ruleWord_83 (by decide) (fun c18 => ?_) (fun c18 => ?_)
            · replace hf := ifp c18 hf
              refine hq_aload_n hx hb dX10_ruleWord_90 rfl (lv_at hl 0 rfl) ?_
              refine lv_iload_n hx hb dX10_ruleWord_91 rfl (lv_at hl 1 rfl) ?_
              refine lv_iload_n hx hb dX10_ruleWord_92 rfl (lv_at hl 2 rfl) ?_
              refine hs_ldc (i := 12) hx hb hown hI (by decide) dX10_ruleWord_93 ?_
              obtain ⟨x19, hc20, hf⟩ := bnd_b hf
              refine hcall_Si (ex2 := True) (As := [va_rf a0, .int a1, .int a2, .ref (cy (100 + 12))]) (rest := []) (n := 4) ⟨hx, hb, hml, hown, hts⟩ (ch_X10_spells l D cy a0 a1 a2 12 x16.1 x19 hc20) (va_cwS 4 hts gX10_ruleWord_X10_spells rfl rfl rfl nd_X10_spells ⟨Nat.le_of_ble_eq_true rfl, Nat.le_of_ble_eq_true rfl⟩) hI (fun h => h.elim) (fun _ => ⟨trivial, trivial⟩) rfl hl.1 (Nat.le_of_ble_eq_true rfl) dX10_ruleWord_95 ⟨Nat.le_of_ble_eq_true rfl, Nat.le_of_ble_eq_true rfl⟩ (fun H locs hI => ?_)
              refine lv_if_eq (tgt := 105) hx hb dX10_ruleWord_98 (by decide) (fun c21 => ?_) (fun c21 => ?_)
              · replace hf := ifp c21 hf
                refine hq_aload_n hx hb dX10_ruleWord_105 rfl (lv_at hl 0 rfl) ?_
                refine lv_iload_n hx hb dX10_ruleWord_106 rfl (lv_at hl 1 rfl) ?_
                refine lv_iload_n hx hb dX10_ruleWord_107 rfl (lv_at hl 2 rfl) ?_
                refine hs_ldc (i := 13) hx hb hown hI (by decide) dX10_ruleWord_108 ?_
                obtain ⟨x22, hc23, hf⟩ := bnd_b hf
                refine hcall_Si (ex2 := True) (As := [va_rf a0, .int a1, .int a2, .ref (cy (100 + 13))]) (rest := []) (n := 4) ⟨hx, hb, hml, hown, hts⟩ (ch_X10_spells l D cy a0 a1 a2 13 x19.1 x22 hc23) (va_cwS 4 hts gX10_ruleWord_X10_spells rfl rfl rfl nd_X10_spells ⟨Nat.le_of_ble_eq_true rfl, Nat.le_of_ble_eq_true rfl⟩) hI (fun h => h.elim) (fun _ => ⟨trivial, trivial⟩) rfl hl.1 (Nat.le_of_ble_eq_true rfl) dX10_ruleWord_110 ⟨Nat.le_of_ble_eq_true rfl, Nat.le_of_ble_eq_true rfl⟩ (fun H locs hI => ?_)
                refine lv_if_eq (tgt := 122) hx hb dX10_ruleWord_113 (by decide) (fun c24 => ?_) (fun c24 => ?_)
                · replace hf := ifp c24 hf
                  refine hq_aload_n hx hb dX10_ruleWord_122 rfl (lv_at hl 0 rfl) ?_
                  refine lv_iload_n hx hb dX10_ruleWord_123 rfl (lv_at hl 1 rfl) ?_
                  refine lv_iload_n hx hb dX10_ruleWord_124 rfl (lv_at hl 2 rfl) ?_
                  obtain ⟨x25, hc26, hf⟩ := bnd_b hf
                  refine hcall_Si (ex2 := True) (As := [va_rf a0, .int a1, .int a2]) (rest := []) (n := 3) ⟨hx, hb, hml, hown, hts⟩ (ch_X10_valueWord l D cy a0 a1 a2 x22.1 x25 hc26) (va_cwS 3 hts gX10_ruleWord_X10_valueWord rfl rfl rfl nd_X10_valueWord ⟨Nat.le_of_ble_eq_true rfl, Nat.le_of_ble_eq_true rfl⟩) hI (fun h => h.elim) (fun _ => ⟨trivial, trivial⟩) rfl hl.1 (Nat.le_of_ble_eq_true rfl) dX10_ruleWord_125 ⟨Nat.le_of_ble_eq_true rfl, Nat.le_of_ble_eq_true rfl⟩ (fun H locs hI => ?_)
                  exact hret_i hx hb hr hlocks hI (by decide) (by decide) (fun _ => ⟨trivial, rfl⟩) (ret_e hK0 hf) dX10_ruleWord_128
                · replace hf := ifn c24 hf
                  refine lv_sipush (v := 269) hx hb dX10_ruleWord_116 (by decide) ?_
                  refine lv_goto (tgt := 128) hx hb dX10_ruleWord_119 (by decide) ?_
                  exact hret_i hx hb hr hlocks hI (by decide) (by decide) (fun _ => ⟨trivial, rfl⟩) (ret_e hK0 hf) dX10_ruleWord_128
              · replace hf := ifn c21 hf
                refine lv_sipush (v := 268) hx hb dX10_ruleWord_101 (by decide) ?_
                exact hret_i hx hb hr hlocks hI (by decide) (by decide) (fun _ => ⟨trivial, rfl⟩) (ret_e hK0 hf) dX10_ruleWord_104
            · replace hf := ifn c18 hf
              refine lv_sipush (v := 267) hx hb dX10_ruleWord_86 (by decide) ?_
              exact hret_i hx hb hr hlocks hI (by decide) (by decide) (fun _ => ⟨trivial, rfl⟩) (ret_e hK0 hf) dX10_ruleWord_89
          · replace hf := ifn c15 hf
            refine lv_sipush (v := 266) hx hb dX10_ruleWord_71 (by decide) ?_
            exact hret_i hx hb hr hlocks hI (by decide) (by decide) (fun _ => ⟨trivial, rfl⟩) (ret_e hK0 hf) dX10_ruleWord_74
        · replace hf := ifn c12 hf
          refine lv_sipush (v := 265) hx hb dX10_ruleWord_56 (by decide) ?_
          exact hret_i hx hb hr hlocks hI (by decide) (by decide) (fun _ => ⟨trivial, rfl⟩) (ret_e hK0 hf) dX10_ruleWord_59
      · replace hf := ifn c9 hf
        refine lv_sipush (v := 264) hx hb dX10_ruleWord_41 (by decide) ?_
        exact hret_i hx hb hr hlocks hI (by decide) (by decide) (fun _ => ⟨trivial, rfl⟩) (ret_e hK0 hf) dX10_ruleWord_44
    · replace hf := ifn c6 hf
      refine lv_sipush (v := 263) hx hb dX10_ruleWord_26 (by decide) ?_
      exact hret_i hx hb hr hlocks hI (by decide) (by decide) (fun _ => ⟨trivial, rfl⟩) (ret_e hK0 hf) dX10_ruleWord_29
  · replace hf := ifn c3 hf
    refine lv_sipush (v := 262) hx hb dX10_ruleWord_11 (by decide) ?_
    exact hret_i hx hb hr hlocks hI (by decide) (by decide) (fun _ => ⟨trivial, rfl⟩) (ret_e hK0 hf) dX10_ruleWord_14

noncomputable def fh_X10_kindOf (a0 : Option Nat) (a1 : Int32) (a2 : Int32) (s0 : HSt) : Option (HSt × Int32) :=
  (dr s0 a0 21).bind fun b1 => chk (inb a1 (gL s0 b1)) ((fh_X10_isLetter (gA s0 b1 a1.toNatClampNeg) s0).bind fun x6 => (if x6.2 = 0 then (fh_X10_isDigit (gA s0 b1 a1.toNatClampNeg) x6.1).bind fun x9 => (if x9.2 = 0 then (if (a2 - a1) = (2 : Int32) then (if (gA s0 b1 a1.toNatClampNeg) = (60 : Int32) then some (x9.1, (3 : Int32)) else some (x9.1, (4 : Int32))) else (fh_X10_isSign (gA s0 b1 a1.toNatClampNeg) x9.1).bind fun x13 => (if x13.2 = 0 then some (x13.1, (1 : Int32)) else some (x13.1, (gA s0 b1 a1.toNatClampNeg)))) else some (x9.1, (2 : Int32))) else (fh_X10_riverWord a0 a1 a2 x6.1).bind fun x17 => (if x17.2 = (1 : Int32) then (fh_X10_ruleWord a0 a1 a2 x17.1).bind fun x20 => some (x20.1, x20.2) else some (x17.1, x17.2))))
theorem nd_X10_kindOf : yX10_kindOf.cls ≠ "java/lang/invoke/MethodHandle" ∧ yX10_kindOf.cls ≠ "java/lang/invoke/VarHandle" ∧ (parseMethodDescriptor yX10_kindOf.desc).map (fun d => d.parameters.length) = some 3 := by decide +kernel
set_option maxHeartbeats 4000000 in
set_option maxRecDepth 100000 in
theorem ch_X10_kindOf (l : Launch) (D : va_G) (cy : Nat → ClassId) (a0 : Option Nat) (a1 : Int32) (a2 : Int32) (s0 : HSt) (out : HSt × Int32) (hf : fh_X10_kindOf a0 a1 a2 s0 = some out) : CHi l D cy yX10_kindOf wsX10_kindOf { frames := 7, cells := 0, slots := 0, locals := 153 } 0 0 False True [va_rf a0, .int a1, .int a2] s0 out := by
  refine Met.ofW (cc := cX10_kindOf) (maxL := 5) (ret := (some .int)) (by decide) rfl ?_
  intro p e s m args below meth c s₁ B hml hv
  obtain ⟨rfl, hP, hK, hD0, hkx, hsz, hal⟩ := hv
  have hx := B.exec
  have hb := B.bytes
  have hr := B.returns
  have hts := atoms_spec (ws := wsX10_kindOf) B.pre
  have hown : s.vm.findClass RX10 = some m.cls := findClass_of_methodNamed B.named
  have hlocks := B.notSynchronized
  have hI : HI D cy s s0 s0 s.heap [] 0 False True := ⟨hK, hP, hD0.weaken (fun k q hk _ => Or.inl (pl_mem hk)), va_S.rf, hsz.1, hkx, ⟨hsz, hal⟩, fun _ => rfl, Nat.le_refl _⟩
  have hl := lv_entry ([va_rf a0, .int a1, .int a2]) (n := 5) (by simp [lg_sl, cat_rf, cat_i, cat_l, cat_r])
  rw [lg_entry_eq]
  generalize (lg_sl ([va_rf a0, .int a1, .int a2]) ++ List.replicate (5 - (lg_sl ([va_rf a0, .int a1, .int a2])).length) Slot.unset).toArray = ls at hl ⊢
  have hl : lv_has ls 5 [(0, va_rf a0), (1, .int a1), (2, .int a2)] := (by simpa [lv_args, cat_rf, cat_i, cat_l, cat_r] using hl)
  obtain ⟨K0, hK0, hf⟩ := top_e hf
  unfold fh_X10_kindOf at hf
  refine hq_aload_n hx hb dX10_kindOf_0 rfl (lv_at hl 0 rfl) ?_
  refine lv_iload_n hx hb dX10_kindOf_1 rfl (lv_at hl 1 rfl) ?_
  obtain ⟨b1, hd2, hf⟩ := bnd_b hf
  obtain ⟨hq3, hk4⟩ := dr_e hd2
  refine W.eq (g2 := F0 m 2 ls [.int a1, .ref b1]) (by rw [hq3]; rfl) ?_
  obtain ⟨k5, hf⟩ := chk_b hf
  refine hl_B hx hb hI hk4 k5 dX10_kindOf_2 ?_
  refine lv_istore_n (lv' := [(3, .int (gA s0 b1 a1.toNatClampNeg)), (0, va_rf a0), (1, .int a1), (2, .int a2)]) hx hb dX10_kindOf_3 rfl hl (by decide) (by first | rfl | (simp [cat_rf, cat_i, cat_l, cat_r]; done) | (simp [cat_rf, cat_i, cat_l, cat_r]; decide)) (fun ls hl => ?_)
  refine lv_iload_n hx hb dX10_kindOf_4 rfl (lv_at hl 0 rfl) ?_
  obtain ⟨x6, hc7, hf⟩ := bnd_b hf
  refine hcall_Si (ex2 := True) (As := [.int (gA s0 b1 a1.toNatClampNeg)]) (rest := []) (n := 1) ⟨hx, hb, hml, hown, hts⟩ (ch_X10_isLetter l D cy (gA s0 b1 a1.toNatClampNeg) s0 x6 hc7) (va_cwS 1 hts gX10_kindOf_X10_isLetter rfl rfl rfl nd_X10_isLetter ⟨Nat.le_of_ble_eq_true rfl, Nat.le_of_ble_eq_true rfl⟩) hI (fun h => h.elim) (fun _ => ⟨trivial, trivial⟩) rfl hl.1 (Nat.le_of_ble_eq_true rfl) dX10_kindOf_5 ⟨Nat.le_of_ble_eq_true rfl, Nat.le_of_ble_eq_true rfl⟩ (fun H locs hI => ?_)
  refine lv_if_eq (tgt := 37) hx hb dX10_kindOf_8 (by decide) (fun c8 => ?_) (fun c8 => ?_)
  · replace hf := ifp c8 hf
    refine lv_iload_n hx hb dX10_kindOf_37 rfl (lv_at hl 0 rfl) ?_
    obtain ⟨x9, hc10, hf⟩ := bnd_b hf
    refine hcall_Si (ex2 := True) (As := [.int (gA s0 b1 a1.toNatClampNeg)]) (rest := []) (n := 1) ⟨hx, hb, hml, hown, hts⟩ (ch_X10_isDigit l D cy (gA s0 b1 a1.toNatClampNeg) x6.1 x9 hc10) (va_cwS 1 hts gX10_kindOf_X10_isDigit rfl rfl rfl nd_X10_isDigit ⟨Nat.le_of_ble_eq_true rfl, Nat.le_of_ble_eq_true rfl⟩) hI (fun h => h.elim) (fun _ => ⟨trivial, trivial⟩) rfl hl.1 (Nat.le_of_ble_eq_true rfl) dX10_kindOf_38 ⟨Nat.le_of_ble_eq_true rfl, Nat.le_of_ble_eq_true rfl⟩ (fun H locs hI => ?_)
    refine lv_if_eq (tgt := 46) hx hb dX10_kindOf_41 (by decide) (fun c11 => ?_) (fun c11 => ?_)
    · replace hf := ifp c11 hf
      refine lv_iload_n hx hb dX10_kindOf_46 rfl (lv_at hl 3 rfl) ?_
      refine lv_iload_n hx hb dX10_kindOf_47 rfl (lv_at hl 2 rfl) ?_
      refine lv_isub hx hb dX10_kindOf_48 ?_
      refine lv_iconst (v := 2) hx hb dX10_kindOf_49 (by decide) ?_
      refine lv_icmp_ne (tgt := 65) hx hb dX10_kindOf_50 (by decide) (fun c12 => ?_) (fun c12 => ?_)
      · replace hf := ifn c12 hf
        refine lv_iload_n hx hb dX10_kindOf_65 rfl (lv_at hl 0 rfl) ?_
        obtain ⟨x13, hc14, hf⟩ := bnd_b hf
        refine hcall_Si (ex2 := True) (As := [.int (gA s0 b1 a1.toNatClampNeg)]) (rest := []) (n := 1) ⟨hx, hb, hml, hown, hts⟩ (ch_X10_isSign l D cy (gA s0 b1 a1.toNatClampNeg) x9.1 x13 hc14) (va_cwS 1 hts gX10_kindOf_X10_isSign rfl rfl rfl nd_X10_isSign ⟨Nat.le_of_ble_eq_true rfl, Nat.le_of_ble_eq_true rfl⟩) hI (fun h => h.elim) (fun _ => ⟨trivial, trivial⟩) rfl hl.1 (Nat.le_of_ble_eq_true rfl) dX10_kindOf_66 ⟨Nat.le_of_ble_eq_true rfl, Nat.le_of_ble_eq_true rfl⟩ (fun H locs hI => ?_)
        refine lv_if_eq (tgt := 76) hx hb dX10_kindOf_69 (by decide) (fun c15 => ?_) (fun c15 => ?_)
        · replace hf := ifp c15 hf
          refine lv_iconst (v := 1) hx hb dX10_kindOf_76 (by decide) ?_
          exact hret_i hx hb hr hlocks hI (by decide) (by decide) (fun _ => ⟨trivial, rfl⟩) (ret_e hK0 hf) dX10_kindOf_77
        · replace hf := ifn c15 hf
          refine lv_iload_n hx hb dX10_kindOf_72 rfl (lv_at hl 0 rfl) ?_
          refine lv_goto (tgt := 77) hx hb dX10_kindOf_73 (by decide) ?_
          exact hret_i hx hb hr hlocks hI (by decide) (by decide) (fun _ => ⟨trivial, rfl⟩) (ret_e hK0 hf) dX10_kindOf_77
      · replace hf := ifp c12 hf
        refine lv_iload_n hx hb dX10_kindOf_53 rfl (lv_at hl 0 rfl) ?_
        refine lv_bipush (v := 60) hx hb dX10_kindOf_54 (by decide) ?_
        refine lv_icmp_ne (tgt := 63) hx hb dX10_kindOf_56 (by decide) (fun c16 => ?_) (fun c16 => ?_)
        · replace hf := ifn c16 hf
          refine lv_iconst (v := 4) hx hb dX10_kindOf_63 (by decide) ?_
          exact hret_i hx hb hr hlocks hI (by decide) (by decide) (fun _ => ⟨trivial, rfl⟩) (ret_e hK0 hf) dX10_kindOf_64
        · replace hf := ifp c16 hf
          refine lv_iconst (v := 3) hx hb dX10_kindOf_59 (by decide) ?_
          refine lv_goto (tgt := 64) hx hb dX10_kindOf_60 (by decide) ?_
          exact hret_i hx hb hr hlocks hI (by decide) (by decide) (fun _ => ⟨trivial, rfl⟩) (ret_e hK0 hf) dX10_kindOf_64
    · replace hf := ifn c11 hf
      refine lv_iconst (v := 2) hx hb dX10_kindOf_44 (by decide) ?_
      exact hret_i hx hb hr hlocks hI (by decide) (by decide) (fun _ => ⟨trivial, rfl⟩) (ret_e hK0 hf) dX10_kindOf_45
  · replace hf := ifn c8 hf
    refine hq_aload_n hx hb dX10_kindOf_11 rfl (lv_at hl 1 rfl) ?_
    refine lv_iload_n hx hb dX10_kindOf_12 rfl (lv_at hl 2 rfl) ?_
    refine lv_iload_n hx hb dX10_kindOf_13 rfl (lv_at hl 3 rfl) ?_
    obtain ⟨x17, hc18, hf⟩ := bnd_b hf
    refine hcall_Si (ex2 := True) (As := [va_rf a0, .int a1, .int a2]) (rest := []) (n := 3) ⟨hx, hb, hml, hown, hts⟩ (ch_X10_riverWord l D cy a0 a1 a2 x6.1 x17 hc18) (va_cwS 3 hts gX10_kindOf_X10_riverWord rfl rfl rfl nd_X10_riverWord ⟨Nat.le_of_ble_eq_true rfl, Nat.le_of_ble_eq_true rfl⟩) hI (fun h => h.elim) (fun _ => ⟨trivial, trivial⟩) rfl hl.1 (Nat.le_of_ble_eq_true rfl) dX10_kindOf_14 ⟨Nat.le_of_ble_eq_true rfl, Nat.le_of_ble_eq_true rfl⟩ (fun H locs hI => ?_)
    refine lv_istore (lv' := [(4, .int x17.2), (3, .int (gA s0 b1 a1.toNatClampNeg)), (0, va_rf a0), (1, .int a1), (2, .int a2)]) hx hb dX10_kindOf_17 hl (by decide) (by first | rfl | (simp [cat_rf, cat_i, cat_l, cat_r]; done) | (simp [cat_rf, cat_i, cat_l, cat_r]; decide)) (fun ls hl => ?_)
    refine lv_iload hx hb dX10_kindOf_19 (lv_at hl 0 rfl) ?_
    refine lv_iconst (v := 1) hx hb dX10_kindOf_21 (by decide) ?_
    refine lv_icmp_ne (tgt := 34) hx hb dX10_kindOf_22 (by decide) (fun c19 => ?_) (fun c19 => ?_)
    · replace hf := ifn c19 hf
      refine lv_iload hx hb dX10_kindOf_34 (lv_at hl 0 rfl) ?_
      exact hret_i hx hb hr hlocks hI (by decide) (by decide) (fun _ => ⟨trivial, rfl⟩) (ret_e hK0 hf) dX10_kindOf_36
    · replace hf := ifp c19 hf
      refine hq_aload_n hx hb dX10_kindOf_25 rfl (lv_at hl 2 rfl) ?_
      refine lv_iload_n hx hb dX10_kindOf_26 rfl (lv_at hl 3 rfl) ?_
      refine lv_iload_n hx hb dX10_kindOf_27 rfl (lv_at hl 4 rfl) ?_
      obtain ⟨x20, hc21, hf⟩ := bnd_b hf
      refine hcall_Si (ex2 := True) (As := [va_rf a0, .int a1, .int a2]) (rest := []) (n := 3) ⟨hx, hb, hml, hown, hts⟩ (ch_X10_ruleWord l D cy a0 a1 a2 x17.1 x20 hc21) (va_cwS 3 hts gX10_kindOf_X10_ruleWord rfl rfl rfl nd_X10_ruleWord ⟨Nat.le_of_ble_eq_true rfl, Nat.le_of_ble_eq_true rfl⟩) hI (fun h => h.elim) (fun _ => ⟨trivial, trivial⟩) rfl hl.1 (Nat.le_of_ble_eq_true rfl) dX10_kindOf_28 ⟨Nat.le_of_ble_eq_true rfl, Nat.le_of_ble_eq_true rfl⟩ (fun H locs hI => ?_)
      refine lv_goto (tgt := 36) hx hb dX10_kindOf_31 (by decide) ?_
      exact hret_i hx hb hr hlocks hI (by decide) (by decide) (fun _ => ⟨trivial, rfl⟩) (ret_e hK0 hf) dX10_kindOf_36

noncomputable def fh_X10_next (h : Nat) (s0 : HSt) : Option (HSt) :=
  chk (isk s0 h 11) ((if ((gI s0 1003 h) - (1 : Int32)) ≤ (gI s0 1004 h) then some s0 else some (sI s0 1004 h ((gI s0 1004 h) + (1 : Int32)))))
theorem nd_X10_next : yX10_next.cls ≠ "java/lang/invoke/MethodHandle" ∧ yX10_next.cls ≠ "java/lang/invoke/VarHandle" ∧ (parseMethodDescriptor yX10_next.desc).map (fun d => d.parameters.length) = some 0 := by decide +kernel
set_option maxHeartbeats 4000000 in
set_option maxRecDepth 100000 in
theorem ch_X10_next (l : Launch) (D : va_G) (cy : Nat → ClassId) (h : Nat)  (s0 : HSt) (out : HSt) (hf : fh_X10_next h s0 = some out) : CHv l D cy yX10_next wsX10_next { frames := 0, cells := 0, slots := 0, locals := 0 } 0 0 False True [.ref h] s0 out := by
  refine Met.ofW (cc := cX10_next) (maxL := 1) (ret := none) (by decide) rfl ?_
  intro p e s m args below meth c s₁ B hml hv
  obtain ⟨rfl, hP, hK, hD0, hkx, hsz, hal⟩ := hv
  have hx := B.exec
  have hb := B.bytes
  have hr := B.returns
  have hts := atoms_spec (ws := wsX10_next) B.pre
  have hown : s.vm.findClass RX10 = some m.cls := findClass_of_methodNamed B.named
  have hlocks := B.notSynchronized
  have hI : HI D cy s s0 s0 s.heap [] 0 False True := ⟨hK, hP, hD0.weaken (fun k q hk _ => Or.inl (pl_mem hk)), va_S.rf, hsz.1, hkx, ⟨hsz, hal⟩, fun _ => rfl, Nat.le_refl _⟩
  have hin_X10 : ∀ w ∈ u_ws RX10 TX10 6, w ∈ wsX10_next := fun w hw => List.mem_cons_of_mem _ (List.mem_append_right _ hw)
  have kl_21 : Cond.fieldLink RX10 21 "HalfBridge$Tokens" "size" "I" ∈ wsX10_next := by decide +kernel
  have kl_25 : Cond.fieldLink RX10 25 "HalfBridge$Tokens" "at" "I" ∈ wsX10_next := by decide +kernel
  have hl := lv_entry ([.ref h]) (n := 1) (Nat.le_of_ble_eq_true rfl)
  rw [lg_entry_eq]
  generalize (lg_sl ([.ref h]) ++ List.replicate (1 - (lg_sl ([.ref h])).length) Slot.unset).toArray = ls at hl ⊢
  have hl : lv_has ls 1 [(0, .ref h)] := hl
  obtain ⟨K0, hK0, hf⟩ := top_e hf
  unfold fh_X10_next at hf
  refine lv_aload_n hx hb dX10_next_0 rfl (lv_at hl 0 rfl) ?_
  obtain ⟨k1, hf⟩ := chk_b hf
  refine hg_10_4 hx hb hts hin_X10 hown kl_25 hI (isk_k k1) dX10_next_1 ?_
  refine lv_aload_n hx hb dX10_next_4 rfl (lv_at hl 0 rfl) ?_
  refine hg_10_3 hx hb hts hin_X10 hown kl_21 hI (isk_k k1) dX10_next_5 ?_
  refine lv_iconst (v := 1) hx hb dX10_next_8 (by decide) ?_
  refine lv_isub hx hb dX10_next_9 ?_
  refine lv_icmp_ge (tgt := 23) hx hb dX10_next_10 (by decide) (fun c2 => ?_) (fun c2 => ?_)
  · replace hf := ifp c2 hf
    exact hret_v hx hb hr hlocks hI (by decide) (by decide) (fun _ => ⟨trivial, rfl⟩) (ret_e hK0 hf) dX10_next_23
  · replace hf := ifn c2 hf
    refine lv_aload_n hx hb dX10_next_13 rfl (lv_at hl 0 rfl) ?_
    refine lv_dup hx hb dX10_next_14 rfl ?_
    refine hg_10_4 hx hb hts hin_X10 hown kl_25 hI (isk_k k1) dX10_next_15 ?_
    refine lv_iconst (v := 1) hx hb dX10_next_18 (by decide) ?_
    refine lv_iadd hx hb dX10_next_19 ?_
    refine hp_10_4 hx hb hts hin_X10 hown kl_25 hI (isk_k k1) dX10_next_20 (fun H locs hI => ?_)
    exact hret_v hx hb hr hlocks hI (by decide) (by decide) (fun _ => ⟨trivial, rfl⟩) (ret_e hK0 hf) dX10_next_23

noncomputable def fh_X10_put (h : Nat) (a1 : Int32) (a2 : Int32) (a3 : Int32) (s0 : HSt) : Option (HSt) :=
  chk (isk s0 h 11) ((dr s0 (gR s0 1000 h) 22).bind fun b2 => (if (nI (gL s0 b2)) ≤ (gI s0 1003 h) then some s0 else chk (inb (gI s0 1003 h) (gL s0 b2)) ((dr s0 (gR (sA s0 b2 (gI s0 1003 h).toNatClampNeg a1) 1001 h) 22).bind fun b8 => chk (inb (gI (sA s0 b2 (gI s0 1003 h).toNatClampNeg a1) 1003 h) (gL (sA s0 b2 (gI s0 1003 h).toNatClampNeg a1) b8)) ((some (sA (sA s0 b2 (gI s0 1003 h).toNatClampNeg a1) b8 (gI (sA s0 b2 (gI s0 1003 h).toNatClampNeg a1) 1003 h).toNatClampNeg a2)).bind fun x13 => (dr x13 (gR x13 1002 h) 22).bind fun b17 => chk (inb (gI x13 1003 h) (gL x13 b17)) ((some (sI (sA x13 b17 (gI x13 1003 h).toNatClampNeg a3) 1003 h ((gI (sA x13 b17 (gI x13 1003 h).toNatClampNeg a3) 1003 h) + (1 : Int32)))).bind fun x22 => some x22)))))
theorem nd_X10_put : yX10_put.cls ≠ "java/lang/invoke/MethodHandle" ∧ yX10_put.cls ≠ "java/lang/invoke/VarHandle" ∧ (parseMethodDescriptor yX10_put.desc).map (fun d => d.parameters.length) = some 3 := by decide +kernel
set_option maxHeartbeats 4000000 in
set_option maxRecDepth 100000 in
theorem ch_X10_put (l : Launch) (D : va_G) (cy : Nat → ClassId) (h : Nat) (a1 : Int32) (a2 : Int32) (a3 : Int32) (s0 : HSt) (out : HSt) (hf : fh_X10_put h a1 a2 a3 s0 = some out) : CHv l D cy yX10_put wsX10_put { frames := 0, cells := 0, slots := 0, locals := 0 } 0 0 False True [.ref h, .int a1, .int a2, .int a3] s0 out := by
  refine Met.ofW (cc := cX10_put) (maxL := 4) (ret := none) (by decide) rfl ?_
  intro p e s m args below meth c s₁ B hml hv
  obtain ⟨rfl, hP, hK, hD0, hkx, hsz, hal⟩ := hv
  have hx := B.exec
  have hb := B.bytes
  have hr := B.returns
  have hts := atoms_spec (ws := wsX10_put) B.pre
  have hown : s.vm.findClass RX10 = some m.cls := findClass_of_methodNamed B.named
  have hlocks := B.notSynchronized
  have hI : HI D cy s s0 s0 s.heap [] 0 False True := ⟨hK, hP, hD0.weaken (fun k q hk _ => Or.inl (pl_mem hk)), va_S.rf, hsz.1, hkx, ⟨hsz, hal⟩, fun _ => rfl, Nat.le_refl _⟩
  have hin_X10 : ∀ w ∈ u_ws RX10 TX10 6, w ∈ wsX10_put := fun w hw => List.mem_cons_of_mem _ (List.mem_append_right _ hw)
  have kl_9 : Cond.fieldLink RX10 9 "HalfBridge$Tokens" "kinds" "[I" ∈ wsX10_put := by decide +kernel
  have kl_15 : Cond.fieldLink RX10 15 "HalfBridge$Tokens" "places" "[I" ∈ wsX10_put := by decide +kernel
  have kl_18 : Cond.fieldLink RX10 18 "HalfBridge$Tokens" "values" "[I" ∈ wsX10_put := by decide +kernel
  have kl_21 : Cond.fieldLink RX10 21 "HalfBridge$Tokens" "size" "I" ∈ wsX10_put := by decide +kernel
  have hl := lv_entry ([.ref h, .int a1, .int a2, .int a3]) (n := 4) (Nat.le_of_ble_eq_true rfl)
  rw [lg_entry_eq]
  generalize (lg_sl ([.ref h, .int a1, .int a2, .int a3]) ++ List.replicate (4 - (lg_sl ([.ref h, .int a1, .int a2, .int a3])).length) Slot.unset).toArray = ls at hl ⊢
  have hl : lv_has ls 4 [(0, .ref h), (1, .int a1), (2, .int a2), (3, .int a3)] := hl
  obtain ⟨K0, hK0, hf⟩ := top_e hf
  unfold fh_X10_put at hf
  refine lv_aload_n hx hb dX10_put_0 rfl (lv_at hl 0 rfl) ?_
  obtain ⟨k1, hf⟩ := chk_b hf
  refine hg_10_3 hx hb hts hin_X10 hown kl_21 hI (isk_k k1) dX10_put_1 ?_
  refine lv_aload_n hx hb dX10_put_4 rfl (lv_at hl 0 rfl) ?_
  refine hg_10_0 hx hb hts hin_X10 hown kl_9 hI (isk_k k1) dX10_put_5 ?_
  obtain ⟨b2, hd3, hf⟩ := bnd_b hf
  obtain ⟨hq4, hk5⟩ := dr_e hd3
  refine W.eq (g2 := F0 m 8 ls [.ref b2, .int (gI s0 1003 h)]) (by rw [hq4]; rfl) ?_
  refine ha_22 hx hb hI hk5 dX10_put_8 ?_
  refine lv_icmp_ge (tgt := 52) hx hb dX10_put_9 (by decide) (fun c6 => ?_) (fun c6 => ?_)
  · replace hf := ifp c6 hf
    exact hret_v hx hb hr hlocks hI (by decide) (by decide) (fun _ => ⟨trivial, rfl⟩) (ret_e hK0 hf) dX10_put_52
  · replace hf := ifn c6 hf
    refine lv_aload_n hx hb dX10_put_12 rfl (lv_at hl 0 rfl) ?_
    refine hg_10_0 hx hb hts hin_X10 hown kl_9 hI (isk_k k1) dX10_put_13 ?_
    refine lv_aload_n hx hb dX10_put_16 rfl (lv_at hl 0 rfl) ?_
    refine hg_10_3 hx hb hts hin_X10 hown kl_21 hI (isk_k k1) dX10_put_17 ?_
    refine lv_iload_n hx hb dX10_put_20 rfl (lv_at hl 1 rfl) ?_
    refine W.eq (g2 := F0 m 21 ls [.int a1, .int (gI s0 1003 h), .ref b2]) (by rw [hq4]; rfl) ?_
    obtain ⟨k7, hf⟩ := chk_b hf
    refine hs_I hx hb hI hk5 k7 dX10_put_21 (fun H locs hI => ?_)
    refine lv_aload_n hx hb dX10_put_22 rfl (lv_at hl 0 rfl) ?_
    refine hg_10_1 hx hb hts hin_X10 hown kl_15 hI (gK_sA.trans (isk_k k1)) dX10_put_23 ?_
    refine lv_aload_n hx hb dX10_put_26 rfl (lv_at hl 0 rfl) ?_
    refine hg_10_3 hx hb hts hin_X10 hown kl_21 hI (gK_sA.trans (isk_k k1)) dX10_put_27 ?_
    refine lv_iload_n hx hb dX10_put_30 rfl (lv_at hl 2 rfl) ?_
    obtain ⟨b8, hd9, hf⟩ := bnd_b hf
    obtain ⟨hq10, hk11⟩ := dr_e hd9
    refine W.eq (g2 := F0 m 31 ls [.int a2, .int (gI (sA s0 b2 (gI s0 1003 h).toNatClampNeg a1) 1003 h), .ref b8]) (by rw [hq10]; rfl) ?_
    obtain ⟨k12, hf⟩ := chk_b hf
    refine hs_I hx hb hI (gK_sA.trans hk11) k12 dX10_put_31 (fun H locs hI => ?_)
    obtain ⟨x13, hx13, hf⟩ := bnd_b hf
    replace hx13 := Option.some.inj hx13
    rw [hx13] at hI
    have hk14 : gK x13 h = 11 := by rw [← hx13]; exact (gK_sA.trans (gK_sA.trans (isk_k k1)))
    have hk15 : gK x13 b2 = 22 := by rw [← hx13]; exact (gK_sA.trans (gK_sA.trans hk5))
    have hk16 : gK x13 b8 = 22 := by rw [← hx13]; exact (gK_sA.trans (gK_sA.trans hk11))
    refine lv_aload_n hx hb dX10_put_32 rfl (lv_at hl 0 rfl) ?_
    refine hg_10_2 hx hb hts hin_X10 hown kl_18 hI hk14 dX10_put_33 ?_
    refine lv_aload_n hx hb dX10_put_36 rfl (lv_at hl 0 rfl) ?_
    refine hg_10_3 hx hb hts hin_X10 hown kl_21 hI hk14 dX10_put_37 ?_
    refine lv_iload_n hx hb dX10_put_40 rfl (lv_at hl 3 rfl) ?_
    obtain ⟨b17, hd18, hf⟩ := bnd_b hf
    obtain ⟨hq19, hk20⟩ := dr_e hd18
    refine W.eq (g2 := F0 m 41 ls [.int a3, .int (gI x13 1003 h), .ref b17]) (by rw [hq19]; rfl) ?_
    obtain ⟨k21, hf⟩ := chk_b hf
    refine hs_I hx hb hI hk20 k21 dX10_put_41 (fun H locs hI => ?_)
    refine lv_aload_n hx hb dX10_put_42 rfl (lv_at hl 0 rfl) ?_
    refine lv_dup hx hb dX10_put_43 rfl ?_
    refine hg_10_3 hx hb hts hin_X10 hown kl_21 hI (gK_sA.trans hk14) dX10_put_44 ?_
    refine lv_iconst (v := 1) hx hb dX10_put_47 (by decide) ?_
    refine lv_iadd hx hb dX10_put_48 ?_
    refine hp_10_3 hx hb hts hin_X10 hown kl_21 hI (gK_sA.trans hk14) dX10_put_49 (fun H locs hI => ?_)
    obtain ⟨x22, hx22, hf⟩ := bnd_b hf
    replace hx22 := Option.some.inj hx22
    rw [hx22] at hI
    have hk23 : gK x22 h = 11 := by rw [← hx22]; exact (gK_sI.trans (gK_sA.trans hk14))
    have hk24 : gK x22 b2 = 22 := by rw [← hx22]; exact (gK_sI.trans (gK_sA.trans hk15))
    have hk25 : gK x22 b8 = 22 := by rw [← hx22]; exact (gK_sI.trans (gK_sA.trans hk16))
    have hk26 : gK x22 b17 = 22 := by rw [← hx22]; exact (gK_sI.trans (gK_sA.trans hk20))
    exact hret_v hx hb hr hlocks hI (by decide) (by decide) (fun _ => ⟨trivial, rfl⟩) (ret_e hK0 hf) dX10_put_52
