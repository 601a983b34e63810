noncomputable def fm_seed (a1 : Int32) (s0 : MSt) : Option (MSt × Int32) :=
  (if 0 ≤ a1 then chk (inb (5 : Int32) 286) (chk (inb (5 : Int32) 286) (some (msa s0 26 (5 : Int32).toNatClampNeg a1, (s0.2.1 26 (5 : Int32).toNatClampNeg)))) else some (s0, (-1 : Int32)))
theorem nd_seed : yX12_seed.cls ≠ "java/lang/invoke/MethodHandle" ∧ yX12_seed.cls ≠ "java/lang/invoke/VarHandle" ∧ (parseMethodDescriptor yX12_seed.desc).map (fun d => d.parameters.length) = some 1 := by decide +kernel
set_option maxHeartbeats 4000000 in
set_option maxRecDepth 100000 in
theorem cm_seed (l : Launch) (D : va_G) (h : Nat) (ad : Nat → Nat) (cy : Nat → ClassId) (a1 : Int32) (s0 : MSt) (out : MSt × Int32) (hf : fm_seed a1 s0 = some out) (sz : Nat) : CMi l D h ad cy yX12_seed wsX12_seed { frames := 0, cells := 0, slots := 0, locals := 0 } [.int a1] s0 out sz := by
  refine Met.ofW (cc := cX12_seed) (maxL := 3) (ret := (some .int)) (by decide) rfl ?_
  intro p e s m args below meth c s₁ B hml hv
  obtain ⟨rfl, hsz, hP, hK, hD0⟩ := hv
  have hx := B.exec
  have hb := B.bytes
  have hr := B.returns
  have hts := atoms_spec (ws := wsX12_seed) B.pre
  have hown : s.vm.findClass RX12 = some m.cls := findClass_of_methodNamed B.named
  have hlocks := B.notSynchronized
  subst hsz
  have hI : MI D (MA h ad cy s0 s.heap.size) h ad cy s s.heap s0 s.heap [] := ⟨hK, hP, hD0.self, va_S.rf⟩
  have hA : ∀ q : Nat, s.heap.size ≤ q → MA h ad cy s0 s.heap.size q := fun q hq => Or.inr hq
  have hin : ∀ w ∈ u_ws RX12 TX12 42, w ∈ wsX12_seed := fun w hw => List.mem_cons_of_mem _ (List.mem_append_right _ hw)
  have k_said : Cond.fieldLink RX12 45 "HalfBridgeModel" "said" "[I" ∈ wsX12_seed := by decide +kernel
  have hl := lv_entry ([.ref h, .int a1]) (n := 3) (Nat.le_of_ble_eq_true rfl)
  rw [lg_entry_eq]
  generalize (lg_sl ([.ref h, .int a1]) ++ List.replicate (3 - (lg_sl ([.ref h, .int a1])).length) Slot.unset).toArray = ls at hl ⊢
  have hl : lv_has ls 3 [(0, .ref h), (1, .int a1)] := hl
  obtain ⟨K0, hK0, hf⟩ := top_e hf
  unfold fm_seed at hf
  refine lv_iload_n hx hb dX12_seed_0 rfl (lv_at hl 1 rfl) ?_
  refine lv_if_ge (tgt := 6) hx hb dX12_seed_1 (by decide) (fun c1 => ?_) (fun c1 => ?_)
  · replace hf := ifp c1 hf
    refine lv_aload_n hx hb dX12_seed_6 rfl (lv_at hl 0 rfl) ?_
    refine mg_said hx hb hts hin hown k_said hI dX12_seed_7 ?_
    refine lv_iconst (v := 5) hx hb dX12_seed_10 (by decide) ?_
    obtain ⟨k2, hf⟩ := chk_b hf
    refine ml_said hx hb hI k2 dX12_seed_11 ?_
    refine lv_istore_n (lv' := [(2, .int (s0.2.1 26 (5 : Int32).toNatClampNeg)), (0, .ref h), (1, .int a1)]) hx hb dX12_seed_12 rfl hl (by decide) rfl (fun ls hl => ?_)
    refine lv_aload_n hx hb dX12_seed_13 rfl (lv_at hl 1 rfl) ?_
    refine mg_said hx hb hts hin hown k_said hI dX12_seed_14 ?_
    refine lv_iconst (v := 5) hx hb dX12_seed_17 (by decide) ?_
    refine lv_iload_n hx hb dX12_seed_18 rfl (lv_at hl 2 rfl) ?_
    obtain ⟨k3, hf⟩ := chk_b hf
    refine ms_said hx hb hI k3 dX12_seed_19 (fun H locs hI => ?_)
    refine lv_iload_n hx hb dX12_seed_20 rfl (lv_at hl 0 rfl) ?_
    exact mret_i hx hb hr hlocks hI (ret_e hK0 hf) dX12_seed_21
  · replace hf := ifn c1 hf
    refine lv_iconst (v := -1) hx hb dX12_seed_4 (by decide) ?_
    exact mret_i hx hb hr hlocks hI (ret_e hK0 hf) dX12_seed_5
