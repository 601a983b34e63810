section HROWS3
variable {p : Program} {l : Launch} {e : Env} {R : Room} {s : State} {m : MethodId} {args : Array Value} {below : List Frame} {meth : Method} {c : Code} {H : Heap} {locs : List Loc} {cells slots : Nat} {Q : State → Prop}
variable {cc : ByteArray} {pc : Nat} {ls : Array Slot} {rest : List Value} {D : va_G} {cy : Nat → ClassId} {s0 st : HSt} {Ts : List Cond} {al ex : Prop} {own : String} {index : Nat}
theorem h_nmI (hI : HI D cy s s0 st H locs cells al ex) : s.vm.findClass "[I" = some (cy 1) := (hI.1.2 1 _ rfl).2
theorem h_clone {a : Nat} (hx : p.tables.exec = Jvm.exec) (hb : c.code = cc) (hml : c.maxLocals = ls.size) (hown : s.vm.findClass own = some m.cls) (hts : ∀ w ∈ Ts, w.before args s = true)
    (k1 : Cond.methodLink own index ⟨"[I", "clone", "()Ljava/lang/Object;"⟩ ∈ Ts) (k2 : Cond.sameMethod "[I" "java/lang/Object" "clone" "()Ljava/lang/Object;" ∈ Ts) (k3 : Cond.native ⟨"java/lang/Object", "clone", "()Ljava/lang/Object;"⟩ ∈ Ts) (k4 : Cond.instanceMethod ⟨"java/lang/Object", "clone", "()Ljava/lang/Object;"⟩ ∈ Ts) (k5 : Cond.selects "[I" ⟨"[I", "clone", "()Ljava/lang/Object;"⟩ ⟨"java/lang/Object", "clone", "()Ljava/lang/Object;"⟩ ∈ Ts)
    (hI : HI D cy s s0 st H [] cells al ex) (hal : al) (hex : ex) (hk : gK st a = 22) (hframes : 1 ≤ R.frames) (hlocals : (rest.map fun v => v.category).sum + 14 ≤ R.locals) (hcells : cells + 1 ≤ R.cells) (hslots : slots + gL st a ≤ R.slots) (hdg : decode cc pc = .ok (.invokevirtual index, 3))
    (kk : ∀ (H1 : Heap), HI D cy s s0 (cpO st a) H1 [] (cells + 1) al ex → W p l e R s m args below meth c H1 [] (cells + 1) (slots + gL st a) Q (F0 m (pc + 3) ls (.ref (gN st) :: rest))) : W p l e R s m args below meth c H [] cells slots Q (F0 m pc ls (.ref a :: rest)) := by
  refine h_sz (fun hz => ?_)
  have hHN := h_exact hI hal hex hz
  have hs0 := (hI.2.2.2.2.2.2.1.2 hal).1
  have hNs := hI.2.2.2.2.2.2.2.1 hex
  obtain ⟨k, hk1⟩ := h_at hI (a := a) (by rw [hk]; decide)
  rw [hC_22 hk] at hk1
  have hD1 : va_D (fun q => q ∈ gX st ∨ H.size ≤ q) (hW cy st) := hI.2.2.1.weaken (fun j q hq _ => Or.inl (pl_mem hq))
  have hS1 : va_S (fun q => q ∈ gX st ∨ H.size ≤ q) H H [] := va_S.rf
  refine va_clone hx hb hml hown (hts _ k1) (hts _ k2) (hts _ k3) (hts _ k4) (hts _ k5) (hI.2.2.2.2.2.2.1.2 hal).2.1 hI.1 hI.2.1 hD1 hS1 (fun q hq => Or.inr hq) k 1 hk1 rfl (h_nmI hI) (fun i v hv => ?_) hframes hlocals hcells hslots hdg (fun q H1 r1 r2 r3 r4 => ?_)
  · obtain ⟨hi, hv2⟩ := Array.getElem?_eq_some_iff.mp hv
    have hlt : i < gL st a := by
      have h1 : (vp_cell (cy 1) (gL st a, Sum.inl (gA st a))).slots.size = gL st a := arrV_size _ _ _
      rw [← h1]; exact hi
    have h2 : (vp_cell (cy 1) (gL st a, Sum.inl (gA st a))).slots[i]? = some (.int (gA st a i)) := arrV_read _ _ hlt
    rw [h2] at hv
    cases hv
    rfl
  · refine h_sz (fun hz1 => ?_)
    have hlen : (hW cy st).length = (gX st).length := List.length_map _
    have hnew : (hW cy st ++ [(q, (Sum.inl (cy 1, gL st a, Sum.inl (gA st a)) : va_E))])[(hW cy st).length]? = some (q, Sum.inl (cy 1, gL st a, Sum.inl (gA st a))) := by simp
    have hqlt : q < H1.size := va_at.lt (r2 _ _ hnew)
    have hqA : q ∈ gX st ∨ H.size ≤ q := r3.2 _ _ hnew
    have hqn : q ∉ gX st := fun hm => by
      obtain ⟨j, hj⟩ := va_pl_get (X := []) (f := hC cy st) hm
      have hj' : (hW cy st)[j]? = some (q, hC cy st q) := hj
      have hjl : j < (hW cy st).length := (List.getElem?_eq_some_iff.mp hj').1
      have hj2 : (hW cy st ++ [(q, (Sum.inl (cy 1, gL st a, Sum.inl (gA st a)) : va_E))])[j]? = some (q, hC cy st q) := by rw [List.getElem?_append_left hjl]; exact hj'
      have := r3.1 j (hW cy st).length _ _ hj2 hnew rfl
      omega
    have hq : q = gN st := by
      rcases hqA with h | h
      · exact absurd h hqn
      · omega
    subst hq
    have hw : hW cy st ++ [(gN st, (Sum.inl (cy 1, gL st a, Sum.inl (gA st a)) : va_E))] = hW cy (cpO st a) := by
      refine (va_pl_push hqn).trans ?_
      exact va_pl_congr (fun b => by
        by_cases hb2 : b = gN st
        · subst hb2
          rw [hC_22 (st := cpO st a) (a := gN st) (if_pos rfl)]
          refine (va_up_self _ _ _).trans ?_
          have e1 : gL (cpO st a) (gN st) = gL st a := if_pos rfl
          have e2 : gA (cpO st a) (gN st) = gA st a := if_pos rfl
          rw [e1, e2]
        · refine (if_neg hb2).trans ?_
          exact (hC_ext (st2 := cpO st a) (st := st) (fun f => if_neg hb2) (fun f => if_neg hb2) ((if_neg hb2).trans (if_neg hb2)) (if_neg hb2) (if_neg hb2) (if_neg hb2) (if_neg hb2)).symm)
    rw [hw] at r2 r3
    have hS := hI.2.2.2.1
    refine kk H1 ⟨hI.1, r2, r3.weaken (fun _ _ _ h => h.elim (fun h => h_mono hI (Or.inl h)) (fun h => Or.inr (by omega))), ⟨Nat.le_trans hS.1 r4.1, fun x h1 h2 => ?_, fun _ h => by cases h⟩, ?_, ?_, hI.2.2.2.2.2.2.1, ?_, ?_⟩
    · refine (r4.2.1 x (Nat.lt_of_lt_of_le h1 hS.1) (fun h => ?_)).trans (hS.2.1 x h1 h2)
      rcases h with h | h
      · exact h2 (h_mono hI (Or.inl h))
      · have := hS.1; omega
    · show gN st + 1 ≤ H1.size
      omega
    · intro b hb2
      by_cases hbn : b = gN st
      · subst hbn; exact List.mem_append_right _ (List.mem_singleton.mpr rfl)
      · exact List.mem_append_left _ (hI.2.2.2.2.2.1 b (fun h => hb2 ((if_neg hbn).trans h)))
    · intro h
      show gN st + 1 = gN s0 + (cells + 1)
      omega
    · show gN s0 ≤ gN st + 1
      omega
theorem h_cast {a : Nat} (hx : p.tables.exec = Jvm.exec) (hb : c.code = cc) (hown : s.vm.findClass own = some m.cls) (hts : ∀ w ∈ Ts, w.before args s = true) (k1 : Cond.classLink own index "[I" ∈ Ts) (hI : HI D cy s s0 st H locs cells al ex) (hk : gK st a = 22) (hdg : decode cc pc = .ok (.checkcast index, 3)) (kk : W p l e R s m args below meth c H locs cells slots Q (F0 m (pc + 3) ls (.ref a :: rest))) : W p l e R s m args below meth c H locs cells slots Q (F0 m pc ls (.ref a :: rest)) := by
  obtain ⟨k, hk1⟩ := h_at hI (a := a) (by rw [hk]; decide)
  rw [hC_22 hk] at hk1
  exact va_castA hx hb hown (hts _ k1) hI.2.1 k hk1 (h_nmI hI) hdg kk
theorem hs_ldc {i : Nat} (hx : p.tables.exec = Jvm.exec) (hb : c.code = cc) (hown : s.vm.findClass RX10 = some m.cls) (hI : HI D cy s s0 st H locs cells al ex) (hi : i < 23) (hdg : decode cc pc = .ok (.ldc (sIdx.getD i 0), 2)) (kk : W p l e R s m args below meth c H locs cells slots Q (F0 m (pc + 2) ls (.ref (cy (100 + i)) :: rest))) : W p l e R s m args below meth c H locs cells slots Q (F0 m pc ls rest) := va_ldcS hx hb hown (hI.2.2.2.2.2.2.1.1.2.2.1 i hi) hdg kk
theorem hs_val {i : Nat} (hx : p.tables.exec = Jvm.exec) (hb : c.code = cc) (hts : ∀ w ∈ Ts, w.before args s = true) (hown : s.vm.findClass own = some m.cls) (hlk : Cond.fieldLink own index "java/lang/String" "value" "[B" ∈ Ts) (hI : HI D cy s s0 st H locs cells al ex) (hi : i < 23) (hdg : decode cc pc = .ok (.getfield index, 3)) (kk : W p l e R s m args below meth c H locs cells slots Q (F0 m (pc + 3) ls (.ref (cy (200 + i)) :: rest))) : W p l e R s m args below meth c H locs cells slots Q (F0 m pc ls (.ref (cy (100 + i)) :: rest)) := vk_getf hx hb (hI.2.2.2.2.2.2.1.1.2.1.1 i hi).2.2.1 hI.2.2.2.1 hown (hts _ hlk) (fun _ h => h) hdg kk
theorem hs_cod {i : Nat} (hx : p.tables.exec = Jvm.exec) (hb : c.code = cc) (hts : ∀ w ∈ Ts, w.before args s = true) (hown : s.vm.findClass own = some m.cls) (hlk : Cond.fieldLink own index "java/lang/String" "coder" "B" ∈ Ts) (hI : HI D cy s s0 st H locs cells al ex) (hi : i < 23) (hdg : decode cc pc = .ok (.getfield index, 3)) (kk : W p l e R s m args below meth c H locs cells slots Q (F0 m (pc + 3) ls (.int 0 :: rest))) : W p l e R s m args below meth c H locs cells slots Q (F0 m pc ls (.ref (cy (100 + i)) :: rest)) := vk_getf hx hb (hI.2.2.2.2.2.2.1.1.2.1.1 i hi).2.1 hI.2.2.2.1 hown (hts _ hlk) (fun _ h => h) hdg kk
theorem hs_len {i : Nat} (hx : p.tables.exec = Jvm.exec) (hb : c.code = cc) (hI : HI D cy s s0 st H locs cells al ex) (hi : i < 23) (hdg : decode cc pc = .ok (.arraylength, 1)) (kk : W p l e R s m args below meth c H locs cells slots Q (F0 m (pc + 1) ls (.int (nI (sLen.getD i 0)) :: rest))) : W p l e R s m args below meth c H locs cells slots Q (F0 m pc ls (.ref (cy (200 + i)) :: rest)) := va_tlen hx hb (hI.2.2.2.2.2.2.1.1.2.1.1 i hi).2.2.2 hI.2.2.2.1 rfl hdg kk
theorem hs_bal {i : Nat} {k : Int32} (hx : p.tables.exec = Jvm.exec) (hb : c.code = cc) (hI : HI D cy s s0 st H locs cells al ex) (hi : i < 23) (hin : inb k (sLen.getD i 0) = true) (hdg : decode cc pc = .ok (.baload, 1)) (kk : W p l e R s m args below meth c H locs cells slots Q (F0 m (pc + 1) ls (.int ((sByt.getD i []).getD k.toNatClampNeg 0) :: rest))) : W p l e R s m args below meth c H locs cells slots Q (F0 m pc ls (.int k :: .ref (cy (200 + i)) :: rest)) := va_tb hx hb (hI.2.2.2.2.2.2.1.1.2.1.1 i hi).2.2.2 hI.2.2.2.1 (inb_in hin) rfl hdg kk
theorem hs_cmp (hx : p.tables.exec = Jvm.exec) (hb : c.code = cc) (hts : ∀ w ∈ Ts, w.before args s = true) (hown : s.vm.findClass own = some m.cls) (hlk : Cond.fieldLink own index "java/lang/String" "COMPACT_STRINGS" "Z" ∈ Ts) (hI : HI D cy s s0 st H locs cells al ex) (hdg : decode cc pc = .ok (.getstatic index, 3)) (kk : W p l e R s m args below meth c H locs cells slots Q (F0 m (pc + 3) ls (.int 1 :: rest))) : W p l e R s m args below meth c H locs cells slots Q (F0 m pc ls rest) := va_gets hx hb hI.2.2.2.2.2.2.1.1.2.2.2.1 hI.2.2.2.1 hown (hts _ hlk) (fun _ h => h) hdg kk
theorem hs_fmt (hx : p.tables.exec = Jvm.exec) (hb : c.code = cc) (hts : ∀ w ∈ Ts, w.before args s = true) (hown : s.vm.findClass own = some m.cls) (hlk : Cond.fieldLink own index "jdk/internal/util/Preconditions" "SIOOBE_FORMATTER" "Ljava/util/function/BiFunction;" ∈ Ts) (hI : HI D cy s s0 st H locs cells al ex) (hdg : decode cc pc = .ok (.getstatic index, 3)) (kk : ∀ fo : Option Nat, W p l e R s m args below meth c H locs cells slots Q (F0 m (pc + 3) ls (va_rf fo :: rest))) : W p l e R s m args below meth c H locs cells slots Q (F0 m pc ls rest) := by
  rcases hI.2.2.2.2.2.2.1.1.2.2.2.2 with h | ⟨t, h⟩
  · exact va_gets hx hb h hI.2.2.2.1 hown (hts _ hlk) (fun _ h => h) hdg (kk none)
  · exact va_gets hx hb h hI.2.2.2.1 hown (hts _ hlk) (fun _ h => h) hdg (kk (some t))
end HROWS3
