section HROWS2
variable {p : Program} {l : Launch} {e : Env} {R : Room} {s : State} {m : MethodId} {args : Array Value} {below : List Frame} {meth : Method} {c : Code} {H : Heap} {locs : List Loc} {cells slots : Nat} {Q : State → Prop}
variable {cc : ByteArray} {pc : Nat} {ls : Array Slot} {rest : List Value} {D : va_G} {cy : Nat → ClassId} {s0 st : HSt} {Ts : List Cond} {al ex : Prop} {own : String} {index : Nat}
theorem gK_sI {st : HSt} {f a b : Nat} {v : Int32} : gK (sI st f a v) b = gK st b := rfl
theorem gK_sR {st : HSt} {f a b : Nat} {v : Option Nat} : gK (sR st f a v) b = gK st b := rfl
theorem gK_sA {st : HSt} {a i b : Nat} {v : Int32} : gK (sA st a i v) b = gK st b := rfl
theorem gK_sAf {st : HSt} {a b : Nat} {g : Nat → Int32} : gK (sAf st a g) b = gK st b := rfl
theorem gK_sJ {st : HSt} {a i b : Nat} {v : Int64} : gK (sJ st a i v) b = gK st b := rfl
theorem gK_sQ {st : HSt} {a i b : Nat} {v : Option Nat} : gK (sQ st a i v) b = gK st b := rfl
theorem cat_rf (x : Option Nat) : (va_rf x).category = 1 := by cases x <;> rfl
theorem cat_i (x : Int32) : (Value.int x).category = 1 := rfl
theorem cat_l (x : Int64) : (Value.long x).category = 2 := rfl
theorem cat_r (x : Nat) : (Value.ref x).category = 1 := rfl
theorem hq_aload_n {k : Fin 4} {i : Nat} {x : Option Nat} (hx : p.tables.exec = Jvm.exec) (hb : c.code = cc) (hdg : decode cc pc = .ok (.aload_n k, 1)) (hi : (k : Nat) = i) (hl : ls[i]? = some (.val (va_rf x))) (kk : W p l e R s m args below meth c H locs cells slots Q (F0 m (pc + 1) ls (va_rf x :: rest))) : W p l e R s m args below meth c H locs cells slots Q (F0 m pc ls rest) := by
  cases x with
  | none => exact lv_aload_nN hx hb hdg hi hl kk
  | some y => exact lv_aload_n hx hb hdg hi hl kk
theorem hq_aload {i : Nat} {x : Option Nat} (hx : p.tables.exec = Jvm.exec) (hb : c.code = cc) (hdg : decode cc pc = .ok (.aload i, 2)) (hl : ls[i]? = some (.val (va_rf x))) (kk : W p l e R s m args below meth c H locs cells slots Q (F0 m (pc + 2) ls (va_rf x :: rest))) : W p l e R s m args below meth c H locs cells slots Q (F0 m pc ls rest) := by
  cases x with
  | none => exact lv_aloadN hx hb hdg hl kk
  | some y => exact lv_aload hx hb hdg hl kk
theorem hq_astore_n {k : Fin 4} {i nL : Nat} {x : Option Nat} {lv lv' : List (Nat × Value)} (hx : p.tables.exec = Jvm.exec) (hb : c.code = cc) (hdg : decode cc pc = .ok (.astore_n k, 1)) (hi : (k : Nat) = i) (h : lv_has ls nL lv) (hn : i < nL) (hl : (i, va_rf x) :: lv.filter (fun q => !(q.1 == i) && !(q.1 + 1 == i && q.2.category == 2)) = lv') (kk : ∀ ls' : Array Slot, lv_has ls' nL lv' → W p l e R s m args below meth c H locs cells slots Q (F0 m (pc + 1) ls' rest)) : W p l e R s m args below meth c H locs cells slots Q (F0 m pc ls (va_rf x :: rest)) := by
  cases x with
  | none => exact lv_astore_nN hx hb hdg hi h hn hl kk
  | some y => exact lv_astore_n hx hb hdg hi h hn hl kk
theorem hq_astore {i nL : Nat} {x : Option Nat} {lv lv' : List (Nat × Value)} (hx : p.tables.exec = Jvm.exec) (hb : c.code = cc) (hdg : decode cc pc = .ok (.astore i, 2)) (h : lv_has ls nL lv) (hn : i < nL) (hl : (i, va_rf x) :: lv.filter (fun q => !(q.1 == i) && !(q.1 + 1 == i && q.2.category == 2)) = lv') (kk : ∀ ls' : Array Slot, lv_has ls' nL lv' → W p l e R s m args below meth c H locs cells slots Q (F0 m (pc + 2) ls' rest)) : W p l e R s m args below meth c H locs cells slots Q (F0 m pc ls (va_rf x :: rest)) := by
  cases x with
  | none => exact lv_astoreN hx hb hdg h hn hl kk
  | some y => exact lv_astore hx hb hdg h hn hl kk
theorem pl_mem {L : List Nat} {f : Nat → va_E} {k : Nat} {q : Nat × va_E} (h : (va_pl L f)[k]? = some q) : q.1 ∈ L := by
  have h1 := List.mem_of_getElem? h
  unfold va_pl at h1
  obtain ⟨a, ha, rfl⟩ := List.mem_map.mp h1
  exact ha
theorem h_mono (hI : HI D cy s s0 st H locs cells al ex) {q : Nat} (h : hF st q) : hF s0 q := by
  rcases h with h | h
  · obtain ⟨k, hk⟩ := va_pl_get (X := []) (f := hC cy st) h
    exact hI.2.2.1.2 k _ hk
  · exact Or.inr (Nat.le_trans hI.2.2.2.2.2.2.2.2 h)
theorem hl_B {a : Nat} {i : Int32} (hx : p.tables.exec = Jvm.exec) (hb : c.code = cc) (hI : HI D cy s s0 st H locs cells al ex) (hk : gK st a = 21) (hin : inb i (gL st a) = true) (hdg : decode cc pc = .ok (.baload, 1)) (kk : W p l e R s m args below meth c H locs cells slots Q (F0 m (pc + 1) ls (.int (gA st a i.toNatClampNeg) :: rest))) : W p l e R s m args below meth c H locs cells slots Q (F0 m pc ls (.int i :: .ref a :: rest)) := by
  obtain ⟨k, hk2⟩ := h_at hI (by rw [hk]; decide)
  rw [hC_21 hk] at hk2
  exact va_bald hx hb hI.1 hI.2.1 k 0 hk2 rfl (inb_in hin) hdg kk
theorem hs_B {a : Nat} {i : Int32} (hx : p.tables.exec = Jvm.exec) (hb : c.code = cc) (hI : HI D cy s s0 st H locs cells al ex) (hk : gK st a = 21) (hin : inb i (gL st a) = true) {x : Int32} (hdg : decode cc pc = .ok (.bastore, 1)) (kk : ∀ (H1 : Heap) (locs1 : List Loc), HI D cy s s0 (sA st a i.toNatClampNeg (vp_nar .byte x)) H1 locs1 cells al ex → W p l e R s m args below meth c H1 locs1 cells slots Q (F0 m (pc + 1) ls rest)) : W p l e R s m args below meth c H locs cells slots Q (F0 m pc ls (.int x :: .int i :: .ref a :: rest)) := by
  have hk0 : gK st a ≠ 0 := by rw [hk]; decide
  obtain ⟨k, hk1⟩ := h_at hI hk0
  have hk2 := hk1
  rw [hC_21 hk] at hk2
  refine va_bast hx hb hI.1 hI.2.1 hI.2.2.1 (h_S hI) k 0 hk2 rfl (inb_in hin) hdg (fun H1 locs1 q1 q2 q3 => kk H1 locs1 (h_upd hI hk0 hk1 rfl rfl (fun _ => rfl) ?_ ?_ q1 q2 q3))
  · rw [hC_21 (st := (sA st a i.toNatClampNeg (vp_nar .byte x))) (a := a) hk]
    simp [sA, sAf, sJ, va_up, gA, gJ, gL]
  · intro b hb2
    exact hC_ext (fun _ => rfl) (fun _ => rfl) (if_neg hb2) rfl rfl rfl rfl
theorem hl_I {a : Nat} {i : Int32} (hx : p.tables.exec = Jvm.exec) (hb : c.code = cc) (hI : HI D cy s s0 st H locs cells al ex) (hk : gK st a = 22) (hin : inb i (gL st a) = true) (hdg : decode cc pc = .ok (.iaload, 1)) (kk : W p l e R s m args below meth c H locs cells slots Q (F0 m (pc + 1) ls (.int (gA st a i.toNatClampNeg) :: rest))) : W p l e R s m args below meth c H locs cells slots Q (F0 m pc ls (.int i :: .ref a :: rest)) := by
  obtain ⟨k, hk2⟩ := h_at hI (by rw [hk]; decide)
  rw [hC_22 hk] at hk2
  exact va_iald hx hb hI.1 hI.2.1 k 1 hk2 rfl (inb_in hin) hdg kk
theorem hs_I {a : Nat} {i : Int32} (hx : p.tables.exec = Jvm.exec) (hb : c.code = cc) (hI : HI D cy s s0 st H locs cells al ex) (hk : gK st a = 22) (hin : inb i (gL st a) = true) {x : Int32} (hdg : decode cc pc = .ok (.iastore, 1)) (kk : ∀ (H1 : Heap) (locs1 : List Loc), HI D cy s s0 (sA st a i.toNatClampNeg x) H1 locs1 cells al ex → W p l e R s m args below meth c H1 locs1 cells slots Q (F0 m (pc + 1) ls rest)) : W p l e R s m args below meth c H locs cells slots Q (F0 m pc ls (.int x :: .int i :: .ref a :: rest)) := by
  have hk0 : gK st a ≠ 0 := by rw [hk]; decide
  obtain ⟨k, hk1⟩ := h_at hI hk0
  have hk2 := hk1
  rw [hC_22 hk] at hk2
  refine va_iast hx hb hI.1 hI.2.1 hI.2.2.1 (h_S hI) k 1 hk2 rfl (inb_in hin) hdg (fun H1 locs1 q1 q2 q3 => kk H1 locs1 (h_upd hI hk0 hk1 rfl rfl (fun _ => rfl) ?_ ?_ q1 q2 q3))
  · rw [hC_22 (st := (sA st a i.toNatClampNeg x)) (a := a) hk]
    simp [sA, sAf, sJ, va_up, gA, gJ, gL]
  · intro b hb2
    exact hC_ext (fun _ => rfl) (fun _ => rfl) (if_neg hb2) rfl rfl rfl rfl
theorem hl_J {a : Nat} {i : Int32} (hx : p.tables.exec = Jvm.exec) (hb : c.code = cc) (hI : HI D cy s s0 st H locs cells al ex) (hk : gK st a = 23) (hin : inb i (gL st a) = true) (hdg : decode cc pc = .ok (.laload, 1)) (kk : W p l e R s m args below meth c H locs cells slots Q (F0 m (pc + 1) ls (.long (gJ st a i.toNatClampNeg) :: rest))) : W p l e R s m args below meth c H locs cells slots Q (F0 m pc ls (.int i :: .ref a :: rest)) := by
  obtain ⟨k, hk2⟩ := h_at hI (by rw [hk]; decide)
  rw [hC_23 hk] at hk2
  exact va_lald hx hb hI.1 hI.2.1 k 2 hk2 rfl (inb_in hin) hdg kk
theorem hs_J {a : Nat} {i : Int32} (hx : p.tables.exec = Jvm.exec) (hb : c.code = cc) (hI : HI D cy s s0 st H locs cells al ex) (hk : gK st a = 23) (hin : inb i (gL st a) = true) {x : Int64} (hdg : decode cc pc = .ok (.lastore, 1)) (kk : ∀ (H1 : Heap) (locs1 : List Loc), HI D cy s s0 (sJ st a i.toNatClampNeg x) H1 locs1 cells al ex → W p l e R s m args below meth c H1 locs1 cells slots Q (F0 m (pc + 1) ls rest)) : W p l e R s m args below meth c H locs cells slots Q (F0 m pc ls (.long x :: .int i :: .ref a :: rest)) := by
  have hk0 : gK st a ≠ 0 := by rw [hk]; decide
  obtain ⟨k, hk1⟩ := h_at hI hk0
  have hk2 := hk1
  rw [hC_23 hk] at hk2
  refine va_last hx hb hI.1 hI.2.1 hI.2.2.1 (h_S hI) k 2 hk2 rfl (inb_in hin) hdg (fun H1 locs1 q1 q2 q3 => kk H1 locs1 (h_upd hI hk0 hk1 rfl rfl (fun _ => rfl) ?_ ?_ q1 q2 q3))
  · rw [hC_23 (st := (sJ st a i.toNatClampNeg x)) (a := a) hk]
    simp [sA, sAf, sJ, va_up, gA, gJ, gL]
  · intro b hb2
    exact hC_ext (fun _ => rfl) (fun _ => rfl) rfl (if_neg hb2) rfl rfl rfl
theorem hl_Rule {a : Nat} {i : Int32} (hx : p.tables.exec = Jvm.exec) (hb : c.code = cc) (hI : HI D cy s s0 st H locs cells al ex) (hk : gK st a = 25) (hin : inb i (gL st a) = true) (hdg : decode cc pc = .ok (.aaload, 1)) (kk : W p l e R s m args below meth c H locs cells slots Q (F0 m (pc + 1) ls (va_rf (gQ st a i.toNatClampNeg) :: rest))) : W p l e R s m args below meth c H locs cells slots Q (F0 m pc ls (.int i :: .ref a :: rest)) := by
  obtain ⟨k, hk2⟩ := h_at hI (by rw [hk]; decide)
  rw [hC_25 hk] at hk2
  exact va_aldq hx hb hI.1 hI.2.1 k 4 hk2 rfl (inb_in hin) hdg kk
theorem hs_Rule {a : Nat} {i : Int32} (hx : p.tables.exec = Jvm.exec) (hb : c.code = cc) (hI : HI D cy s s0 st H locs cells al ex) (hk : gK st a = 25) (hin : inb i (gL st a) = true) {v : Nat} (hkv : gK st v = 7) (hdg : decode cc pc = .ok (.aastore, 1)) (kk : ∀ (H1 : Heap) (locs1 : List Loc), HI D cy s s0 (sQ st a i.toNatClampNeg (some v)) H1 locs1 cells al ex → W p l e R s m args below meth c H1 locs1 cells slots Q (F0 m (pc + 1) ls rest)) : W p l e R s m args below meth c H locs cells slots Q (F0 m pc ls (.ref v :: .int i :: .ref a :: rest)) := by
  have hk0 : gK st a ≠ 0 := by rw [hk]; decide
  obtain ⟨k, hk1⟩ := h_at hI hk0
  obtain ⟨kv, hkv2⟩ := h_at hI (a := v) (by rw [hkv]; decide)
  have hk2 := hk1
  rw [hC_25 hk] at hk2
  rw [hC_7 hkv] at hkv2
  refine va_astq hx hb hI.1 hI.2.1 hI.2.2.1 (h_S hI) k 4 kv 6 (r := (RX6, TX6, 5)) hk2 rfl hkv2 rfl (inb_in hin) hdg (fun H1 locs1 q1 q2 q3 => kk H1 locs1 (h_upd hI hk0 hk1 rfl rfl (fun _ => rfl) ?_ ?_ q1 q2 q3))
  · rw [hC_25 (st := (sQ st a i.toNatClampNeg (some v))) (a := a) hk]
    simp [sQ, va_up, gQ, gL]
  · intro b hb2
    exact hC_ext (fun _ => rfl) (fun _ => rfl) rfl rfl (if_neg hb2) rfl rfl
theorem hl_Site {a : Nat} {i : Int32} (hx : p.tables.exec = Jvm.exec) (hb : c.code = cc) (hI : HI D cy s s0 st H locs cells al ex) (hk : gK st a = 26) (hin : inb i (gL st a) = true) (hdg : decode cc pc = .ok (.aaload, 1)) (kk : W p l e R s m args below meth c H locs cells slots Q (F0 m (pc + 1) ls (va_rf (gQ st a i.toNatClampNeg) :: rest))) : W p l e R s m args below meth c H locs cells slots Q (F0 m pc ls (.int i :: .ref a :: rest)) := by
  obtain ⟨k, hk2⟩ := h_at hI (by rw [hk]; decide)
  rw [hC_26 hk] at hk2
  exact va_aldq hx hb hI.1 hI.2.1 k 5 hk2 rfl (inb_in hin) hdg kk
theorem hs_Site {a : Nat} {i : Int32} (hx : p.tables.exec = Jvm.exec) (hb : c.code = cc) (hI : HI D cy s s0 st H locs cells al ex) (hk : gK st a = 26) (hin : inb i (gL st a) = true) {v : Nat} (hkv : gK st v = 9) (hdg : decode cc pc = .ok (.aastore, 1)) (kk : ∀ (H1 : Heap) (locs1 : List Loc), HI D cy s s0 (sQ st a i.toNatClampNeg (some v)) H1 locs1 cells al ex → W p l e R s m args below meth c H1 locs1 cells slots Q (F0 m (pc + 1) ls rest)) : W p l e R s m args below meth c H locs cells slots Q (F0 m pc ls (.ref v :: .int i :: .ref a :: rest)) := by
  have hk0 : gK st a ≠ 0 := by rw [hk]; decide
  obtain ⟨k, hk1⟩ := h_at hI hk0
  obtain ⟨kv, hkv2⟩ := h_at hI (a := v) (by rw [hkv]; decide)
  have hk2 := hk1
  rw [hC_26 hk] at hk2
  rw [hC_9 hkv] at hkv2
  refine va_astq hx hb hI.1 hI.2.1 hI.2.2.1 (h_S hI) k 5 kv 8 (r := (RX8, TX8, 5)) hk2 rfl hkv2 rfl (inb_in hin) hdg (fun H1 locs1 q1 q2 q3 => kk H1 locs1 (h_upd hI hk0 hk1 rfl rfl (fun _ => rfl) ?_ ?_ q1 q2 q3))
  · rw [hC_26 (st := (sQ st a i.toNatClampNeg (some v))) (a := a) hk]
    simp [sQ, va_up, gQ, gL]
  · intro b hb2
    exact hC_ext (fun _ => rfl) (fun _ => rfl) rfl rfl (if_neg hb2) rfl rfl
theorem hl_Span {a : Nat} {i : Int32} (hx : p.tables.exec = Jvm.exec) (hb : c.code = cc) (hI : HI D cy s s0 st H locs cells al ex) (hk : gK st a = 27) (hin : inb i (gL st a) = true) (hdg : decode cc pc = .ok (.aaload, 1)) (kk : W p l e R s m args below meth c H locs cells slots Q (F0 m (pc + 1) ls (va_rf (gQ st a i.toNatClampNeg) :: rest))) : W p l e R s m args below meth c H locs cells slots Q (F0 m pc ls (.int i :: .ref a :: rest)) := by
  obtain ⟨k, hk2⟩ := h_at hI (by rw [hk]; decide)
  rw [hC_27 hk] at hk2
  exact va_aldq hx hb hI.1 hI.2.1 k 6 hk2 rfl (inb_in hin) hdg kk
theorem hs_Span {a : Nat} {i : Int32} (hx : p.tables.exec = Jvm.exec) (hb : c.code = cc) (hI : HI D cy s s0 st H locs cells al ex) (hk : gK st a = 27) (hin : inb i (gL st a) = true) {v : Nat} (hkv : gK st v = 10) (hdg : decode cc pc = .ok (.aastore, 1)) (kk : ∀ (H1 : Heap) (locs1 : List Loc), HI D cy s s0 (sQ st a i.toNatClampNeg (some v)) H1 locs1 cells al ex → W p l e R s m args below meth c H1 locs1 cells slots Q (F0 m (pc + 1) ls rest)) : W p l e R s m args below meth c H locs cells slots Q (F0 m pc ls (.ref v :: .int i :: .ref a :: rest)) := by
  have hk0 : gK st a ≠ 0 := by rw [hk]; decide
  obtain ⟨k, hk1⟩ := h_at hI hk0
  obtain ⟨kv, hkv2⟩ := h_at hI (a := v) (by rw [hkv]; decide)
  have hk2 := hk1
  rw [hC_27 hk] at hk2
  rw [hC_10 hkv] at hkv2
  refine va_astq hx hb hI.1 hI.2.1 hI.2.2.1 (h_S hI) k 6 kv 9 (r := (RX9, TX9, 5)) hk2 rfl hkv2 rfl (inb_in hin) hdg (fun H1 locs1 q1 q2 q3 => kk H1 locs1 (h_upd hI hk0 hk1 rfl rfl (fun _ => rfl) ?_ ?_ q1 q2 q3))
  · rw [hC_27 (st := (sQ st a i.toNatClampNeg (some v))) (a := a) hk]
    simp [sQ, va_up, gQ, gL]
  · intro b hb2
    exact hC_ext (fun _ => rfl) (fun _ => rfl) rfl rfl (if_neg hb2) rfl rfl
theorem ha_21 {a : Nat} (hx : p.tables.exec = Jvm.exec) (hb : c.code = cc) (hI : HI D cy s s0 st H locs cells al ex) (hk : gK st a = 21) (hdg : decode cc pc = .ok (.arraylength, 1)) (kk : W p l e R s m args below meth c H locs cells slots Q (F0 m (pc + 1) ls (.int (nI (gL st a)) :: rest))) : W p l e R s m args below meth c H locs cells slots Q (F0 m pc ls (.ref a :: rest)) := by
  obtain ⟨k, hk2⟩ := h_at hI (by rw [hk]; decide)
  rw [hC_21 hk] at hk2
  exact va_alen hx hb hI.1 hI.2.1 k 0 hk2 rfl rfl hdg kk
theorem ha_22 {a : Nat} (hx : p.tables.exec = Jvm.exec) (hb : c.code = cc) (hI : HI D cy s s0 st H locs cells al ex) (hk : gK st a = 22) (hdg : decode cc pc = .ok (.arraylength, 1)) (kk : W p l e R s m args below meth c H locs cells slots Q (F0 m (pc + 1) ls (.int (nI (gL st a)) :: rest))) : W p l e R s m args below meth c H locs cells slots Q (F0 m pc ls (.ref a :: rest)) := by
  obtain ⟨k, hk2⟩ := h_at hI (by rw [hk]; decide)
  rw [hC_22 hk] at hk2
  exact va_alen hx hb hI.1 hI.2.1 k 1 hk2 rfl rfl hdg kk
theorem ha_23 {a : Nat} (hx : p.tables.exec = Jvm.exec) (hb : c.code = cc) (hI : HI D cy s s0 st H locs cells al ex) (hk : gK st a = 23) (hdg : decode cc pc = .ok (.arraylength, 1)) (kk : W p l e R s m args below meth c H locs cells slots Q (F0 m (pc + 1) ls (.int (nI (gL st a)) :: rest))) : W p l e R s m args below meth c H locs cells slots Q (F0 m pc ls (.ref a :: rest)) := by
  obtain ⟨k, hk2⟩ := h_at hI (by rw [hk]; decide)
  rw [hC_23 hk] at hk2
  exact va_alen hx hb hI.1 hI.2.1 k 2 hk2 rfl rfl hdg kk
theorem ha_25 {a : Nat} (hx : p.tables.exec = Jvm.exec) (hb : c.code = cc) (hI : HI D cy s s0 st H locs cells al ex) (hk : gK st a = 25) (hdg : decode cc pc = .ok (.arraylength, 1)) (kk : W p l e R s m args below meth c H locs cells slots Q (F0 m (pc + 1) ls (.int (nI (gL st a)) :: rest))) : W p l e R s m args below meth c H locs cells slots Q (F0 m pc ls (.ref a :: rest)) := by
  obtain ⟨k, hk2⟩ := h_at hI (by rw [hk]; decide)
  rw [hC_25 hk] at hk2
  exact va_alen hx hb hI.1 hI.2.1 k 4 hk2 rfl rfl hdg kk
theorem ha_26 {a : Nat} (hx : p.tables.exec = Jvm.exec) (hb : c.code = cc) (hI : HI D cy s s0 st H locs cells al ex) (hk : gK st a = 26) (hdg : decode cc pc = .ok (.arraylength, 1)) (kk : W p l e R s m args below meth c H locs cells slots Q (F0 m (pc + 1) ls (.int (nI (gL st a)) :: rest))) : W p l e R s m args below meth c H locs cells slots Q (F0 m pc ls (.ref a :: rest)) := by
  obtain ⟨k, hk2⟩ := h_at hI (by rw [hk]; decide)
  rw [hC_26 hk] at hk2
  exact va_alen hx hb hI.1 hI.2.1 k 5 hk2 rfl rfl hdg kk
theorem ha_27 {a : Nat} (hx : p.tables.exec = Jvm.exec) (hb : c.code = cc) (hI : HI D cy s s0 st H locs cells al ex) (hk : gK st a = 27) (hdg : decode cc pc = .ok (.arraylength, 1)) (kk : W p l e R s m args below meth c H locs cells slots Q (F0 m (pc + 1) ls (.int (nI (gL st a)) :: rest))) : W p l e R s m args below meth c H locs cells slots Q (F0 m pc ls (.ref a :: rest)) := by
  obtain ⟨k, hk2⟩ := h_at hI (by rw [hk]; decide)
  rw [hC_27 hk] at hk2
  exact va_alen hx hb hI.1 hI.2.1 k 6 hk2 rfl rfl hdg kk
theorem h_exact (hI : HI D cy s s0 st H locs cells al ex) (hal : al) (hex : ex) (hz : H.size ≤ s.heap.size + cells) : H.size = gN st := by
  have h1 := (hI.2.2.2.2.2.2.1.2 hal).1
  have h2 := hI.2.2.2.2.2.2.2.1 hex
  have h3 := hI.2.2.2.2.1
  omega
theorem nO_ne {k n b : Nat} (hb : b ≠ gN st) : hC cy (nO st k n) b = hC cy st b := hC_ext (fun f => if_neg hb) (fun f => if_neg hb) (if_neg hb) (if_neg hb) (if_neg hb) (if_neg hb) (if_neg hb)
theorem nO_K {k n : Nat} : gK (nO st k n) (gN st) = k := if_pos rfl
theorem h_grow {H1 : Heap} {k n : Nat} (hI : HI D cy s s0 st H locs cells al ex) (hHN : H.size = gN st) (hk : k ≠ 0) (z1 : H1.size = H.size + 1) (o1 : ∀ q : Nat, q < H.size → H1[q]? = H[q]?) (hat : va_at D vwCl (gN st, hC cy (nO st k n) (gN st)) H1) : HI D cy s s0 (nO st k n) H1 locs (cells + 1) al ex := by
  have hfr : gN st ∉ gX st := va_pl_fresh (X := []) hI.2.1 (Nat.le_of_eq hHN)
  have hw : hW cy st ++ [(gN st, hC cy (nO st k n) (gN st))] = hW cy (nO st k n) := by
    refine (va_pl_push hfr).trans ?_
    exact va_pl_congr (fun b => by
      by_cases hb : b = gN st
      · subst hb; exact va_up_self _ _ _
      · exact (if_neg hb).trans (nO_ne hb).symm)
  have hA : hF s0 (gN st) := Or.inr hI.2.2.2.2.2.2.2.2
  have hP : va_P D vwCl (hW cy (nO st k n)) H1 := by
    rw [← hw]
    refine (hI.2.1.kept (fun j x hx => o1 x.1 (va_at.lt (hI.2.1 j x hx)))).app (fun j x hx => ?_)
    have hz : j < 1 := (List.getElem?_eq_some_iff.mp hx).1
    rw [show j = 0 by omega] at hx
    cases hx
    exact hat
  have hD : va_D (hF s0) (hW cy (nO st k n)) := by
    rw [← hw]
    exact hI.2.2.1.push hI.2.1 hHN.symm hA
  have hS := hI.2.2.2.1
  refine ⟨hI.1, hP, hD, ⟨Nat.le_trans hS.1 (by omega), fun q h1 h2 => (o1 q (Nat.lt_of_lt_of_le h1 hS.1)).trans (hS.2.1 q h1 h2), hS.2.2⟩, ?_, ?_, hI.2.2.2.2.2.2.1, ?_, ?_⟩
  · show gN st + 1 ≤ H1.size
    omega
  · intro b hb
    by_cases hbn : b = gN st
    · subst hbn; exact List.mem_append_right _ (List.mem_singleton.mpr rfl)
    · exact List.mem_append_left _ (hI.2.2.2.2.2.1 b (fun h => hb ((if_neg hbn).trans h)))
  · intro h
    have h1 := hI.2.2.2.2.2.2.2.1 h
    show gN st + 1 = gN s0 + (cells + 1)
    omega
  · show gN s0 ≤ gN st + 1
    have h1 := hI.2.2.2.2.2.2.2.2
    omega
theorem hn_0 (hx : p.tables.exec = Jvm.exec) (hb : c.code = cc) (hts : ∀ w ∈ Ts, w.before args s = true) (hin : ∀ w ∈ u_ws RX0 TX0 11, w ∈ Ts) (hown : s.vm.findClass own = some m.cls) (hcl : Cond.classLink own index RX0 ∈ Ts) (hinst : Cond.instantiable RX0 11 ∈ Ts) (hini : Cond.initialized RX0 ∈ Ts) (hI : HI D cy s s0 st H locs cells al ex) (hal : al) (hex : ex) (hcells : cells + 1 ≤ R.cells) (hslots : slots + 11 ≤ R.slots) (hdg : decode cc pc = .ok (.new index, 3)) (kk : ∀ (H1 : Heap), HI D cy s s0 (nO st 1 0) H1 locs (cells + 1) al ex → W p l e R s m args below meth c H1 locs (cells + 1) (slots + 11) Q (F0 m (pc + 3) ls (.ref (gN st) :: rest))) : W p l e R s m args below meth c H locs cells slots Q (F0 m pc ls rest) := by
  refine h_sz (fun hz => ?_)
  have hHN := h_exact hI hal hex hz
  have hKn := hI.1.1 0 _ rfl
  refine W.newcK hx hb hown (hts _ hcl) (hts _ hinst) (hts _ hini) rfl hdg hcells hslots hKn.2.1 hHN (fun H1 kC hkC e1 z1 o1 => kk H1 (h_grow hI hHN (by decide) (by rw [z1, hHN]) (fun q hq => o1 q (by rw [← hHN]; exact hq)) ?_))
  rw [hC_1 (st := nO st 1 0) nO_K]
  refine ⟨_, rfl, (u_born tyX0 hts hin hKn hkC e1 tyX0_ok).to ?_⟩
  intro j hj
  have hfl : fl0 (nO st 1 0) (gN st) = [.null, .null, .null, .int 0, .int 0, .int 0, .null, .null, .int 0, .int 0, .null] := by simp [fl0, nO, va_up, gI, gR, va_rf]
  show _ = vp_V (fl0 (nO st 1 0) (gN st)) j
  rw [hfl]
  have hj2 : j < 11 := hj
  rcases (show j = 0 ∨ j = 1 ∨ j = 2 ∨ j = 3 ∨ j = 4 ∨ j = 5 ∨ j = 6 ∨ j = 7 ∨ j = 8 ∨ j = 9 ∨ j = 10 by omega) with rfl | rfl | rfl | rfl | rfl | rfl | rfl | rfl | rfl | rfl | rfl <;> rfl
theorem hn_1 (hx : p.tables.exec = Jvm.exec) (hb : c.code = cc) (hts : ∀ w ∈ Ts, w.before args s = true) (hin : ∀ w ∈ u_ws RX1 TX1 12, w ∈ Ts) (hown : s.vm.findClass own = some m.cls) (hcl : Cond.classLink own index RX1 ∈ Ts) (hinst : Cond.instantiable RX1 12 ∈ Ts) (hini : Cond.initialized RX1 ∈ Ts) (hI : HI D cy s s0 st H locs cells al ex) (hal : al) (hex : ex) (hcells : cells + 1 ≤ R.cells) (hslots : slots + 12 ≤ R.slots) (hdg : decode cc pc = .ok (.new index, 3)) (kk : ∀ (H1 : Heap), HI D cy s s0 (nO st 2 0) H1 locs (cells + 1) al ex → W p l e R s m args below meth c H1 locs (cells + 1) (slots + 12) Q (F0 m (pc + 3) ls (.ref (gN st) :: rest))) : W p l e R s m args below meth c H locs cells slots Q (F0 m pc ls rest) := by
  refine h_sz (fun hz => ?_)
  have hHN := h_exact hI hal hex hz
  have hKn := hI.1.1 1 _ rfl
  refine W.newcK hx hb hown (hts _ hcl) (hts _ hinst) (hts _ hini) rfl hdg hcells hslots hKn.2.1 hHN (fun H1 kC hkC e1 z1 o1 => kk H1 (h_grow hI hHN (by decide) (by rw [z1, hHN]) (fun q hq => o1 q (by rw [← hHN]; exact hq)) ?_))
  rw [hC_2 (st := nO st 2 0) nO_K]
  refine ⟨_, rfl, (u_born tyX1 hts hin hKn hkC e1 tyX1_ok).to ?_⟩
  intro j hj
  have hfl : fl1 (nO st 2 0) (gN st) = [.int 0, .int 0, .null, .null, .null, .null, .null, .null, .int 0, .int 0, .int 0, .int 0] := by simp [fl1, nO, va_up, gI, gR, va_rf]
  show _ = vp_V (fl1 (nO st 2 0) (gN st)) j
  rw [hfl]
  have hj2 : j < 12 := hj
  rcases (show j = 0 ∨ j = 1 ∨ j = 2 ∨ j = 3 ∨ j = 4 ∨ j = 5 ∨ j = 6 ∨ j = 7 ∨ j = 8 ∨ j = 9 ∨ j = 10 ∨ j = 11 by omega) with rfl | rfl | rfl | rfl | rfl | rfl | rfl | rfl | rfl | rfl | rfl | rfl <;> rfl
theorem hn_2 (hx : p.tables.exec = Jvm.exec) (hb : c.code = cc) (hts : ∀ w ∈ Ts, w.before args s = true) (hin : ∀ w ∈ u_ws RX2 TX2 11, w ∈ Ts) (hown : s.vm.findClass own = some m.cls) (hcl : Cond.classLink own index RX2 ∈ Ts) (hinst : Cond.instantiable RX2 11 ∈ Ts) (hini : Cond.initialized RX2 ∈ Ts) (hI : HI D cy s s0 st H locs cells al ex) (hal : al) (hex : ex) (hcells : cells + 1 ≤ R.cells) (hslots : slots + 11 ≤ R.slots) (hdg : decode cc pc = .ok (.new index, 3)) (kk : ∀ (H1 : Heap), HI D cy s s0 (nO st 3 0) H1 locs (cells + 1) al ex → W p l e R s m args below meth c H1 locs (cells + 1) (slots + 11) Q (F0 m (pc + 3) ls (.ref (gN st) :: rest))) : W p l e R s m args below meth c H locs cells slots Q (F0 m pc ls rest) := by
  refine h_sz (fun hz => ?_)
  have hHN := h_exact hI hal hex hz
  have hKn := hI.1.1 2 _ rfl
  refine W.newcK hx hb hown (hts _ hcl) (hts _ hinst) (hts _ hini) rfl hdg hcells hslots hKn.2.1 hHN (fun H1 kC hkC e1 z1 o1 => kk H1 (h_grow hI hHN (by decide) (by rw [z1, hHN]) (fun q hq => o1 q (by rw [← hHN]; exact hq)) ?_))
  rw [hC_3 (st := nO st 3 0) nO_K]
  refine ⟨_, rfl, (u_born tyX2 hts hin hKn hkC e1 tyX2_ok).to ?_⟩
  intro j hj
  have hfl : fl2 (nO st 3 0) (gN st) = [.int 0, .null, .null, .null, .null, .null, .null, .null, .null, .int 0, .int 0] := by simp [fl2, nO, va_up, gI, gR, va_rf]
  show _ = vp_V (fl2 (nO st 3 0) (gN st)) j
  rw [hfl]
  have hj2 : j < 11 := hj
  rcases (show j = 0 ∨ j = 1 ∨ j = 2 ∨ j = 3 ∨ j = 4 ∨ j = 5 ∨ j = 6 ∨ j = 7 ∨ j = 8 ∨ j = 9 ∨ j = 10 by omega) with rfl | rfl | rfl | rfl | rfl | rfl | rfl | rfl | rfl | rfl | rfl <;> rfl
theorem hn_3 (hx : p.tables.exec = Jvm.exec) (hb : c.code = cc) (hts : ∀ w ∈ Ts, w.before args s = true) (hin : ∀ w ∈ u_ws RX3 TX3 2, w ∈ Ts) (hown : s.vm.findClass own = some m.cls) (hcl : Cond.classLink own index RX3 ∈ Ts) (hinst : Cond.instantiable RX3 2 ∈ Ts) (hini : Cond.initialized RX3 ∈ Ts) (hI : HI D cy s s0 st H locs cells al ex) (hal : al) (hex : ex) (hcells : cells + 1 ≤ R.cells) (hslots : slots + 2 ≤ R.slots) (hdg : decode cc pc = .ok (.new index, 3)) (kk : ∀ (H1 : Heap), HI D cy s s0 (nO st 4 0) H1 locs (cells + 1) al ex → W p l e R s m args below meth c H1 locs (cells + 1) (slots + 2) Q (F0 m (pc + 3) ls (.ref (gN st) :: rest))) : W p l e R s m args below meth c H locs cells slots Q (F0 m pc ls rest) := by
  refine h_sz (fun hz => ?_)
  have hHN := h_exact hI hal hex hz
  have hKn := hI.1.1 3 _ rfl
  refine W.newcK hx hb hown (hts _ hcl) (hts _ hinst) (hts _ hini) rfl hdg hcells hslots hKn.2.1 hHN (fun H1 kC hkC e1 z1 o1 => kk H1 (h_grow hI hHN (by decide) (by rw [z1, hHN]) (fun q hq => o1 q (by rw [← hHN]; exact hq)) ?_))
  rw [hC_4 (st := nO st 4 0) nO_K]
  refine ⟨_, rfl, (u_born tyX3 hts hin hKn hkC e1 tyX3_ok).to ?_⟩
  intro j hj
  have hfl : fl3 (nO st 4 0) (gN st) = [.null, .null] := by simp [fl3, nO, va_up, gI, gR, va_rf]
  show _ = vp_V (fl3 (nO st 4 0) (gN st)) j
  rw [hfl]
  have hj2 : j < 2 := hj
  rcases (show j = 0 ∨ j = 1 by omega) with rfl | rfl <;> rfl
theorem hn_4 (hx : p.tables.exec = Jvm.exec) (hb : c.code = cc) (hts : ∀ w ∈ Ts, w.before args s = true) (hin : ∀ w ∈ u_ws RX4 TX4 9, w ∈ Ts) (hown : s.vm.findClass own = some m.cls) (hcl : Cond.classLink own index RX4 ∈ Ts) (hinst : Cond.instantiable RX4 9 ∈ Ts) (hini : Cond.initialized RX4 ∈ Ts) (hI : HI D cy s s0 st H locs cells al ex) (hal : al) (hex : ex) (hcells : cells + 1 ≤ R.cells) (hslots : slots + 9 ≤ R.slots) (hdg : decode cc pc = .ok (.new index, 3)) (kk : ∀ (H1 : Heap), HI D cy s s0 (nO st 5 0) H1 locs (cells + 1) al ex → W p l e R s m args below meth c H1 locs (cells + 1) (slots + 9) Q (F0 m (pc + 3) ls (.ref (gN st) :: rest))) : W p l e R s m args below meth c H locs cells slots Q (F0 m pc ls rest) := by
  refine h_sz (fun hz => ?_)
  have hHN := h_exact hI hal hex hz
  have hKn := hI.1.1 4 _ rfl
  refine W.newcK hx hb hown (hts _ hcl) (hts _ hinst) (hts _ hini) rfl hdg hcells hslots hKn.2.1 hHN (fun H1 kC hkC e1 z1 o1 => kk H1 (h_grow hI hHN (by decide) (by rw [z1, hHN]) (fun q hq => o1 q (by rw [← hHN]; exact hq)) ?_))
  rw [hC_5 (st := nO st 5 0) nO_K]
  refine ⟨_, rfl, (u_born tyX4 hts hin hKn hkC e1 tyX4_ok).to ?_⟩
  intro j hj
  have hfl : fl4 (nO st 5 0) (gN st) = [.int 0, .int 0, .int 0, .int 0, .null, .null, .null, .null, .null] := by simp [fl4, nO, va_up, gI, gR, va_rf]
  show _ = vp_V (fl4 (nO st 5 0) (gN st)) j
  rw [hfl]
  have hj2 : j < 9 := hj
  rcases (show j = 0 ∨ j = 1 ∨ j = 2 ∨ j = 3 ∨ j = 4 ∨ j = 5 ∨ j = 6 ∨ j = 7 ∨ j = 8 by omega) with rfl | rfl | rfl | rfl | rfl | rfl | rfl | rfl | rfl <;> rfl
theorem hn_5 (hx : p.tables.exec = Jvm.exec) (hb : c.code = cc) (hts : ∀ w ∈ Ts, w.before args s = true) (hin : ∀ w ∈ u_ws RX5 TX5 3, w ∈ Ts) (hown : s.vm.findClass own = some m.cls) (hcl : Cond.classLink own index RX5 ∈ Ts) (hinst : Cond.instantiable RX5 3 ∈ Ts) (hini : Cond.initialized RX5 ∈ Ts) (hI : HI D cy s s0 st H locs cells al ex) (hal : al) (hex : ex) (hcells : cells + 1 ≤ R.cells) (hslots : slots + 3 ≤ R.slots) (hdg : decode cc pc = .ok (.new index, 3)) (kk : ∀ (H1 : Heap), HI D cy s s0 (nO st 6 0) H1 locs (cells + 1) al ex → W p l e R s m args below meth c H1 locs (cells + 1) (slots + 3) Q (F0 m (pc + 3) ls (.ref (gN st) :: rest))) : W p l e R s m args below meth c H locs cells slots Q (F0 m pc ls rest) := by
  refine h_sz (fun hz => ?_)
  have hHN := h_exact hI hal hex hz
  have hKn := hI.1.1 5 _ rfl
  refine W.newcK hx hb hown (hts _ hcl) (hts _ hinst) (hts _ hini) rfl hdg hcells hslots hKn.2.1 hHN (fun H1 kC hkC e1 z1 o1 => kk H1 (h_grow hI hHN (by decide) (by rw [z1, hHN]) (fun q hq => o1 q (by rw [← hHN]; exact hq)) ?_))
  rw [hC_6 (st := nO st 6 0) nO_K]
  refine ⟨_, rfl, (u_born tyX5 hts hin hKn hkC e1 tyX5_ok).to ?_⟩
  intro j hj
  have hfl : fl5 (nO st 6 0) (gN st) = [.null, .int 0, .int 0] := by simp [fl5, nO, va_up, gI, gR, va_rf]
  show _ = vp_V (fl5 (nO st 6 0) (gN st)) j
  rw [hfl]
  have hj2 : j < 3 := hj
  rcases (show j = 0 ∨ j = 1 ∨ j = 2 by omega) with rfl | rfl | rfl <;> rfl
theorem hn_6 (hx : p.tables.exec = Jvm.exec) (hb : c.code = cc) (hts : ∀ w ∈ Ts, w.before args s = true) (hin : ∀ w ∈ u_ws RX6 TX6 5, w ∈ Ts) (hown : s.vm.findClass own = some m.cls) (hcl : Cond.classLink own index RX6 ∈ Ts) (hinst : Cond.instantiable RX6 5 ∈ Ts) (hini : Cond.initialized RX6 ∈ Ts) (hI : HI D cy s s0 st H locs cells al ex) (hal : al) (hex : ex) (hcells : cells + 1 ≤ R.cells) (hslots : slots + 5 ≤ R.slots) (hdg : decode cc pc = .ok (.new index, 3)) (kk : ∀ (H1 : Heap), HI D cy s s0 (nO st 7 0) H1 locs (cells + 1) al ex → W p l e R s m args below meth c H1 locs (cells + 1) (slots + 5) Q (F0 m (pc + 3) ls (.ref (gN st) :: rest))) : W p l e R s m args below meth c H locs cells slots Q (F0 m pc ls rest) := by
  refine h_sz (fun hz => ?_)
  have hHN := h_exact hI hal hex hz
  have hKn := hI.1.1 6 _ rfl
  refine W.newcK hx hb hown (hts _ hcl) (hts _ hinst) (hts _ hini) rfl hdg hcells hslots hKn.2.1 hHN (fun H1 kC hkC e1 z1 o1 => kk H1 (h_grow hI hHN (by decide) (by rw [z1, hHN]) (fun q hq => o1 q (by rw [← hHN]; exact hq)) ?_))
  rw [hC_7 (st := nO st 7 0) nO_K]
  refine ⟨_, rfl, (u_born tyX6 hts hin hKn hkC e1 tyX6_ok).to ?_⟩
  intro j hj
  have hfl : fl6 (nO st 7 0) (gN st) = [.int 0, .null, .null, .null, .null] := by simp [fl6, nO, va_up, gI, gR, va_rf]
  show _ = vp_V (fl6 (nO st 7 0) (gN st)) j
  rw [hfl]
  have hj2 : j < 5 := hj
  rcases (show j = 0 ∨ j = 1 ∨ j = 2 ∨ j = 3 ∨ j = 4 by omega) with rfl | rfl | rfl | rfl | rfl <;> rfl
theorem hn_7 (hx : p.tables.exec = Jvm.exec) (hb : c.code = cc) (hts : ∀ w ∈ Ts, w.before args s = true) (hin : ∀ w ∈ u_ws RX7 TX7 7, w ∈ Ts) (hown : s.vm.findClass own = some m.cls) (hcl : Cond.classLink own index RX7 ∈ Ts) (hinst : Cond.instantiable RX7 7 ∈ Ts) (hini : Cond.initialized RX7 ∈ Ts) (hI : HI D cy s s0 st H locs cells al ex) (hal : al) (hex : ex) (hcells : cells + 1 ≤ R.cells) (hslots : slots + 7 ≤ R.slots) (hdg : decode cc pc = .ok (.new index, 3)) (kk : ∀ (H1 : Heap), HI D cy s s0 (nO st 8 0) H1 locs (cells + 1) al ex → W p l e R s m args below meth c H1 locs (cells + 1) (slots + 7) Q (F0 m (pc + 3) ls (.ref (gN st) :: rest))) : W p l e R s m args below meth c H locs cells slots Q (F0 m pc ls rest) := by
  refine h_sz (fun hz => ?_)
  have hHN := h_exact hI hal hex hz
  have hKn := hI.1.1 7 _ rfl
  refine W.newcK hx hb hown (hts _ hcl) (hts _ hinst) (hts _ hini) rfl hdg hcells hslots hKn.2.1 hHN (fun H1 kC hkC e1 z1 o1 => kk H1 (h_grow hI hHN (by decide) (by rw [z1, hHN]) (fun q hq => o1 q (by rw [← hHN]; exact hq)) ?_))
  rw [hC_8 (st := nO st 8 0) nO_K]
  refine ⟨_, rfl, (u_born tyX7 hts hin hKn hkC e1 tyX7_ok).to ?_⟩
  intro j hj
  have hfl : fl7 (nO st 8 0) (gN st) = [.null, .null, .null, .null, .null, .int 0, .int 0] := by simp [fl7, nO, va_up, gI, gR, va_rf]
  show _ = vp_V (fl7 (nO st 8 0) (gN st)) j
  rw [hfl]
  have hj2 : j < 7 := hj
  rcases (show j = 0 ∨ j = 1 ∨ j = 2 ∨ j = 3 ∨ j = 4 ∨ j = 5 ∨ j = 6 by omega) with rfl | rfl | rfl | rfl | rfl | rfl | rfl <;> rfl
theorem hn_8 (hx : p.tables.exec = Jvm.exec) (hb : c.code = cc) (hts : ∀ w ∈ Ts, w.before args s = true) (hin : ∀ w ∈ u_ws RX8 TX8 5, w ∈ Ts) (hown : s.vm.findClass own = some m.cls) (hcl : Cond.classLink own index RX8 ∈ Ts) (hinst : Cond.instantiable RX8 5 ∈ Ts) (hini : Cond.initialized RX8 ∈ Ts) (hI : HI D cy s s0 st H locs cells al ex) (hal : al) (hex : ex) (hcells : cells + 1 ≤ R.cells) (hslots : slots + 5 ≤ R.slots) (hdg : decode cc pc = .ok (.new index, 3)) (kk : ∀ (H1 : Heap), HI D cy s s0 (nO st 9 0) H1 locs (cells + 1) al ex → W p l e R s m args below meth c H1 locs (cells + 1) (slots + 5) Q (F0 m (pc + 3) ls (.ref (gN st) :: rest))) : W p l e R s m args below meth c H locs cells slots Q (F0 m pc ls rest) := by
  refine h_sz (fun hz => ?_)
  have hHN := h_exact hI hal hex hz
  have hKn := hI.1.1 8 _ rfl
  refine W.newcK hx hb hown (hts _ hcl) (hts _ hinst) (hts _ hini) rfl hdg hcells hslots hKn.2.1 hHN (fun H1 kC hkC e1 z1 o1 => kk H1 (h_grow hI hHN (by decide) (by rw [z1, hHN]) (fun q hq => o1 q (by rw [← hHN]; exact hq)) ?_))
  rw [hC_9 (st := nO st 9 0) nO_K]
  refine ⟨_, rfl, (u_born tyX8 hts hin hKn hkC e1 tyX8_ok).to ?_⟩
  intro j hj
  have hfl : fl8 (nO st 9 0) (gN st) = [.null, .int 0, .int 0, .null, .null] := by simp [fl8, nO, va_up, gI, gR, va_rf]
  show _ = vp_V (fl8 (nO st 9 0) (gN st)) j
  rw [hfl]
  have hj2 : j < 5 := hj
  rcases (show j = 0 ∨ j = 1 ∨ j = 2 ∨ j = 3 ∨ j = 4 by omega) with rfl | rfl | rfl | rfl | rfl <;> rfl
theorem hn_9 (hx : p.tables.exec = Jvm.exec) (hb : c.code = cc) (hts : ∀ w ∈ Ts, w.before args s = true) (hin : ∀ w ∈ u_ws RX9 TX9 5, w ∈ Ts) (hown : s.vm.findClass own = some m.cls) (hcl : Cond.classLink own index RX9 ∈ Ts) (hinst : Cond.instantiable RX9 5 ∈ Ts) (hini : Cond.initialized RX9 ∈ Ts) (hI : HI D cy s s0 st H locs cells al ex) (hal : al) (hex : ex) (hcells : cells + 1 ≤ R.cells) (hslots : slots + 5 ≤ R.slots) (hdg : decode cc pc = .ok (.new index, 3)) (kk : ∀ (H1 : Heap), HI D cy s s0 (nO st 10 0) H1 locs (cells + 1) al ex → W p l e R s m args below meth c H1 locs (cells + 1) (slots + 5) Q (F0 m (pc + 3) ls (.ref (gN st) :: rest))) : W p l e R s m args below meth c H locs cells slots Q (F0 m pc ls rest) := by
  refine h_sz (fun hz => ?_)
  have hHN := h_exact hI hal hex hz
  have hKn := hI.1.1 9 _ rfl
  refine W.newcK hx hb hown (hts _ hcl) (hts _ hinst) (hts _ hini) rfl hdg hcells hslots hKn.2.1 hHN (fun H1 kC hkC e1 z1 o1 => kk H1 (h_grow hI hHN (by decide) (by rw [z1, hHN]) (fun q hq => o1 q (by rw [← hHN]; exact hq)) ?_))
  rw [hC_10 (st := nO st 10 0) nO_K]
  refine ⟨_, rfl, (u_born tyX9 hts hin hKn hkC e1 tyX9_ok).to ?_⟩
  intro j hj
  have hfl : fl9 (nO st 10 0) (gN st) = [.null, .int 0, .null, .null, .null] := by simp [fl9, nO, va_up, gI, gR, va_rf]
  show _ = vp_V (fl9 (nO st 10 0) (gN st)) j
  rw [hfl]
  have hj2 : j < 5 := hj
  rcases (show j = 0 ∨ j = 1 ∨ j = 2 ∨ j = 3 ∨ j = 4 by omega) with rfl | rfl | rfl | rfl | rfl <;> rfl
theorem hn_10 (hx : p.tables.exec = Jvm.exec) (hb : c.code = cc) (hts : ∀ w ∈ Ts, w.before args s = true) (hin : ∀ w ∈ u_ws RX10 TX10 6, w ∈ Ts) (hown : s.vm.findClass own = some m.cls) (hcl : Cond.classLink own index RX10 ∈ Ts) (hinst : Cond.instantiable RX10 6 ∈ Ts) (hini : Cond.initialized RX10 ∈ Ts) (hI : HI D cy s s0 st H locs cells al ex) (hal : al) (hex : ex) (hcells : cells + 1 ≤ R.cells) (hslots : slots + 6 ≤ R.slots) (hdg : decode cc pc = .ok (.new index, 3)) (kk : ∀ (H1 : Heap), HI D cy s s0 (nO st 11 0) H1 locs (cells + 1) al ex → W p l e R s m args below meth c H1 locs (cells + 1) (slots + 6) Q (F0 m (pc + 3) ls (.ref (gN st) :: rest))) : W p l e R s m args below meth c H locs cells slots Q (F0 m pc ls rest) := by
  refine h_sz (fun hz => ?_)
  have hHN := h_exact hI hal hex hz
  have hKn := hI.1.1 10 _ rfl
  refine W.newcK hx hb hown (hts _ hcl) (hts _ hinst) (hts _ hini) rfl hdg hcells hslots hKn.2.1 hHN (fun H1 kC hkC e1 z1 o1 => kk H1 (h_grow hI hHN (by decide) (by rw [z1, hHN]) (fun q hq => o1 q (by rw [← hHN]; exact hq)) ?_))
  rw [hC_11 (st := nO st 11 0) nO_K]
  refine ⟨_, rfl, (u_born tyX10 hts hin hKn hkC e1 tyX10_ok).to ?_⟩
  intro j hj
  have hfl : fl10 (nO st 11 0) (gN st) = [.null, .null, .null, .int 0, .int 0, .int 0] := by simp [fl10, nO, va_up, gI, gR, va_rf]
  show _ = vp_V (fl10 (nO st 11 0) (gN st)) j
  rw [hfl]
  have hj2 : j < 6 := hj
  rcases (show j = 0 ∨ j = 1 ∨ j = 2 ∨ j = 3 ∨ j = 4 ∨ j = 5 by omega) with rfl | rfl | rfl | rfl | rfl | rfl <;> rfl
theorem hn_11 (hx : p.tables.exec = Jvm.exec) (hb : c.code = cc) (hts : ∀ w ∈ Ts, w.before args s = true) (hin : ∀ w ∈ u_ws RX11 TX11 10, w ∈ Ts) (hown : s.vm.findClass own = some m.cls) (hcl : Cond.classLink own index RX11 ∈ Ts) (hinst : Cond.instantiable RX11 10 ∈ Ts) (hini : Cond.initialized RX11 ∈ Ts) (hI : HI D cy s s0 st H locs cells al ex) (hal : al) (hex : ex) (hcells : cells + 1 ≤ R.cells) (hslots : slots + 10 ≤ R.slots) (hdg : decode cc pc = .ok (.new index, 3)) (kk : ∀ (H1 : Heap), HI D cy s s0 (nO st 12 0) H1 locs (cells + 1) al ex → W p l e R s m args below meth c H1 locs (cells + 1) (slots + 10) Q (F0 m (pc + 3) ls (.ref (gN st) :: rest))) : W p l e R s m args below meth c H locs cells slots Q (F0 m pc ls rest) := by
  refine h_sz (fun hz => ?_)
  have hHN := h_exact hI hal hex hz
  have hKn := hI.1.1 11 _ rfl
  refine W.newcK hx hb hown (hts _ hcl) (hts _ hinst) (hts _ hini) rfl hdg hcells hslots hKn.2.1 hHN (fun H1 kC hkC e1 z1 o1 => kk H1 (h_grow hI hHN (by decide) (by rw [z1, hHN]) (fun q hq => o1 q (by rw [← hHN]; exact hq)) ?_))
  rw [hC_12 (st := nO st 12 0) nO_K]
  refine ⟨_, rfl, (u_born tyX11 hts hin hKn hkC e1 tyX11_ok).to ?_⟩
  intro j hj
  have hfl : fl11 (nO st 12 0) (gN st) = [.null, .int 0, .null, .int 0, .null, .null, .null, .null, .null, .null] := by simp [fl11, nO, va_up, gI, gR, va_rf]
  show _ = vp_V (fl11 (nO st 12 0) (gN st)) j
  rw [hfl]
  have hj2 : j < 10 := hj
  rcases (show j = 0 ∨ j = 1 ∨ j = 2 ∨ j = 3 ∨ j = 4 ∨ j = 5 ∨ j = 6 ∨ j = 7 ∨ j = 8 ∨ j = 9 by omega) with rfl | rfl | rfl | rfl | rfl | rfl | rfl | rfl | rfl | rfl <;> rfl
theorem hn_B {n : Int32} {N : Nat} (hx : p.tables.exec = Jvm.exec) (hb : c.code = cc) (hts : ∀ w ∈ Ts, w.before args s = true) (harr : Cond.arrayClass .byte ∈ Ts) (hI : HI D cy s s0 st H locs cells al ex) (hal : al) (hex : ex) (hn : ¬ n < 0) (hN : n.toNatClampNeg = N) (hbytes : N * componentBytes .byte ≤ 536870912) (hcells : cells + 1 ≤ R.cells) (hslots : slots + N ≤ R.slots) (hdg : decode cc pc = .ok (.newarray .byte, 2)) (kk : ∀ (H1 : Heap), HI D cy s s0 (nO st 21 N) H1 locs (cells + 1) al ex → W p l e R s m args below meth c H1 locs (cells + 1) (slots + N) Q (F0 m (pc + 2) ls (.ref (gN st) :: rest))) : W p l e R s m args below meth c H locs cells slots Q (F0 m pc ls (.int n :: rest)) := by
  refine h_sz (fun hz => ?_)
  have hHN := h_exact hI hal hex hz
  refine va_newaK (atype := .byte) hx hb (hts _ harr) rfl hdg rfl hn hN hbytes hcells hslots hHN (fun H1 cA e1 z1 o1 hAr hNm => ?_)
  have hRA : va_RA s (cy 0) .byte := (hI.1.2 0 _ rfl).2
  have hcA : cA = cy 0 := Option.some.inj (hNm.symm.trans hRA)
  subst hcA
  refine kk H1 (h_grow hI hHN (by decide) (by rw [z1, hHN]) (fun q hq => o1 q (by rw [← hHN]; exact hq)) ?_)
  rw [hC_21 (st := nO st 21 N) nO_K]
  have h2 : gL (nO st 21 N) (gN st) = N := if_pos rfl
  have h3 : gA (nO st 21 N) (gN st) = (fun _ => 0) := if_pos rfl
  rw [h2, h3]
  exact e1
theorem hn_I {n : Int32} {N : Nat} (hx : p.tables.exec = Jvm.exec) (hb : c.code = cc) (hts : ∀ w ∈ Ts, w.before args s = true) (harr : Cond.arrayClass .int ∈ Ts) (hI : HI D cy s s0 st H locs cells al ex) (hal : al) (hex : ex) (hn : ¬ n < 0) (hN : n.toNatClampNeg = N) (hbytes : N * componentBytes .int ≤ 536870912) (hcells : cells + 1 ≤ R.cells) (hslots : slots + N ≤ R.slots) (hdg : decode cc pc = .ok (.newarray .int, 2)) (kk : ∀ (H1 : Heap), HI D cy s s0 (nO st 22 N) H1 locs (cells + 1) al ex → W p l e R s m args below meth c H1 locs (cells + 1) (slots + N) Q (F0 m (pc + 2) ls (.ref (gN st) :: rest))) : W p l e R s m args below meth c H locs cells slots Q (F0 m pc ls (.int n :: rest)) := by
  refine h_sz (fun hz => ?_)
  have hHN := h_exact hI hal hex hz
  refine va_newaK (atype := .int) hx hb (hts _ harr) rfl hdg rfl hn hN hbytes hcells hslots hHN (fun H1 cA e1 z1 o1 hAr hNm => ?_)
  have hRA : va_RA s (cy 1) .int := (hI.1.2 1 _ rfl).2
  have hcA : cA = cy 1 := Option.some.inj (hNm.symm.trans hRA)
  subst hcA
  refine kk H1 (h_grow hI hHN (by decide) (by rw [z1, hHN]) (fun q hq => o1 q (by rw [← hHN]; exact hq)) ?_)
  rw [hC_22 (st := nO st 22 N) nO_K]
  have h2 : gL (nO st 22 N) (gN st) = N := if_pos rfl
  have h3 : gA (nO st 22 N) (gN st) = (fun _ => 0) := if_pos rfl
  rw [h2, h3]
  exact e1
theorem hn_J {n : Int32} {N : Nat} (hx : p.tables.exec = Jvm.exec) (hb : c.code = cc) (hts : ∀ w ∈ Ts, w.before args s = true) (harr : Cond.arrayClass .long ∈ Ts) (hI : HI D cy s s0 st H locs cells al ex) (hal : al) (hex : ex) (hn : ¬ n < 0) (hN : n.toNatClampNeg = N) (hbytes : N * componentBytes .long ≤ 536870912) (hcells : cells + 1 ≤ R.cells) (hslots : slots + N ≤ R.slots) (hdg : decode cc pc = .ok (.newarray .long, 2)) (kk : ∀ (H1 : Heap), HI D cy s s0 (nO st 23 N) H1 locs (cells + 1) al ex → W p l e R s m args below meth c H1 locs (cells + 1) (slots + N) Q (F0 m (pc + 2) ls (.ref (gN st) :: rest))) : W p l e R s m args below meth c H locs cells slots Q (F0 m pc ls (.int n :: rest)) := by
  refine h_sz (fun hz => ?_)
  have hHN := h_exact hI hal hex hz
  refine va_newaK (atype := .long) hx hb (hts _ harr) rfl hdg rfl hn hN hbytes hcells hslots hHN (fun H1 cA e1 z1 o1 hAr hNm => ?_)
  have hRA : va_RA s (cy 2) .long := (hI.1.2 2 _ rfl).2
  have hcA : cA = cy 2 := Option.some.inj (hNm.symm.trans hRA)
  subst hcA
  refine kk H1 (h_grow hI hHN (by decide) (by rw [z1, hHN]) (fun q hq => o1 q (by rw [← hHN]; exact hq)) ?_)
  rw [hC_23 (st := nO st 23 N) nO_K]
  have h2 : gL (nO st 23 N) (gN st) = N := if_pos rfl
  have h3 : gJ (nO st 23 N) (gN st) = (fun _ => 0) := if_pos rfl
  rw [h2, h3]
  exact e1
theorem hn_Rule {n : Int32} {N : Nat} (hx : p.tables.exec = Jvm.exec) (hb : c.code = cc) (hts : ∀ w ∈ Ts, w.before args s = true) (hown : s.vm.findClass own = some m.cls) (hcl : Cond.classLink own index "HalfBridge$Rule" ∈ Ts) (hI : HI D cy s s0 st H locs cells al ex) (hal : al) (hex : ex) (hn : ¬ n < 0) (hN : n.toNatClampNeg = N) (hbytes : N * 4 ≤ 536870912) (hcells : cells + 1 ≤ R.cells) (hslots : slots + N ≤ R.slots) (hdg : decode cc pc = .ok (.anewarray index, 3)) (kk : ∀ (H1 : Heap), HI D cy s s0 (nO st 25 N) H1 locs (cells + 1) al ex → W p l e R s m args below meth c H1 locs (cells + 1) (slots + N) Q (F0 m (pc + 3) ls (.ref (gN st) :: rest))) : W p l e R s m args below meth c H locs cells slots Q (F0 m pc ls (.int n :: rest)) := by
  refine h_sz (fun hz => ?_)
  have hHN := h_exact hI hal hex hz
  subst hN
  refine W.anew hx hb hown (hts _ hcl) (va_AO.use (hI.2.2.2.2.2.2.1.2 hal).2.2.1) rfl hdg rfl hn hbytes hcells hslots (fun cA kA comp f1 f2 f3 f4 => ?_)
  obtain ⟨kA2, comp2, g1, g2, g3, g4⟩ : va_RA s (cy 4) (.object "HalfBridge$Rule") := (hI.1.2 4 _ rfl).2
  have hcA : cA = cy 4 := Option.some.inj (f1.symm.trans g4)
  subst hcA
  rw [hHN]
  refine kk _ (h_grow hI hHN (by decide) (by rw [Array.size_push]) (fun q hq => by rw [Array.getElem?_push, if_neg (Nat.ne_of_lt hq)]) ?_)
  rw [hC_25 (st := nO st 25 n.toNatClampNeg) nO_K]
  have h2 : gL (nO st 25 n.toNatClampNeg) (gN st) = n.toNatClampNeg := if_pos rfl
  have h3 : gQ (nO st 25 n.toNatClampNeg) (gN st) = (fun _ => none) := if_pos rfl
  rw [h2, h3]
  show _ = some (vp_cell _ _)
  rw [vp_cell_q, ← hHN, Array.getElem?_push_size]
  exact congrArg some (arrV_new _ _ _)
theorem hn_Site {n : Int32} {N : Nat} (hx : p.tables.exec = Jvm.exec) (hb : c.code = cc) (hts : ∀ w ∈ Ts, w.before args s = true) (hown : s.vm.findClass own = some m.cls) (hcl : Cond.classLink own index "HalfBridge$Site" ∈ Ts) (hI : HI D cy s s0 st H locs cells al ex) (hal : al) (hex : ex) (hn : ¬ n < 0) (hN : n.toNatClampNeg = N) (hbytes : N * 4 ≤ 536870912) (hcells : cells + 1 ≤ R.cells) (hslots : slots + N ≤ R.slots) (hdg : decode cc pc = .ok (.anewarray index, 3)) (kk : ∀ (H1 : Heap), HI D cy s s0 (nO st 26 N) H1 locs (cells + 1) al ex → W p l e R s m args below meth c H1 locs (cells + 1) (slots + N) Q (F0 m (pc + 3) ls (.ref (gN st) :: rest))) : W p l e R s m args below meth c H locs cells slots Q (F0 m pc ls (.int n :: rest)) := by
  refine h_sz (fun hz => ?_)
  have hHN := h_exact hI hal hex hz
  subst hN
  refine W.anew hx hb hown (hts _ hcl) (va_AO.use (hI.2.2.2.2.2.2.1.2 hal).2.2.2.1) rfl hdg rfl hn hbytes hcells hslots (fun cA kA comp f1 f2 f3 f4 => ?_)
  obtain ⟨kA2, comp2, g1, g2, g3, g4⟩ : va_RA s (cy 5) (.object "HalfBridge$Site") := (hI.1.2 5 _ rfl).2
  have hcA : cA = cy 5 := Option.some.inj (f1.symm.trans g4)
  subst hcA
  rw [hHN]
  refine kk _ (h_grow hI hHN (by decide) (by rw [Array.size_push]) (fun q hq => by rw [Array.getElem?_push, if_neg (Nat.ne_of_lt hq)]) ?_)
  rw [hC_26 (st := nO st 26 n.toNatClampNeg) nO_K]
  have h2 : gL (nO st 26 n.toNatClampNeg) (gN st) = n.toNatClampNeg := if_pos rfl
  have h3 : gQ (nO st 26 n.toNatClampNeg) (gN st) = (fun _ => none) := if_pos rfl
  rw [h2, h3]
  show _ = some (vp_cell _ _)
  rw [vp_cell_q, ← hHN, Array.getElem?_push_size]
  exact congrArg some (arrV_new _ _ _)
theorem hn_Span {n : Int32} {N : Nat} (hx : p.tables.exec = Jvm.exec) (hb : c.code = cc) (hts : ∀ w ∈ Ts, w.before args s = true) (hown : s.vm.findClass own = some m.cls) (hcl : Cond.classLink own index "HalfBridge$Span" ∈ Ts) (hI : HI D cy s s0 st H locs cells al ex) (hal : al) (hex : ex) (hn : ¬ n < 0) (hN : n.toNatClampNeg = N) (hbytes : N * 4 ≤ 536870912) (hcells : cells + 1 ≤ R.cells) (hslots : slots + N ≤ R.slots) (hdg : decode cc pc = .ok (.anewarray index, 3)) (kk : ∀ (H1 : Heap), HI D cy s s0 (nO st 27 N) H1 locs (cells + 1) al ex → W p l e R s m args below meth c H1 locs (cells + 1) (slots + N) Q (F0 m (pc + 3) ls (.ref (gN st) :: rest))) : W p l e R s m args below meth c H locs cells slots Q (F0 m pc ls (.int n :: rest)) := by
  refine h_sz (fun hz => ?_)
  have hHN := h_exact hI hal hex hz
  subst hN
  refine W.anew hx hb hown (hts _ hcl) (va_AO.use (hI.2.2.2.2.2.2.1.2 hal).2.2.2.2) rfl hdg rfl hn hbytes hcells hslots (fun cA kA comp f1 f2 f3 f4 => ?_)
  obtain ⟨kA2, comp2, g1, g2, g3, g4⟩ : va_RA s (cy 6) (.object "HalfBridge$Span") := (hI.1.2 6 _ rfl).2
  have hcA : cA = cy 6 := Option.some.inj (f1.symm.trans g4)
  subst hcA
  rw [hHN]
  refine kk _ (h_grow hI hHN (by decide) (by rw [Array.size_push]) (fun q hq => by rw [Array.getElem?_push, if_neg (Nat.ne_of_lt hq)]) ?_)
  rw [hC_27 (st := nO st 27 n.toNatClampNeg) nO_K]
  have h2 : gL (nO st 27 n.toNatClampNeg) (gN st) = n.toNatClampNeg := if_pos rfl
  have h3 : gQ (nO st 27 n.toNatClampNeg) (gN st) = (fun _ => none) := if_pos rfl
  rw [h2, h3]
  show _ = some (vp_cell _ _)
  rw [vp_cell_q, ← hHN, Array.getElem?_push_size]
  exact congrArg some (arrV_new _ _ _)
theorem hret_v {mc ms : Nat} {exo : Prop} {out : HSt} (hx : p.tables.exec = Jvm.exec) (hb : c.code = cc) (hr : meth.sig.returnType = none) (hlocks : meth.locks = false) (hI : HI D cy s s0 st H locs cells al ex) (hmc : cells ≤ mc) (hms : slots ≤ ms) (heo : exo → ex ∧ cells = mc) (ho : st = out) (hdg : decode cc pc = .ok (.return_, 1)) : W p l e R s m args below meth c H locs cells slots (MQ below (HQv D cy s0 mc exo out) args s mc ms (hF s0)) (F0 m pc ls []) := by
  subst ho
  refine W.widen hmc hms ?_
  exact W.vret hx hb hr (fun t ht hW => ⟨⟨st, rfl, rfl, ⟨by rw [ht]; exact hI.2.1, va_K.moved hW.alike hI.1, hI.2.2.1, by rw [ht]; exact hI.2.2.2.2.1, hI.2.2.2.2.2.1, fun h => (by obtain ⟨h1, h2⟩ := heo h; rw [hI.2.2.2.2.2.2.2.1 h1, h2]), hI.2.2.2.2.2.2.2.2⟩⟩, hI.2.2.2.1.F ht⟩) hI.2.2.2.1.2.2 hdg
theorem hret_i {mc ms : Nat} {exo : Prop} {v : Int32} {out : HSt × Int32} (hx : p.tables.exec = Jvm.exec) (hb : c.code = cc) (hr : meth.sig.returnType = some .int) (hlocks : meth.locks = false) (hI : HI D cy s s0 st H locs cells al ex) (hmc : cells ≤ mc) (hms : slots ≤ ms) (heo : exo → ex ∧ cells = mc) (ho : (st, v) = out) (hdg : decode cc pc = .ok (.ireturn, 1)) : W p l e R s m args below meth c H locs cells slots (MQ below (HQi D cy s0 mc exo out) args s mc ms (hF s0)) (F0 m pc ls [.int v]) := by
  subst ho
  refine W.widen hmc hms ?_
  exact W.iret hx hb hr (fun t ht hW => ⟨⟨v, st, rfl, ⟨rfl, rfl⟩, ⟨by rw [ht]; exact hI.2.1, va_K.moved hW.alike hI.1, hI.2.2.1, by rw [ht]; exact hI.2.2.2.2.1, hI.2.2.2.2.2.1, fun h => (by obtain ⟨h1, h2⟩ := heo h; rw [hI.2.2.2.2.2.2.2.1 h1, h2]), hI.2.2.2.2.2.2.2.2⟩⟩, hI.2.2.2.1.F ht⟩) hI.2.2.2.1.2.2 hdg
theorem hret_z {mc ms : Nat} {exo : Prop} {v : Int32} {out : HSt × Int32} (hx : p.tables.exec = Jvm.exec) (hb : c.code = cc) (hr : meth.sig.returnType = some .boolean) (hn : narrow .boolean (.int v) = .int v) (hlocks : meth.locks = false) (hI : HI D cy s s0 st H locs cells al ex) (hmc : cells ≤ mc) (hms : slots ≤ ms) (heo : exo → ex ∧ cells = mc) (ho : (st, v) = out) (hdg : decode cc pc = .ok (.ireturn, 1)) : W p l e R s m args below meth c H locs cells slots (MQ below (HQi D cy s0 mc exo out) args s mc ms (hF s0)) (F0 m pc ls [.int v]) := by
  subst ho
  refine W.widen hmc hms ?_
  exact W.zret hx hb hr hn (fun t ht hW => ⟨⟨v, st, rfl, ⟨rfl, rfl⟩, ⟨by rw [ht]; exact hI.2.1, va_K.moved hW.alike hI.1, hI.2.2.1, by rw [ht]; exact hI.2.2.2.2.1, hI.2.2.2.2.2.1, fun h => (by obtain ⟨h1, h2⟩ := heo h; rw [hI.2.2.2.2.2.2.2.1 h1, h2]), hI.2.2.2.2.2.2.2.2⟩⟩, hI.2.2.2.1.F ht⟩) hI.2.2.2.1.2.2 hdg
theorem hret_l {mc ms : Nat} {exo : Prop} {v : Int64} {out : HSt × Int64} (hx : p.tables.exec = Jvm.exec) (hb : c.code = cc) (hr : meth.sig.returnType = some .long) (hlocks : meth.locks = false) (hI : HI D cy s s0 st H locs cells al ex) (hmc : cells ≤ mc) (hms : slots ≤ ms) (heo : exo → ex ∧ cells = mc) (ho : (st, v) = out) (hdg : decode cc pc = .ok (.lreturn, 1)) : W p l e R s m args below meth c H locs cells slots (MQ below (HQl D cy s0 mc exo out) args s mc ms (hF s0)) (F0 m pc ls [.long v]) := by
  subst ho
  refine W.widen hmc hms ?_
  exact W.lret hx hb hr (fun t ht hW => ⟨⟨v, st, rfl, ⟨rfl, rfl⟩, ⟨by rw [ht]; exact hI.2.1, va_K.moved hW.alike hI.1, hI.2.2.1, by rw [ht]; exact hI.2.2.2.2.1, hI.2.2.2.2.2.1, fun h => (by obtain ⟨h1, h2⟩ := heo h; rw [hI.2.2.2.2.2.2.2.1 h1, h2]), hI.2.2.2.2.2.2.2.2⟩⟩, hI.2.2.2.1.F ht⟩) hI.2.2.2.1.2.2 hdg
theorem hret_q {mc ms : Nat} {exo : Prop} {v : Option Nat} {rt : FieldType} {out : HSt × Option Nat} (hx : p.tables.exec = Jvm.exec) (hb : c.code = cc) (hr : meth.sig.returnType = some rt) (hrt : (∃ n, rt = .object n) ∨ ∃ t, rt = .array t) (hlocks : meth.locks = false) (hI : HI D cy s s0 st H locs cells al ex) (hmc : cells ≤ mc) (hms : slots ≤ ms) (heo : exo → ex ∧ cells = mc) (ho : (st, v) = out) (hdg : decode cc pc = .ok (.areturn, 1)) : W p l e R s m args below meth c H locs cells slots (MQ below (HQq D cy s0 mc exo out) args s mc ms (hF s0)) (F0 m pc ls [va_rf v]) := by
  subst ho
  refine W.widen hmc hms ?_
  exact W.aret hx hb hr hrt (va_rf_or v) (fun t ht hW => ⟨⟨v, st, rfl, ⟨rfl, rfl⟩, ⟨by rw [ht]; exact hI.2.1, va_K.moved hW.alike hI.1, hI.2.2.1, by rw [ht]; exact hI.2.2.2.2.1, hI.2.2.2.2.2.1, fun h => (by obtain ⟨h1, h2⟩ := heo h; rw [hI.2.2.2.2.2.2.2.1 h1, h2]), hI.2.2.2.2.2.2.2.2⟩⟩, hI.2.2.2.1.F ht⟩) hI.2.2.2.1.2.2 hdg
theorem hret_c {mc ms : Nat} {exo : Prop} {v : Int32} {out : HSt × Int32} (hx : p.tables.exec = Jvm.exec) (hb : c.code = cc) (hr : meth.sig.returnType = some .char) (hn : narrow .char (.int v) = .int v) (hlocks : meth.locks = false) (hI : HI D cy s s0 st H locs cells al ex) (hmc : cells ≤ mc) (hms : slots ≤ ms) (heo : exo → ex ∧ cells = mc) (ho : (st, v) = out) (hdg : decode cc pc = .ok (.ireturn, 1)) : W p l e R s m args below meth c H locs cells slots (MQ below (HQi D cy s0 mc exo out) args s mc ms (hF s0)) (F0 m pc ls [.int v]) := by
  subst ho
  refine W.widen hmc hms ?_
  exact W.zret hx hb hr hn (fun t ht hW => ⟨⟨v, st, rfl, ⟨rfl, rfl⟩, ⟨by rw [ht]; exact hI.2.1, va_K.moved hW.alike hI.1, hI.2.2.1, by rw [ht]; exact hI.2.2.2.2.1, hI.2.2.2.2.2.1, fun h => (by obtain ⟨h1, h2⟩ := heo h; rw [hI.2.2.2.2.2.2.2.1 h1, h2]), hI.2.2.2.2.2.2.2.2⟩⟩, hI.2.2.2.1.F ht⟩) hI.2.2.2.1.2.2 hdg
theorem nar_c {x : Int32} (h : decide (vp_nar .char x = x) = true) : narrow .char (.int x) = .int x := by
  have h1 : narrow .char (.int x) = .int (vp_nar .char x) := rfl
  rw [h1, of_decide_eq_true h]
theorem hret_b {mc ms : Nat} {exo : Prop} {v : Int32} {out : HSt × Int32} (hx : p.tables.exec = Jvm.exec) (hb : c.code = cc) (hr : meth.sig.returnType = some .byte) (hn : narrow .byte (.int v) = .int v) (hlocks : meth.locks = false) (hI : HI D cy s s0 st H locs cells al ex) (hmc : cells ≤ mc) (hms : slots ≤ ms) (heo : exo → ex ∧ cells = mc) (ho : (st, v) = out) (hdg : decode cc pc = .ok (.ireturn, 1)) : W p l e R s m args below meth c H locs cells slots (MQ below (HQi D cy s0 mc exo out) args s mc ms (hF s0)) (F0 m pc ls [.int v]) := by
  subst ho
  refine W.widen hmc hms ?_
  exact W.zret hx hb hr hn (fun t ht hW => ⟨⟨v, st, rfl, ⟨rfl, rfl⟩, ⟨by rw [ht]; exact hI.2.1, va_K.moved hW.alike hI.1, hI.2.2.1, by rw [ht]; exact hI.2.2.2.2.1, hI.2.2.2.2.2.1, fun h => (by obtain ⟨h1, h2⟩ := heo h; rw [hI.2.2.2.2.2.2.2.1 h1, h2]), hI.2.2.2.2.2.2.2.2⟩⟩, hI.2.2.2.1.F ht⟩) hI.2.2.2.1.2.2 hdg
theorem nar_b {x : Int32} (h : decide (vp_nar .byte x = x) = true) : narrow .byte (.int x) = .int x := by
  have h1 : narrow .byte (.int x) = .int (vp_nar .byte x) := rfl
  rw [h1, of_decide_eq_true h]
theorem h_pre {alc : Prop} {av : List Value} (hI : HI D cy s s0 st H locs cells al ex) (hHN : alc → H.size = gN st ∧ hCa s) : ∀ U : State, U.heap = H → s.WarmedH U.vm → HPre D cy av st alc av.toArray U := fun U hU hW => ⟨rfl, by rw [hU]; exact hI.2.1, va_K.moved hW.alike hI.1, hI.2.2.1.weaken (fun _ _ _ _ => trivial), hI.2.2.2.2.2.1, ⟨by rw [hU]; exact hI.2.2.2.2.1, by rw [hU]; exact SF.warm hW ((hI.2.2.2.2.2.2.1.1.2.kept hI.2.2.2.1.2.1).narrow (fun q h => h_mono hI h))⟩, fun h => ⟨by rw [hU]; exact (hHN h).1, hCa.warm hW (hHN h).2⟩⟩
theorem h_blind {alc : Prop} {av : List Value} : FrameBlind (HPre D cy av st alc) := fun a U g mk q => by
  obtain ⟨q0, qP, qK, qD, qx, qn, qs⟩ := q
  exact ⟨q0, qP, va_K.moved (u := U) (U := U.calling g mk a) (Vm.Alike.refl U.vm) qK, qD, qx, ⟨qn.1, SF.warm (State.WarmedH.refl U) qn.2⟩, fun h => ⟨(qs h).1, hCa.warm (State.WarmedH.refl U) (qs h).2⟩⟩
theorem h_back {mc : Nat} {exc ex2 : Prop} {u : HSt} {t : State} {H1 : Heap} {locs1 : List Loc} (hI : HI D cy s s0 st H locs cells al ex) (ht : t.heap = H1) (hvm : s.vm.Alike t.vm) (hB : HAt D cy st mc exc u t) (hS : va_S (hF s0) s.heap H1 locs1) (he2 : ex2 → ex ∧ exc) : HI D cy s s0 u H1 locs1 (cells + mc) al ex2 := by
  obtain ⟨b1, b2, b3, b4, b5, b6, b7⟩ := hB
  rw [ht] at b1 b4
  refine ⟨va_K.moved hvm.symm b2, b1, b3.weaken (fun _ _ _ h => h_mono hI h), hS, b4, b5, hI.2.2.2.2.2.2.1, ?_, Nat.le_trans hI.2.2.2.2.2.2.2.2 b7⟩
  intro h
  obtain ⟨h1, h2⟩ := he2 h
  rw [b6 h2, hI.2.2.2.2.2.2.2.1 h1]
  omega
theorem hcall_Vv {y : MethodName} {bytes : ByteArray} {maxL nL n mc ms : Nat} {ret : Option FieldType} {ws : List Cond} {rm : Room} {As : List Value} {out : HSt} {ls : Array Slot} {alc exc ex2 : Prop} {h ci N : Nat} {C : String} {T : u_T} {fs : List Value} (hkh : gK st h ≠ 0) (hch : hC cy st h = .inr (ci, fs)) (hcl : vwCl[ci]? = some (C, T, N)) (S : CallFix p m c cc nL s args Ts own) (hM : CHv l D cy y ws rm mc ms alc exc (.ref h :: As) st out) (cw : CallW R s args own C index y bytes maxL ret ws rm mc ms n) (hI : HI D cy s s0 st H locs cells al ex) (hae : alc → al ∧ ex) (he2 : ex2 → ex ∧ exc) (hn : As.length = n) (hsize : ls.size = nL) (hWr : (rest.map fun v => v.category).sum ≤ 8) (hdg : decode cc pc = .ok (.invokevirtual index, 3)) (hf : cells + mc ≤ R.cells ∧ slots + ms ≤ R.slots)
    (kk : ∀ (H1 : Heap) (locs1 : List Loc), HI D cy s s0 out H1 locs1 (cells + mc) al ex2 → W p l e R s m args below meth c H1 locs1 (cells + mc) (slots + ms) Q (F0 m (pc + 3) ls rest)) : W p l e R s m args below meth c H locs cells slots Q (F0 m pc ls (As.reverse ++ .ref h :: rest)) := by
  refine h_sz (fun hz => ?_)
  have hHN : alc → H.size = gN st ∧ hCa s := fun h => ⟨h_exact hI (hae h).1 (hae h).2 hz, (hI.2.2.2.2.2.2.1.2 (hae h).1).2⟩
  refine va_callv (va_runV (As := As) (rest := rest) S hM cw ⟨h_blind, (by obtain ⟨k, hk⟩ := h_at hI hkh; rw [hch] at hk; exact va_recv hI.1 hI.2.1 hcl hk), h_pre hI hHN⟩ rfl hn hsize rfl (lv_room hWr) hdg hf) hI.2.2.2.1 (fun q _ h => h_mono hI h) (fun q h => h_mono hI h) (fun u t H1 locs1 ht hvm hw hB hz1 hk1 hS => ?_)
  subst hw
  exact kk H1 locs1 (h_back hI ht hvm hB hS he2)
theorem hcall_Vi {y : MethodName} {bytes : ByteArray} {maxL nL n mc ms : Nat} {ret : Option FieldType} {ws : List Cond} {rm : Room} {As : List Value} {out : HSt × Int32} {ls : Array Slot} {alc exc ex2 : Prop} {h ci N : Nat} {C : String} {T : u_T} {fs : List Value} (hkh : gK st h ≠ 0) (hch : hC cy st h = .inr (ci, fs)) (hcl : vwCl[ci]? = some (C, T, N)) (S : CallFix p m c cc nL s args Ts own) (hM : CHi l D cy y ws rm mc ms alc exc (.ref h :: As) st out) (cw : CallW R s args own C index y bytes maxL ret ws rm mc ms n) (hI : HI D cy s s0 st H locs cells al ex) (hae : alc → al ∧ ex) (he2 : ex2 → ex ∧ exc) (hn : As.length = n) (hsize : ls.size = nL) (hWr : (rest.map fun v => v.category).sum ≤ 8) (hdg : decode cc pc = .ok (.invokevirtual index, 3)) (hf : cells + mc ≤ R.cells ∧ slots + ms ≤ R.slots)
    (kk : ∀ (H1 : Heap) (locs1 : List Loc), HI D cy s s0 out.1 H1 locs1 (cells + mc) al ex2 → W p l e R s m args below meth c H1 locs1 (cells + mc) (slots + ms) Q (F0 m (pc + 3) ls (.int out.2 :: rest))) : W p l e R s m args below meth c H locs cells slots Q (F0 m pc ls (As.reverse ++ .ref h :: rest)) := by
  refine h_sz (fun hz => ?_)
  have hHN : alc → H.size = gN st ∧ hCa s := fun h => ⟨h_exact hI (hae h).1 (hae h).2 hz, (hI.2.2.2.2.2.2.1.2 (hae h).1).2⟩
  refine va_calli (va_runV (As := As) (rest := rest) S hM cw ⟨h_blind, (by obtain ⟨k, hk⟩ := h_at hI hkh; rw [hch] at hk; exact va_recv hI.1 hI.2.1 hcl hk), h_pre hI hHN⟩ rfl hn hsize rfl (lv_room hWr) hdg hf) hI.2.2.2.1 (fun q _ h => h_mono hI h) (fun q h => h_mono hI h) (fun r u t H1 locs1 ht hvm hw hB hz1 hk1 hS => ?_)
  obtain ⟨hw1, hw2⟩ := hw
  subst hw1; subst hw2
  exact kk H1 locs1 (h_back hI ht hvm hB hS he2)
theorem hcall_Vl {y : MethodName} {bytes : ByteArray} {maxL nL n mc ms : Nat} {ret : Option FieldType} {ws : List Cond} {rm : Room} {As : List Value} {out : HSt × Int64} {ls : Array Slot} {alc exc ex2 : Prop} {h ci N : Nat} {C : String} {T : u_T} {fs : List Value} (hkh : gK st h ≠ 0) (hch : hC cy st h = .inr (ci, fs)) (hcl : vwCl[ci]? = some (C, T, N)) (S : CallFix p m c cc nL s args Ts own) (hM : CHl l D cy y ws rm mc ms alc exc (.ref h :: As) st out) (cw : CallW R s args own C index y bytes maxL ret ws rm mc ms n) (hI : HI D cy s s0 st H locs cells al ex) (hae : alc → al ∧ ex) (he2 : ex2 → ex ∧ exc) (hn : As.length = n) (hsize : ls.size = nL) (hWr : (rest.map fun v => v.category).sum ≤ 8) (hdg : decode cc pc = .ok (.invokevirtual index, 3)) (hf : cells + mc ≤ R.cells ∧ slots + ms ≤ R.slots)
    (kk : ∀ (H1 : Heap) (locs1 : List Loc), HI D cy s s0 out.1 H1 locs1 (cells + mc) al ex2 → W p l e R s m args below meth c H1 locs1 (cells + mc) (slots + ms) Q (F0 m (pc + 3) ls (.long out.2 :: rest))) : W p l e R s m args below meth c H locs cells slots Q (F0 m pc ls (As.reverse ++ .ref h :: rest)) := by
  refine h_sz (fun hz => ?_)
  have hHN : alc → H.size = gN st ∧ hCa s := fun h => ⟨h_exact hI (hae h).1 (hae h).2 hz, (hI.2.2.2.2.2.2.1.2 (hae h).1).2⟩
  refine va_calll (va_runV (As := As) (rest := rest) S hM cw ⟨h_blind, (by obtain ⟨k, hk⟩ := h_at hI hkh; rw [hch] at hk; exact va_recv hI.1 hI.2.1 hcl hk), h_pre hI hHN⟩ rfl hn hsize rfl (lv_room hWr) hdg hf) hI.2.2.2.1 (fun q _ h => h_mono hI h) (fun q h => h_mono hI h) (fun r u t H1 locs1 ht hvm hw hB hz1 hk1 hS => ?_)
  obtain ⟨hw1, hw2⟩ := hw
  subst hw1; subst hw2
  exact kk H1 locs1 (h_back hI ht hvm hB hS he2)
theorem hcall_Vq {y : MethodName} {bytes : ByteArray} {maxL nL n mc ms : Nat} {ret : Option FieldType} {ws : List Cond} {rm : Room} {As : List Value} {out : HSt × Option Nat} {ls : Array Slot} {alc exc ex2 : Prop} {h ci N : Nat} {C : String} {T : u_T} {fs : List Value} (hkh : gK st h ≠ 0) (hch : hC cy st h = .inr (ci, fs)) (hcl : vwCl[ci]? = some (C, T, N)) (S : CallFix p m c cc nL s args Ts own) (hM : CHq l D cy y ws rm mc ms alc exc (.ref h :: As) st out) (cw : CallW R s args own C index y bytes maxL ret ws rm mc ms n) (hI : HI D cy s s0 st H locs cells al ex) (hae : alc → al ∧ ex) (he2 : ex2 → ex ∧ exc) (hn : As.length = n) (hsize : ls.size = nL) (hWr : (rest.map fun v => v.category).sum ≤ 8) (hdg : decode cc pc = .ok (.invokevirtual index, 3)) (hf : cells + mc ≤ R.cells ∧ slots + ms ≤ R.slots)
    (kk : ∀ (H1 : Heap) (locs1 : List Loc), HI D cy s s0 out.1 H1 locs1 (cells + mc) al ex2 → W p l e R s m args below meth c H1 locs1 (cells + mc) (slots + ms) Q (F0 m (pc + 3) ls (va_rf out.2 :: rest))) : W p l e R s m args below meth c H locs cells slots Q (F0 m pc ls (As.reverse ++ .ref h :: rest)) := by
  refine h_sz (fun hz => ?_)
  have hHN : alc → H.size = gN st ∧ hCa s := fun h => ⟨h_exact hI (hae h).1 (hae h).2 hz, (hI.2.2.2.2.2.2.1.2 (hae h).1).2⟩
  refine va_callq (va_runV (As := As) (rest := rest) S hM cw ⟨h_blind, (by obtain ⟨k, hk⟩ := h_at hI hkh; rw [hch] at hk; exact va_recv hI.1 hI.2.1 hcl hk), h_pre hI hHN⟩ rfl hn hsize rfl (lv_room hWr) hdg hf) hI.2.2.2.1 (fun q _ h => h_mono hI h) (fun q h => h_mono hI h) (fun r u t H1 locs1 ht hvm hw hB hz1 hk1 hS => ?_)
  obtain ⟨hw1, hw2⟩ := hw
  subst hw1; subst hw2
  exact kk H1 locs1 (h_back hI ht hvm hB hS he2)
theorem hcall_Iv {y : MethodName} {bytes : ByteArray} {maxL nL n mc ms : Nat} {ws : List Cond} {rm : Room} {As : List Value} {out : HSt} {ls : Array Slot} {alc exc ex2 : Prop} {h : Nat} (S : CallFix p m c cc nL s args Ts own) (hM : CHv l D cy y ws rm mc ms alc exc (.ref h :: As) st out) (cw : CallB R s args own index y bytes maxL none ws rm mc ms n ∧ y.name = "<init>" ∧ (Cond.instanceMethod y).before args s = true) (hI : HI D cy s s0 st H locs cells al ex) (hae : alc → al ∧ ex) (he2 : ex2 → ex ∧ exc) (hn : As.length = n) (hsize : ls.size = nL) (hWr : (rest.map fun v => v.category).sum ≤ 8) (hdg : decode cc pc = .ok (.invokespecial index, 3)) (hf : cells + mc ≤ R.cells ∧ slots + ms ≤ R.slots)
    (kk : ∀ (H1 : Heap) (locs1 : List Loc), HI D cy s s0 out H1 locs1 (cells + mc) al ex2 → W p l e R s m args below meth c H1 locs1 (cells + mc) (slots + ms) Q (F0 m (pc + 3) ls rest)) : W p l e R s m args below meth c H locs cells slots Q (F0 m pc ls (As.reverse ++ .ref h :: rest)) := by
  refine h_sz (fun hz => ?_)
  have hHN : alc → H.size = gN st ∧ hCa s := fun h => ⟨h_exact hI (hae h).1 (hae h).2 hz, (hI.2.2.2.2.2.2.1.2 (hae h).1).2⟩
  refine va_callv (va_runI (As := As) (rest := rest) S hM cw ⟨h_blind, h_pre hI hHN⟩ rfl hn hsize rfl (lv_room hWr) hdg hf) hI.2.2.2.1 (fun q _ h => h_mono hI h) (fun q h => h_mono hI h) (fun u t H1 locs1 ht hvm hw hB hz1 hk1 hS => ?_)
  subst hw
  exact kk H1 locs1 (h_back hI ht hvm hB hS he2)
theorem hcall_Sv {y : MethodName} {bytes : ByteArray} {maxL nL n mc ms : Nat} {ret : Option FieldType} {ws : List Cond} {rm : Room} {As : List Value} {out : HSt} {ls : Array Slot} {alc exc ex2 : Prop} (S : CallFix p m c cc nL s args Ts own) (hM : CHv l D cy y ws rm mc ms alc exc As st out) (cw : CallB R s args own index y bytes maxL ret ws rm mc ms n ∧ (Cond.static y).before args s = true) (hI : HI D cy s s0 st H locs cells al ex) (hae : alc → al ∧ ex) (he2 : ex2 → ex ∧ exc) (hn : As.length = n) (hsize : ls.size = nL) (hWr : (rest.map fun v => v.category).sum ≤ 8) (hdg : decode cc pc = .ok (.invokestatic index, 3)) (hf : cells + mc ≤ R.cells ∧ slots + ms ≤ R.slots)
    (kk : ∀ (H1 : Heap) (locs1 : List Loc), HI D cy s s0 out H1 locs1 (cells + mc) al ex2 → W p l e R s m args below meth c H1 locs1 (cells + mc) (slots + ms) Q (F0 m (pc + 3) ls rest)) : W p l e R s m args below meth c H locs cells slots Q (F0 m pc ls (As.reverse ++ rest)) := by
  refine h_sz (fun hz => ?_)
  have hHN : alc → H.size = gN st ∧ hCa s := fun h => ⟨h_exact hI (hae h).1 (hae h).2 hz, (hI.2.2.2.2.2.2.1.2 (hae h).1).2⟩
  refine va_callv (va_runS (As := As) (rest := rest) S hM cw ⟨h_blind, h_pre hI hHN⟩ rfl hn hsize rfl (lv_room hWr) hdg hf) hI.2.2.2.1 (fun q _ h => h_mono hI h) (fun q h => h_mono hI h) (fun u t H1 locs1 ht hvm hw hB hz1 hk1 hS => ?_)
  subst hw
  exact kk H1 locs1 (h_back hI ht hvm hB hS he2)
theorem hcall_Si {y : MethodName} {bytes : ByteArray} {maxL nL n mc ms : Nat} {ret : Option FieldType} {ws : List Cond} {rm : Room} {As : List Value} {out : HSt × Int32} {ls : Array Slot} {alc exc ex2 : Prop} (S : CallFix p m c cc nL s args Ts own) (hM : CHi l D cy y ws rm mc ms alc exc As st out) (cw : CallB R s args own index y bytes maxL ret ws rm mc ms n ∧ (Cond.static y).before args s = true) (hI : HI D cy s s0 st H locs cells al ex) (hae : alc → al ∧ ex) (he2 : ex2 → ex ∧ exc) (hn : As.length = n) (hsize : ls.size = nL) (hWr : (rest.map fun v => v.category).sum ≤ 8) (hdg : decode cc pc = .ok (.invokestatic index, 3)) (hf : cells + mc ≤ R.cells ∧ slots + ms ≤ R.slots)
    (kk : ∀ (H1 : Heap) (locs1 : List Loc), HI D cy s s0 out.1 H1 locs1 (cells + mc) al ex2 → W p l e R s m args below meth c H1 locs1 (cells + mc) (slots + ms) Q (F0 m (pc + 3) ls (.int out.2 :: rest))) : W p l e R s m args below meth c H locs cells slots Q (F0 m pc ls (As.reverse ++ rest)) := by
  refine h_sz (fun hz => ?_)
  have hHN : alc → H.size = gN st ∧ hCa s := fun h => ⟨h_exact hI (hae h).1 (hae h).2 hz, (hI.2.2.2.2.2.2.1.2 (hae h).1).2⟩
  refine va_calli (va_runS (As := As) (rest := rest) S hM cw ⟨h_blind, h_pre hI hHN⟩ rfl hn hsize rfl (lv_room hWr) hdg hf) hI.2.2.2.1 (fun q _ h => h_mono hI h) (fun q h => h_mono hI h) (fun r u t H1 locs1 ht hvm hw hB hz1 hk1 hS => ?_)
  obtain ⟨hw1, hw2⟩ := hw
  subst hw1; subst hw2
  exact kk H1 locs1 (h_back hI ht hvm hB hS he2)
theorem hcall_Sl {y : MethodName} {bytes : ByteArray} {maxL nL n mc ms : Nat} {ret : Option FieldType} {ws : List Cond} {rm : Room} {As : List Value} {out : HSt × Int64} {ls : Array Slot} {alc exc ex2 : Prop} (S : CallFix p m c cc nL s args Ts own) (hM : CHl l D cy y ws rm mc ms alc exc As st out) (cw : CallB R s args own index y bytes maxL ret ws rm mc ms n ∧ (Cond.static y).before args s = true) (hI : HI D cy s s0 st H locs cells al ex) (hae : alc → al ∧ ex) (he2 : ex2 → ex ∧ exc) (hn : As.length = n) (hsize : ls.size = nL) (hWr : (rest.map fun v => v.category).sum ≤ 8) (hdg : decode cc pc = .ok (.invokestatic index, 3)) (hf : cells + mc ≤ R.cells ∧ slots + ms ≤ R.slots)
    (kk : ∀ (H1 : Heap) (locs1 : List Loc), HI D cy s s0 out.1 H1 locs1 (cells + mc) al ex2 → W p l e R s m args below meth c H1 locs1 (cells + mc) (slots + ms) Q (F0 m (pc + 3) ls (.long out.2 :: rest))) : W p l e R s m args below meth c H locs cells slots Q (F0 m pc ls (As.reverse ++ rest)) := by
  refine h_sz (fun hz => ?_)
  have hHN : alc → H.size = gN st ∧ hCa s := fun h => ⟨h_exact hI (hae h).1 (hae h).2 hz, (hI.2.2.2.2.2.2.1.2 (hae h).1).2⟩
  refine va_calll (va_runS (As := As) (rest := rest) S hM cw ⟨h_blind, h_pre hI hHN⟩ rfl hn hsize rfl (lv_room hWr) hdg hf) hI.2.2.2.1 (fun q _ h => h_mono hI h) (fun q h => h_mono hI h) (fun r u t H1 locs1 ht hvm hw hB hz1 hk1 hS => ?_)
  obtain ⟨hw1, hw2⟩ := hw
  subst hw1; subst hw2
  exact kk H1 locs1 (h_back hI ht hvm hB hS he2)
theorem hcall_Sq {y : MethodName} {bytes : ByteArray} {maxL nL n mc ms : Nat} {ret : Option FieldType} {ws : List Cond} {rm : Room} {As : List Value} {out : HSt × Option Nat} {ls : Array Slot} {alc exc ex2 : Prop} (S : CallFix p m c cc nL s args Ts own) (hM : CHq l D cy y ws rm mc ms alc exc As st out) (cw : CallB R s args own index y bytes maxL ret ws rm mc ms n ∧ (Cond.static y).before args s = true) (hI : HI D cy s s0 st H locs cells al ex) (hae : alc → al ∧ ex) (he2 : ex2 → ex ∧ exc) (hn : As.length = n) (hsize : ls.size = nL) (hWr : (rest.map fun v => v.category).sum ≤ 8) (hdg : decode cc pc = .ok (.invokestatic index, 3)) (hf : cells + mc ≤ R.cells ∧ slots + ms ≤ R.slots)
    (kk : ∀ (H1 : Heap) (locs1 : List Loc), HI D cy s s0 out.1 H1 locs1 (cells + mc) al ex2 → W p l e R s m args below meth c H1 locs1 (cells + mc) (slots + ms) Q (F0 m (pc + 3) ls (va_rf out.2 :: rest))) : W p l e R s m args below meth c H locs cells slots Q (F0 m pc ls (As.reverse ++ rest)) := by
  refine h_sz (fun hz => ?_)
  have hHN : alc → H.size = gN st ∧ hCa s := fun h => ⟨h_exact hI (hae h).1 (hae h).2 hz, (hI.2.2.2.2.2.2.1.2 (hae h).1).2⟩
  refine va_callq (va_runS (As := As) (rest := rest) S hM cw ⟨h_blind, h_pre hI hHN⟩ rfl hn hsize rfl (lv_room hWr) hdg hf) hI.2.2.2.1 (fun q _ h => h_mono hI h) (fun q h => h_mono hI h) (fun r u t H1 locs1 ht hvm hw hB hz1 hk1 hS => ?_)
  obtain ⟨hw1, hw2⟩ := hw
  subst hw1; subst hw2
  exact kk H1 locs1 (h_back hI ht hvm hB hS he2)
theorem hcall_Ti {y : MethodName} {bytes : ByteArray} {maxL nL n mc ms : Nat} {ret : Option FieldType} {ws : List Cond} {rm : Room} {As : List Value} {out : HSt × Int32} {ls : Array Slot} {alc exc ex2 : Prop} {h : Nat} (hh : h < 23) (S : CallFix p m c cc nL s args Ts own) (hM : CHi l D cy y ws rm mc ms alc exc (.ref (cy (100 + h)) :: As) st out) (cw : CallW R s args own "java/lang/String" index y bytes maxL ret ws rm mc ms n) (hI : HI D cy s s0 st H locs cells al ex) (hae : alc → al ∧ ex) (he2 : ex2 → ex ∧ exc) (hn : As.length = n) (hsize : ls.size = nL) (hWr : (rest.map fun v => v.category).sum ≤ 8) (hdg : decode cc pc = .ok (.invokevirtual index, 3)) (hf : cells + mc ≤ R.cells ∧ slots + ms ≤ R.slots)
    (kk : ∀ (H1 : Heap) (locs1 : List Loc), HI D cy s s0 out.1 H1 locs1 (cells + mc) al ex2 → W p l e R s m args below meth c H1 locs1 (cells + mc) (slots + ms) Q (F0 m (pc + 3) ls (.int out.2 :: rest))) : W p l e R s m args below meth c H locs cells slots Q (F0 m pc ls (As.reverse ++ .ref (cy (100 + h)) :: rest)) := by
  refine h_sz (fun hz => ?_)
  have hHN : alc → H.size = gN st ∧ hCa s := fun h => ⟨h_exact hI (hae h).1 (hae h).2 hz, (hI.2.2.2.2.2.2.1.2 (hae h).1).2⟩
  refine va_calli (va_runV (As := As) (rest := rest) S hM cw ⟨h_blind, vk_recv hI.2.2.2.2.2.2.1.1.2.1 hh hI.2.2.2.1, h_pre hI hHN⟩ rfl hn hsize rfl (lv_room hWr) hdg hf) hI.2.2.2.1 (fun q _ h => h_mono hI h) (fun q h => h_mono hI h) (fun r u t H1 locs1 ht hvm hw hB hz1 hk1 hS => ?_)
  obtain ⟨hw1, hw2⟩ := hw
  subst hw1; subst hw2
  exact kk H1 locs1 (h_back hI ht hvm hB hS he2)
theorem h_copy {a0 a : Nat} {sp dp n : Int32} (hx : p.tables.exec = Jvm.exec) (hb : c.code = cc) (hml : c.maxLocals = ls.size) (hown : s.vm.findClass own = some m.cls) (hlink : (Cond.methodLink own index arraycopyName).before args s = true) (hnat : (Cond.native arraycopyName).before args s = true) (hstat : (Cond.static arraycopyName).before args s = true) (hini : (Cond.initialized "java/lang/System").before args s = true) (hI : HI D cy s s0 st H locs cells al ex) (hk0 : gK st a0 = 22) (hk : gK st a = 22) (hok : cpyok sp dp n (gL st a0) (gL st a) = true) (hframes : 1 ≤ R.frames) (hlocals : (rest.map fun v => v.category).sum + (nativeFrameWords "java/lang/System" "arraycopy" 5 + 11) ≤ R.locals) (hdg : decode cc pc = .ok (.invokestatic index, 3)) (kk : ∀ (H1 : Heap) (locs1 : List Loc), HI D cy s s0 (sAf st a (va_cpy (gA st a0) (gA st a) sp.toNatClampNeg dp.toNatClampNeg n.toNatClampNeg)) H1 locs1 cells al ex → W p l e R s m args below meth c H1 locs1 cells slots Q (F0 m (pc + 3) ls rest)) : W p l e R s m args below meth c H locs cells slots Q (F0 m pc ls (.int n :: .int dp :: .ref a :: .int sp :: .ref a0 :: rest)) := by
  have hkn : gK st a ≠ 0 := by rw [hk]; decide
  have hkn0 : gK st a0 ≠ 0 := by rw [hk0]; decide
  obtain ⟨k, hk1⟩ := h_at hI hkn
  obtain ⟨k0, hk01⟩ := h_at hI hkn0
  have hk2 := hk1
  rw [hC_22 hk] at hk2
  rw [hC_22 hk0] at hk01
  obtain ⟨h1, h2, h3, h4, h5⟩ : ¬ sp < 0 ∧ ¬ dp < 0 ∧ ¬ n < 0 ∧ sp.toNatClampNeg + n.toNatClampNeg ≤ gL st a0 ∧ dp.toNatClampNeg + n.toNatClampNeg ≤ gL st a := of_decide_eq_true hok
  refine va_copyi hx hb hml hown hlink hnat hstat hini hI.1 hI.2.1 hI.2.2.1 (h_S hI) k0 k 1 1 hk01 hk2 rfl rfl rfl h1 h2 h3 h4 h5 (fun _ _ => rfl) hframes hlocals hdg (fun H1 locs1 q1 q2 q3 => kk H1 locs1 (h_upd hI hkn hk1 rfl rfl (fun _ => rfl) ?_ ?_ q1 q2 q3))
  · rw [hC_22 (st := sAf st a (va_cpy (gA st a0) (gA st a) sp.toNatClampNeg dp.toNatClampNeg n.toNatClampNeg)) (a := a) hk]
    simp [sAf, va_up, gA, gL]
  · intro b hb2
    exact hC_ext (fun _ => rfl) (fun _ => rfl) (if_neg hb2) rfl rfl rfl rfl
end HROWS2
