def fl0 (st : HSt) (a : Nat) : List Value := [va_rf (gR st 0 a), va_rf (gR st 1 a), va_rf (gR st 2 a), .int (gI st 3 a), .int (gI st 4 a), .int (gI st 5 a), va_rf (gR st 6 a), va_rf (gR st 7 a), .int (gI st 8 a), .int (gI st 9 a), va_rf (gR st 10 a)]
def fl1 (st : HSt) (a : Nat) : List Value := [.int (gI st 100 a), .int (gI st 101 a), va_rf (gR st 102 a), va_rf (gR st 103 a), va_rf (gR st 104 a), va_rf (gR st 105 a), va_rf (gR st 106 a), va_rf (gR st 107 a), .int (gI st 108 a), .int (gI st 109 a), .int (gI st 110 a), .int (gI st 111 a)]
def fl2 (st : HSt) (a : Nat) : List Value := [.int (gI st 200 a), va_rf (gR st 201 a), va_rf (gR st 202 a), va_rf (gR st 203 a), va_rf (gR st 204 a), va_rf (gR st 205 a), va_rf (gR st 206 a), va_rf (gR st 207 a), va_rf (gR st 208 a), .int (gI st 209 a), .int (gI st 210 a)]
def fl3 (st : HSt) (a : Nat) : List Value := [va_rf (gR st 300 a), va_rf (gR st 301 a)]
def fl4 (st : HSt) (a : Nat) : List Value := [.int (gI st 400 a), .int (gI st 401 a), .int (gI st 402 a), .int (gI st 403 a), va_rf (gR st 404 a), va_rf (gR st 405 a), va_rf (gR st 406 a), va_rf (gR st 407 a), va_rf (gR st 408 a)]
def fl5 (st : HSt) (a : Nat) : List Value := [va_rf (gR st 500 a), .int (gI st 501 a), .int (gI st 502 a)]
def fl6 (st : HSt) (a : Nat) : List Value := [.int (gI st 600 a), va_rf (gR st 601 a), va_rf (gR st 602 a), va_rf (gR st 603 a), va_rf (gR st 604 a)]
def fl7 (st : HSt) (a : Nat) : List Value := [va_rf (gR st 700 a), va_rf (gR st 701 a), va_rf (gR st 702 a), va_rf (gR st 703 a), va_rf (gR st 704 a), .int (gI st 705 a), .int (gI st 706 a)]
def fl8 (st : HSt) (a : Nat) : List Value := [va_rf (gR st 800 a), .int (gI st 801 a), .int (gI st 802 a), va_rf (gR st 803 a), va_rf (gR st 804 a)]
def fl9 (st : HSt) (a : Nat) : List Value := [va_rf (gR st 900 a), .int (gI st 901 a), va_rf (gR st 902 a), va_rf (gR st 903 a), va_rf (gR st 904 a)]
def fl10 (st : HSt) (a : Nat) : List Value := [va_rf (gR st 1000 a), va_rf (gR st 1001 a), va_rf (gR st 1002 a), .int (gI st 1003 a), .int (gI st 1004 a), .int (gI st 1005 a)]
def fl11 (st : HSt) (a : Nat) : List Value := [va_rf (gR st 1100 a), .int (gI st 1101 a), va_rf (gR st 1102 a), .int (gI st 1103 a), va_rf (gR st 1104 a), va_rf (gR st 1105 a), va_rf (gR st 1106 a), va_rf (gR st 1107 a), va_rf (gR st 1108 a), va_rf (gR st 1109 a)]
def hC (cy : Nat → ClassId) (st : HSt) (a : Nat) : va_E := if gK st a = 1 then .inr (0, fl0 st a) else if gK st a = 2 then .inr (1, fl1 st a) else if gK st a = 3 then .inr (2, fl2 st a) else if gK st a = 4 then .inr (3, fl3 st a) else if gK st a = 5 then .inr (4, fl4 st a) else if gK st a = 6 then .inr (5, fl5 st a) else if gK st a = 7 then .inr (6, fl6 st a) else if gK st a = 8 then .inr (7, fl7 st a) else if gK st a = 9 then .inr (8, fl8 st a) else if gK st a = 10 then .inr (9, fl9 st a) else if gK st a = 11 then .inr (10, fl10 st a) else if gK st a = 12 then .inr (11, fl11 st a) else if gK st a = 21 then .inl (cy 0, gL st a, .inl (gA st a)) else if gK st a = 22 then .inl (cy 1, gL st a, .inl (gA st a)) else if gK st a = 23 then .inl (cy 2, gL st a, .inr (.inl (gJ st a))) else if gK st a = 24 then .inl (cy 3, gL st a, .inl (gA st a)) else if gK st a = 25 then .inl (cy 4, gL st a, .inr (.inr (.inr (.inr (gQ st a))))) else if gK st a = 26 then .inl (cy 5, gL st a, .inr (.inr (.inr (.inr (gQ st a))))) else if gK st a = 27 then .inl (cy 6, gL st a, .inr (.inr (.inr (.inr (gQ st a))))) else .inr (0, [])
theorem hC_1 {cy : Nat → ClassId} {st : HSt} {a : Nat} (h : gK st a = 1) : hC cy st a = .inr (0, fl0 st a) := by simp [hC, h]
theorem hC_2 {cy : Nat → ClassId} {st : HSt} {a : Nat} (h : gK st a = 2) : hC cy st a = .inr (1, fl1 st a) := by simp [hC, h]
theorem hC_3 {cy : Nat → ClassId} {st : HSt} {a : Nat} (h : gK st a = 3) : hC cy st a = .inr (2, fl2 st a) := by simp [hC, h]
theorem hC_4 {cy : Nat → ClassId} {st : HSt} {a : Nat} (h : gK st a = 4) : hC cy st a = .inr (3, fl3 st a) := by simp [hC, h]
theorem hC_5 {cy : Nat → ClassId} {st : HSt} {a : Nat} (h : gK st a = 5) : hC cy st a = .inr (4, fl4 st a) := by simp [hC, h]
theorem hC_6 {cy : Nat → ClassId} {st : HSt} {a : Nat} (h : gK st a = 6) : hC cy st a = .inr (5, fl5 st a) := by simp [hC, h]
theorem hC_7 {cy : Nat → ClassId} {st : HSt} {a : Nat} (h : gK st a = 7) : hC cy st a = .inr (6, fl6 st a) := by simp [hC, h]
theorem hC_8 {cy : Nat → ClassId} {st : HSt} {a : Nat} (h : gK st a = 8) : hC cy st a = .inr (7, fl7 st a) := by simp [hC, h]
theorem hC_9 {cy : Nat → ClassId} {st : HSt} {a : Nat} (h : gK st a = 9) : hC cy st a = .inr (8, fl8 st a) := by simp [hC, h]
theorem hC_10 {cy : Nat → ClassId} {st : HSt} {a : Nat} (h : gK st a = 10) : hC cy st a = .inr (9, fl9 st a) := by simp [hC, h]
theorem hC_11 {cy : Nat → ClassId} {st : HSt} {a : Nat} (h : gK st a = 11) : hC cy st a = .inr (10, fl10 st a) := by simp [hC, h]
theorem hC_12 {cy : Nat → ClassId} {st : HSt} {a : Nat} (h : gK st a = 12) : hC cy st a = .inr (11, fl11 st a) := by simp [hC, h]
theorem hC_21 {cy : Nat → ClassId} {st : HSt} {a : Nat} (h : gK st a = 21) : hC cy st a = .inl (cy 0, gL st a, .inl (gA st a)) := by simp [hC, h]
theorem hC_22 {cy : Nat → ClassId} {st : HSt} {a : Nat} (h : gK st a = 22) : hC cy st a = .inl (cy 1, gL st a, .inl (gA st a)) := by simp [hC, h]
theorem hC_23 {cy : Nat → ClassId} {st : HSt} {a : Nat} (h : gK st a = 23) : hC cy st a = .inl (cy 2, gL st a, .inr (.inl (gJ st a))) := by simp [hC, h]
theorem hC_24 {cy : Nat → ClassId} {st : HSt} {a : Nat} (h : gK st a = 24) : hC cy st a = .inl (cy 3, gL st a, .inl (gA st a)) := by simp [hC, h]
theorem hC_25 {cy : Nat → ClassId} {st : HSt} {a : Nat} (h : gK st a = 25) : hC cy st a = .inl (cy 4, gL st a, .inr (.inr (.inr (.inr (gQ st a))))) := by simp [hC, h]
theorem hC_26 {cy : Nat → ClassId} {st : HSt} {a : Nat} (h : gK st a = 26) : hC cy st a = .inl (cy 5, gL st a, .inr (.inr (.inr (.inr (gQ st a))))) := by simp [hC, h]
theorem hC_27 {cy : Nat → ClassId} {st : HSt} {a : Nat} (h : gK st a = 27) : hC cy st a = .inl (cy 6, gL st a, .inr (.inr (.inr (.inr (gQ st a))))) := by simp [hC, h]
theorem hC_ext {cy : Nat → ClassId} {st st2 : HSt} {b : Nat} (h1 : ∀ f, gI st2 f b = gI st f b) (h2 : ∀ f, gR st2 f b = gR st f b) (h3 : gA st2 b = gA st b) (h4 : gJ st2 b = gJ st b) (h5 : gQ st2 b = gQ st b) (h6 : gL st2 b = gL st b) (h7 : gK st2 b = gK st b) : hC cy st2 b = hC cy st b := by
  simp only [hC, fl0, fl1, fl2, fl3, fl4, fl5, fl6, fl7, fl8, fl9, fl10, fl11, h1, h2, h3, h4, h5, h6, h7]
theorem up2_ne {α : Type} {I : Nat → Nat → α} {f f2 a b : Nat} {v : α} (h : b ≠ a) : va_up I f (va_up (I f) a v) f2 b = I f2 b := by
  unfold va_up
  by_cases hf : f2 = f
  · subst hf; simp [h]
  · simp [hf]
theorem up2_self {α : Type} {I : Nat → Nat → α} {f a : Nat} {v : α} : va_up I f (va_up (I f) a v) f a = v := by simp [va_up]
def hT (cy : Nat → ClassId) : List (ClassId × FieldType) := [(cy 0, .byte), (cy 1, .int), (cy 2, .long), (cy 3, .boolean), (cy 4, .object "HalfBridge$Rule"), (cy 5, .object "HalfBridge$Site"), (cy 6, .object "HalfBridge$Span")]
def SF (cy : Nat → ClassId) (A : Nat → Prop) (U : State) (H : Heap) : Prop := vk_S 23 sLen sByt (fun i => cy (100 + i)) (fun i => cy (200 + i)) A U H ∧ (∀ i, i < 23 → vk_R RX10 (sIdx.getD i 0) (sTxt.getD i "") (cy (100 + i)) U) ∧ va_Z "java/lang/String" "COMPACT_STRINGS" "Z" (.int 1) A U H ∧ va_Zq "jdk/internal/util/Preconditions" "SIOOBE_FORMATTER" "Ljava/util/function/BiFunction;" A U H
theorem SF.warm {cy : Nat → ClassId} {A : Nat → Prop} {s U : State} {H : Heap} (hW : s.WarmedH U.vm) (h : SF cy A s H) : SF cy A U H := ⟨vk_S.moved hW.alike h.1, fun i hi => vk_R.warm hW (h.2.1 i hi), va_Z.moved hW.alike h.2.2.1, va_Zq.moved hW.alike h.2.2.2⟩
theorem SF.kept {cy : Nat → ClassId} {A : Nat → Prop} {U : State} {H H1 : Heap} (h : SF cy A U H) (hq : ∀ a : Nat, a < H.size → ¬ A a → H1[a]? = H[a]?) : SF cy A U H1 := ⟨h.1.kept hq, h.2.1, h.2.2.1.kept hq, h.2.2.2.kept hq⟩
theorem SF.narrow {cy : Nat → ClassId} {A B : Nat → Prop} {U : State} {H : Heap} (h : SF cy A U H) (hAB : ∀ q, B q → A q) : SF cy B U H := ⟨h.1.narrow hAB, h.2.1, h.2.2.1.narrow hAB, h.2.2.2.narrow hAB⟩
def hCa (s : State) : Prop := va_Nw (.castable "[I" "java/lang/Cloneable") s ∧ va_AO "HalfBridge$Rule" s ∧ va_AO "HalfBridge$Site" s ∧ va_AO "HalfBridge$Span" s
theorem hCa.warm {s U : State} (hW : s.WarmedH U.vm) (h : hCa s) : hCa U := ⟨va_Nw.warmC hW h.1, va_AO.moved hW.alike h.2.1, va_AO.moved hW.alike h.2.2.1, va_AO.moved hW.alike h.2.2.2⟩
def hF (s0 : HSt) : Nat → Prop := fun q => q ∈ gX s0 ∨ gN s0 ≤ q
abbrev hW (cy : Nat → ClassId) (st : HSt) : va_W := va_pl (gX st) (hC cy st)
def HI (D : va_G) (cy : Nat → ClassId) (s : State) (s0 st : HSt) (H : Heap) (locs : List Loc) (cells : Nat) (al ex : Prop) : Prop :=
  va_K D vwCl (hT cy) s ∧ va_P D vwCl (hW cy st) H ∧ va_D (hF s0) (hW cy st) ∧ va_S (hF s0) s.heap H locs ∧ gN st ≤ H.size ∧ (∀ a, gK st a ≠ 0 → a ∈ gX st) ∧ ((gN s0 ≤ s.heap.size ∧ SF cy (hF s0) s s.heap) ∧ (al → s.heap.size = gN s0 ∧ hCa s)) ∧ (ex → gN st = gN s0 + cells) ∧ gN s0 ≤ gN st
def HPre (D : va_G) (cy : Nat → ClassId) (av : List Value) (st : HSt) (al : Prop) : Array Value → State → Prop := va_Pc av (fun U => va_P D vwCl (hW cy st) U.heap ∧ va_K D vwCl (hT cy) U ∧ va_D (fun _ => True) (hW cy st) ∧ (∀ a, gK st a ≠ 0 → a ∈ gX st) ∧ (gN st ≤ U.heap.size ∧ SF cy (hF st) U U.heap) ∧ (al → U.heap.size = gN st ∧ hCa U))
def HAt (D : va_G) (cy : Nat → ClassId) (s0 : HSt) (mc : Nat) (ex : Prop) (u : HSt) (t : State) : Prop := va_P D vwCl (hW cy u) t.heap ∧ va_K D vwCl (hT cy) t ∧ va_D (hF s0) (hW cy u) ∧ gN u ≤ t.heap.size ∧ (∀ a, gK u a ≠ 0 → a ∈ gX u) ∧ (ex → gN u = gN s0 + mc) ∧ gN s0 ≤ gN u
abbrev HQv (D : va_G) (cy : Nat → ClassId) (s0 : HSt) (mc : Nat) (ex : Prop) (out : HSt) : Array Value → State → Outcome → State → Prop := va_Qv (fun (u : HSt) => u = out) (HAt D cy s0 mc ex) (hF s0)
abbrev HQi (D : va_G) (cy : Nat → ClassId) (s0 : HSt) (mc : Nat) (ex : Prop) (out : HSt × Int32) : Array Value → State → Outcome → State → Prop := va_Qi (fun r (u : HSt) => r = out.2 ∧ u = out.1) (HAt D cy s0 mc ex) (hF s0)
abbrev HQl (D : va_G) (cy : Nat → ClassId) (s0 : HSt) (mc : Nat) (ex : Prop) (out : HSt × Int64) : Array Value → State → Outcome → State → Prop := va_Ql (fun r (u : HSt) => r = out.2 ∧ u = out.1) (HAt D cy s0 mc ex) (hF s0)
abbrev HQq (D : va_G) (cy : Nat → ClassId) (s0 : HSt) (mc : Nat) (ex : Prop) (out : HSt × Option Nat) : Array Value → State → Outcome → State → Prop := va_Qq (fun r (u : HSt) => r = out.2 ∧ u = out.1) (HAt D cy s0 mc ex) (hF s0)
abbrev CHv (l : Launch) (D : va_G) (cy : Nat → ClassId) (y : MethodName) (ws : List Cond) (rm : Room) (mc ms : Nat) (al ex : Prop) (av : List Value) (s0 : HSt) (out : HSt) : Prop := Met l y ws rm (HPre D cy av s0 al) (HQv D cy s0 mc ex out) mc ms (hF s0)
abbrev CHi (l : Launch) (D : va_G) (cy : Nat → ClassId) (y : MethodName) (ws : List Cond) (rm : Room) (mc ms : Nat) (al ex : Prop) (av : List Value) (s0 : HSt) (out : HSt × Int32) : Prop := Met l y ws rm (HPre D cy av s0 al) (HQi D cy s0 mc ex out) mc ms (hF s0)
abbrev CHl (l : Launch) (D : va_G) (cy : Nat → ClassId) (y : MethodName) (ws : List Cond) (rm : Room) (mc ms : Nat) (al ex : Prop) (av : List Value) (s0 : HSt) (out : HSt × Int64) : Prop := Met l y ws rm (HPre D cy av s0 al) (HQl D cy s0 mc ex out) mc ms (hF s0)
abbrev CHq (l : Launch) (D : va_G) (cy : Nat → ClassId) (y : MethodName) (ws : List Cond) (rm : Room) (mc ms : Nat) (al ex : Prop) (av : List Value) (s0 : HSt) (out : HSt × Option Nat) : Prop := Met l y ws rm (HPre D cy av s0 al) (HQq D cy s0 mc ex out) mc ms (hF s0)
section HROWS
variable {p : Program} {l : Launch} {e : Env} {R : Room} {s : State} {m : MethodId} {args : Array Value} {below : List Frame} {meth : Method} {c : Code} {H : Heap} {locs : List Loc} {cells slots : Nat} {Q : State → Prop}
variable {cc : ByteArray} {pc : Nat} {ls : Array Slot} {rest : List Value} {D : va_G} {cy : Nat → ClassId} {s0 st : HSt} {Ts : List Cond} {al ex : Prop} {own : String} {index : Nat}
theorem h_sz (k : H.size ≤ s.heap.size + cells → W p l e R s m args below meth c H locs cells slots Q (F0 m pc ls rest)) : W p l e R s m args below meth c H locs cells slots Q (F0 m pc ls rest) := fun T hT X => k (by rw [← hT]; exact X.heapSize) T hT X
theorem h_weak {cells2 : Nat} (hI : HI D cy s s0 st H locs cells al ex) : HI D cy s s0 st H locs cells2 al False := ⟨hI.1, hI.2.1, hI.2.2.1, hI.2.2.2.1, hI.2.2.2.2.1, hI.2.2.2.2.2.1, hI.2.2.2.2.2.2.1, fun h => h.elim, hI.2.2.2.2.2.2.2.2⟩
theorem h_mem {a : Nat} (hI : HI D cy s s0 st H locs cells al ex) (h : gK st a ≠ 0) : a ∈ gX st := hI.2.2.2.2.2.1 a h
theorem h_at {a : Nat} (hI : HI D cy s s0 st H locs cells al ex) (h : gK st a ≠ 0) : ∃ k : Nat, (hW cy st)[k]? = some (a, hC cy st a) := va_pl_get (X := []) (h_mem hI h)
theorem h_upd {a k : Nat} {e2 : va_E} {st2 : HSt} {H1 : Heap} {locs1 : List Loc} (hI : HI D cy s s0 st H locs cells al ex) (ha : gK st a ≠ 0) (hk : (hW cy st)[k]? = some (a, hC cy st a)) (hX : gX st2 = gX st) (hN : gN st2 = gN st) (hKe : ∀ b, gK st2 b = gK st b) (hself : e2 = hC cy st2 a) (hne : ∀ b, b ≠ a → hC cy st2 b = hC cy st b) (q1 : va_P D vwCl ((hW cy st).set k (a, e2)) H1) (q2 : va_D (hF s0) ((hW cy st).set k (a, e2))) (q3 : va_S (hF s0) H H1 locs1) : HI D cy s s0 st2 H1 locs1 cells al ex := by
  have hset : (hW cy st).set k (a, e2) = hW cy st2 := by
    have h1 := va_pl_set (X := []) (e := e2) hI.2.2.1 (h_mem hI ha) hk
    have h2 : va_pl (gX st) (va_up (hC cy st) a e2) = va_pl (gX st) (hC cy st2) := va_pl_congr (fun b => by
      by_cases hb : b = a
      · subst hb; rw [hself]; exact va_up_self _ _ _
      · rw [hne b hb]; exact if_neg hb)
    show (va_pl (gX st) (hC cy st)).set k (a, e2) = va_pl (gX st2) (hC cy st2)
    rw [hX]
    exact h1.trans h2
  rw [hset] at q1 q2
  have hS := hI.2.2.2.1
  refine ⟨hI.1, q1, q2, ⟨Nat.le_trans hS.1 q3.1, fun q h1 h2 => (q3.2.1 q (Nat.lt_of_lt_of_le h1 hS.1) h2).trans (hS.2.1 q h1 h2), q3.2.2⟩, ?_, ?_, hI.2.2.2.2.2.2.1, ?_, ?_⟩
  · rw [hN]; exact Nat.le_trans hI.2.2.2.2.1 q3.1
  · intro b hb; rw [hX]; rw [hKe] at hb; exact hI.2.2.2.2.2.1 b hb
  · rw [hN]; exact hI.2.2.2.2.2.2.2.1
  · rw [hN]; exact hI.2.2.2.2.2.2.2.2
theorem h_S (hI : HI D cy s s0 st H locs cells al ex) : va_S (hF s0) H H locs := ⟨Nat.le_refl _, fun _ _ _ => rfl, hI.2.2.2.1.2.2⟩
theorem hg_0_0 {a : Nat} (hx : p.tables.exec = Jvm.exec) (hb : c.code = cc) (hts : ∀ w ∈ Ts, w.before args s = true) (hin : ∀ w ∈ u_ws RX0 TX0 11, w ∈ Ts) (hown : s.vm.findClass own = some m.cls) (hlk : Cond.fieldLink own index "HalfBridge$Foresight" "looker" "LHalfBridge$Looker;" ∈ Ts) (hI : HI D cy s s0 st H locs cells al ex) (hk : gK st a = 1) (hdg : decode cc pc = .ok (.getfield index, 3)) (kk : W p l e R s m args below meth c H locs cells slots Q (F0 m (pc + 3) ls (va_rf (gR st 0 a) :: rest))) : W p l e R s m args below meth c H locs cells slots Q (F0 m pc ls (.ref a :: rest)) := by
  obtain ⟨k, hk2⟩ := h_at hI (by rw [hk]; decide)
  rw [hC_1 hk] at hk2
  exact va_get (D := D) (ci := 0) (v := va_rf (gR st 0 a)) (C := RX0) (T := TX0) (N := 11) hx hb hts hin hown hI.1 hI.2.1 k hk2 rfl 0 (by decide) (hts _ hlk) (fun _ h9 => h9) rfl hdg kk
theorem hp_0_0 {a : Nat} (hx : p.tables.exec = Jvm.exec) (hb : c.code = cc) (hts : ∀ w ∈ Ts, w.before args s = true) (hin : ∀ w ∈ u_ws RX0 TX0 11, w ∈ Ts) (hown : s.vm.findClass own = some m.cls) (hlk : Cond.fieldLink own index "HalfBridge$Foresight" "looker" "LHalfBridge$Looker;" ∈ Ts) (hI : HI D cy s s0 st H locs cells al ex) (hk : gK st a = 1) {x : Option Nat} (hin2 : meth.name = "<init>") (hdecl : "HalfBridge$Foresight" = own) (hdg : decode cc pc = .ok (.putfield index, 3)) (kk : ∀ (H1 : Heap) (locs1 : List Loc), HI D cy s s0 (sR st 0 a x) H1 locs1 cells al ex → W p l e R s m args below meth c H1 locs1 cells slots Q (F0 m (pc + 3) ls rest)) : W p l e R s m args below meth c H locs cells slots Q (F0 m pc ls (va_rf x :: .ref a :: rest)) := by
  have hk0 : gK st a ≠ 0 := by rw [hk]; decide
  obtain ⟨k, hk1⟩ := h_at hI hk0
  have hk2 := hk1
  rw [hC_1 hk] at hk2
  refine va_putF (D := D) (ci := 0) (v := va_rf x) (ty := (.object "HalfBridge$Looker")) (C := RX0) (T := TX0) (N := 11) hx hb hts hin tyX0 tyX0_ok nmX0 hown hI.1 hI.2.1 hI.2.2.1 (h_S hI) k hk2 rfl 0 (by decide) (hts _ hlk) (fun _ h9 => h9) rfl hin2 hdecl (by decide +kernel) (by cases x <;> rfl) (by cases x <;> rfl) (by show 0 < (fl0 st a).length; exact Nat.le_of_ble_eq_true rfl) hdg (fun H1 locs1 q1 q2 q3 => kk H1 locs1 (h_upd hI hk0 hk1 rfl rfl (fun _ => rfl) ?_ ?_ q1 q2 q3))
  · rw [hC_1 (st := (sR st 0 a x)) (a := a) hk]
    simp [fl0, sR, va_up, gI, gR]
  · intro b hb
    exact hC_ext (fun _ => rfl) (fun f => up2_ne hb) rfl rfl rfl rfl rfl
theorem hg_0_1 {a : Nat} (hx : p.tables.exec = Jvm.exec) (hb : c.code = cc) (hts : ∀ w ∈ Ts, w.before args s = true) (hin : ∀ w ∈ u_ws RX0 TX0 11, w ∈ Ts) (hown : s.vm.findClass own = some m.cls) (hlk : Cond.fieldLink own index "HalfBridge$Foresight" "hand" "LHalfBridge$FreeHand;" ∈ Ts) (hI : HI D cy s s0 st H locs cells al ex) (hk : gK st a = 1) (hdg : decode cc pc = .ok (.getfield index, 3)) (kk : W p l e R s m args below meth c H locs cells slots Q (F0 m (pc + 3) ls (va_rf (gR st 1 a) :: rest))) : W p l e R s m args below meth c H locs cells slots Q (F0 m pc ls (.ref a :: rest)) := by
  obtain ⟨k, hk2⟩ := h_at hI (by rw [hk]; decide)
  rw [hC_1 hk] at hk2
  exact va_get (D := D) (ci := 0) (v := va_rf (gR st 1 a)) (C := RX0) (T := TX0) (N := 11) hx hb hts hin hown hI.1 hI.2.1 k hk2 rfl 1 (by decide) (hts _ hlk) (fun _ h9 => h9) rfl hdg kk
theorem hp_0_1 {a : Nat} (hx : p.tables.exec = Jvm.exec) (hb : c.code = cc) (hts : ∀ w ∈ Ts, w.before args s = true) (hin : ∀ w ∈ u_ws RX0 TX0 11, w ∈ Ts) (hown : s.vm.findClass own = some m.cls) (hlk : Cond.fieldLink own index "HalfBridge$Foresight" "hand" "LHalfBridge$FreeHand;" ∈ Ts) (hI : HI D cy s s0 st H locs cells al ex) (hk : gK st a = 1) {x : Option Nat} (hin2 : meth.name = "<init>") (hdecl : "HalfBridge$Foresight" = own) (hdg : decode cc pc = .ok (.putfield index, 3)) (kk : ∀ (H1 : Heap) (locs1 : List Loc), HI D cy s s0 (sR st 1 a x) H1 locs1 cells al ex → W p l e R s m args below meth c H1 locs1 cells slots Q (F0 m (pc + 3) ls rest)) : W p l e R s m args below meth c H locs cells slots Q (F0 m pc ls (va_rf x :: .ref a :: rest)) := by
  have hk0 : gK st a ≠ 0 := by rw [hk]; decide
  obtain ⟨k, hk1⟩ := h_at hI hk0
  have hk2 := hk1
  rw [hC_1 hk] at hk2
  refine va_putF (D := D) (ci := 0) (v := va_rf x) (ty := (.object "HalfBridge$FreeHand")) (C := RX0) (T := TX0) (N := 11) hx hb hts hin tyX0 tyX0_ok nmX0 hown hI.1 hI.2.1 hI.2.2.1 (h_S hI) k hk2 rfl 1 (by decide) (hts _ hlk) (fun _ h9 => h9) rfl hin2 hdecl (by decide +kernel) (by cases x <;> rfl) (by cases x <;> rfl) (by show 1 < (fl0 st a).length; exact Nat.le_of_ble_eq_true rfl) hdg (fun H1 locs1 q1 q2 q3 => kk H1 locs1 (h_upd hI hk0 hk1 rfl rfl (fun _ => rfl) ?_ ?_ q1 q2 q3))
  · rw [hC_1 (st := (sR st 1 a x)) (a := a) hk]
    simp [fl0, sR, va_up, gI, gR]
  · intro b hb
    exact hC_ext (fun _ => rfl) (fun f => up2_ne hb) rfl rfl rfl rfl rfl
theorem hg_0_2 {a : Nat} (hx : p.tables.exec = Jvm.exec) (hb : c.code = cc) (hts : ∀ w ∈ Ts, w.before args s = true) (hin : ∀ w ∈ u_ws RX0 TX0 11, w ∈ Ts) (hown : s.vm.findClass own = some m.cls) (hlk : Cond.fieldLink own index "HalfBridge$Foresight" "inquest" "LHalfBridge$Inquest;" ∈ Ts) (hI : HI D cy s s0 st H locs cells al ex) (hk : gK st a = 1) (hdg : decode cc pc = .ok (.getfield index, 3)) (kk : W p l e R s m args below meth c H locs cells slots Q (F0 m (pc + 3) ls (va_rf (gR st 2 a) :: rest))) : W p l e R s m args below meth c H locs cells slots Q (F0 m pc ls (.ref a :: rest)) := by
  obtain ⟨k, hk2⟩ := h_at hI (by rw [hk]; decide)
  rw [hC_1 hk] at hk2
  exact va_get (D := D) (ci := 0) (v := va_rf (gR st 2 a)) (C := RX0) (T := TX0) (N := 11) hx hb hts hin hown hI.1 hI.2.1 k hk2 rfl 2 (by decide) (hts _ hlk) (fun _ h9 => h9) rfl hdg kk
theorem hp_0_2 {a : Nat} (hx : p.tables.exec = Jvm.exec) (hb : c.code = cc) (hts : ∀ w ∈ Ts, w.before args s = true) (hin : ∀ w ∈ u_ws RX0 TX0 11, w ∈ Ts) (hown : s.vm.findClass own = some m.cls) (hlk : Cond.fieldLink own index "HalfBridge$Foresight" "inquest" "LHalfBridge$Inquest;" ∈ Ts) (hI : HI D cy s s0 st H locs cells al ex) (hk : gK st a = 1) {x : Option Nat} (hin2 : meth.name = "<init>") (hdecl : "HalfBridge$Foresight" = own) (hdg : decode cc pc = .ok (.putfield index, 3)) (kk : ∀ (H1 : Heap) (locs1 : List Loc), HI D cy s s0 (sR st 2 a x) H1 locs1 cells al ex → W p l e R s m args below meth c H1 locs1 cells slots Q (F0 m (pc + 3) ls rest)) : W p l e R s m args below meth c H locs cells slots Q (F0 m pc ls (va_rf x :: .ref a :: rest)) := by
  have hk0 : gK st a ≠ 0 := by rw [hk]; decide
  obtain ⟨k, hk1⟩ := h_at hI hk0
  have hk2 := hk1
  rw [hC_1 hk] at hk2
  refine va_putF (D := D) (ci := 0) (v := va_rf x) (ty := (.object "HalfBridge$Inquest")) (C := RX0) (T := TX0) (N := 11) hx hb hts hin tyX0 tyX0_ok nmX0 hown hI.1 hI.2.1 hI.2.2.1 (h_S hI) k hk2 rfl 2 (by decide) (hts _ hlk) (fun _ h9 => h9) rfl hin2 hdecl (by decide +kernel) (by cases x <;> rfl) (by cases x <;> rfl) (by show 2 < (fl0 st a).length; exact Nat.le_of_ble_eq_true rfl) hdg (fun H1 locs1 q1 q2 q3 => kk H1 locs1 (h_upd hI hk0 hk1 rfl rfl (fun _ => rfl) ?_ ?_ q1 q2 q3))
  · rw [hC_1 (st := (sR st 2 a x)) (a := a) hk]
    simp [fl0, sR, va_up, gI, gR]
  · intro b hb
    exact hC_ext (fun _ => rfl) (fun f => up2_ne hb) rfl rfl rfl rfl rfl
theorem hg_0_3 {a : Nat} (hx : p.tables.exec = Jvm.exec) (hb : c.code = cc) (hts : ∀ w ∈ Ts, w.before args s = true) (hin : ∀ w ∈ u_ws RX0 TX0 11, w ∈ Ts) (hown : s.vm.findClass own = some m.cls) (hlk : Cond.fieldLink own index "HalfBridge$Foresight" "x" "I" ∈ Ts) (hI : HI D cy s s0 st H locs cells al ex) (hk : gK st a = 1) (hdg : decode cc pc = .ok (.getfield index, 3)) (kk : W p l e R s m args below meth c H locs cells slots Q (F0 m (pc + 3) ls (.int (gI st 3 a) :: rest))) : W p l e R s m args below meth c H locs cells slots Q (F0 m pc ls (.ref a :: rest)) := by
  obtain ⟨k, hk2⟩ := h_at hI (by rw [hk]; decide)
  rw [hC_1 hk] at hk2
  exact va_get (D := D) (ci := 0) (v := .int (gI st 3 a)) (C := RX0) (T := TX0) (N := 11) hx hb hts hin hown hI.1 hI.2.1 k hk2 rfl 3 (by decide) (hts _ hlk) (fun _ h9 => h9) rfl hdg kk
theorem hp_0_3 {a : Nat} (hx : p.tables.exec = Jvm.exec) (hb : c.code = cc) (hts : ∀ w ∈ Ts, w.before args s = true) (hin : ∀ w ∈ u_ws RX0 TX0 11, w ∈ Ts) (hown : s.vm.findClass own = some m.cls) (hlk : Cond.fieldLink own index "HalfBridge$Foresight" "x" "I" ∈ Ts) (hI : HI D cy s s0 st H locs cells al ex) (hk : gK st a = 1) {x : Int32} (hdg : decode cc pc = .ok (.putfield index, 3)) (kk : ∀ (H1 : Heap) (locs1 : List Loc), HI D cy s s0 (sI st 3 a x) H1 locs1 cells al ex → W p l e R s m args below meth c H1 locs1 cells slots Q (F0 m (pc + 3) ls rest)) : W p l e R s m args below meth c H locs cells slots Q (F0 m pc ls (.int x :: .ref a :: rest)) := by
  have hk0 : gK st a ≠ 0 := by rw [hk]; decide
  obtain ⟨k, hk1⟩ := h_at hI hk0
  have hk2 := hk1
  rw [hC_1 hk] at hk2
  refine va_put (D := D) (ci := 0) (v := .int x) (ty := .int) (C := RX0) (T := TX0) (N := 11) hx hb hts hin tyX0 tyX0_ok nmX0 hown hI.1 hI.2.1 hI.2.2.1 (h_S hI) k hk2 rfl 3 (by decide) (hts _ hlk) (fun _ h9 => h9) rfl (by decide +kernel) rfl rfl (by show 3 < (fl0 st a).length; exact Nat.le_of_ble_eq_true rfl) hdg (fun H1 locs1 q1 q2 q3 => kk H1 locs1 (h_upd hI hk0 hk1 rfl rfl (fun _ => rfl) ?_ ?_ q1 q2 q3))
  · rw [hC_1 (st := (sI st 3 a x)) (a := a) hk]
    simp [fl0, sI, va_up, gI, gR]
  · intro b hb
    exact hC_ext (fun f => up2_ne hb) (fun _ => rfl) rfl rfl rfl rfl rfl
theorem hg_0_4 {a : Nat} (hx : p.tables.exec = Jvm.exec) (hb : c.code = cc) (hts : ∀ w ∈ Ts, w.before args s = true) (hin : ∀ w ∈ u_ws RX0 TX0 11, w ∈ Ts) (hown : s.vm.findClass own = some m.cls) (hlk : Cond.fieldLink own index "HalfBridge$Foresight" "leadIn" "I" ∈ Ts) (hI : HI D cy s s0 st H locs cells al ex) (hk : gK st a = 1) (hdg : decode cc pc = .ok (.getfield index, 3)) (kk : W p l e R s m args below meth c H locs cells slots Q (F0 m (pc + 3) ls (.int (gI st 4 a) :: rest))) : W p l e R s m args below meth c H locs cells slots Q (F0 m pc ls (.ref a :: rest)) := by
  obtain ⟨k, hk2⟩ := h_at hI (by rw [hk]; decide)
  rw [hC_1 hk] at hk2
  exact va_get (D := D) (ci := 0) (v := .int (gI st 4 a)) (C := RX0) (T := TX0) (N := 11) hx hb hts hin hown hI.1 hI.2.1 k hk2 rfl 4 (by decide) (hts _ hlk) (fun _ h9 => h9) rfl hdg kk
theorem hp_0_4 {a : Nat} (hx : p.tables.exec = Jvm.exec) (hb : c.code = cc) (hts : ∀ w ∈ Ts, w.before args s = true) (hin : ∀ w ∈ u_ws RX0 TX0 11, w ∈ Ts) (hown : s.vm.findClass own = some m.cls) (hlk : Cond.fieldLink own index "HalfBridge$Foresight" "leadIn" "I" ∈ Ts) (hI : HI D cy s s0 st H locs cells al ex) (hk : gK st a = 1) {x : Int32} (hdg : decode cc pc = .ok (.putfield index, 3)) (kk : ∀ (H1 : Heap) (locs1 : List Loc), HI D cy s s0 (sI st 4 a x) H1 locs1 cells al ex → W p l e R s m args below meth c H1 locs1 cells slots Q (F0 m (pc + 3) ls rest)) : W p l e R s m args below meth c H locs cells slots Q (F0 m pc ls (.int x :: .ref a :: rest)) := by
  have hk0 : gK st a ≠ 0 := by rw [hk]; decide
  obtain ⟨k, hk1⟩ := h_at hI hk0
  have hk2 := hk1
  rw [hC_1 hk] at hk2
  refine va_put (D := D) (ci := 0) (v := .int x) (ty := .int) (C := RX0) (T := TX0) (N := 11) hx hb hts hin tyX0 tyX0_ok nmX0 hown hI.1 hI.2.1 hI.2.2.1 (h_S hI) k hk2 rfl 4 (by decide) (hts _ hlk) (fun _ h9 => h9) rfl (by decide +kernel) rfl rfl (by show 4 < (fl0 st a).length; exact Nat.le_of_ble_eq_true rfl) hdg (fun H1 locs1 q1 q2 q3 => kk H1 locs1 (h_upd hI hk0 hk1 rfl rfl (fun _ => rfl) ?_ ?_ q1 q2 q3))
  · rw [hC_1 (st := (sI st 4 a x)) (a := a) hk]
    simp [fl0, sI, va_up, gI, gR]
  · intro b hb
    exact hC_ext (fun f => up2_ne hb) (fun _ => rfl) rfl rfl rfl rfl rfl
theorem hg_0_5 {a : Nat} (hx : p.tables.exec = Jvm.exec) (hb : c.code = cc) (hts : ∀ w ∈ Ts, w.before args s = true) (hin : ∀ w ∈ u_ws RX0 TX0 11, w ∈ Ts) (hown : s.vm.findClass own = some m.cls) (hlk : Cond.fieldLink own index "HalfBridge$Foresight" "period" "I" ∈ Ts) (hI : HI D cy s s0 st H locs cells al ex) (hk : gK st a = 1) (hdg : decode cc pc = .ok (.getfield index, 3)) (kk : W p l e R s m args below meth c H locs cells slots Q (F0 m (pc + 3) ls (.int (gI st 5 a) :: rest))) : W p l e R s m args below meth c H locs cells slots Q (F0 m pc ls (.ref a :: rest)) := by
  obtain ⟨k, hk2⟩ := h_at hI (by rw [hk]; decide)
  rw [hC_1 hk] at hk2
  exact va_get (D := D) (ci := 0) (v := .int (gI st 5 a)) (C := RX0) (T := TX0) (N := 11) hx hb hts hin hown hI.1 hI.2.1 k hk2 rfl 5 (by decide) (hts _ hlk) (fun _ h9 => h9) rfl hdg kk
theorem hp_0_5 {a : Nat} (hx : p.tables.exec = Jvm.exec) (hb : c.code = cc) (hts : ∀ w ∈ Ts, w.before args s = true) (hin : ∀ w ∈ u_ws RX0 TX0 11, w ∈ Ts) (hown : s.vm.findClass own = some m.cls) (hlk : Cond.fieldLink own index "HalfBridge$Foresight" "period" "I" ∈ Ts) (hI : HI D cy s s0 st H locs cells al ex) (hk : gK st a = 1) {x : Int32} (hdg : decode cc pc = .ok (.putfield index, 3)) (kk : ∀ (H1 : Heap) (locs1 : List Loc), HI D cy s s0 (sI st 5 a x) H1 locs1 cells al ex → W p l e R s m args below meth c H1 locs1 cells slots Q (F0 m (pc + 3) ls rest)) : W p l e R s m args below meth c H locs cells slots Q (F0 m pc ls (.int x :: .ref a :: rest)) := by
  have hk0 : gK st a ≠ 0 := by rw [hk]; decide
  obtain ⟨k, hk1⟩ := h_at hI hk0
  have hk2 := hk1
  rw [hC_1 hk] at hk2
  refine va_put (D := D) (ci := 0) (v := .int x) (ty := .int) (C := RX0) (T := TX0) (N := 11) hx hb hts hin tyX0 tyX0_ok nmX0 hown hI.1 hI.2.1 hI.2.2.1 (h_S hI) k hk2 rfl 5 (by decide) (hts _ hlk) (fun _ h9 => h9) rfl (by decide +kernel) rfl rfl (by show 5 < (fl0 st a).length; exact Nat.le_of_ble_eq_true rfl) hdg (fun H1 locs1 q1 q2 q3 => kk H1 locs1 (h_upd hI hk0 hk1 rfl rfl (fun _ => rfl) ?_ ?_ q1 q2 q3))
  · rw [hC_1 (st := (sI st 5 a x)) (a := a) hk]
    simp [fl0, sI, va_up, gI, gR]
  · intro b hb
    exact hC_ext (fun f => up2_ne hb) (fun _ => rfl) rfl rfl rfl rfl rfl
theorem hg_0_6 {a : Nat} (hx : p.tables.exec = Jvm.exec) (hb : c.code = cc) (hts : ∀ w ∈ Ts, w.before args s = true) (hin : ∀ w ∈ u_ws RX0 TX0 11, w ∈ Ts) (hown : s.vm.findClass own = some m.cls) (hlk : Cond.fieldLink own index "HalfBridge$Foresight" "spares" "[LHalfBridge$Span;" ∈ Ts) (hI : HI D cy s s0 st H locs cells al ex) (hk : gK st a = 1) (hdg : decode cc pc = .ok (.getfield index, 3)) (kk : W p l e R s m args below meth c H locs cells slots Q (F0 m (pc + 3) ls (va_rf (gR st 6 a) :: rest))) : W p l e R s m args below meth c H locs cells slots Q (F0 m pc ls (.ref a :: rest)) := by
  obtain ⟨k, hk2⟩ := h_at hI (by rw [hk]; decide)
  rw [hC_1 hk] at hk2
  exact va_get (D := D) (ci := 0) (v := va_rf (gR st 6 a)) (C := RX0) (T := TX0) (N := 11) hx hb hts hin hown hI.1 hI.2.1 k hk2 rfl 6 (by decide) (hts _ hlk) (fun _ h9 => h9) rfl hdg kk
theorem hp_0_6 {a : Nat} (hx : p.tables.exec = Jvm.exec) (hb : c.code = cc) (hts : ∀ w ∈ Ts, w.before args s = true) (hin : ∀ w ∈ u_ws RX0 TX0 11, w ∈ Ts) (hown : s.vm.findClass own = some m.cls) (hlk : Cond.fieldLink own index "HalfBridge$Foresight" "spares" "[LHalfBridge$Span;" ∈ Ts) (hI : HI D cy s s0 st H locs cells al ex) (hk : gK st a = 1) {x : Option Nat} (hin2 : meth.name = "<init>") (hdecl : "HalfBridge$Foresight" = own) (hdg : decode cc pc = .ok (.putfield index, 3)) (kk : ∀ (H1 : Heap) (locs1 : List Loc), HI D cy s s0 (sR st 6 a x) H1 locs1 cells al ex → W p l e R s m args below meth c H1 locs1 cells slots Q (F0 m (pc + 3) ls rest)) : W p l e R s m args below meth c H locs cells slots Q (F0 m pc ls (va_rf x :: .ref a :: rest)) := by
  have hk0 : gK st a ≠ 0 := by rw [hk]; decide
  obtain ⟨k, hk1⟩ := h_at hI hk0
  have hk2 := hk1
  rw [hC_1 hk] at hk2
  refine va_putF (D := D) (ci := 0) (v := va_rf x) (ty := (.array (.object "HalfBridge$Span"))) (C := RX0) (T := TX0) (N := 11) hx hb hts hin tyX0 tyX0_ok nmX0 hown hI.1 hI.2.1 hI.2.2.1 (h_S hI) k hk2 rfl 6 (by decide) (hts _ hlk) (fun _ h9 => h9) rfl hin2 hdecl (by decide +kernel) (by cases x <;> rfl) (by cases x <;> rfl) (by show 6 < (fl0 st a).length; exact Nat.le_of_ble_eq_true rfl) hdg (fun H1 locs1 q1 q2 q3 => kk H1 locs1 (h_upd hI hk0 hk1 rfl rfl (fun _ => rfl) ?_ ?_ q1 q2 q3))
  · rw [hC_1 (st := (sR st 6 a x)) (a := a) hk]
    simp [fl0, sR, va_up, gI, gR]
  · intro b hb
    exact hC_ext (fun _ => rfl) (fun f => up2_ne hb) rfl rfl rfl rfl rfl
theorem hg_0_7 {a : Nat} (hx : p.tables.exec = Jvm.exec) (hb : c.code = cc) (hts : ∀ w ∈ Ts, w.before args s = true) (hin : ∀ w ∈ u_ws RX0 TX0 11, w ∈ Ts) (hown : s.vm.findClass own = some m.cls) (hlk : Cond.fieldLink own index "HalfBridge$Foresight" "row" "[I" ∈ Ts) (hI : HI D cy s s0 st H locs cells al ex) (hk : gK st a = 1) (hdg : decode cc pc = .ok (.getfield index, 3)) (kk : W p l e R s m args below meth c H locs cells slots Q (F0 m (pc + 3) ls (va_rf (gR st 7 a) :: rest))) : W p l e R s m args below meth c H locs cells slots Q (F0 m pc ls (.ref a :: rest)) := by
  obtain ⟨k, hk2⟩ := h_at hI (by rw [hk]; decide)
  rw [hC_1 hk] at hk2
  exact va_get (D := D) (ci := 0) (v := va_rf (gR st 7 a)) (C := RX0) (T := TX0) (N := 11) hx hb hts hin hown hI.1 hI.2.1 k hk2 rfl 7 (by decide) (hts _ hlk) (fun _ h9 => h9) rfl hdg kk
theorem hp_0_7 {a : Nat} (hx : p.tables.exec = Jvm.exec) (hb : c.code = cc) (hts : ∀ w ∈ Ts, w.before args s = true) (hin : ∀ w ∈ u_ws RX0 TX0 11, w ∈ Ts) (hown : s.vm.findClass own = some m.cls) (hlk : Cond.fieldLink own index "HalfBridge$Foresight" "row" "[I" ∈ Ts) (hI : HI D cy s s0 st H locs cells al ex) (hk : gK st a = 1) {x : Option Nat} (hin2 : meth.name = "<init>") (hdecl : "HalfBridge$Foresight" = own) (hdg : decode cc pc = .ok (.putfield index, 3)) (kk : ∀ (H1 : Heap) (locs1 : List Loc), HI D cy s s0 (sR st 7 a x) H1 locs1 cells al ex → W p l e R s m args below meth c H1 locs1 cells slots Q (F0 m (pc + 3) ls rest)) : W p l e R s m args below meth c H locs cells slots Q (F0 m pc ls (va_rf x :: .ref a :: rest)) := by
  have hk0 : gK st a ≠ 0 := by rw [hk]; decide
  obtain ⟨k, hk1⟩ := h_at hI hk0
  have hk2 := hk1
  rw [hC_1 hk] at hk2
  refine va_putF (D := D) (ci := 0) (v := va_rf x) (ty := (.array .int)) (C := RX0) (T := TX0) (N := 11) hx hb hts hin tyX0 tyX0_ok nmX0 hown hI.1 hI.2.1 hI.2.2.1 (h_S hI) k hk2 rfl 7 (by decide) (hts _ hlk) (fun _ h9 => h9) rfl hin2 hdecl (by decide +kernel) (by cases x <;> rfl) (by cases x <;> rfl) (by show 7 < (fl0 st a).length; exact Nat.le_of_ble_eq_true rfl) hdg (fun H1 locs1 q1 q2 q3 => kk H1 locs1 (h_upd hI hk0 hk1 rfl rfl (fun _ => rfl) ?_ ?_ q1 q2 q3))
  · rw [hC_1 (st := (sR st 7 a x)) (a := a) hk]
    simp [fl0, sR, va_up, gI, gR]
  · intro b hb
    exact hC_ext (fun _ => rfl) (fun f => up2_ne hb) rfl rfl rfl rfl rfl
theorem hg_0_8 {a : Nat} (hx : p.tables.exec = Jvm.exec) (hb : c.code = cc) (hts : ∀ w ∈ Ts, w.before args s = true) (hin : ∀ w ∈ u_ws RX0 TX0 11, w ∈ Ts) (hown : s.vm.findClass own = some m.cls) (hlk : Cond.fieldLink own index "HalfBridge$Foresight" "rowSide" "I" ∈ Ts) (hI : HI D cy s s0 st H locs cells al ex) (hk : gK st a = 1) (hdg : decode cc pc = .ok (.getfield index, 3)) (kk : W p l e R s m args below meth c H locs cells slots Q (F0 m (pc + 3) ls (.int (gI st 8 a) :: rest))) : W p l e R s m args below meth c H locs cells slots Q (F0 m pc ls (.ref a :: rest)) := by
  obtain ⟨k, hk2⟩ := h_at hI (by rw [hk]; decide)
  rw [hC_1 hk] at hk2
  exact va_get (D := D) (ci := 0) (v := .int (gI st 8 a)) (C := RX0) (T := TX0) (N := 11) hx hb hts hin hown hI.1 hI.2.1 k hk2 rfl 8 (by decide) (hts _ hlk) (fun _ h9 => h9) rfl hdg kk
theorem hp_0_8 {a : Nat} (hx : p.tables.exec = Jvm.exec) (hb : c.code = cc) (hts : ∀ w ∈ Ts, w.before args s = true) (hin : ∀ w ∈ u_ws RX0 TX0 11, w ∈ Ts) (hown : s.vm.findClass own = some m.cls) (hlk : Cond.fieldLink own index "HalfBridge$Foresight" "rowSide" "I" ∈ Ts) (hI : HI D cy s s0 st H locs cells al ex) (hk : gK st a = 1) {x : Int32} (hdg : decode cc pc = .ok (.putfield index, 3)) (kk : ∀ (H1 : Heap) (locs1 : List Loc), HI D cy s s0 (sI st 8 a x) H1 locs1 cells al ex → W p l e R s m args below meth c H1 locs1 cells slots Q (F0 m (pc + 3) ls rest)) : W p l e R s m args below meth c H locs cells slots Q (F0 m pc ls (.int x :: .ref a :: rest)) := by
  have hk0 : gK st a ≠ 0 := by rw [hk]; decide
  obtain ⟨k, hk1⟩ := h_at hI hk0
  have hk2 := hk1
  rw [hC_1 hk] at hk2
  refine va_put (D := D) (ci := 0) (v := .int x) (ty := .int) (C := RX0) (T := TX0) (N := 11) hx hb hts hin tyX0 tyX0_ok nmX0 hown hI.1 hI.2.1 hI.2.2.1 (h_S hI) k hk2 rfl 8 (by decide) (hts _ hlk) (fun _ h9 => h9) rfl (by decide +kernel) rfl rfl (by show 8 < (fl0 st a).length; exact Nat.le_of_ble_eq_true rfl) hdg (fun H1 locs1 q1 q2 q3 => kk H1 locs1 (h_upd hI hk0 hk1 rfl rfl (fun _ => rfl) ?_ ?_ q1 q2 q3))
  · rw [hC_1 (st := (sI st 8 a x)) (a := a) hk]
    simp [fl0, sI, va_up, gI, gR]
  · intro b hb
    exact hC_ext (fun f => up2_ne hb) (fun _ => rfl) rfl rfl rfl rfl rfl
theorem hg_0_9 {a : Nat} (hx : p.tables.exec = Jvm.exec) (hb : c.code = cc) (hts : ∀ w ∈ Ts, w.before args s = true) (hin : ∀ w ∈ u_ws RX0 TX0 11, w ∈ Ts) (hown : s.vm.findClass own = some m.cls) (hlk : Cond.fieldLink own index "HalfBridge$Foresight" "rowDays" "I" ∈ Ts) (hI : HI D cy s s0 st H locs cells al ex) (hk : gK st a = 1) (hdg : decode cc pc = .ok (.getfield index, 3)) (kk : W p l e R s m args below meth c H locs cells slots Q (F0 m (pc + 3) ls (.int (gI st 9 a) :: rest))) : W p l e R s m args below meth c H locs cells slots Q (F0 m pc ls (.ref a :: rest)) := by
  obtain ⟨k, hk2⟩ := h_at hI (by rw [hk]; decide)
  rw [hC_1 hk] at hk2
  exact va_get (D := D) (ci := 0) (v := .int (gI st 9 a)) (C := RX0) (T := TX0) (N := 11) hx hb hts hin hown hI.1 hI.2.1 k hk2 rfl 9 (by decide) (hts _ hlk) (fun _ h9 => h9) rfl hdg kk
theorem hp_0_9 {a : Nat} (hx : p.tables.exec = Jvm.exec) (hb : c.code = cc) (hts : ∀ w ∈ Ts, w.before args s = true) (hin : ∀ w ∈ u_ws RX0 TX0 11, w ∈ Ts) (hown : s.vm.findClass own = some m.cls) (hlk : Cond.fieldLink own index "HalfBridge$Foresight" "rowDays" "I" ∈ Ts) (hI : HI D cy s s0 st H locs cells al ex) (hk : gK st a = 1) {x : Int32} (hdg : decode cc pc = .ok (.putfield index, 3)) (kk : ∀ (H1 : Heap) (locs1 : List Loc), HI D cy s s0 (sI st 9 a x) H1 locs1 cells al ex → W p l e R s m args below meth c H1 locs1 cells slots Q (F0 m (pc + 3) ls rest)) : W p l e R s m args below meth c H locs cells slots Q (F0 m pc ls (.int x :: .ref a :: rest)) := by
  have hk0 : gK st a ≠ 0 := by rw [hk]; decide
  obtain ⟨k, hk1⟩ := h_at hI hk0
  have hk2 := hk1
  rw [hC_1 hk] at hk2
  refine va_put (D := D) (ci := 0) (v := .int x) (ty := .int) (C := RX0) (T := TX0) (N := 11) hx hb hts hin tyX0 tyX0_ok nmX0 hown hI.1 hI.2.1 hI.2.2.1 (h_S hI) k hk2 rfl 9 (by decide) (hts _ hlk) (fun _ h9 => h9) rfl (by decide +kernel) rfl rfl (by show 9 < (fl0 st a).length; exact Nat.le_of_ble_eq_true rfl) hdg (fun H1 locs1 q1 q2 q3 => kk H1 locs1 (h_upd hI hk0 hk1 rfl rfl (fun _ => rfl) ?_ ?_ q1 q2 q3))
  · rw [hC_1 (st := (sI st 9 a x)) (a := a) hk]
    simp [fl0, sI, va_up, gI, gR]
  · intro b hb
    exact hC_ext (fun f => up2_ne hb) (fun _ => rfl) rfl rfl rfl rfl rfl
theorem hg_0_10 {a : Nat} (hx : p.tables.exec = Jvm.exec) (hb : c.code = cc) (hts : ∀ w ∈ Ts, w.before args s = true) (hin : ∀ w ∈ u_ws RX0 TX0 11, w ∈ Ts) (hown : s.vm.findClass own = some m.cls) (hlk : Cond.fieldLink own index "HalfBridge$Foresight" "packed" "[J" ∈ Ts) (hI : HI D cy s s0 st H locs cells al ex) (hk : gK st a = 1) (hdg : decode cc pc = .ok (.getfield index, 3)) (kk : W p l e R s m args below meth c H locs cells slots Q (F0 m (pc + 3) ls (va_rf (gR st 10 a) :: rest))) : W p l e R s m args below meth c H locs cells slots Q (F0 m pc ls (.ref a :: rest)) := by
  obtain ⟨k, hk2⟩ := h_at hI (by rw [hk]; decide)
  rw [hC_1 hk] at hk2
  exact va_get (D := D) (ci := 0) (v := va_rf (gR st 10 a)) (C := RX0) (T := TX0) (N := 11) hx hb hts hin hown hI.1 hI.2.1 k hk2 rfl 10 (by decide) (hts _ hlk) (fun _ h9 => h9) rfl hdg kk
theorem hp_0_10 {a : Nat} (hx : p.tables.exec = Jvm.exec) (hb : c.code = cc) (hts : ∀ w ∈ Ts, w.before args s = true) (hin : ∀ w ∈ u_ws RX0 TX0 11, w ∈ Ts) (hown : s.vm.findClass own = some m.cls) (hlk : Cond.fieldLink own index "HalfBridge$Foresight" "packed" "[J" ∈ Ts) (hI : HI D cy s s0 st H locs cells al ex) (hk : gK st a = 1) {x : Option Nat} (hdg : decode cc pc = .ok (.putfield index, 3)) (kk : ∀ (H1 : Heap) (locs1 : List Loc), HI D cy s s0 (sR st 10 a x) H1 locs1 cells al ex → W p l e R s m args below meth c H1 locs1 cells slots Q (F0 m (pc + 3) ls rest)) : W p l e R s m args below meth c H locs cells slots Q (F0 m pc ls (va_rf x :: .ref a :: rest)) := by
  have hk0 : gK st a ≠ 0 := by rw [hk]; decide
  obtain ⟨k, hk1⟩ := h_at hI hk0
  have hk2 := hk1
  rw [hC_1 hk] at hk2
  refine va_put (D := D) (ci := 0) (v := va_rf x) (ty := (.array .long)) (C := RX0) (T := TX0) (N := 11) hx hb hts hin tyX0 tyX0_ok nmX0 hown hI.1 hI.2.1 hI.2.2.1 (h_S hI) k hk2 rfl 10 (by decide) (hts _ hlk) (fun _ h9 => h9) rfl (by decide +kernel) (by cases x <;> rfl) (by cases x <;> rfl) (by show 10 < (fl0 st a).length; exact Nat.le_of_ble_eq_true rfl) hdg (fun H1 locs1 q1 q2 q3 => kk H1 locs1 (h_upd hI hk0 hk1 rfl rfl (fun _ => rfl) ?_ ?_ q1 q2 q3))
  · rw [hC_1 (st := (sR st 10 a x)) (a := a) hk]
    simp [fl0, sR, va_up, gI, gR]
  · intro b hb
    exact hC_ext (fun _ => rfl) (fun f => up2_ne hb) rfl rfl rfl rfl rfl
theorem hg_1_0 {a : Nat} (hx : p.tables.exec = Jvm.exec) (hb : c.code = cc) (hts : ∀ w ∈ Ts, w.before args s = true) (hin : ∀ w ∈ u_ws RX1 TX1 12, w ∈ Ts) (hown : s.vm.findClass own = some m.cls) (hlk : Cond.fieldLink own index "HalfBridge$FreeHand" "found" "Z" ∈ Ts) (hI : HI D cy s s0 st H locs cells al ex) (hk : gK st a = 2) (hdg : decode cc pc = .ok (.getfield index, 3)) (kk : W p l e R s m args below meth c H locs cells slots Q (F0 m (pc + 3) ls (.int (gI st 100 a) :: rest))) : W p l e R s m args below meth c H locs cells slots Q (F0 m pc ls (.ref a :: rest)) := by
  obtain ⟨k, hk2⟩ := h_at hI (by rw [hk]; decide)
  rw [hC_2 hk] at hk2
  exact va_get (D := D) (ci := 1) (v := .int (gI st 100 a)) (C := RX1) (T := TX1) (N := 12) hx hb hts hin hown hI.1 hI.2.1 k hk2 rfl 0 (by decide) (hts _ hlk) (fun _ h9 => h9) rfl hdg kk
theorem hp_1_0 {a : Nat} (hx : p.tables.exec = Jvm.exec) (hb : c.code = cc) (hts : ∀ w ∈ Ts, w.before args s = true) (hin : ∀ w ∈ u_ws RX1 TX1 12, w ∈ Ts) (hown : s.vm.findClass own = some m.cls) (hlk : Cond.fieldLink own index "HalfBridge$FreeHand" "found" "Z" ∈ Ts) (hI : HI D cy s s0 st H locs cells al ex) (hk : gK st a = 2) {x : Int32} (hz01 : x = 0 ∨ x = 1) (hdg : decode cc pc = .ok (.putfield index, 3)) (kk : ∀ (H1 : Heap) (locs1 : List Loc), HI D cy s s0 (sI st 100 a x) H1 locs1 cells al ex → W p l e R s m args below meth c H1 locs1 cells slots Q (F0 m (pc + 3) ls rest)) : W p l e R s m args below meth c H locs cells slots Q (F0 m pc ls (.int x :: .ref a :: rest)) := by
  have hz : narrow .boolean (.int x) = .int x := by rcases hz01 with h | h <;> subst h <;> decide
  have hk0 : gK st a ≠ 0 := by rw [hk]; decide
  obtain ⟨k, hk1⟩ := h_at hI hk0
  have hk2 := hk1
  rw [hC_2 hk] at hk2
  refine va_put (D := D) (ci := 1) (v := .int x) (ty := .boolean) (C := RX1) (T := TX1) (N := 12) hx hb hts hin tyX1 tyX1_ok nmX1 hown hI.1 hI.2.1 hI.2.2.1 (h_S hI) k hk2 rfl 0 (by decide) (hts _ hlk) (fun _ h9 => h9) rfl (by decide +kernel) hz (by rcases hz01 with h | h <;> subst h <;> decide) (by show 0 < (fl1 st a).length; exact Nat.le_of_ble_eq_true rfl) hdg (fun H1 locs1 q1 q2 q3 => kk H1 locs1 (h_upd hI hk0 hk1 rfl rfl (fun _ => rfl) ?_ ?_ q1 q2 q3))
  · rw [hC_2 (st := (sI st 100 a x)) (a := a) hk]
    simp [fl1, sI, va_up, gI, gR]
  · intro b hb
    exact hC_ext (fun f => up2_ne hb) (fun _ => rfl) rfl rfl rfl rfl rfl
theorem hg_1_1 {a : Nat} (hx : p.tables.exec = Jvm.exec) (hb : c.code = cc) (hts : ∀ w ∈ Ts, w.before args s = true) (hin : ∀ w ∈ u_ws RX1 TX1 12, w ∈ Ts) (hown : s.vm.findClass own = some m.cls) (hlk : Cond.fieldLink own index "HalfBridge$FreeHand" "best" "I" ∈ Ts) (hI : HI D cy s s0 st H locs cells al ex) (hk : gK st a = 2) (hdg : decode cc pc = .ok (.getfield index, 3)) (kk : W p l e R s m args below meth c H locs cells slots Q (F0 m (pc + 3) ls (.int (gI st 101 a) :: rest))) : W p l e R s m args below meth c H locs cells slots Q (F0 m pc ls (.ref a :: rest)) := by
  obtain ⟨k, hk2⟩ := h_at hI (by rw [hk]; decide)
  rw [hC_2 hk] at hk2
  exact va_get (D := D) (ci := 1) (v := .int (gI st 101 a)) (C := RX1) (T := TX1) (N := 12) hx hb hts hin hown hI.1 hI.2.1 k hk2 rfl 1 (by decide) (hts _ hlk) (fun _ h9 => h9) rfl hdg kk
theorem hp_1_1 {a : Nat} (hx : p.tables.exec = Jvm.exec) (hb : c.code = cc) (hts : ∀ w ∈ Ts, w.before args s = true) (hin : ∀ w ∈ u_ws RX1 TX1 12, w ∈ Ts) (hown : s.vm.findClass own = some m.cls) (hlk : Cond.fieldLink own index "HalfBridge$FreeHand" "best" "I" ∈ Ts) (hI : HI D cy s s0 st H locs cells al ex) (hk : gK st a = 2) {x : Int32} (hdg : decode cc pc = .ok (.putfield index, 3)) (kk : ∀ (H1 : Heap) (locs1 : List Loc), HI D cy s s0 (sI st 101 a x) H1 locs1 cells al ex → W p l e R s m args below meth c H1 locs1 cells slots Q (F0 m (pc + 3) ls rest)) : W p l e R s m args below meth c H locs cells slots Q (F0 m pc ls (.int x :: .ref a :: rest)) := by
  have hk0 : gK st a ≠ 0 := by rw [hk]; decide
  obtain ⟨k, hk1⟩ := h_at hI hk0
  have hk2 := hk1
  rw [hC_2 hk] at hk2
  refine va_put (D := D) (ci := 1) (v := .int x) (ty := .int) (C := RX1) (T := TX1) (N := 12) hx hb hts hin tyX1 tyX1_ok nmX1 hown hI.1 hI.2.1 hI.2.2.1 (h_S hI) k hk2 rfl 1 (by decide) (hts _ hlk) (fun _ h9 => h9) rfl (by decide +kernel) rfl rfl (by show 1 < (fl1 st a).length; exact Nat.le_of_ble_eq_true rfl) hdg (fun H1 locs1 q1 q2 q3 => kk H1 locs1 (h_upd hI hk0 hk1 rfl rfl (fun _ => rfl) ?_ ?_ q1 q2 q3))
  · rw [hC_2 (st := (sI st 101 a x)) (a := a) hk]
    simp [fl1, sI, va_up, gI, gR]
  · intro b hb
    exact hC_ext (fun f => up2_ne hb) (fun _ => rfl) rfl rfl rfl rfl rfl
theorem hg_1_2 {a : Nat} (hx : p.tables.exec = Jvm.exec) (hb : c.code = cc) (hts : ∀ w ∈ Ts, w.before args s = true) (hin : ∀ w ∈ u_ws RX1 TX1 12, w ∈ Ts) (hown : s.vm.findClass own = some m.cls) (hlk : Cond.fieldLink own index "HalfBridge$FreeHand" "looker" "LHalfBridge$Looker;" ∈ Ts) (hI : HI D cy s s0 st H locs cells al ex) (hk : gK st a = 2) (hdg : decode cc pc = .ok (.getfield index, 3)) (kk : W p l e R s m args below meth c H locs cells slots Q (F0 m (pc + 3) ls (va_rf (gR st 102 a) :: rest))) : W p l e R s m args below meth c H locs cells slots Q (F0 m pc ls (.ref a :: rest)) := by
  obtain ⟨k, hk2⟩ := h_at hI (by rw [hk]; decide)
  rw [hC_2 hk] at hk2
  exact va_get (D := D) (ci := 1) (v := va_rf (gR st 102 a)) (C := RX1) (T := TX1) (N := 12) hx hb hts hin hown hI.1 hI.2.1 k hk2 rfl 2 (by decide) (hts _ hlk) (fun _ h9 => h9) rfl hdg kk
theorem hp_1_2 {a : Nat} (hx : p.tables.exec = Jvm.exec) (hb : c.code = cc) (hts : ∀ w ∈ Ts, w.before args s = true) (hin : ∀ w ∈ u_ws RX1 TX1 12, w ∈ Ts) (hown : s.vm.findClass own = some m.cls) (hlk : Cond.fieldLink own index "HalfBridge$FreeHand" "looker" "LHalfBridge$Looker;" ∈ Ts) (hI : HI D cy s s0 st H locs cells al ex) (hk : gK st a = 2) {x : Option Nat} (hin2 : meth.name = "<init>") (hdecl : "HalfBridge$FreeHand" = own) (hdg : decode cc pc = .ok (.putfield index, 3)) (kk : ∀ (H1 : Heap) (locs1 : List Loc), HI D cy s s0 (sR st 102 a x) H1 locs1 cells al ex → W p l e R s m args below meth c H1 locs1 cells slots Q (F0 m (pc + 3) ls rest)) : W p l e R s m args below meth c H locs cells slots Q (F0 m pc ls (va_rf x :: .ref a :: rest)) := by
  have hk0 : gK st a ≠ 0 := by rw [hk]; decide
  obtain ⟨k, hk1⟩ := h_at hI hk0
  have hk2 := hk1
  rw [hC_2 hk] at hk2
  refine va_putF (D := D) (ci := 1) (v := va_rf x) (ty := (.object "HalfBridge$Looker")) (C := RX1) (T := TX1) (N := 12) hx hb hts hin tyX1 tyX1_ok nmX1 hown hI.1 hI.2.1 hI.2.2.1 (h_S hI) k hk2 rfl 2 (by decide) (hts _ hlk) (fun _ h9 => h9) rfl hin2 hdecl (by decide +kernel) (by cases x <;> rfl) (by cases x <;> rfl) (by show 2 < (fl1 st a).length; exact Nat.le_of_ble_eq_true rfl) hdg (fun H1 locs1 q1 q2 q3 => kk H1 locs1 (h_upd hI hk0 hk1 rfl rfl (fun _ => rfl) ?_ ?_ q1 q2 q3))
  · rw [hC_2 (st := (sR st 102 a x)) (a := a) hk]
    simp [fl1, sR, va_up, gI, gR]
  · intro b hb
    exact hC_ext (fun _ => rfl) (fun f => up2_ne hb) rfl rfl rfl rfl rfl
theorem hg_1_3 {a : Nat} (hx : p.tables.exec = Jvm.exec) (hb : c.code = cc) (hts : ∀ w ∈ Ts, w.before args s = true) (hin : ∀ w ∈ u_ws RX1 TX1 12, w ∈ Ts) (hown : s.vm.findClass own = some m.cls) (hlk : Cond.fieldLink own index "HalfBridge$FreeHand" "spares" "[LHalfBridge$Span;" ∈ Ts) (hI : HI D cy s s0 st H locs cells al ex) (hk : gK st a = 2) (hdg : decode cc pc = .ok (.getfield index, 3)) (kk : W p l e R s m args below meth c H locs cells slots Q (F0 m (pc + 3) ls (va_rf (gR st 103 a) :: rest))) : W p l e R s m args below meth c H locs cells slots Q (F0 m pc ls (.ref a :: rest)) := by
  obtain ⟨k, hk2⟩ := h_at hI (by rw [hk]; decide)
  rw [hC_2 hk] at hk2
  exact va_get (D := D) (ci := 1) (v := va_rf (gR st 103 a)) (C := RX1) (T := TX1) (N := 12) hx hb hts hin hown hI.1 hI.2.1 k hk2 rfl 3 (by decide) (hts _ hlk) (fun _ h9 => h9) rfl hdg kk
theorem hp_1_3 {a : Nat} (hx : p.tables.exec = Jvm.exec) (hb : c.code = cc) (hts : ∀ w ∈ Ts, w.before args s = true) (hin : ∀ w ∈ u_ws RX1 TX1 12, w ∈ Ts) (hown : s.vm.findClass own = some m.cls) (hlk : Cond.fieldLink own index "HalfBridge$FreeHand" "spares" "[LHalfBridge$Span;" ∈ Ts) (hI : HI D cy s s0 st H locs cells al ex) (hk : gK st a = 2) {x : Option Nat} (hin2 : meth.name = "<init>") (hdecl : "HalfBridge$FreeHand" = own) (hdg : decode cc pc = .ok (.putfield index, 3)) (kk : ∀ (H1 : Heap) (locs1 : List Loc), HI D cy s s0 (sR st 103 a x) H1 locs1 cells al ex → W p l e R s m args below meth c H1 locs1 cells slots Q (F0 m (pc + 3) ls rest)) : W p l e R s m args below meth c H locs cells slots Q (F0 m pc ls (va_rf x :: .ref a :: rest)) := by
  have hk0 : gK st a ≠ 0 := by rw [hk]; decide
  obtain ⟨k, hk1⟩ := h_at hI hk0
  have hk2 := hk1
  rw [hC_2 hk] at hk2
  refine va_putF (D := D) (ci := 1) (v := va_rf x) (ty := (.array (.object "HalfBridge$Span"))) (C := RX1) (T := TX1) (N := 12) hx hb hts hin tyX1 tyX1_ok nmX1 hown hI.1 hI.2.1 hI.2.2.1 (h_S hI) k hk2 rfl 3 (by decide) (hts _ hlk) (fun _ h9 => h9) rfl hin2 hdecl (by decide +kernel) (by cases x <;> rfl) (by cases x <;> rfl) (by show 3 < (fl1 st a).length; exact Nat.le_of_ble_eq_true rfl) hdg (fun H1 locs1 q1 q2 q3 => kk H1 locs1 (h_upd hI hk0 hk1 rfl rfl (fun _ => rfl) ?_ ?_ q1 q2 q3))
  · rw [hC_2 (st := (sR st 103 a x)) (a := a) hk]
    simp [fl1, sR, va_up, gI, gR]
  · intro b hb
    exact hC_ext (fun _ => rfl) (fun f => up2_ne hb) rfl rfl rfl rfl rfl
theorem hg_1_4 {a : Nat} (hx : p.tables.exec = Jvm.exec) (hb : c.code = cc) (hts : ∀ w ∈ Ts, w.before args s = true) (hin : ∀ w ∈ u_ws RX1 TX1 12, w ∈ Ts) (hown : s.vm.findClass own = some m.cls) (hlk : Cond.fieldLink own index "HalfBridge$FreeHand" "turns" "[I" ∈ Ts) (hI : HI D cy s s0 st H locs cells al ex) (hk : gK st a = 2) (hdg : decode cc pc = .ok (.getfield index, 3)) (kk : W p l e R s m args below meth c H locs cells slots Q (F0 m (pc + 3) ls (va_rf (gR st 104 a) :: rest))) : W p l e R s m args below meth c H locs cells slots Q (F0 m pc ls (.ref a :: rest)) := by
  obtain ⟨k, hk2⟩ := h_at hI (by rw [hk]; decide)
  rw [hC_2 hk] at hk2
  exact va_get (D := D) (ci := 1) (v := va_rf (gR st 104 a)) (C := RX1) (T := TX1) (N := 12) hx hb hts hin hown hI.1 hI.2.1 k hk2 rfl 4 (by decide) (hts _ hlk) (fun _ h9 => h9) rfl hdg kk
theorem hp_1_4 {a : Nat} (hx : p.tables.exec = Jvm.exec) (hb : c.code = cc) (hts : ∀ w ∈ Ts, w.before args s = true) (hin : ∀ w ∈ u_ws RX1 TX1 12, w ∈ Ts) (hown : s.vm.findClass own = some m.cls) (hlk : Cond.fieldLink own index "HalfBridge$FreeHand" "turns" "[I" ∈ Ts) (hI : HI D cy s s0 st H locs cells al ex) (hk : gK st a = 2) {x : Option Nat} (hin2 : meth.name = "<init>") (hdecl : "HalfBridge$FreeHand" = own) (hdg : decode cc pc = .ok (.putfield index, 3)) (kk : ∀ (H1 : Heap) (locs1 : List Loc), HI D cy s s0 (sR st 104 a x) H1 locs1 cells al ex → W p l e R s m args below meth c H1 locs1 cells slots Q (F0 m (pc + 3) ls rest)) : W p l e R s m args below meth c H locs cells slots Q (F0 m pc ls (va_rf x :: .ref a :: rest)) := by
  have hk0 : gK st a ≠ 0 := by rw [hk]; decide
  obtain ⟨k, hk1⟩ := h_at hI hk0
  have hk2 := hk1
  rw [hC_2 hk] at hk2
  refine va_putF (D := D) (ci := 1) (v := va_rf x) (ty := (.array .int)) (C := RX1) (T := TX1) (N := 12) hx hb hts hin tyX1 tyX1_ok nmX1 hown hI.1 hI.2.1 hI.2.2.1 (h_S hI) k hk2 rfl 4 (by decide) (hts _ hlk) (fun _ h9 => h9) rfl hin2 hdecl (by decide +kernel) (by cases x <;> rfl) (by cases x <;> rfl) (by show 4 < (fl1 st a).length; exact Nat.le_of_ble_eq_true rfl) hdg (fun H1 locs1 q1 q2 q3 => kk H1 locs1 (h_upd hI hk0 hk1 rfl rfl (fun _ => rfl) ?_ ?_ q1 q2 q3))
  · rw [hC_2 (st := (sR st 104 a x)) (a := a) hk]
    simp [fl1, sR, va_up, gI, gR]
  · intro b hb
    exact hC_ext (fun _ => rfl) (fun f => up2_ne hb) rfl rfl rfl rfl rfl
theorem hg_1_5 {a : Nat} (hx : p.tables.exec = Jvm.exec) (hb : c.code = cc) (hts : ∀ w ∈ Ts, w.before args s = true) (hin : ∀ w ∈ u_ws RX1 TX1 12, w ∈ Ts) (hown : s.vm.findClass own = some m.cls) (hlk : Cond.fieldLink own index "HalfBridge$FreeHand" "bestTurns" "[I" ∈ Ts) (hI : HI D cy s s0 st H locs cells al ex) (hk : gK st a = 2) (hdg : decode cc pc = .ok (.getfield index, 3)) (kk : W p l e R s m args below meth c H locs cells slots Q (F0 m (pc + 3) ls (va_rf (gR st 105 a) :: rest))) : W p l e R s m args below meth c H locs cells slots Q (F0 m pc ls (.ref a :: rest)) := by
  obtain ⟨k, hk2⟩ := h_at hI (by rw [hk]; decide)
  rw [hC_2 hk] at hk2
  exact va_get (D := D) (ci := 1) (v := va_rf (gR st 105 a)) (C := RX1) (T := TX1) (N := 12) hx hb hts hin hown hI.1 hI.2.1 k hk2 rfl 5 (by decide) (hts _ hlk) (fun _ h9 => h9) rfl hdg kk
theorem hp_1_5 {a : Nat} (hx : p.tables.exec = Jvm.exec) (hb : c.code = cc) (hts : ∀ w ∈ Ts, w.before args s = true) (hin : ∀ w ∈ u_ws RX1 TX1 12, w ∈ Ts) (hown : s.vm.findClass own = some m.cls) (hlk : Cond.fieldLink own index "HalfBridge$FreeHand" "bestTurns" "[I" ∈ Ts) (hI : HI D cy s s0 st H locs cells al ex) (hk : gK st a = 2) {x : Option Nat} (hin2 : meth.name = "<init>") (hdecl : "HalfBridge$FreeHand" = own) (hdg : decode cc pc = .ok (.putfield index, 3)) (kk : ∀ (H1 : Heap) (locs1 : List Loc), HI D cy s s0 (sR st 105 a x) H1 locs1 cells al ex → W p l e R s m args below meth c H1 locs1 cells slots Q (F0 m (pc + 3) ls rest)) : W p l e R s m args below meth c H locs cells slots Q (F0 m pc ls (va_rf x :: .ref a :: rest)) := by
  have hk0 : gK st a ≠ 0 := by rw [hk]; decide
  obtain ⟨k, hk1⟩ := h_at hI hk0
  have hk2 := hk1
  rw [hC_2 hk] at hk2
  refine va_putF (D := D) (ci := 1) (v := va_rf x) (ty := (.array .int)) (C := RX1) (T := TX1) (N := 12) hx hb hts hin tyX1 tyX1_ok nmX1 hown hI.1 hI.2.1 hI.2.2.1 (h_S hI) k hk2 rfl 5 (by decide) (hts _ hlk) (fun _ h9 => h9) rfl hin2 hdecl (by decide +kernel) (by cases x <;> rfl) (by cases x <;> rfl) (by show 5 < (fl1 st a).length; exact Nat.le_of_ble_eq_true rfl) hdg (fun H1 locs1 q1 q2 q3 => kk H1 locs1 (h_upd hI hk0 hk1 rfl rfl (fun _ => rfl) ?_ ?_ q1 q2 q3))
  · rw [hC_2 (st := (sR st 105 a x)) (a := a) hk]
    simp [fl1, sR, va_up, gI, gR]
  · intro b hb
    exact hC_ext (fun _ => rfl) (fun f => up2_ne hb) rfl rfl rfl rfl rfl
theorem hg_1_6 {a : Nat} (hx : p.tables.exec = Jvm.exec) (hb : c.code = cc) (hts : ∀ w ∈ Ts, w.before args s = true) (hin : ∀ w ∈ u_ws RX1 TX1 12, w ∈ Ts) (hown : s.vm.findClass own = some m.cls) (hlk : Cond.fieldLink own index "HalfBridge$FreeHand" "told" "LHalfBridge$Site;" ∈ Ts) (hI : HI D cy s s0 st H locs cells al ex) (hk : gK st a = 2) (hdg : decode cc pc = .ok (.getfield index, 3)) (kk : W p l e R s m args below meth c H locs cells slots Q (F0 m (pc + 3) ls (va_rf (gR st 106 a) :: rest))) : W p l e R s m args below meth c H locs cells slots Q (F0 m pc ls (.ref a :: rest)) := by
  obtain ⟨k, hk2⟩ := h_at hI (by rw [hk]; decide)
  rw [hC_2 hk] at hk2
  exact va_get (D := D) (ci := 1) (v := va_rf (gR st 106 a)) (C := RX1) (T := TX1) (N := 12) hx hb hts hin hown hI.1 hI.2.1 k hk2 rfl 6 (by decide) (hts _ hlk) (fun _ h9 => h9) rfl hdg kk
theorem hp_1_6 {a : Nat} (hx : p.tables.exec = Jvm.exec) (hb : c.code = cc) (hts : ∀ w ∈ Ts, w.before args s = true) (hin : ∀ w ∈ u_ws RX1 TX1 12, w ∈ Ts) (hown : s.vm.findClass own = some m.cls) (hlk : Cond.fieldLink own index "HalfBridge$FreeHand" "told" "LHalfBridge$Site;" ∈ Ts) (hI : HI D cy s s0 st H locs cells al ex) (hk : gK st a = 2) {x : Option Nat} (hdg : decode cc pc = .ok (.putfield index, 3)) (kk : ∀ (H1 : Heap) (locs1 : List Loc), HI D cy s s0 (sR st 106 a x) H1 locs1 cells al ex → W p l e R s m args below meth c H1 locs1 cells slots Q (F0 m (pc + 3) ls rest)) : W p l e R s m args below meth c H locs cells slots Q (F0 m pc ls (va_rf x :: .ref a :: rest)) := by
  have hk0 : gK st a ≠ 0 := by rw [hk]; decide
  obtain ⟨k, hk1⟩ := h_at hI hk0
  have hk2 := hk1
  rw [hC_2 hk] at hk2
  refine va_put (D := D) (ci := 1) (v := va_rf x) (ty := (.object "HalfBridge$Site")) (C := RX1) (T := TX1) (N := 12) hx hb hts hin tyX1 tyX1_ok nmX1 hown hI.1 hI.2.1 hI.2.2.1 (h_S hI) k hk2 rfl 6 (by decide) (hts _ hlk) (fun _ h9 => h9) rfl (by decide +kernel) (by cases x <;> rfl) (by cases x <;> rfl) (by show 6 < (fl1 st a).length; exact Nat.le_of_ble_eq_true rfl) hdg (fun H1 locs1 q1 q2 q3 => kk H1 locs1 (h_upd hI hk0 hk1 rfl rfl (fun _ => rfl) ?_ ?_ q1 q2 q3))
  · rw [hC_2 (st := (sR st 106 a x)) (a := a) hk]
    simp [fl1, sR, va_up, gI, gR]
  · intro b hb
    exact hC_ext (fun _ => rfl) (fun f => up2_ne hb) rfl rfl rfl rfl rfl
theorem hg_1_7 {a : Nat} (hx : p.tables.exec = Jvm.exec) (hb : c.code = cc) (hts : ∀ w ∈ Ts, w.before args s = true) (hin : ∀ w ∈ u_ws RX1 TX1 12, w ∈ Ts) (hown : s.vm.findClass own = some m.cls) (hlk : Cond.fieldLink own index "HalfBridge$FreeHand" "rule" "LHalfBridge$Rule;" ∈ Ts) (hI : HI D cy s s0 st H locs cells al ex) (hk : gK st a = 2) (hdg : decode cc pc = .ok (.getfield index, 3)) (kk : W p l e R s m args below meth c H locs cells slots Q (F0 m (pc + 3) ls (va_rf (gR st 107 a) :: rest))) : W p l e R s m args below meth c H locs cells slots Q (F0 m pc ls (.ref a :: rest)) := by
  obtain ⟨k, hk2⟩ := h_at hI (by rw [hk]; decide)
  rw [hC_2 hk] at hk2
  exact va_get (D := D) (ci := 1) (v := va_rf (gR st 107 a)) (C := RX1) (T := TX1) (N := 12) hx hb hts hin hown hI.1 hI.2.1 k hk2 rfl 7 (by decide) (hts _ hlk) (fun _ h9 => h9) rfl hdg kk
theorem hp_1_7 {a : Nat} (hx : p.tables.exec = Jvm.exec) (hb : c.code = cc) (hts : ∀ w ∈ Ts, w.before args s = true) (hin : ∀ w ∈ u_ws RX1 TX1 12, w ∈ Ts) (hown : s.vm.findClass own = some m.cls) (hlk : Cond.fieldLink own index "HalfBridge$FreeHand" "rule" "LHalfBridge$Rule;" ∈ Ts) (hI : HI D cy s s0 st H locs cells al ex) (hk : gK st a = 2) {x : Option Nat} (hdg : decode cc pc = .ok (.putfield index, 3)) (kk : ∀ (H1 : Heap) (locs1 : List Loc), HI D cy s s0 (sR st 107 a x) H1 locs1 cells al ex → W p l e R s m args below meth c H1 locs1 cells slots Q (F0 m (pc + 3) ls rest)) : W p l e R s m args below meth c H locs cells slots Q (F0 m pc ls (va_rf x :: .ref a :: rest)) := by
  have hk0 : gK st a ≠ 0 := by rw [hk]; decide
  obtain ⟨k, hk1⟩ := h_at hI hk0
  have hk2 := hk1
  rw [hC_2 hk] at hk2
  refine va_put (D := D) (ci := 1) (v := va_rf x) (ty := (.object "HalfBridge$Rule")) (C := RX1) (T := TX1) (N := 12) hx hb hts hin tyX1 tyX1_ok nmX1 hown hI.1 hI.2.1 hI.2.2.1 (h_S hI) k hk2 rfl 7 (by decide) (hts _ hlk) (fun _ h9 => h9) rfl (by decide +kernel) (by cases x <;> rfl) (by cases x <;> rfl) (by show 7 < (fl1 st a).length; exact Nat.le_of_ble_eq_true rfl) hdg (fun H1 locs1 q1 q2 q3 => kk H1 locs1 (h_upd hI hk0 hk1 rfl rfl (fun _ => rfl) ?_ ?_ q1 q2 q3))
  · rw [hC_2 (st := (sR st 107 a x)) (a := a) hk]
    simp [fl1, sR, va_up, gI, gR]
  · intro b hb
    exact hC_ext (fun _ => rfl) (fun f => up2_ne hb) rfl rfl rfl rfl rfl
theorem hg_1_8 {a : Nat} (hx : p.tables.exec = Jvm.exec) (hb : c.code = cc) (hts : ∀ w ∈ Ts, w.before args s = true) (hin : ∀ w ∈ u_ws RX1 TX1 12, w ∈ Ts) (hown : s.vm.findClass own = some m.cls) (hlk : Cond.fieldLink own index "HalfBridge$FreeHand" "side" "I" ∈ Ts) (hI : HI D cy s s0 st H locs cells al ex) (hk : gK st a = 2) (hdg : decode cc pc = .ok (.getfield index, 3)) (kk : W p l e R s m args below meth c H locs cells slots Q (F0 m (pc + 3) ls (.int (gI st 108 a) :: rest))) : W p l e R s m args below meth c H locs cells slots Q (F0 m pc ls (.ref a :: rest)) := by
  obtain ⟨k, hk2⟩ := h_at hI (by rw [hk]; decide)
  rw [hC_2 hk] at hk2
  exact va_get (D := D) (ci := 1) (v := .int (gI st 108 a)) (C := RX1) (T := TX1) (N := 12) hx hb hts hin hown hI.1 hI.2.1 k hk2 rfl 8 (by decide) (hts _ hlk) (fun _ h9 => h9) rfl hdg kk
theorem hp_1_8 {a : Nat} (hx : p.tables.exec = Jvm.exec) (hb : c.code = cc) (hts : ∀ w ∈ Ts, w.before args s = true) (hin : ∀ w ∈ u_ws RX1 TX1 12, w ∈ Ts) (hown : s.vm.findClass own = some m.cls) (hlk : Cond.fieldLink own index "HalfBridge$FreeHand" "side" "I" ∈ Ts) (hI : HI D cy s s0 st H locs cells al ex) (hk : gK st a = 2) {x : Int32} (hdg : decode cc pc = .ok (.putfield index, 3)) (kk : ∀ (H1 : Heap) (locs1 : List Loc), HI D cy s s0 (sI st 108 a x) H1 locs1 cells al ex → W p l e R s m args below meth c H1 locs1 cells slots Q (F0 m (pc + 3) ls rest)) : W p l e R s m args below meth c H locs cells slots Q (F0 m pc ls (.int x :: .ref a :: rest)) := by
  have hk0 : gK st a ≠ 0 := by rw [hk]; decide
  obtain ⟨k, hk1⟩ := h_at hI hk0
  have hk2 := hk1
  rw [hC_2 hk] at hk2
  refine va_put (D := D) (ci := 1) (v := .int x) (ty := .int) (C := RX1) (T := TX1) (N := 12) hx hb hts hin tyX1 tyX1_ok nmX1 hown hI.1 hI.2.1 hI.2.2.1 (h_S hI) k hk2 rfl 8 (by decide) (hts _ hlk) (fun _ h9 => h9) rfl (by decide +kernel) rfl rfl (by show 8 < (fl1 st a).length; exact Nat.le_of_ble_eq_true rfl) hdg (fun H1 locs1 q1 q2 q3 => kk H1 locs1 (h_upd hI hk0 hk1 rfl rfl (fun _ => rfl) ?_ ?_ q1 q2 q3))
  · rw [hC_2 (st := (sI st 108 a x)) (a := a) hk]
    simp [fl1, sI, va_up, gI, gR]
  · intro b hb
    exact hC_ext (fun f => up2_ne hb) (fun _ => rfl) rfl rfl rfl rfl rfl
theorem hg_1_9 {a : Nat} (hx : p.tables.exec = Jvm.exec) (hb : c.code = cc) (hts : ∀ w ∈ Ts, w.before args s = true) (hin : ∀ w ∈ u_ws RX1 TX1 12, w ∈ Ts) (hown : s.vm.findClass own = some m.cls) (hlk : Cond.fieldLink own index "HalfBridge$FreeHand" "days" "I" ∈ Ts) (hI : HI D cy s s0 st H locs cells al ex) (hk : gK st a = 2) (hdg : decode cc pc = .ok (.getfield index, 3)) (kk : W p l e R s m args below meth c H locs cells slots Q (F0 m (pc + 3) ls (.int (gI st 109 a) :: rest))) : W p l e R s m args below meth c H locs cells slots Q (F0 m pc ls (.ref a :: rest)) := by
  obtain ⟨k, hk2⟩ := h_at hI (by rw [hk]; decide)
  rw [hC_2 hk] at hk2
  exact va_get (D := D) (ci := 1) (v := .int (gI st 109 a)) (C := RX1) (T := TX1) (N := 12) hx hb hts hin hown hI.1 hI.2.1 k hk2 rfl 9 (by decide) (hts _ hlk) (fun _ h9 => h9) rfl hdg kk
theorem hp_1_9 {a : Nat} (hx : p.tables.exec = Jvm.exec) (hb : c.code = cc) (hts : ∀ w ∈ Ts, w.before args s = true) (hin : ∀ w ∈ u_ws RX1 TX1 12, w ∈ Ts) (hown : s.vm.findClass own = some m.cls) (hlk : Cond.fieldLink own index "HalfBridge$FreeHand" "days" "I" ∈ Ts) (hI : HI D cy s s0 st H locs cells al ex) (hk : gK st a = 2) {x : Int32} (hdg : decode cc pc = .ok (.putfield index, 3)) (kk : ∀ (H1 : Heap) (locs1 : List Loc), HI D cy s s0 (sI st 109 a x) H1 locs1 cells al ex → W p l e R s m args below meth c H1 locs1 cells slots Q (F0 m (pc + 3) ls rest)) : W p l e R s m args below meth c H locs cells slots Q (F0 m pc ls (.int x :: .ref a :: rest)) := by
  have hk0 : gK st a ≠ 0 := by rw [hk]; decide
  obtain ⟨k, hk1⟩ := h_at hI hk0
  have hk2 := hk1
  rw [hC_2 hk] at hk2
  refine va_put (D := D) (ci := 1) (v := .int x) (ty := .int) (C := RX1) (T := TX1) (N := 12) hx hb hts hin tyX1 tyX1_ok nmX1 hown hI.1 hI.2.1 hI.2.2.1 (h_S hI) k hk2 rfl 9 (by decide) (hts _ hlk) (fun _ h9 => h9) rfl (by decide +kernel) rfl rfl (by show 9 < (fl1 st a).length; exact Nat.le_of_ble_eq_true rfl) hdg (fun H1 locs1 q1 q2 q3 => kk H1 locs1 (h_upd hI hk0 hk1 rfl rfl (fun _ => rfl) ?_ ?_ q1 q2 q3))
  · rw [hC_2 (st := (sI st 109 a x)) (a := a) hk]
    simp [fl1, sI, va_up, gI, gR]
  · intro b hb
    exact hC_ext (fun f => up2_ne hb) (fun _ => rfl) rfl rfl rfl rfl rfl
theorem hg_1_10 {a : Nat} (hx : p.tables.exec = Jvm.exec) (hb : c.code = cc) (hts : ∀ w ∈ Ts, w.before args s = true) (hin : ∀ w ∈ u_ws RX1 TX1 12, w ∈ Ts) (hown : s.vm.findClass own = some m.cls) (hlk : Cond.fieldLink own index "HalfBridge$FreeHand" "isSpiteful" "Z" ∈ Ts) (hI : HI D cy s s0 st H locs cells al ex) (hk : gK st a = 2) (hdg : decode cc pc = .ok (.getfield index, 3)) (kk : W p l e R s m args below meth c H locs cells slots Q (F0 m (pc + 3) ls (.int (gI st 110 a) :: rest))) : W p l e R s m args below meth c H locs cells slots Q (F0 m pc ls (.ref a :: rest)) := by
  obtain ⟨k, hk2⟩ := h_at hI (by rw [hk]; decide)
  rw [hC_2 hk] at hk2
  exact va_get (D := D) (ci := 1) (v := .int (gI st 110 a)) (C := RX1) (T := TX1) (N := 12) hx hb hts hin hown hI.1 hI.2.1 k hk2 rfl 10 (by decide) (hts _ hlk) (fun _ h9 => h9) rfl hdg kk
theorem hp_1_10 {a : Nat} (hx : p.tables.exec = Jvm.exec) (hb : c.code = cc) (hts : ∀ w ∈ Ts, w.before args s = true) (hin : ∀ w ∈ u_ws RX1 TX1 12, w ∈ Ts) (hown : s.vm.findClass own = some m.cls) (hlk : Cond.fieldLink own index "HalfBridge$FreeHand" "isSpiteful" "Z" ∈ Ts) (hI : HI D cy s s0 st H locs cells al ex) (hk : gK st a = 2) {x : Int32} (hz01 : x = 0 ∨ x = 1) (hdg : decode cc pc = .ok (.putfield index, 3)) (kk : ∀ (H1 : Heap) (locs1 : List Loc), HI D cy s s0 (sI st 110 a x) H1 locs1 cells al ex → W p l e R s m args below meth c H1 locs1 cells slots Q (F0 m (pc + 3) ls rest)) : W p l e R s m args below meth c H locs cells slots Q (F0 m pc ls (.int x :: .ref a :: rest)) := by
  have hz : narrow .boolean (.int x) = .int x := by rcases hz01 with h | h <;> subst h <;> decide
  have hk0 : gK st a ≠ 0 := by rw [hk]; decide
  obtain ⟨k, hk1⟩ := h_at hI hk0
  have hk2 := hk1
  rw [hC_2 hk] at hk2
  refine va_put (D := D) (ci := 1) (v := .int x) (ty := .boolean) (C := RX1) (T := TX1) (N := 12) hx hb hts hin tyX1 tyX1_ok nmX1 hown hI.1 hI.2.1 hI.2.2.1 (h_S hI) k hk2 rfl 10 (by decide) (hts _ hlk) (fun _ h9 => h9) rfl (by decide +kernel) hz (by rcases hz01 with h | h <;> subst h <;> decide) (by show 10 < (fl1 st a).length; exact Nat.le_of_ble_eq_true rfl) hdg (fun H1 locs1 q1 q2 q3 => kk H1 locs1 (h_upd hI hk0 hk1 rfl rfl (fun _ => rfl) ?_ ?_ q1 q2 q3))
  · rw [hC_2 (st := (sI st 110 a x)) (a := a) hk]
    simp [fl1, sI, va_up, gI, gR]
  · intro b hb
    exact hC_ext (fun f => up2_ne hb) (fun _ => rfl) rfl rfl rfl rfl rfl
theorem hg_1_11 {a : Nat} (hx : p.tables.exec = Jvm.exec) (hb : c.code = cc) (hts : ∀ w ∈ Ts, w.before args s = true) (hin : ∀ w ∈ u_ws RX1 TX1 12, w ∈ Ts) (hown : s.vm.findClass own = some m.cls) (hlk : Cond.fieldLink own index "HalfBridge$FreeHand" "purse" "I" ∈ Ts) (hI : HI D cy s s0 st H locs cells al ex) (hk : gK st a = 2) (hdg : decode cc pc = .ok (.getfield index, 3)) (kk : W p l e R s m args below meth c H locs cells slots Q (F0 m (pc + 3) ls (.int (gI st 111 a) :: rest))) : W p l e R s m args below meth c H locs cells slots Q (F0 m pc ls (.ref a :: rest)) := by
  obtain ⟨k, hk2⟩ := h_at hI (by rw [hk]; decide)
  rw [hC_2 hk] at hk2
  exact va_get (D := D) (ci := 1) (v := .int (gI st 111 a)) (C := RX1) (T := TX1) (N := 12) hx hb hts hin hown hI.1 hI.2.1 k hk2 rfl 11 (by decide) (hts _ hlk) (fun _ h9 => h9) rfl hdg kk
theorem hp_1_11 {a : Nat} (hx : p.tables.exec = Jvm.exec) (hb : c.code = cc) (hts : ∀ w ∈ Ts, w.before args s = true) (hin : ∀ w ∈ u_ws RX1 TX1 12, w ∈ Ts) (hown : s.vm.findClass own = some m.cls) (hlk : Cond.fieldLink own index "HalfBridge$FreeHand" "purse" "I" ∈ Ts) (hI : HI D cy s s0 st H locs cells al ex) (hk : gK st a = 2) {x : Int32} (hdg : decode cc pc = .ok (.putfield index, 3)) (kk : ∀ (H1 : Heap) (locs1 : List Loc), HI D cy s s0 (sI st 111 a x) H1 locs1 cells al ex → W p l e R s m args below meth c H1 locs1 cells slots Q (F0 m (pc + 3) ls rest)) : W p l e R s m args below meth c H locs cells slots Q (F0 m pc ls (.int x :: .ref a :: rest)) := by
  have hk0 : gK st a ≠ 0 := by rw [hk]; decide
  obtain ⟨k, hk1⟩ := h_at hI hk0
  have hk2 := hk1
  rw [hC_2 hk] at hk2
  refine va_put (D := D) (ci := 1) (v := .int x) (ty := .int) (C := RX1) (T := TX1) (N := 12) hx hb hts hin tyX1 tyX1_ok nmX1 hown hI.1 hI.2.1 hI.2.2.1 (h_S hI) k hk2 rfl 11 (by decide) (hts _ hlk) (fun _ h9 => h9) rfl (by decide +kernel) rfl rfl (by show 11 < (fl1 st a).length; exact Nat.le_of_ble_eq_true rfl) hdg (fun H1 locs1 q1 q2 q3 => kk H1 locs1 (h_upd hI hk0 hk1 rfl rfl (fun _ => rfl) ?_ ?_ q1 q2 q3))
  · rw [hC_2 (st := (sI st 111 a x)) (a := a) hk]
    simp [fl1, sI, va_up, gI, gR]
  · intro b hb
    exact hC_ext (fun f => up2_ne hb) (fun _ => rfl) rfl rfl rfl rfl rfl
theorem hg_2_0 {a : Nat} (hx : p.tables.exec = Jvm.exec) (hb : c.code = cc) (hts : ∀ w ∈ Ts, w.before args s = true) (hin : ∀ w ∈ u_ws RX2 TX2 11, w ∈ Ts) (hown : s.vm.findClass own = some m.cls) (hlk : Cond.fieldLink own index "HalfBridge$Inquest" "rows" "I" ∈ Ts) (hI : HI D cy s s0 st H locs cells al ex) (hk : gK st a = 3) (hdg : decode cc pc = .ok (.getfield index, 3)) (kk : W p l e R s m args below meth c H locs cells slots Q (F0 m (pc + 3) ls (.int (gI st 200 a) :: rest))) : W p l e R s m args below meth c H locs cells slots Q (F0 m pc ls (.ref a :: rest)) := by
  obtain ⟨k, hk2⟩ := h_at hI (by rw [hk]; decide)
  rw [hC_3 hk] at hk2
  exact va_get (D := D) (ci := 2) (v := .int (gI st 200 a)) (C := RX2) (T := TX2) (N := 11) hx hb hts hin hown hI.1 hI.2.1 k hk2 rfl 0 (by decide) (hts _ hlk) (fun _ h9 => h9) rfl hdg kk
theorem hp_2_0 {a : Nat} (hx : p.tables.exec = Jvm.exec) (hb : c.code = cc) (hts : ∀ w ∈ Ts, w.before args s = true) (hin : ∀ w ∈ u_ws RX2 TX2 11, w ∈ Ts) (hown : s.vm.findClass own = some m.cls) (hlk : Cond.fieldLink own index "HalfBridge$Inquest" "rows" "I" ∈ Ts) (hI : HI D cy s s0 st H locs cells al ex) (hk : gK st a = 3) {x : Int32} (hdg : decode cc pc = .ok (.putfield index, 3)) (kk : ∀ (H1 : Heap) (locs1 : List Loc), HI D cy s s0 (sI st 200 a x) H1 locs1 cells al ex → W p l e R s m args below meth c H1 locs1 cells slots Q (F0 m (pc + 3) ls rest)) : W p l e R s m args below meth c H locs cells slots Q (F0 m pc ls (.int x :: .ref a :: rest)) := by
  have hk0 : gK st a ≠ 0 := by rw [hk]; decide
  obtain ⟨k, hk1⟩ := h_at hI hk0
  have hk2 := hk1
  rw [hC_3 hk] at hk2
  refine va_put (D := D) (ci := 2) (v := .int x) (ty := .int) (C := RX2) (T := TX2) (N := 11) hx hb hts hin tyX2 tyX2_ok nmX2 hown hI.1 hI.2.1 hI.2.2.1 (h_S hI) k hk2 rfl 0 (by decide) (hts _ hlk) (fun _ h9 => h9) rfl (by decide +kernel) rfl rfl (by show 0 < (fl2 st a).length; exact Nat.le_of_ble_eq_true rfl) hdg (fun H1 locs1 q1 q2 q3 => kk H1 locs1 (h_upd hI hk0 hk1 rfl rfl (fun _ => rfl) ?_ ?_ q1 q2 q3))
  · rw [hC_3 (st := (sI st 200 a x)) (a := a) hk]
    simp [fl2, sI, va_up, gI, gR]
  · intro b hb
    exact hC_ext (fun f => up2_ne hb) (fun _ => rfl) rfl rfl rfl rfl rfl
theorem hg_2_1 {a : Nat} (hx : p.tables.exec = Jvm.exec) (hb : c.code = cc) (hts : ∀ w ∈ Ts, w.before args s = true) (hin : ∀ w ∈ u_ws RX2 TX2 11, w ∈ Ts) (hown : s.vm.findClass own = some m.cls) (hlk : Cond.fieldLink own index "HalfBridge$Inquest" "looker" "LHalfBridge$Looker;" ∈ Ts) (hI : HI D cy s s0 st H locs cells al ex) (hk : gK st a = 3) (hdg : decode cc pc = .ok (.getfield index, 3)) (kk : W p l e R s m args below meth c H locs cells slots Q (F0 m (pc + 3) ls (va_rf (gR st 201 a) :: rest))) : W p l e R s m args below meth c H locs cells slots Q (F0 m pc ls (.ref a :: rest)) := by
  obtain ⟨k, hk2⟩ := h_at hI (by rw [hk]; decide)
  rw [hC_3 hk] at hk2
  exact va_get (D := D) (ci := 2) (v := va_rf (gR st 201 a)) (C := RX2) (T := TX2) (N := 11) hx hb hts hin hown hI.1 hI.2.1 k hk2 rfl 1 (by decide) (hts _ hlk) (fun _ h9 => h9) rfl hdg kk
theorem hp_2_1 {a : Nat} (hx : p.tables.exec = Jvm.exec) (hb : c.code = cc) (hts : ∀ w ∈ Ts, w.before args s = true) (hin : ∀ w ∈ u_ws RX2 TX2 11, w ∈ Ts) (hown : s.vm.findClass own = some m.cls) (hlk : Cond.fieldLink own index "HalfBridge$Inquest" "looker" "LHalfBridge$Looker;" ∈ Ts) (hI : HI D cy s s0 st H locs cells al ex) (hk : gK st a = 3) {x : Option Nat} (hin2 : meth.name = "<init>") (hdecl : "HalfBridge$Inquest" = own) (hdg : decode cc pc = .ok (.putfield index, 3)) (kk : ∀ (H1 : Heap) (locs1 : List Loc), HI D cy s s0 (sR st 201 a x) H1 locs1 cells al ex → W p l e R s m args below meth c H1 locs1 cells slots Q (F0 m (pc + 3) ls rest)) : W p l e R s m args below meth c H locs cells slots Q (F0 m pc ls (va_rf x :: .ref a :: rest)) := by
  have hk0 : gK st a ≠ 0 := by rw [hk]; decide
  obtain ⟨k, hk1⟩ := h_at hI hk0
  have hk2 := hk1
  rw [hC_3 hk] at hk2
  refine va_putF (D := D) (ci := 2) (v := va_rf x) (ty := (.object "HalfBridge$Looker")) (C := RX2) (T := TX2) (N := 11) hx hb hts hin tyX2 tyX2_ok nmX2 hown hI.1 hI.2.1 hI.2.2.1 (h_S hI) k hk2 rfl 1 (by decide) (hts _ hlk) (fun _ h9 => h9) rfl hin2 hdecl (by decide +kernel) (by cases x <;> rfl) (by cases x <;> rfl) (by show 1 < (fl2 st a).length; exact Nat.le_of_ble_eq_true rfl) hdg (fun H1 locs1 q1 q2 q3 => kk H1 locs1 (h_upd hI hk0 hk1 rfl rfl (fun _ => rfl) ?_ ?_ q1 q2 q3))
  · rw [hC_3 (st := (sR st 201 a x)) (a := a) hk]
    simp [fl2, sR, va_up, gI, gR]
  · intro b hb
    exact hC_ext (fun _ => rfl) (fun f => up2_ne hb) rfl rfl rfl rfl rfl
theorem hg_2_2 {a : Nat} (hx : p.tables.exec = Jvm.exec) (hb : c.code = cc) (hts : ∀ w ∈ Ts, w.before args s = true) (hin : ∀ w ∈ u_ws RX2 TX2 11, w ∈ Ts) (hown : s.vm.findClass own = some m.cls) (hlk : Cond.fieldLink own index "HalfBridge$Inquest" "spares" "[LHalfBridge$Span;" ∈ Ts) (hI : HI D cy s s0 st H locs cells al ex) (hk : gK st a = 3) (hdg : decode cc pc = .ok (.getfield index, 3)) (kk : W p l e R s m args below meth c H locs cells slots Q (F0 m (pc + 3) ls (va_rf (gR st 202 a) :: rest))) : W p l e R s m args below meth c H locs cells slots Q (F0 m pc ls (.ref a :: rest)) := by
  obtain ⟨k, hk2⟩ := h_at hI (by rw [hk]; decide)
  rw [hC_3 hk] at hk2
  exact va_get (D := D) (ci := 2) (v := va_rf (gR st 202 a)) (C := RX2) (T := TX2) (N := 11) hx hb hts hin hown hI.1 hI.2.1 k hk2 rfl 2 (by decide) (hts _ hlk) (fun _ h9 => h9) rfl hdg kk
theorem hp_2_2 {a : Nat} (hx : p.tables.exec = Jvm.exec) (hb : c.code = cc) (hts : ∀ w ∈ Ts, w.before args s = true) (hin : ∀ w ∈ u_ws RX2 TX2 11, w ∈ Ts) (hown : s.vm.findClass own = some m.cls) (hlk : Cond.fieldLink own index "HalfBridge$Inquest" "spares" "[LHalfBridge$Span;" ∈ Ts) (hI : HI D cy s s0 st H locs cells al ex) (hk : gK st a = 3) {x : Option Nat} (hin2 : meth.name = "<init>") (hdecl : "HalfBridge$Inquest" = own) (hdg : decode cc pc = .ok (.putfield index, 3)) (kk : ∀ (H1 : Heap) (locs1 : List Loc), HI D cy s s0 (sR st 202 a x) H1 locs1 cells al ex → W p l e R s m args below meth c H1 locs1 cells slots Q (F0 m (pc + 3) ls rest)) : W p l e R s m args below meth c H locs cells slots Q (F0 m pc ls (va_rf x :: .ref a :: rest)) := by
  have hk0 : gK st a ≠ 0 := by rw [hk]; decide
  obtain ⟨k, hk1⟩ := h_at hI hk0
  have hk2 := hk1
  rw [hC_3 hk] at hk2
  refine va_putF (D := D) (ci := 2) (v := va_rf x) (ty := (.array (.object "HalfBridge$Span"))) (C := RX2) (T := TX2) (N := 11) hx hb hts hin tyX2 tyX2_ok nmX2 hown hI.1 hI.2.1 hI.2.2.1 (h_S hI) k hk2 rfl 2 (by decide) (hts _ hlk) (fun _ h9 => h9) rfl hin2 hdecl (by decide +kernel) (by cases x <;> rfl) (by cases x <;> rfl) (by show 2 < (fl2 st a).length; exact Nat.le_of_ble_eq_true rfl) hdg (fun H1 locs1 q1 q2 q3 => kk H1 locs1 (h_upd hI hk0 hk1 rfl rfl (fun _ => rfl) ?_ ?_ q1 q2 q3))
  · rw [hC_3 (st := (sR st 202 a x)) (a := a) hk]
    simp [fl2, sR, va_up, gI, gR]
  · intro b hb
    exact hC_ext (fun _ => rfl) (fun f => up2_ne hb) rfl rfl rfl rfl rfl
theorem hg_2_3 {a : Nat} (hx : p.tables.exec = Jvm.exec) (hb : c.code = cc) (hts : ∀ w ∈ Ts, w.before args s = true) (hin : ∀ w ∈ u_ws RX2 TX2 11, w ∈ Ts) (hown : s.vm.findClass own = some m.cls) (hlk : Cond.fieldLink own index "HalfBridge$Inquest" "errorSigns" "[I" ∈ Ts) (hI : HI D cy s s0 st H locs cells al ex) (hk : gK st a = 3) (hdg : decode cc pc = .ok (.getfield index, 3)) (kk : W p l e R s m args below meth c H locs cells slots Q (F0 m (pc + 3) ls (va_rf (gR st 203 a) :: rest))) : W p l e R s m args below meth c H locs cells slots Q (F0 m pc ls (.ref a :: rest)) := by
  obtain ⟨k, hk2⟩ := h_at hI (by rw [hk]; decide)
  rw [hC_3 hk] at hk2
  exact va_get (D := D) (ci := 2) (v := va_rf (gR st 203 a)) (C := RX2) (T := TX2) (N := 11) hx hb hts hin hown hI.1 hI.2.1 k hk2 rfl 3 (by decide) (hts _ hlk) (fun _ h9 => h9) rfl hdg kk
theorem hp_2_3 {a : Nat} (hx : p.tables.exec = Jvm.exec) (hb : c.code = cc) (hts : ∀ w ∈ Ts, w.before args s = true) (hin : ∀ w ∈ u_ws RX2 TX2 11, w ∈ Ts) (hown : s.vm.findClass own = some m.cls) (hlk : Cond.fieldLink own index "HalfBridge$Inquest" "errorSigns" "[I" ∈ Ts) (hI : HI D cy s s0 st H locs cells al ex) (hk : gK st a = 3) {x : Option Nat} (hin2 : meth.name = "<init>") (hdecl : "HalfBridge$Inquest" = own) (hdg : decode cc pc = .ok (.putfield index, 3)) (kk : ∀ (H1 : Heap) (locs1 : List Loc), HI D cy s s0 (sR st 203 a x) H1 locs1 cells al ex → W p l e R s m args below meth c H1 locs1 cells slots Q (F0 m (pc + 3) ls rest)) : W p l e R s m args below meth c H locs cells slots Q (F0 m pc ls (va_rf x :: .ref a :: rest)) := by
  have hk0 : gK st a ≠ 0 := by rw [hk]; decide
  obtain ⟨k, hk1⟩ := h_at hI hk0
  have hk2 := hk1
  rw [hC_3 hk] at hk2
  refine va_putF (D := D) (ci := 2) (v := va_rf x) (ty := (.array .int)) (C := RX2) (T := TX2) (N := 11) hx hb hts hin tyX2 tyX2_ok nmX2 hown hI.1 hI.2.1 hI.2.2.1 (h_S hI) k hk2 rfl 3 (by decide) (hts _ hlk) (fun _ h9 => h9) rfl hin2 hdecl (by decide +kernel) (by cases x <;> rfl) (by cases x <;> rfl) (by show 3 < (fl2 st a).length; exact Nat.le_of_ble_eq_true rfl) hdg (fun H1 locs1 q1 q2 q3 => kk H1 locs1 (h_upd hI hk0 hk1 rfl rfl (fun _ => rfl) ?_ ?_ q1 q2 q3))
  · rw [hC_3 (st := (sR st 203 a x)) (a := a) hk]
    simp [fl2, sR, va_up, gI, gR]
  · intro b hb
    exact hC_ext (fun _ => rfl) (fun f => up2_ne hb) rfl rfl rfl rfl rfl
theorem hg_2_4 {a : Nat} (hx : p.tables.exec = Jvm.exec) (hb : c.code = cc) (hts : ∀ w ∈ Ts, w.before args s = true) (hin : ∀ w ∈ u_ws RX2 TX2 11, w ∈ Ts) (hown : s.vm.findClass own = some m.cls) (hlk : Cond.fieldLink own index "HalfBridge$Inquest" "rightPlans" "[I" ∈ Ts) (hI : HI D cy s s0 st H locs cells al ex) (hk : gK st a = 3) (hdg : decode cc pc = .ok (.getfield index, 3)) (kk : W p l e R s m args below meth c H locs cells slots Q (F0 m (pc + 3) ls (va_rf (gR st 204 a) :: rest))) : W p l e R s m args below meth c H locs cells slots Q (F0 m pc ls (.ref a :: rest)) := by
  obtain ⟨k, hk2⟩ := h_at hI (by rw [hk]; decide)
  rw [hC_3 hk] at hk2
  exact va_get (D := D) (ci := 2) (v := va_rf (gR st 204 a)) (C := RX2) (T := TX2) (N := 11) hx hb hts hin hown hI.1 hI.2.1 k hk2 rfl 4 (by decide) (hts _ hlk) (fun _ h9 => h9) rfl hdg kk
theorem hp_2_4 {a : Nat} (hx : p.tables.exec = Jvm.exec) (hb : c.code = cc) (hts : ∀ w ∈ Ts, w.before args s = true) (hin : ∀ w ∈ u_ws RX2 TX2 11, w ∈ Ts) (hown : s.vm.findClass own = some m.cls) (hlk : Cond.fieldLink own index "HalfBridge$Inquest" "rightPlans" "[I" ∈ Ts) (hI : HI D cy s s0 st H locs cells al ex) (hk : gK st a = 3) {x : Option Nat} (hin2 : meth.name = "<init>") (hdecl : "HalfBridge$Inquest" = own) (hdg : decode cc pc = .ok (.putfield index, 3)) (kk : ∀ (H1 : Heap) (locs1 : List Loc), HI D cy s s0 (sR st 204 a x) H1 locs1 cells al ex → W p l e R s m args below meth c H1 locs1 cells slots Q (F0 m (pc + 3) ls rest)) : W p l e R s m args below meth c H locs cells slots Q (F0 m pc ls (va_rf x :: .ref a :: rest)) := by
  have hk0 : gK st a ≠ 0 := by rw [hk]; decide
  obtain ⟨k, hk1⟩ := h_at hI hk0
  have hk2 := hk1
  rw [hC_3 hk] at hk2
  refine va_putF (D := D) (ci := 2) (v := va_rf x) (ty := (.array .int)) (C := RX2) (T := TX2) (N := 11) hx hb hts hin tyX2 tyX2_ok nmX2 hown hI.1 hI.2.1 hI.2.2.1 (h_S hI) k hk2 rfl 4 (by decide) (hts _ hlk) (fun _ h9 => h9) rfl hin2 hdecl (by decide +kernel) (by cases x <;> rfl) (by cases x <;> rfl) (by show 4 < (fl2 st a).length; exact Nat.le_of_ble_eq_true rfl) hdg (fun H1 locs1 q1 q2 q3 => kk H1 locs1 (h_upd hI hk0 hk1 rfl rfl (fun _ => rfl) ?_ ?_ q1 q2 q3))
  · rw [hC_3 (st := (sR st 204 a x)) (a := a) hk]
    simp [fl2, sR, va_up, gI, gR]
  · intro b hb
    exact hC_ext (fun _ => rfl) (fun f => up2_ne hb) rfl rfl rfl rfl rfl
theorem hg_2_5 {a : Nat} (hx : p.tables.exec = Jvm.exec) (hb : c.code = cc) (hts : ∀ w ∈ Ts, w.before args s = true) (hin : ∀ w ∈ u_ws RX2 TX2 11, w ∈ Ts) (hown : s.vm.findClass own = some m.cls) (hlk : Cond.fieldLink own index "HalfBridge$Inquest" "erredRows" "[I" ∈ Ts) (hI : HI D cy s s0 st H locs cells al ex) (hk : gK st a = 3) (hdg : decode cc pc = .ok (.getfield index, 3)) (kk : W p l e R s m args below meth c H locs cells slots Q (F0 m (pc + 3) ls (va_rf (gR st 205 a) :: rest))) : W p l e R s m args below meth c H locs cells slots Q (F0 m pc ls (.ref a :: rest)) := by
  obtain ⟨k, hk2⟩ := h_at hI (by rw [hk]; decide)
  rw [hC_3 hk] at hk2
  exact va_get (D := D) (ci := 2) (v := va_rf (gR st 205 a)) (C := RX2) (T := TX2) (N := 11) hx hb hts hin hown hI.1 hI.2.1 k hk2 rfl 5 (by decide) (hts _ hlk) (fun _ h9 => h9) rfl hdg kk
theorem hp_2_5 {a : Nat} (hx : p.tables.exec = Jvm.exec) (hb : c.code = cc) (hts : ∀ w ∈ Ts, w.before args s = true) (hin : ∀ w ∈ u_ws RX2 TX2 11, w ∈ Ts) (hown : s.vm.findClass own = some m.cls) (hlk : Cond.fieldLink own index "HalfBridge$Inquest" "erredRows" "[I" ∈ Ts) (hI : HI D cy s s0 st H locs cells al ex) (hk : gK st a = 3) {x : Option Nat} (hin2 : meth.name = "<init>") (hdecl : "HalfBridge$Inquest" = own) (hdg : decode cc pc = .ok (.putfield index, 3)) (kk : ∀ (H1 : Heap) (locs1 : List Loc), HI D cy s s0 (sR st 205 a x) H1 locs1 cells al ex → W p l e R s m args below meth c H1 locs1 cells slots Q (F0 m (pc + 3) ls rest)) : W p l e R s m args below meth c H locs cells slots Q (F0 m pc ls (va_rf x :: .ref a :: rest)) := by
  have hk0 : gK st a ≠ 0 := by rw [hk]; decide
  obtain ⟨k, hk1⟩ := h_at hI hk0
  have hk2 := hk1
  rw [hC_3 hk] at hk2
  refine va_putF (D := D) (ci := 2) (v := va_rf x) (ty := (.array .int)) (C := RX2) (T := TX2) (N := 11) hx hb hts hin tyX2 tyX2_ok nmX2 hown hI.1 hI.2.1 hI.2.2.1 (h_S hI) k hk2 rfl 5 (by decide) (hts _ hlk) (fun _ h9 => h9) rfl hin2 hdecl (by decide +kernel) (by cases x <;> rfl) (by cases x <;> rfl) (by show 5 < (fl2 st a).length; exact Nat.le_of_ble_eq_true rfl) hdg (fun H1 locs1 q1 q2 q3 => kk H1 locs1 (h_upd hI hk0 hk1 rfl rfl (fun _ => rfl) ?_ ?_ q1 q2 q3))
  · rw [hC_3 (st := (sR st 205 a x)) (a := a) hk]
    simp [fl2, sR, va_up, gI, gR]
  · intro b hb
    exact hC_ext (fun _ => rfl) (fun f => up2_ne hb) rfl rfl rfl rfl rfl
theorem hg_2_6 {a : Nat} (hx : p.tables.exec = Jvm.exec) (hb : c.code = cc) (hts : ∀ w ∈ Ts, w.before args s = true) (hin : ∀ w ∈ u_ws RX2 TX2 11, w ∈ Ts) (hown : s.vm.findClass own = some m.cls) (hlk : Cond.fieldLink own index "HalfBridge$Inquest" "told" "LHalfBridge$Site;" ∈ Ts) (hI : HI D cy s s0 st H locs cells al ex) (hk : gK st a = 3) (hdg : decode cc pc = .ok (.getfield index, 3)) (kk : W p l e R s m args below meth c H locs cells slots Q (F0 m (pc + 3) ls (va_rf (gR st 206 a) :: rest))) : W p l e R s m args below meth c H locs cells slots Q (F0 m pc ls (.ref a :: rest)) := by
  obtain ⟨k, hk2⟩ := h_at hI (by rw [hk]; decide)
  rw [hC_3 hk] at hk2
  exact va_get (D := D) (ci := 2) (v := va_rf (gR st 206 a)) (C := RX2) (T := TX2) (N := 11) hx hb hts hin hown hI.1 hI.2.1 k hk2 rfl 6 (by decide) (hts _ hlk) (fun _ h9 => h9) rfl hdg kk
theorem hp_2_6 {a : Nat} (hx : p.tables.exec = Jvm.exec) (hb : c.code = cc) (hts : ∀ w ∈ Ts, w.before args s = true) (hin : ∀ w ∈ u_ws RX2 TX2 11, w ∈ Ts) (hown : s.vm.findClass own = some m.cls) (hlk : Cond.fieldLink own index "HalfBridge$Inquest" "told" "LHalfBridge$Site;" ∈ Ts) (hI : HI D cy s s0 st H locs cells al ex) (hk : gK st a = 3) {x : Option Nat} (hdg : decode cc pc = .ok (.putfield index, 3)) (kk : ∀ (H1 : Heap) (locs1 : List Loc), HI D cy s s0 (sR st 206 a x) H1 locs1 cells al ex → W p l e R s m args below meth c H1 locs1 cells slots Q (F0 m (pc + 3) ls rest)) : W p l e R s m args below meth c H locs cells slots Q (F0 m pc ls (va_rf x :: .ref a :: rest)) := by
  have hk0 : gK st a ≠ 0 := by rw [hk]; decide
  obtain ⟨k, hk1⟩ := h_at hI hk0
  have hk2 := hk1
  rw [hC_3 hk] at hk2
  refine va_put (D := D) (ci := 2) (v := va_rf x) (ty := (.object "HalfBridge$Site")) (C := RX2) (T := TX2) (N := 11) hx hb hts hin tyX2 tyX2_ok nmX2 hown hI.1 hI.2.1 hI.2.2.1 (h_S hI) k hk2 rfl 6 (by decide) (hts _ hlk) (fun _ h9 => h9) rfl (by decide +kernel) (by cases x <;> rfl) (by cases x <;> rfl) (by show 6 < (fl2 st a).length; exact Nat.le_of_ble_eq_true rfl) hdg (fun H1 locs1 q1 q2 q3 => kk H1 locs1 (h_upd hI hk0 hk1 rfl rfl (fun _ => rfl) ?_ ?_ q1 q2 q3))
  · rw [hC_3 (st := (sR st 206 a x)) (a := a) hk]
    simp [fl2, sR, va_up, gI, gR]
  · intro b hb
    exact hC_ext (fun _ => rfl) (fun f => up2_ne hb) rfl rfl rfl rfl rfl
theorem hg_2_7 {a : Nat} (hx : p.tables.exec = Jvm.exec) (hb : c.code = cc) (hts : ∀ w ∈ Ts, w.before args s = true) (hin : ∀ w ∈ u_ws RX2 TX2 11, w ∈ Ts) (hown : s.vm.findClass own = some m.cls) (hlk : Cond.fieldLink own index "HalfBridge$Inquest" "left" "LHalfBridge$Rule;" ∈ Ts) (hI : HI D cy s s0 st H locs cells al ex) (hk : gK st a = 3) (hdg : decode cc pc = .ok (.getfield index, 3)) (kk : W p l e R s m args below meth c H locs cells slots Q (F0 m (pc + 3) ls (va_rf (gR st 207 a) :: rest))) : W p l e R s m args below meth c H locs cells slots Q (F0 m pc ls (.ref a :: rest)) := by
  obtain ⟨k, hk2⟩ := h_at hI (by rw [hk]; decide)
  rw [hC_3 hk] at hk2
  exact va_get (D := D) (ci := 2) (v := va_rf (gR st 207 a)) (C := RX2) (T := TX2) (N := 11) hx hb hts hin hown hI.1 hI.2.1 k hk2 rfl 7 (by decide) (hts _ hlk) (fun _ h9 => h9) rfl hdg kk
theorem hp_2_7 {a : Nat} (hx : p.tables.exec = Jvm.exec) (hb : c.code = cc) (hts : ∀ w ∈ Ts, w.before args s = true) (hin : ∀ w ∈ u_ws RX2 TX2 11, w ∈ Ts) (hown : s.vm.findClass own = some m.cls) (hlk : Cond.fieldLink own index "HalfBridge$Inquest" "left" "LHalfBridge$Rule;" ∈ Ts) (hI : HI D cy s s0 st H locs cells al ex) (hk : gK st a = 3) {x : Option Nat} (hdg : decode cc pc = .ok (.putfield index, 3)) (kk : ∀ (H1 : Heap) (locs1 : List Loc), HI D cy s s0 (sR st 207 a x) H1 locs1 cells al ex → W p l e R s m args below meth c H1 locs1 cells slots Q (F0 m (pc + 3) ls rest)) : W p l e R s m args below meth c H locs cells slots Q (F0 m pc ls (va_rf x :: .ref a :: rest)) := by
  have hk0 : gK st a ≠ 0 := by rw [hk]; decide
  obtain ⟨k, hk1⟩ := h_at hI hk0
  have hk2 := hk1
  rw [hC_3 hk] at hk2
  refine va_put (D := D) (ci := 2) (v := va_rf x) (ty := (.object "HalfBridge$Rule")) (C := RX2) (T := TX2) (N := 11) hx hb hts hin tyX2 tyX2_ok nmX2 hown hI.1 hI.2.1 hI.2.2.1 (h_S hI) k hk2 rfl 7 (by decide) (hts _ hlk) (fun _ h9 => h9) rfl (by decide +kernel) (by cases x <;> rfl) (by cases x <;> rfl) (by show 7 < (fl2 st a).length; exact Nat.le_of_ble_eq_true rfl) hdg (fun H1 locs1 q1 q2 q3 => kk H1 locs1 (h_upd hI hk0 hk1 rfl rfl (fun _ => rfl) ?_ ?_ q1 q2 q3))
  · rw [hC_3 (st := (sR st 207 a x)) (a := a) hk]
    simp [fl2, sR, va_up, gI, gR]
  · intro b hb
    exact hC_ext (fun _ => rfl) (fun f => up2_ne hb) rfl rfl rfl rfl rfl
theorem hg_2_8 {a : Nat} (hx : p.tables.exec = Jvm.exec) (hb : c.code = cc) (hts : ∀ w ∈ Ts, w.before args s = true) (hin : ∀ w ∈ u_ws RX2 TX2 11, w ∈ Ts) (hown : s.vm.findClass own = some m.cls) (hlk : Cond.fieldLink own index "HalfBridge$Inquest" "right" "LHalfBridge$Rule;" ∈ Ts) (hI : HI D cy s s0 st H locs cells al ex) (hk : gK st a = 3) (hdg : decode cc pc = .ok (.getfield index, 3)) (kk : W p l e R s m args below meth c H locs cells slots Q (F0 m (pc + 3) ls (va_rf (gR st 208 a) :: rest))) : W p l e R s m args below meth c H locs cells slots Q (F0 m pc ls (.ref a :: rest)) := by
  obtain ⟨k, hk2⟩ := h_at hI (by rw [hk]; decide)
  rw [hC_3 hk] at hk2
  exact va_get (D := D) (ci := 2) (v := va_rf (gR st 208 a)) (C := RX2) (T := TX2) (N := 11) hx hb hts hin hown hI.1 hI.2.1 k hk2 rfl 8 (by decide) (hts _ hlk) (fun _ h9 => h9) rfl hdg kk
theorem hp_2_8 {a : Nat} (hx : p.tables.exec = Jvm.exec) (hb : c.code = cc) (hts : ∀ w ∈ Ts, w.before args s = true) (hin : ∀ w ∈ u_ws RX2 TX2 11, w ∈ Ts) (hown : s.vm.findClass own = some m.cls) (hlk : Cond.fieldLink own index "HalfBridge$Inquest" "right" "LHalfBridge$Rule;" ∈ Ts) (hI : HI D cy s s0 st H locs cells al ex) (hk : gK st a = 3) {x : Option Nat} (hdg : decode cc pc = .ok (.putfield index, 3)) (kk : ∀ (H1 : Heap) (locs1 : List Loc), HI D cy s s0 (sR st 208 a x) H1 locs1 cells al ex → W p l e R s m args below meth c H1 locs1 cells slots Q (F0 m (pc + 3) ls rest)) : W p l e R s m args below meth c H locs cells slots Q (F0 m pc ls (va_rf x :: .ref a :: rest)) := by
  have hk0 : gK st a ≠ 0 := by rw [hk]; decide
  obtain ⟨k, hk1⟩ := h_at hI hk0
  have hk2 := hk1
  rw [hC_3 hk] at hk2
  refine va_put (D := D) (ci := 2) (v := va_rf x) (ty := (.object "HalfBridge$Rule")) (C := RX2) (T := TX2) (N := 11) hx hb hts hin tyX2 tyX2_ok nmX2 hown hI.1 hI.2.1 hI.2.2.1 (h_S hI) k hk2 rfl 8 (by decide) (hts _ hlk) (fun _ h9 => h9) rfl (by decide +kernel) (by cases x <;> rfl) (by cases x <;> rfl) (by show 8 < (fl2 st a).length; exact Nat.le_of_ble_eq_true rfl) hdg (fun H1 locs1 q1 q2 q3 => kk H1 locs1 (h_upd hI hk0 hk1 rfl rfl (fun _ => rfl) ?_ ?_ q1 q2 q3))
  · rw [hC_3 (st := (sR st 208 a x)) (a := a) hk]
    simp [fl2, sR, va_up, gI, gR]
  · intro b hb
    exact hC_ext (fun _ => rfl) (fun f => up2_ne hb) rfl rfl rfl rfl rfl
theorem hg_2_9 {a : Nat} (hx : p.tables.exec = Jvm.exec) (hb : c.code = cc) (hts : ∀ w ∈ Ts, w.before args s = true) (hin : ∀ w ∈ u_ws RX2 TX2 11, w ∈ Ts) (hown : s.vm.findClass own = some m.cls) (hlk : Cond.fieldLink own index "HalfBridge$Inquest" "days" "I" ∈ Ts) (hI : HI D cy s s0 st H locs cells al ex) (hk : gK st a = 3) (hdg : decode cc pc = .ok (.getfield index, 3)) (kk : W p l e R s m args below meth c H locs cells slots Q (F0 m (pc + 3) ls (.int (gI st 209 a) :: rest))) : W p l e R s m args below meth c H locs cells slots Q (F0 m pc ls (.ref a :: rest)) := by
  obtain ⟨k, hk2⟩ := h_at hI (by rw [hk]; decide)
  rw [hC_3 hk] at hk2
  exact va_get (D := D) (ci := 2) (v := .int (gI st 209 a)) (C := RX2) (T := TX2) (N := 11) hx hb hts hin hown hI.1 hI.2.1 k hk2 rfl 9 (by decide) (hts _ hlk) (fun _ h9 => h9) rfl hdg kk
theorem hp_2_9 {a : Nat} (hx : p.tables.exec = Jvm.exec) (hb : c.code = cc) (hts : ∀ w ∈ Ts, w.before args s = true) (hin : ∀ w ∈ u_ws RX2 TX2 11, w ∈ Ts) (hown : s.vm.findClass own = some m.cls) (hlk : Cond.fieldLink own index "HalfBridge$Inquest" "days" "I" ∈ Ts) (hI : HI D cy s s0 st H locs cells al ex) (hk : gK st a = 3) {x : Int32} (hdg : decode cc pc = .ok (.putfield index, 3)) (kk : ∀ (H1 : Heap) (locs1 : List Loc), HI D cy s s0 (sI st 209 a x) H1 locs1 cells al ex → W p l e R s m args below meth c H1 locs1 cells slots Q (F0 m (pc + 3) ls rest)) : W p l e R s m args below meth c H locs cells slots Q (F0 m pc ls (.int x :: .ref a :: rest)) := by
  have hk0 : gK st a ≠ 0 := by rw [hk]; decide
  obtain ⟨k, hk1⟩ := h_at hI hk0
  have hk2 := hk1
  rw [hC_3 hk] at hk2
  refine va_put (D := D) (ci := 2) (v := .int x) (ty := .int) (C := RX2) (T := TX2) (N := 11) hx hb hts hin tyX2 tyX2_ok nmX2 hown hI.1 hI.2.1 hI.2.2.1 (h_S hI) k hk2 rfl 9 (by decide) (hts _ hlk) (fun _ h9 => h9) rfl (by decide +kernel) rfl rfl (by show 9 < (fl2 st a).length; exact Nat.le_of_ble_eq_true rfl) hdg (fun H1 locs1 q1 q2 q3 => kk H1 locs1 (h_upd hI hk0 hk1 rfl rfl (fun _ => rfl) ?_ ?_ q1 q2 q3))
  · rw [hC_3 (st := (sI st 209 a x)) (a := a) hk]
    simp [fl2, sI, va_up, gI, gR]
  · intro b hb
    exact hC_ext (fun f => up2_ne hb) (fun _ => rfl) rfl rfl rfl rfl rfl
theorem hg_2_10 {a : Nat} (hx : p.tables.exec = Jvm.exec) (hb : c.code = cc) (hts : ∀ w ∈ Ts, w.before args s = true) (hin : ∀ w ∈ u_ws RX2 TX2 11, w ∈ Ts) (hown : s.vm.findClass own = some m.cls) (hlk : Cond.fieldLink own index "HalfBridge$Inquest" "size" "I" ∈ Ts) (hI : HI D cy s s0 st H locs cells al ex) (hk : gK st a = 3) (hdg : decode cc pc = .ok (.getfield index, 3)) (kk : W p l e R s m args below meth c H locs cells slots Q (F0 m (pc + 3) ls (.int (gI st 210 a) :: rest))) : W p l e R s m args below meth c H locs cells slots Q (F0 m pc ls (.ref a :: rest)) := by
  obtain ⟨k, hk2⟩ := h_at hI (by rw [hk]; decide)
  rw [hC_3 hk] at hk2
  exact va_get (D := D) (ci := 2) (v := .int (gI st 210 a)) (C := RX2) (T := TX2) (N := 11) hx hb hts hin hown hI.1 hI.2.1 k hk2 rfl 10 (by decide) (hts _ hlk) (fun _ h9 => h9) rfl hdg kk
theorem hp_2_10 {a : Nat} (hx : p.tables.exec = Jvm.exec) (hb : c.code = cc) (hts : ∀ w ∈ Ts, w.before args s = true) (hin : ∀ w ∈ u_ws RX2 TX2 11, w ∈ Ts) (hown : s.vm.findClass own = some m.cls) (hlk : Cond.fieldLink own index "HalfBridge$Inquest" "size" "I" ∈ Ts) (hI : HI D cy s s0 st H locs cells al ex) (hk : gK st a = 3) {x : Int32} (hdg : decode cc pc = .ok (.putfield index, 3)) (kk : ∀ (H1 : Heap) (locs1 : List Loc), HI D cy s s0 (sI st 210 a x) H1 locs1 cells al ex → W p l e R s m args below meth c H1 locs1 cells slots Q (F0 m (pc + 3) ls rest)) : W p l e R s m args below meth c H locs cells slots Q (F0 m pc ls (.int x :: .ref a :: rest)) := by
  have hk0 : gK st a ≠ 0 := by rw [hk]; decide
  obtain ⟨k, hk1⟩ := h_at hI hk0
  have hk2 := hk1
  rw [hC_3 hk] at hk2
  refine va_put (D := D) (ci := 2) (v := .int x) (ty := .int) (C := RX2) (T := TX2) (N := 11) hx hb hts hin tyX2 tyX2_ok nmX2 hown hI.1 hI.2.1 hI.2.2.1 (h_S hI) k hk2 rfl 10 (by decide) (hts _ hlk) (fun _ h9 => h9) rfl (by decide +kernel) rfl rfl (by show 10 < (fl2 st a).length; exact Nat.le_of_ble_eq_true rfl) hdg (fun H1 locs1 q1 q2 q3 => kk H1 locs1 (h_upd hI hk0 hk1 rfl rfl (fun _ => rfl) ?_ ?_ q1 q2 q3))
  · rw [hC_3 (st := (sI st 210 a x)) (a := a) hk]
    simp [fl2, sI, va_up, gI, gR]
  · intro b hb
    exact hC_ext (fun f => up2_ne hb) (fun _ => rfl) rfl rfl rfl rfl rfl
theorem hg_3_0 {a : Nat} (hx : p.tables.exec = Jvm.exec) (hb : c.code = cc) (hts : ∀ w ∈ Ts, w.before args s = true) (hin : ∀ w ∈ u_ws RX3 TX3 2, w ∈ Ts) (hown : s.vm.findClass own = some m.cls) (hlk : Cond.fieldLink own index "HalfBridge$Looker" "words" "[J" ∈ Ts) (hI : HI D cy s s0 st H locs cells al ex) (hk : gK st a = 4) (hdg : decode cc pc = .ok (.getfield index, 3)) (kk : W p l e R s m args below meth c H locs cells slots Q (F0 m (pc + 3) ls (va_rf (gR st 300 a) :: rest))) : W p l e R s m args below meth c H locs cells slots Q (F0 m pc ls (.ref a :: rest)) := by
  obtain ⟨k, hk2⟩ := h_at hI (by rw [hk]; decide)
  rw [hC_4 hk] at hk2
  exact va_get (D := D) (ci := 3) (v := va_rf (gR st 300 a)) (C := RX3) (T := TX3) (N := 2) hx hb hts hin hown hI.1 hI.2.1 k hk2 rfl 0 (by decide) (hts _ hlk) (fun _ h9 => h9) rfl hdg kk
theorem hp_3_0 {a : Nat} (hx : p.tables.exec = Jvm.exec) (hb : c.code = cc) (hts : ∀ w ∈ Ts, w.before args s = true) (hin : ∀ w ∈ u_ws RX3 TX3 2, w ∈ Ts) (hown : s.vm.findClass own = some m.cls) (hlk : Cond.fieldLink own index "HalfBridge$Looker" "words" "[J" ∈ Ts) (hI : HI D cy s s0 st H locs cells al ex) (hk : gK st a = 4) {x : Option Nat} (hin2 : meth.name = "<init>") (hdecl : "HalfBridge$Looker" = own) (hdg : decode cc pc = .ok (.putfield index, 3)) (kk : ∀ (H1 : Heap) (locs1 : List Loc), HI D cy s s0 (sR st 300 a x) H1 locs1 cells al ex → W p l e R s m args below meth c H1 locs1 cells slots Q (F0 m (pc + 3) ls rest)) : W p l e R s m args below meth c H locs cells slots Q (F0 m pc ls (va_rf x :: .ref a :: rest)) := by
  have hk0 : gK st a ≠ 0 := by rw [hk]; decide
  obtain ⟨k, hk1⟩ := h_at hI hk0
  have hk2 := hk1
  rw [hC_4 hk] at hk2
  refine va_putF (D := D) (ci := 3) (v := va_rf x) (ty := (.array .long)) (C := RX3) (T := TX3) (N := 2) hx hb hts hin tyX3 tyX3_ok nmX3 hown hI.1 hI.2.1 hI.2.2.1 (h_S hI) k hk2 rfl 0 (by decide) (hts _ hlk) (fun _ h9 => h9) rfl hin2 hdecl (by decide +kernel) (by cases x <;> rfl) (by cases x <;> rfl) (by show 0 < (fl3 st a).length; exact Nat.le_of_ble_eq_true rfl) hdg (fun H1 locs1 q1 q2 q3 => kk H1 locs1 (h_upd hI hk0 hk1 rfl rfl (fun _ => rfl) ?_ ?_ q1 q2 q3))
  · rw [hC_4 (st := (sR st 300 a x)) (a := a) hk]
    simp [fl3, sR, va_up, gI, gR]
  · intro b hb
    exact hC_ext (fun _ => rfl) (fun f => up2_ne hb) rfl rfl rfl rfl rfl
theorem hg_3_1 {a : Nat} (hx : p.tables.exec = Jvm.exec) (hb : c.code = cc) (hts : ∀ w ∈ Ts, w.before args s = true) (hin : ∀ w ∈ u_ws RX3 TX3 2, w ∈ Ts) (hown : s.vm.findClass own = some m.cls) (hlk : Cond.fieldLink own index "HalfBridge$Looker" "stack" "[J" ∈ Ts) (hI : HI D cy s s0 st H locs cells al ex) (hk : gK st a = 4) (hdg : decode cc pc = .ok (.getfield index, 3)) (kk : W p l e R s m args below meth c H locs cells slots Q (F0 m (pc + 3) ls (va_rf (gR st 301 a) :: rest))) : W p l e R s m args below meth c H locs cells slots Q (F0 m pc ls (.ref a :: rest)) := by
  obtain ⟨k, hk2⟩ := h_at hI (by rw [hk]; decide)
  rw [hC_4 hk] at hk2
  exact va_get (D := D) (ci := 3) (v := va_rf (gR st 301 a)) (C := RX3) (T := TX3) (N := 2) hx hb hts hin hown hI.1 hI.2.1 k hk2 rfl 1 (by decide) (hts _ hlk) (fun _ h9 => h9) rfl hdg kk
theorem hp_3_1 {a : Nat} (hx : p.tables.exec = Jvm.exec) (hb : c.code = cc) (hts : ∀ w ∈ Ts, w.before args s = true) (hin : ∀ w ∈ u_ws RX3 TX3 2, w ∈ Ts) (hown : s.vm.findClass own = some m.cls) (hlk : Cond.fieldLink own index "HalfBridge$Looker" "stack" "[J" ∈ Ts) (hI : HI D cy s s0 st H locs cells al ex) (hk : gK st a = 4) {x : Option Nat} (hin2 : meth.name = "<init>") (hdecl : "HalfBridge$Looker" = own) (hdg : decode cc pc = .ok (.putfield index, 3)) (kk : ∀ (H1 : Heap) (locs1 : List Loc), HI D cy s s0 (sR st 301 a x) H1 locs1 cells al ex → W p l e R s m args below meth c H1 locs1 cells slots Q (F0 m (pc + 3) ls rest)) : W p l e R s m args below meth c H locs cells slots Q (F0 m pc ls (va_rf x :: .ref a :: rest)) := by
  have hk0 : gK st a ≠ 0 := by rw [hk]; decide
  obtain ⟨k, hk1⟩ := h_at hI hk0
  have hk2 := hk1
  rw [hC_4 hk] at hk2
  refine va_putF (D := D) (ci := 3) (v := va_rf x) (ty := (.array .long)) (C := RX3) (T := TX3) (N := 2) hx hb hts hin tyX3 tyX3_ok nmX3 hown hI.1 hI.2.1 hI.2.2.1 (h_S hI) k hk2 rfl 1 (by decide) (hts _ hlk) (fun _ h9 => h9) rfl hin2 hdecl (by decide +kernel) (by cases x <;> rfl) (by cases x <;> rfl) (by show 1 < (fl3 st a).length; exact Nat.le_of_ble_eq_true rfl) hdg (fun H1 locs1 q1 q2 q3 => kk H1 locs1 (h_upd hI hk0 hk1 rfl rfl (fun _ => rfl) ?_ ?_ q1 q2 q3))
  · rw [hC_4 (st := (sR st 301 a x)) (a := a) hk]
    simp [fl3, sR, va_up, gI, gR]
  · intro b hb
    exact hC_ext (fun _ => rfl) (fun f => up2_ne hb) rfl rfl rfl rfl rfl
theorem hg_4_0 {a : Nat} (hx : p.tables.exec = Jvm.exec) (hb : c.code = cc) (hts : ∀ w ∈ Ts, w.before args s = true) (hin : ∀ w ∈ u_ws RX4 TX4 9, w ∈ Ts) (hown : s.vm.findClass own = some m.cls) (hlk : Cond.fieldLink own index "HalfBridge$River" "wide" "I" ∈ Ts) (hI : HI D cy s s0 st H locs cells al ex) (hk : gK st a = 5) (hdg : decode cc pc = .ok (.getfield index, 3)) (kk : W p l e R s m args below meth c H locs cells slots Q (F0 m (pc + 3) ls (.int (gI st 400 a) :: rest))) : W p l e R s m args below meth c H locs cells slots Q (F0 m pc ls (.ref a :: rest)) := by
  obtain ⟨k, hk2⟩ := h_at hI (by rw [hk]; decide)
  rw [hC_5 hk] at hk2
  exact va_get (D := D) (ci := 4) (v := .int (gI st 400 a)) (C := RX4) (T := TX4) (N := 9) hx hb hts hin hown hI.1 hI.2.1 k hk2 rfl 0 (by decide) (hts _ hlk) (fun _ h9 => h9) rfl hdg kk
theorem hp_4_0 {a : Nat} (hx : p.tables.exec = Jvm.exec) (hb : c.code = cc) (hts : ∀ w ∈ Ts, w.before args s = true) (hin : ∀ w ∈ u_ws RX4 TX4 9, w ∈ Ts) (hown : s.vm.findClass own = some m.cls) (hlk : Cond.fieldLink own index "HalfBridge$River" "wide" "I" ∈ Ts) (hI : HI D cy s s0 st H locs cells al ex) (hk : gK st a = 5) {x : Int32} (hdg : decode cc pc = .ok (.putfield index, 3)) (kk : ∀ (H1 : Heap) (locs1 : List Loc), HI D cy s s0 (sI st 400 a x) H1 locs1 cells al ex → W p l e R s m args below meth c H1 locs1 cells slots Q (F0 m (pc + 3) ls rest)) : W p l e R s m args below meth c H locs cells slots Q (F0 m pc ls (.int x :: .ref a :: rest)) := by
  have hk0 : gK st a ≠ 0 := by rw [hk]; decide
  obtain ⟨k, hk1⟩ := h_at hI hk0
  have hk2 := hk1
  rw [hC_5 hk] at hk2
  refine va_put (D := D) (ci := 4) (v := .int x) (ty := .int) (C := RX4) (T := TX4) (N := 9) hx hb hts hin tyX4 tyX4_ok nmX4 hown hI.1 hI.2.1 hI.2.2.1 (h_S hI) k hk2 rfl 0 (by decide) (hts _ hlk) (fun _ h9 => h9) rfl (by decide +kernel) rfl rfl (by show 0 < (fl4 st a).length; exact Nat.le_of_ble_eq_true rfl) hdg (fun H1 locs1 q1 q2 q3 => kk H1 locs1 (h_upd hI hk0 hk1 rfl rfl (fun _ => rfl) ?_ ?_ q1 q2 q3))
  · rw [hC_5 (st := (sI st 400 a x)) (a := a) hk]
    simp [fl4, sI, va_up, gI, gR]
  · intro b hb
    exact hC_ext (fun f => up2_ne hb) (fun _ => rfl) rfl rfl rfl rfl rfl
theorem hg_4_1 {a : Nat} (hx : p.tables.exec = Jvm.exec) (hb : c.code = cc) (hts : ∀ w ∈ Ts, w.before args s = true) (hin : ∀ w ∈ u_ws RX4 TX4 9, w ∈ Ts) (hown : s.vm.findClass own = some m.cls) (hlk : Cond.fieldLink own index "HalfBridge$River" "step" "I" ∈ Ts) (hI : HI D cy s s0 st H locs cells al ex) (hk : gK st a = 5) (hdg : decode cc pc = .ok (.getfield index, 3)) (kk : W p l e R s m args below meth c H locs cells slots Q (F0 m (pc + 3) ls (.int (gI st 401 a) :: rest))) : W p l e R s m args below meth c H locs cells slots Q (F0 m pc ls (.ref a :: rest)) := by
  obtain ⟨k, hk2⟩ := h_at hI (by rw [hk]; decide)
  rw [hC_5 hk] at hk2
  exact va_get (D := D) (ci := 4) (v := .int (gI st 401 a)) (C := RX4) (T := TX4) (N := 9) hx hb hts hin hown hI.1 hI.2.1 k hk2 rfl 1 (by decide) (hts _ hlk) (fun _ h9 => h9) rfl hdg kk
theorem hp_4_1 {a : Nat} (hx : p.tables.exec = Jvm.exec) (hb : c.code = cc) (hts : ∀ w ∈ Ts, w.before args s = true) (hin : ∀ w ∈ u_ws RX4 TX4 9, w ∈ Ts) (hown : s.vm.findClass own = some m.cls) (hlk : Cond.fieldLink own index "HalfBridge$River" "step" "I" ∈ Ts) (hI : HI D cy s s0 st H locs cells al ex) (hk : gK st a = 5) {x : Int32} (hdg : decode cc pc = .ok (.putfield index, 3)) (kk : ∀ (H1 : Heap) (locs1 : List Loc), HI D cy s s0 (sI st 401 a x) H1 locs1 cells al ex → W p l e R s m args below meth c H1 locs1 cells slots Q (F0 m (pc + 3) ls rest)) : W p l e R s m args below meth c H locs cells slots Q (F0 m pc ls (.int x :: .ref a :: rest)) := by
  have hk0 : gK st a ≠ 0 := by rw [hk]; decide
  obtain ⟨k, hk1⟩ := h_at hI hk0
  have hk2 := hk1
  rw [hC_5 hk] at hk2
  refine va_put (D := D) (ci := 4) (v := .int x) (ty := .int) (C := RX4) (T := TX4) (N := 9) hx hb hts hin tyX4 tyX4_ok nmX4 hown hI.1 hI.2.1 hI.2.2.1 (h_S hI) k hk2 rfl 1 (by decide) (hts _ hlk) (fun _ h9 => h9) rfl (by decide +kernel) rfl rfl (by show 1 < (fl4 st a).length; exact Nat.le_of_ble_eq_true rfl) hdg (fun H1 locs1 q1 q2 q3 => kk H1 locs1 (h_upd hI hk0 hk1 rfl rfl (fun _ => rfl) ?_ ?_ q1 q2 q3))
  · rw [hC_5 (st := (sI st 401 a x)) (a := a) hk]
    simp [fl4, sI, va_up, gI, gR]
  · intro b hb
    exact hC_ext (fun f => up2_ne hb) (fun _ => rfl) rfl rfl rfl rfl rfl
theorem hg_4_2 {a : Nat} (hx : p.tables.exec = Jvm.exec) (hb : c.code = cc) (hts : ∀ w ∈ Ts, w.before args s = true) (hin : ∀ w ∈ u_ws RX4 TX4 9, w ∈ Ts) (hown : s.vm.findClass own = some m.cls) (hlk : Cond.fieldLink own index "HalfBridge$River" "inches" "I" ∈ Ts) (hI : HI D cy s s0 st H locs cells al ex) (hk : gK st a = 5) (hdg : decode cc pc = .ok (.getfield index, 3)) (kk : W p l e R s m args below meth c H locs cells slots Q (F0 m (pc + 3) ls (.int (gI st 402 a) :: rest))) : W p l e R s m args below meth c H locs cells slots Q (F0 m pc ls (.ref a :: rest)) := by
  obtain ⟨k, hk2⟩ := h_at hI (by rw [hk]; decide)
  rw [hC_5 hk] at hk2
  exact va_get (D := D) (ci := 4) (v := .int (gI st 402 a)) (C := RX4) (T := TX4) (N := 9) hx hb hts hin hown hI.1 hI.2.1 k hk2 rfl 2 (by decide) (hts _ hlk) (fun _ h9 => h9) rfl hdg kk
theorem hp_4_2 {a : Nat} (hx : p.tables.exec = Jvm.exec) (hb : c.code = cc) (hts : ∀ w ∈ Ts, w.before args s = true) (hin : ∀ w ∈ u_ws RX4 TX4 9, w ∈ Ts) (hown : s.vm.findClass own = some m.cls) (hlk : Cond.fieldLink own index "HalfBridge$River" "inches" "I" ∈ Ts) (hI : HI D cy s s0 st H locs cells al ex) (hk : gK st a = 5) {x : Int32} (hdg : decode cc pc = .ok (.putfield index, 3)) (kk : ∀ (H1 : Heap) (locs1 : List Loc), HI D cy s s0 (sI st 402 a x) H1 locs1 cells al ex → W p l e R s m args below meth c H1 locs1 cells slots Q (F0 m (pc + 3) ls rest)) : W p l e R s m args below meth c H locs cells slots Q (F0 m pc ls (.int x :: .ref a :: rest)) := by
  have hk0 : gK st a ≠ 0 := by rw [hk]; decide
  obtain ⟨k, hk1⟩ := h_at hI hk0
  have hk2 := hk1
  rw [hC_5 hk] at hk2
  refine va_put (D := D) (ci := 4) (v := .int x) (ty := .int) (C := RX4) (T := TX4) (N := 9) hx hb hts hin tyX4 tyX4_ok nmX4 hown hI.1 hI.2.1 hI.2.2.1 (h_S hI) k hk2 rfl 2 (by decide) (hts _ hlk) (fun _ h9 => h9) rfl (by decide +kernel) rfl rfl (by show 2 < (fl4 st a).length; exact Nat.le_of_ble_eq_true rfl) hdg (fun H1 locs1 q1 q2 q3 => kk H1 locs1 (h_upd hI hk0 hk1 rfl rfl (fun _ => rfl) ?_ ?_ q1 q2 q3))
  · rw [hC_5 (st := (sI st 402 a x)) (a := a) hk]
    simp [fl4, sI, va_up, gI, gR]
  · intro b hb
    exact hC_ext (fun f => up2_ne hb) (fun _ => rfl) rfl rfl rfl rfl rfl
theorem hg_4_3 {a : Nat} (hx : p.tables.exec = Jvm.exec) (hb : c.code = cc) (hts : ∀ w ∈ Ts, w.before args s = true) (hin : ∀ w ∈ u_ws RX4 TX4 9, w ∈ Ts) (hown : s.vm.findClass own = some m.cls) (hlk : Cond.fieldLink own index "HalfBridge$River" "floods" "I" ∈ Ts) (hI : HI D cy s s0 st H locs cells al ex) (hk : gK st a = 5) (hdg : decode cc pc = .ok (.getfield index, 3)) (kk : W p l e R s m args below meth c H locs cells slots Q (F0 m (pc + 3) ls (.int (gI st 403 a) :: rest))) : W p l e R s m args below meth c H locs cells slots Q (F0 m pc ls (.ref a :: rest)) := by
  obtain ⟨k, hk2⟩ := h_at hI (by rw [hk]; decide)
  rw [hC_5 hk] at hk2
  exact va_get (D := D) (ci := 4) (v := .int (gI st 403 a)) (C := RX4) (T := TX4) (N := 9) hx hb hts hin hown hI.1 hI.2.1 k hk2 rfl 3 (by decide) (hts _ hlk) (fun _ h9 => h9) rfl hdg kk
theorem hp_4_3 {a : Nat} (hx : p.tables.exec = Jvm.exec) (hb : c.code = cc) (hts : ∀ w ∈ Ts, w.before args s = true) (hin : ∀ w ∈ u_ws RX4 TX4 9, w ∈ Ts) (hown : s.vm.findClass own = some m.cls) (hlk : Cond.fieldLink own index "HalfBridge$River" "floods" "I" ∈ Ts) (hI : HI D cy s s0 st H locs cells al ex) (hk : gK st a = 5) {x : Int32} (hdg : decode cc pc = .ok (.putfield index, 3)) (kk : ∀ (H1 : Heap) (locs1 : List Loc), HI D cy s s0 (sI st 403 a x) H1 locs1 cells al ex → W p l e R s m args below meth c H1 locs1 cells slots Q (F0 m (pc + 3) ls rest)) : W p l e R s m args below meth c H locs cells slots Q (F0 m pc ls (.int x :: .ref a :: rest)) := by
  have hk0 : gK st a ≠ 0 := by rw [hk]; decide
  obtain ⟨k, hk1⟩ := h_at hI hk0
  have hk2 := hk1
  rw [hC_5 hk] at hk2
  refine va_put (D := D) (ci := 4) (v := .int x) (ty := .int) (C := RX4) (T := TX4) (N := 9) hx hb hts hin tyX4 tyX4_ok nmX4 hown hI.1 hI.2.1 hI.2.2.1 (h_S hI) k hk2 rfl 3 (by decide) (hts _ hlk) (fun _ h9 => h9) rfl (by decide +kernel) rfl rfl (by show 3 < (fl4 st a).length; exact Nat.le_of_ble_eq_true rfl) hdg (fun H1 locs1 q1 q2 q3 => kk H1 locs1 (h_upd hI hk0 hk1 rfl rfl (fun _ => rfl) ?_ ?_ q1 q2 q3))
  · rw [hC_5 (st := (sI st 403 a x)) (a := a) hk]
    simp [fl4, sI, va_up, gI, gR]
  · intro b hb
    exact hC_ext (fun f => up2_ne hb) (fun _ => rfl) rfl rfl rfl rfl rfl
theorem hg_4_4 {a : Nat} (hx : p.tables.exec = Jvm.exec) (hb : c.code = cc) (hts : ∀ w ∈ Ts, w.before args s = true) (hin : ∀ w ∈ u_ws RX4 TX4 9, w ∈ Ts) (hown : s.vm.findClass own = some m.cls) (hlk : Cond.fieldLink own index "HalfBridge$River" "bankLine" "[I" ∈ Ts) (hI : HI D cy s s0 st H locs cells al ex) (hk : gK st a = 5) (hdg : decode cc pc = .ok (.getfield index, 3)) (kk : W p l e R s m args below meth c H locs cells slots Q (F0 m (pc + 3) ls (va_rf (gR st 404 a) :: rest))) : W p l e R s m args below meth c H locs cells slots Q (F0 m pc ls (.ref a :: rest)) := by
  obtain ⟨k, hk2⟩ := h_at hI (by rw [hk]; decide)
  rw [hC_5 hk] at hk2
  exact va_get (D := D) (ci := 4) (v := va_rf (gR st 404 a)) (C := RX4) (T := TX4) (N := 9) hx hb hts hin hown hI.1 hI.2.1 k hk2 rfl 4 (by decide) (hts _ hlk) (fun _ h9 => h9) rfl hdg kk
theorem hp_4_4 {a : Nat} (hx : p.tables.exec = Jvm.exec) (hb : c.code = cc) (hts : ∀ w ∈ Ts, w.before args s = true) (hin : ∀ w ∈ u_ws RX4 TX4 9, w ∈ Ts) (hown : s.vm.findClass own = some m.cls) (hlk : Cond.fieldLink own index "HalfBridge$River" "bankLine" "[I" ∈ Ts) (hI : HI D cy s s0 st H locs cells al ex) (hk : gK st a = 5) {x : Option Nat} (hin2 : meth.name = "<init>") (hdecl : "HalfBridge$River" = own) (hdg : decode cc pc = .ok (.putfield index, 3)) (kk : ∀ (H1 : Heap) (locs1 : List Loc), HI D cy s s0 (sR st 404 a x) H1 locs1 cells al ex → W p l e R s m args below meth c H1 locs1 cells slots Q (F0 m (pc + 3) ls rest)) : W p l e R s m args below meth c H locs cells slots Q (F0 m pc ls (va_rf x :: .ref a :: rest)) := by
  have hk0 : gK st a ≠ 0 := by rw [hk]; decide
  obtain ⟨k, hk1⟩ := h_at hI hk0
  have hk2 := hk1
  rw [hC_5 hk] at hk2
  refine va_putF (D := D) (ci := 4) (v := va_rf x) (ty := (.array .int)) (C := RX4) (T := TX4) (N := 9) hx hb hts hin tyX4 tyX4_ok nmX4 hown hI.1 hI.2.1 hI.2.2.1 (h_S hI) k hk2 rfl 4 (by decide) (hts _ hlk) (fun _ h9 => h9) rfl hin2 hdecl (by decide +kernel) (by cases x <;> rfl) (by cases x <;> rfl) (by show 4 < (fl4 st a).length; exact Nat.le_of_ble_eq_true rfl) hdg (fun H1 locs1 q1 q2 q3 => kk H1 locs1 (h_upd hI hk0 hk1 rfl rfl (fun _ => rfl) ?_ ?_ q1 q2 q3))
  · rw [hC_5 (st := (sR st 404 a x)) (a := a) hk]
    simp [fl4, sR, va_up, gI, gR]
  · intro b hb
    exact hC_ext (fun _ => rfl) (fun f => up2_ne hb) rfl rfl rfl rfl rfl
theorem hg_4_5 {a : Nat} (hx : p.tables.exec = Jvm.exec) (hb : c.code = cc) (hts : ∀ w ∈ Ts, w.before args s = true) (hin : ∀ w ∈ u_ws RX4 TX4 9, w ∈ Ts) (hown : s.vm.findClass own = some m.cls) (hlk : Cond.fieldLink own index "HalfBridge$River" "bankHeight" "[I" ∈ Ts) (hI : HI D cy s s0 st H locs cells al ex) (hk : gK st a = 5) (hdg : decode cc pc = .ok (.getfield index, 3)) (kk : W p l e R s m args below meth c H locs cells slots Q (F0 m (pc + 3) ls (va_rf (gR st 405 a) :: rest))) : W p l e R s m args below meth c H locs cells slots Q (F0 m pc ls (.ref a :: rest)) := by
  obtain ⟨k, hk2⟩ := h_at hI (by rw [hk]; decide)
  rw [hC_5 hk] at hk2
  exact va_get (D := D) (ci := 4) (v := va_rf (gR st 405 a)) (C := RX4) (T := TX4) (N := 9) hx hb hts hin hown hI.1 hI.2.1 k hk2 rfl 5 (by decide) (hts _ hlk) (fun _ h9 => h9) rfl hdg kk
theorem hp_4_5 {a : Nat} (hx : p.tables.exec = Jvm.exec) (hb : c.code = cc) (hts : ∀ w ∈ Ts, w.before args s = true) (hin : ∀ w ∈ u_ws RX4 TX4 9, w ∈ Ts) (hown : s.vm.findClass own = some m.cls) (hlk : Cond.fieldLink own index "HalfBridge$River" "bankHeight" "[I" ∈ Ts) (hI : HI D cy s s0 st H locs cells al ex) (hk : gK st a = 5) {x : Option Nat} (hin2 : meth.name = "<init>") (hdecl : "HalfBridge$River" = own) (hdg : decode cc pc = .ok (.putfield index, 3)) (kk : ∀ (H1 : Heap) (locs1 : List Loc), HI D cy s s0 (sR st 405 a x) H1 locs1 cells al ex → W p l e R s m args below meth c H1 locs1 cells slots Q (F0 m (pc + 3) ls rest)) : W p l e R s m args below meth c H locs cells slots Q (F0 m pc ls (va_rf x :: .ref a :: rest)) := by
  have hk0 : gK st a ≠ 0 := by rw [hk]; decide
  obtain ⟨k, hk1⟩ := h_at hI hk0
  have hk2 := hk1
  rw [hC_5 hk] at hk2
  refine va_putF (D := D) (ci := 4) (v := va_rf x) (ty := (.array .int)) (C := RX4) (T := TX4) (N := 9) hx hb hts hin tyX4 tyX4_ok nmX4 hown hI.1 hI.2.1 hI.2.2.1 (h_S hI) k hk2 rfl 5 (by decide) (hts _ hlk) (fun _ h9 => h9) rfl hin2 hdecl (by decide +kernel) (by cases x <;> rfl) (by cases x <;> rfl) (by show 5 < (fl4 st a).length; exact Nat.le_of_ble_eq_true rfl) hdg (fun H1 locs1 q1 q2 q3 => kk H1 locs1 (h_upd hI hk0 hk1 rfl rfl (fun _ => rfl) ?_ ?_ q1 q2 q3))
  · rw [hC_5 (st := (sR st 405 a x)) (a := a) hk]
    simp [fl4, sR, va_up, gI, gR]
  · intro b hb
    exact hC_ext (fun _ => rfl) (fun f => up2_ne hb) rfl rfl rfl rfl rfl
theorem hg_4_6 {a : Nat} (hx : p.tables.exec = Jvm.exec) (hb : c.code = cc) (hts : ∀ w ∈ Ts, w.before args s = true) (hin : ∀ w ∈ u_ws RX4 TX4 9, w ∈ Ts) (hown : s.vm.findClass own = some m.cls) (hlk : Cond.fieldLink own index "HalfBridge$River" "eyes" "[I" ∈ Ts) (hI : HI D cy s s0 st H locs cells al ex) (hk : gK st a = 5) (hdg : decode cc pc = .ok (.getfield index, 3)) (kk : W p l e R s m args below meth c H locs cells slots Q (F0 m (pc + 3) ls (va_rf (gR st 406 a) :: rest))) : W p l e R s m args below meth c H locs cells slots Q (F0 m pc ls (.ref a :: rest)) := by
  obtain ⟨k, hk2⟩ := h_at hI (by rw [hk]; decide)
  rw [hC_5 hk] at hk2
  exact va_get (D := D) (ci := 4) (v := va_rf (gR st 406 a)) (C := RX4) (T := TX4) (N := 9) hx hb hts hin hown hI.1 hI.2.1 k hk2 rfl 6 (by decide) (hts _ hlk) (fun _ h9 => h9) rfl hdg kk
theorem hp_4_6 {a : Nat} (hx : p.tables.exec = Jvm.exec) (hb : c.code = cc) (hts : ∀ w ∈ Ts, w.before args s = true) (hin : ∀ w ∈ u_ws RX4 TX4 9, w ∈ Ts) (hown : s.vm.findClass own = some m.cls) (hlk : Cond.fieldLink own index "HalfBridge$River" "eyes" "[I" ∈ Ts) (hI : HI D cy s s0 st H locs cells al ex) (hk : gK st a = 5) {x : Option Nat} (hin2 : meth.name = "<init>") (hdecl : "HalfBridge$River" = own) (hdg : decode cc pc = .ok (.putfield index, 3)) (kk : ∀ (H1 : Heap) (locs1 : List Loc), HI D cy s s0 (sR st 406 a x) H1 locs1 cells al ex → W p l e R s m args below meth c H1 locs1 cells slots Q (F0 m (pc + 3) ls rest)) : W p l e R s m args below meth c H locs cells slots Q (F0 m pc ls (va_rf x :: .ref a :: rest)) := by
  have hk0 : gK st a ≠ 0 := by rw [hk]; decide
  obtain ⟨k, hk1⟩ := h_at hI hk0
  have hk2 := hk1
  rw [hC_5 hk] at hk2
  refine va_putF (D := D) (ci := 4) (v := va_rf x) (ty := (.array .int)) (C := RX4) (T := TX4) (N := 9) hx hb hts hin tyX4 tyX4_ok nmX4 hown hI.1 hI.2.1 hI.2.2.1 (h_S hI) k hk2 rfl 6 (by decide) (hts _ hlk) (fun _ h9 => h9) rfl hin2 hdecl (by decide +kernel) (by cases x <;> rfl) (by cases x <;> rfl) (by show 6 < (fl4 st a).length; exact Nat.le_of_ble_eq_true rfl) hdg (fun H1 locs1 q1 q2 q3 => kk H1 locs1 (h_upd hI hk0 hk1 rfl rfl (fun _ => rfl) ?_ ?_ q1 q2 q3))
  · rw [hC_5 (st := (sR st 406 a x)) (a := a) hk]
    simp [fl4, sR, va_up, gI, gR]
  · intro b hb
    exact hC_ext (fun _ => rfl) (fun f => up2_ne hb) rfl rfl rfl rfl rfl
theorem hg_4_7 {a : Nat} (hx : p.tables.exec = Jvm.exec) (hb : c.code = cc) (hts : ∀ w ∈ Ts, w.before args s = true) (hin : ∀ w ∈ u_ws RX4 TX4 9, w ∈ Ts) (hown : s.vm.findClass own = some m.cls) (hlk : Cond.fieldLink own index "HalfBridge$River" "floodDay" "[I" ∈ Ts) (hI : HI D cy s s0 st H locs cells al ex) (hk : gK st a = 5) (hdg : decode cc pc = .ok (.getfield index, 3)) (kk : W p l e R s m args below meth c H locs cells slots Q (F0 m (pc + 3) ls (va_rf (gR st 407 a) :: rest))) : W p l e R s m args below meth c H locs cells slots Q (F0 m pc ls (.ref a :: rest)) := by
  obtain ⟨k, hk2⟩ := h_at hI (by rw [hk]; decide)
  rw [hC_5 hk] at hk2
  exact va_get (D := D) (ci := 4) (v := va_rf (gR st 407 a)) (C := RX4) (T := TX4) (N := 9) hx hb hts hin hown hI.1 hI.2.1 k hk2 rfl 7 (by decide) (hts _ hlk) (fun _ h9 => h9) rfl hdg kk
theorem hp_4_7 {a : Nat} (hx : p.tables.exec = Jvm.exec) (hb : c.code = cc) (hts : ∀ w ∈ Ts, w.before args s = true) (hin : ∀ w ∈ u_ws RX4 TX4 9, w ∈ Ts) (hown : s.vm.findClass own = some m.cls) (hlk : Cond.fieldLink own index "HalfBridge$River" "floodDay" "[I" ∈ Ts) (hI : HI D cy s s0 st H locs cells al ex) (hk : gK st a = 5) {x : Option Nat} (hin2 : meth.name = "<init>") (hdecl : "HalfBridge$River" = own) (hdg : decode cc pc = .ok (.putfield index, 3)) (kk : ∀ (H1 : Heap) (locs1 : List Loc), HI D cy s s0 (sR st 407 a x) H1 locs1 cells al ex → W p l e R s m args below meth c H1 locs1 cells slots Q (F0 m (pc + 3) ls rest)) : W p l e R s m args below meth c H locs cells slots Q (F0 m pc ls (va_rf x :: .ref a :: rest)) := by
  have hk0 : gK st a ≠ 0 := by rw [hk]; decide
  obtain ⟨k, hk1⟩ := h_at hI hk0
  have hk2 := hk1
  rw [hC_5 hk] at hk2
  refine va_putF (D := D) (ci := 4) (v := va_rf x) (ty := (.array .int)) (C := RX4) (T := TX4) (N := 9) hx hb hts hin tyX4 tyX4_ok nmX4 hown hI.1 hI.2.1 hI.2.2.1 (h_S hI) k hk2 rfl 7 (by decide) (hts _ hlk) (fun _ h9 => h9) rfl hin2 hdecl (by decide +kernel) (by cases x <;> rfl) (by cases x <;> rfl) (by show 7 < (fl4 st a).length; exact Nat.le_of_ble_eq_true rfl) hdg (fun H1 locs1 q1 q2 q3 => kk H1 locs1 (h_upd hI hk0 hk1 rfl rfl (fun _ => rfl) ?_ ?_ q1 q2 q3))
  · rw [hC_5 (st := (sR st 407 a x)) (a := a) hk]
    simp [fl4, sR, va_up, gI, gR]
  · intro b hb
    exact hC_ext (fun _ => rfl) (fun f => up2_ne hb) rfl rfl rfl rfl rfl
theorem hg_4_8 {a : Nat} (hx : p.tables.exec = Jvm.exec) (hb : c.code = cc) (hts : ∀ w ∈ Ts, w.before args s = true) (hin : ∀ w ∈ u_ws RX4 TX4 9, w ∈ Ts) (hown : s.vm.findClass own = some m.cls) (hlk : Cond.fieldLink own index "HalfBridge$River" "floodYards" "[I" ∈ Ts) (hI : HI D cy s s0 st H locs cells al ex) (hk : gK st a = 5) (hdg : decode cc pc = .ok (.getfield index, 3)) (kk : W p l e R s m args below meth c H locs cells slots Q (F0 m (pc + 3) ls (va_rf (gR st 408 a) :: rest))) : W p l e R s m args below meth c H locs cells slots Q (F0 m pc ls (.ref a :: rest)) := by
  obtain ⟨k, hk2⟩ := h_at hI (by rw [hk]; decide)
  rw [hC_5 hk] at hk2
  exact va_get (D := D) (ci := 4) (v := va_rf (gR st 408 a)) (C := RX4) (T := TX4) (N := 9) hx hb hts hin hown hI.1 hI.2.1 k hk2 rfl 8 (by decide) (hts _ hlk) (fun _ h9 => h9) rfl hdg kk
theorem hp_4_8 {a : Nat} (hx : p.tables.exec = Jvm.exec) (hb : c.code = cc) (hts : ∀ w ∈ Ts, w.before args s = true) (hin : ∀ w ∈ u_ws RX4 TX4 9, w ∈ Ts) (hown : s.vm.findClass own = some m.cls) (hlk : Cond.fieldLink own index "HalfBridge$River" "floodYards" "[I" ∈ Ts) (hI : HI D cy s s0 st H locs cells al ex) (hk : gK st a = 5) {x : Option Nat} (hin2 : meth.name = "<init>") (hdecl : "HalfBridge$River" = own) (hdg : decode cc pc = .ok (.putfield index, 3)) (kk : ∀ (H1 : Heap) (locs1 : List Loc), HI D cy s s0 (sR st 408 a x) H1 locs1 cells al ex → W p l e R s m args below meth c H1 locs1 cells slots Q (F0 m (pc + 3) ls rest)) : W p l e R s m args below meth c H locs cells slots Q (F0 m pc ls (va_rf x :: .ref a :: rest)) := by
  have hk0 : gK st a ≠ 0 := by rw [hk]; decide
  obtain ⟨k, hk1⟩ := h_at hI hk0
  have hk2 := hk1
  rw [hC_5 hk] at hk2
  refine va_putF (D := D) (ci := 4) (v := va_rf x) (ty := (.array .int)) (C := RX4) (T := TX4) (N := 9) hx hb hts hin tyX4 tyX4_ok nmX4 hown hI.1 hI.2.1 hI.2.2.1 (h_S hI) k hk2 rfl 8 (by decide) (hts _ hlk) (fun _ h9 => h9) rfl hin2 hdecl (by decide +kernel) (by cases x <;> rfl) (by cases x <;> rfl) (by show 8 < (fl4 st a).length; exact Nat.le_of_ble_eq_true rfl) hdg (fun H1 locs1 q1 q2 q3 => kk H1 locs1 (h_upd hI hk0 hk1 rfl rfl (fun _ => rfl) ?_ ?_ q1 q2 q3))
  · rw [hC_5 (st := (sR st 408 a x)) (a := a) hk]
    simp [fl4, sR, va_up, gI, gR]
  · intro b hb
    exact hC_ext (fun _ => rfl) (fun f => up2_ne hb) rfl rfl rfl rfl rfl
theorem hg_5_0 {a : Nat} (hx : p.tables.exec = Jvm.exec) (hb : c.code = cc) (hts : ∀ w ∈ Ts, w.before args s = true) (hin : ∀ w ∈ u_ws RX5 TX5 3, w ∈ Ts) (hown : s.vm.findClass own = some m.cls) (hlk : Cond.fieldLink own index "HalfBridge$RiverReader" "tokens" "LHalfBridge$Tokens;" ∈ Ts) (hI : HI D cy s s0 st H locs cells al ex) (hk : gK st a = 6) (hdg : decode cc pc = .ok (.getfield index, 3)) (kk : W p l e R s m args below meth c H locs cells slots Q (F0 m (pc + 3) ls (va_rf (gR st 500 a) :: rest))) : W p l e R s m args below meth c H locs cells slots Q (F0 m pc ls (.ref a :: rest)) := by
  obtain ⟨k, hk2⟩ := h_at hI (by rw [hk]; decide)
  rw [hC_6 hk] at hk2
  exact va_get (D := D) (ci := 5) (v := va_rf (gR st 500 a)) (C := RX5) (T := TX5) (N := 3) hx hb hts hin hown hI.1 hI.2.1 k hk2 rfl 0 (by decide) (hts _ hlk) (fun _ h9 => h9) rfl hdg kk
theorem hp_5_0 {a : Nat} (hx : p.tables.exec = Jvm.exec) (hb : c.code = cc) (hts : ∀ w ∈ Ts, w.before args s = true) (hin : ∀ w ∈ u_ws RX5 TX5 3, w ∈ Ts) (hown : s.vm.findClass own = some m.cls) (hlk : Cond.fieldLink own index "HalfBridge$RiverReader" "tokens" "LHalfBridge$Tokens;" ∈ Ts) (hI : HI D cy s s0 st H locs cells al ex) (hk : gK st a = 6) {x : Option Nat} (hin2 : meth.name = "<init>") (hdecl : "HalfBridge$RiverReader" = own) (hdg : decode cc pc = .ok (.putfield index, 3)) (kk : ∀ (H1 : Heap) (locs1 : List Loc), HI D cy s s0 (sR st 500 a x) H1 locs1 cells al ex → W p l e R s m args below meth c H1 locs1 cells slots Q (F0 m (pc + 3) ls rest)) : W p l e R s m args below meth c H locs cells slots Q (F0 m pc ls (va_rf x :: .ref a :: rest)) := by
  have hk0 : gK st a ≠ 0 := by rw [hk]; decide
  obtain ⟨k, hk1⟩ := h_at hI hk0
  have hk2 := hk1
  rw [hC_6 hk] at hk2
  refine va_putF (D := D) (ci := 5) (v := va_rf x) (ty := (.object "HalfBridge$Tokens")) (C := RX5) (T := TX5) (N := 3) hx hb hts hin tyX5 tyX5_ok nmX5 hown hI.1 hI.2.1 hI.2.2.1 (h_S hI) k hk2 rfl 0 (by decide) (hts _ hlk) (fun _ h9 => h9) rfl hin2 hdecl (by decide +kernel) (by cases x <;> rfl) (by cases x <;> rfl) (by show 0 < (fl5 st a).length; exact Nat.le_of_ble_eq_true rfl) hdg (fun H1 locs1 q1 q2 q3 => kk H1 locs1 (h_upd hI hk0 hk1 rfl rfl (fun _ => rfl) ?_ ?_ q1 q2 q3))
  · rw [hC_6 (st := (sR st 500 a x)) (a := a) hk]
    simp [fl5, sR, va_up, gI, gR]
  · intro b hb
    exact hC_ext (fun _ => rfl) (fun f => up2_ne hb) rfl rfl rfl rfl rfl
theorem hg_5_1 {a : Nat} (hx : p.tables.exec = Jvm.exec) (hb : c.code = cc) (hts : ∀ w ∈ Ts, w.before args s = true) (hin : ∀ w ∈ u_ws RX5 TX5 3, w ∈ Ts) (hown : s.vm.findClass own = some m.cls) (hlk : Cond.fieldLink own index "HalfBridge$RiverReader" "stepTold" "Z" ∈ Ts) (hI : HI D cy s s0 st H locs cells al ex) (hk : gK st a = 6) (hdg : decode cc pc = .ok (.getfield index, 3)) (kk : W p l e R s m args below meth c H locs cells slots Q (F0 m (pc + 3) ls (.int (gI st 501 a) :: rest))) : W p l e R s m args below meth c H locs cells slots Q (F0 m pc ls (.ref a :: rest)) := by
  obtain ⟨k, hk2⟩ := h_at hI (by rw [hk]; decide)
  rw [hC_6 hk] at hk2
  exact va_get (D := D) (ci := 5) (v := .int (gI st 501 a)) (C := RX5) (T := TX5) (N := 3) hx hb hts hin hown hI.1 hI.2.1 k hk2 rfl 1 (by decide) (hts _ hlk) (fun _ h9 => h9) rfl hdg kk
theorem hp_5_1 {a : Nat} (hx : p.tables.exec = Jvm.exec) (hb : c.code = cc) (hts : ∀ w ∈ Ts, w.before args s = true) (hin : ∀ w ∈ u_ws RX5 TX5 3, w ∈ Ts) (hown : s.vm.findClass own = some m.cls) (hlk : Cond.fieldLink own index "HalfBridge$RiverReader" "stepTold" "Z" ∈ Ts) (hI : HI D cy s s0 st H locs cells al ex) (hk : gK st a = 6) {x : Int32} (hz01 : x = 0 ∨ x = 1) (hdg : decode cc pc = .ok (.putfield index, 3)) (kk : ∀ (H1 : Heap) (locs1 : List Loc), HI D cy s s0 (sI st 501 a x) H1 locs1 cells al ex → W p l e R s m args below meth c H1 locs1 cells slots Q (F0 m (pc + 3) ls rest)) : W p l e R s m args below meth c H locs cells slots Q (F0 m pc ls (.int x :: .ref a :: rest)) := by
  have hz : narrow .boolean (.int x) = .int x := by rcases hz01 with h | h <;> subst h <;> decide
  have hk0 : gK st a ≠ 0 := by rw [hk]; decide
  obtain ⟨k, hk1⟩ := h_at hI hk0
  have hk2 := hk1
  rw [hC_6 hk] at hk2
  refine va_put (D := D) (ci := 5) (v := .int x) (ty := .boolean) (C := RX5) (T := TX5) (N := 3) hx hb hts hin tyX5 tyX5_ok nmX5 hown hI.1 hI.2.1 hI.2.2.1 (h_S hI) k hk2 rfl 1 (by decide) (hts _ hlk) (fun _ h9 => h9) rfl (by decide +kernel) hz (by rcases hz01 with h | h <;> subst h <;> decide) (by show 1 < (fl5 st a).length; exact Nat.le_of_ble_eq_true rfl) hdg (fun H1 locs1 q1 q2 q3 => kk H1 locs1 (h_upd hI hk0 hk1 rfl rfl (fun _ => rfl) ?_ ?_ q1 q2 q3))
  · rw [hC_6 (st := (sI st 501 a x)) (a := a) hk]
    simp [fl5, sI, va_up, gI, gR]
  · intro b hb
    exact hC_ext (fun f => up2_ne hb) (fun _ => rfl) rfl rfl rfl rfl rfl
theorem hg_5_2 {a : Nat} (hx : p.tables.exec = Jvm.exec) (hb : c.code = cc) (hts : ∀ w ∈ Ts, w.before args s = true) (hin : ∀ w ∈ u_ws RX5 TX5 3, w ∈ Ts) (hown : s.vm.findClass own = some m.cls) (hlk : Cond.fieldLink own index "HalfBridge$RiverReader" "inchesTold" "Z" ∈ Ts) (hI : HI D cy s s0 st H locs cells al ex) (hk : gK st a = 6) (hdg : decode cc pc = .ok (.getfield index, 3)) (kk : W p l e R s m args below meth c H locs cells slots Q (F0 m (pc + 3) ls (.int (gI st 502 a) :: rest))) : W p l e R s m args below meth c H locs cells slots Q (F0 m pc ls (.ref a :: rest)) := by
  obtain ⟨k, hk2⟩ := h_at hI (by rw [hk]; decide)
  rw [hC_6 hk] at hk2
  exact va_get (D := D) (ci := 5) (v := .int (gI st 502 a)) (C := RX5) (T := TX5) (N := 3) hx hb hts hin hown hI.1 hI.2.1 k hk2 rfl 2 (by decide) (hts _ hlk) (fun _ h9 => h9) rfl hdg kk
theorem hp_5_2 {a : Nat} (hx : p.tables.exec = Jvm.exec) (hb : c.code = cc) (hts : ∀ w ∈ Ts, w.before args s = true) (hin : ∀ w ∈ u_ws RX5 TX5 3, w ∈ Ts) (hown : s.vm.findClass own = some m.cls) (hlk : Cond.fieldLink own index "HalfBridge$RiverReader" "inchesTold" "Z" ∈ Ts) (hI : HI D cy s s0 st H locs cells al ex) (hk : gK st a = 6) {x : Int32} (hz01 : x = 0 ∨ x = 1) (hdg : decode cc pc = .ok (.putfield index, 3)) (kk : ∀ (H1 : Heap) (locs1 : List Loc), HI D cy s s0 (sI st 502 a x) H1 locs1 cells al ex → W p l e R s m args below meth c H1 locs1 cells slots Q (F0 m (pc + 3) ls rest)) : W p l e R s m args below meth c H locs cells slots Q (F0 m pc ls (.int x :: .ref a :: rest)) := by
  have hz : narrow .boolean (.int x) = .int x := by rcases hz01 with h | h <;> subst h <;> decide
  have hk0 : gK st a ≠ 0 := by rw [hk]; decide
  obtain ⟨k, hk1⟩ := h_at hI hk0
  have hk2 := hk1
  rw [hC_6 hk] at hk2
  refine va_put (D := D) (ci := 5) (v := .int x) (ty := .boolean) (C := RX5) (T := TX5) (N := 3) hx hb hts hin tyX5 tyX5_ok nmX5 hown hI.1 hI.2.1 hI.2.2.1 (h_S hI) k hk2 rfl 2 (by decide) (hts _ hlk) (fun _ h9 => h9) rfl (by decide +kernel) hz (by rcases hz01 with h | h <;> subst h <;> decide) (by show 2 < (fl5 st a).length; exact Nat.le_of_ble_eq_true rfl) hdg (fun H1 locs1 q1 q2 q3 => kk H1 locs1 (h_upd hI hk0 hk1 rfl rfl (fun _ => rfl) ?_ ?_ q1 q2 q3))
  · rw [hC_6 (st := (sI st 502 a x)) (a := a) hk]
    simp [fl5, sI, va_up, gI, gR]
  · intro b hb
    exact hC_ext (fun f => up2_ne hb) (fun _ => rfl) rfl rfl rfl rfl rfl
theorem hg_6_0 {a : Nat} (hx : p.tables.exec = Jvm.exec) (hb : c.code = cc) (hts : ∀ w ∈ Ts, w.before args s = true) (hin : ∀ w ∈ u_ws RX6 TX6 5, w ∈ Ts) (hown : s.vm.findClass own = some m.cls) (hlk : Cond.fieldLink own index "HalfBridge$Rule" "clauses" "I" ∈ Ts) (hI : HI D cy s s0 st H locs cells al ex) (hk : gK st a = 7) (hdg : decode cc pc = .ok (.getfield index, 3)) (kk : W p l e R s m args below meth c H locs cells slots Q (F0 m (pc + 3) ls (.int (gI st 600 a) :: rest))) : W p l e R s m args below meth c H locs cells slots Q (F0 m pc ls (.ref a :: rest)) := by
  obtain ⟨k, hk2⟩ := h_at hI (by rw [hk]; decide)
  rw [hC_7 hk] at hk2
  exact va_get (D := D) (ci := 6) (v := .int (gI st 600 a)) (C := RX6) (T := TX6) (N := 5) hx hb hts hin hown hI.1 hI.2.1 k hk2 rfl 0 (by decide) (hts _ hlk) (fun _ h9 => h9) rfl hdg kk
theorem hp_6_0 {a : Nat} (hx : p.tables.exec = Jvm.exec) (hb : c.code = cc) (hts : ∀ w ∈ Ts, w.before args s = true) (hin : ∀ w ∈ u_ws RX6 TX6 5, w ∈ Ts) (hown : s.vm.findClass own = some m.cls) (hlk : Cond.fieldLink own index "HalfBridge$Rule" "clauses" "I" ∈ Ts) (hI : HI D cy s s0 st H locs cells al ex) (hk : gK st a = 7) {x : Int32} (hin2 : meth.name = "<init>") (hdecl : "HalfBridge$Rule" = own) (hdg : decode cc pc = .ok (.putfield index, 3)) (kk : ∀ (H1 : Heap) (locs1 : List Loc), HI D cy s s0 (sI st 600 a x) H1 locs1 cells al ex → W p l e R s m args below meth c H1 locs1 cells slots Q (F0 m (pc + 3) ls rest)) : W p l e R s m args below meth c H locs cells slots Q (F0 m pc ls (.int x :: .ref a :: rest)) := by
  have hk0 : gK st a ≠ 0 := by rw [hk]; decide
  obtain ⟨k, hk1⟩ := h_at hI hk0
  have hk2 := hk1
  rw [hC_7 hk] at hk2
  refine va_putF (D := D) (ci := 6) (v := .int x) (ty := .int) (C := RX6) (T := TX6) (N := 5) hx hb hts hin tyX6 tyX6_ok nmX6 hown hI.1 hI.2.1 hI.2.2.1 (h_S hI) k hk2 rfl 0 (by decide) (hts _ hlk) (fun _ h9 => h9) rfl hin2 hdecl (by decide +kernel) rfl rfl (by show 0 < (fl6 st a).length; exact Nat.le_of_ble_eq_true rfl) hdg (fun H1 locs1 q1 q2 q3 => kk H1 locs1 (h_upd hI hk0 hk1 rfl rfl (fun _ => rfl) ?_ ?_ q1 q2 q3))
  · rw [hC_7 (st := (sI st 600 a x)) (a := a) hk]
    simp [fl6, sI, va_up, gI, gR]
  · intro b hb
    exact hC_ext (fun f => up2_ne hb) (fun _ => rfl) rfl rfl rfl rfl rfl
theorem hg_6_1 {a : Nat} (hx : p.tables.exec = Jvm.exec) (hb : c.code = cc) (hts : ∀ w ∈ Ts, w.before args s = true) (hin : ∀ w ∈ u_ws RX6 TX6 5, w ∈ Ts) (hown : s.vm.findClass own = some m.cls) (hlk : Cond.fieldLink own index "HalfBridge$Rule" "kinds" "[I" ∈ Ts) (hI : HI D cy s s0 st H locs cells al ex) (hk : gK st a = 7) (hdg : decode cc pc = .ok (.getfield index, 3)) (kk : W p l e R s m args below meth c H locs cells slots Q (F0 m (pc + 3) ls (va_rf (gR st 601 a) :: rest))) : W p l e R s m args below meth c H locs cells slots Q (F0 m pc ls (.ref a :: rest)) := by
  obtain ⟨k, hk2⟩ := h_at hI (by rw [hk]; decide)
  rw [hC_7 hk] at hk2
  exact va_get (D := D) (ci := 6) (v := va_rf (gR st 601 a)) (C := RX6) (T := TX6) (N := 5) hx hb hts hin hown hI.1 hI.2.1 k hk2 rfl 1 (by decide) (hts _ hlk) (fun _ h9 => h9) rfl hdg kk
theorem hp_6_1 {a : Nat} (hx : p.tables.exec = Jvm.exec) (hb : c.code = cc) (hts : ∀ w ∈ Ts, w.before args s = true) (hin : ∀ w ∈ u_ws RX6 TX6 5, w ∈ Ts) (hown : s.vm.findClass own = some m.cls) (hlk : Cond.fieldLink own index "HalfBridge$Rule" "kinds" "[I" ∈ Ts) (hI : HI D cy s s0 st H locs cells al ex) (hk : gK st a = 7) {x : Option Nat} (hin2 : meth.name = "<init>") (hdecl : "HalfBridge$Rule" = own) (hdg : decode cc pc = .ok (.putfield index, 3)) (kk : ∀ (H1 : Heap) (locs1 : List Loc), HI D cy s s0 (sR st 601 a x) H1 locs1 cells al ex → W p l e R s m args below meth c H1 locs1 cells slots Q (F0 m (pc + 3) ls rest)) : W p l e R s m args below meth c H locs cells slots Q (F0 m pc ls (va_rf x :: .ref a :: rest)) := by
  have hk0 : gK st a ≠ 0 := by rw [hk]; decide
  obtain ⟨k, hk1⟩ := h_at hI hk0
  have hk2 := hk1
  rw [hC_7 hk] at hk2
  refine va_putF (D := D) (ci := 6) (v := va_rf x) (ty := (.array .int)) (C := RX6) (T := TX6) (N := 5) hx hb hts hin tyX6 tyX6_ok nmX6 hown hI.1 hI.2.1 hI.2.2.1 (h_S hI) k hk2 rfl 1 (by decide) (hts _ hlk) (fun _ h9 => h9) rfl hin2 hdecl (by decide +kernel) (by cases x <;> rfl) (by cases x <;> rfl) (by show 1 < (fl6 st a).length; exact Nat.le_of_ble_eq_true rfl) hdg (fun H1 locs1 q1 q2 q3 => kk H1 locs1 (h_upd hI hk0 hk1 rfl rfl (fun _ => rfl) ?_ ?_ q1 q2 q3))
  · rw [hC_7 (st := (sR st 601 a x)) (a := a) hk]
    simp [fl6, sR, va_up, gI, gR]
  · intro b hb
    exact hC_ext (fun _ => rfl) (fun f => up2_ne hb) rfl rfl rfl rfl rfl
theorem hg_6_2 {a : Nat} (hx : p.tables.exec = Jvm.exec) (hb : c.code = cc) (hts : ∀ w ∈ Ts, w.before args s = true) (hin : ∀ w ∈ u_ws RX6 TX6 5, w ∈ Ts) (hown : s.vm.findClass own = some m.cls) (hlk : Cond.fieldLink own index "HalfBridge$Rule" "starts" "[I" ∈ Ts) (hI : HI D cy s s0 st H locs cells al ex) (hk : gK st a = 7) (hdg : decode cc pc = .ok (.getfield index, 3)) (kk : W p l e R s m args below meth c H locs cells slots Q (F0 m (pc + 3) ls (va_rf (gR st 602 a) :: rest))) : W p l e R s m args below meth c H locs cells slots Q (F0 m pc ls (.ref a :: rest)) := by
  obtain ⟨k, hk2⟩ := h_at hI (by rw [hk]; decide)
  rw [hC_7 hk] at hk2
  exact va_get (D := D) (ci := 6) (v := va_rf (gR st 602 a)) (C := RX6) (T := TX6) (N := 5) hx hb hts hin hown hI.1 hI.2.1 k hk2 rfl 2 (by decide) (hts _ hlk) (fun _ h9 => h9) rfl hdg kk
theorem hp_6_2 {a : Nat} (hx : p.tables.exec = Jvm.exec) (hb : c.code = cc) (hts : ∀ w ∈ Ts, w.before args s = true) (hin : ∀ w ∈ u_ws RX6 TX6 5, w ∈ Ts) (hown : s.vm.findClass own = some m.cls) (hlk : Cond.fieldLink own index "HalfBridge$Rule" "starts" "[I" ∈ Ts) (hI : HI D cy s s0 st H locs cells al ex) (hk : gK st a = 7) {x : Option Nat} (hin2 : meth.name = "<init>") (hdecl : "HalfBridge$Rule" = own) (hdg : decode cc pc = .ok (.putfield index, 3)) (kk : ∀ (H1 : Heap) (locs1 : List Loc), HI D cy s s0 (sR st 602 a x) H1 locs1 cells al ex → W p l e R s m args below meth c H1 locs1 cells slots Q (F0 m (pc + 3) ls rest)) : W p l e R s m args below meth c H locs cells slots Q (F0 m pc ls (va_rf x :: .ref a :: rest)) := by
  have hk0 : gK st a ≠ 0 := by rw [hk]; decide
  obtain ⟨k, hk1⟩ := h_at hI hk0
  have hk2 := hk1
  rw [hC_7 hk] at hk2
  refine va_putF (D := D) (ci := 6) (v := va_rf x) (ty := (.array .int)) (C := RX6) (T := TX6) (N := 5) hx hb hts hin tyX6 tyX6_ok nmX6 hown hI.1 hI.2.1 hI.2.2.1 (h_S hI) k hk2 rfl 2 (by decide) (hts _ hlk) (fun _ h9 => h9) rfl hin2 hdecl (by decide +kernel) (by cases x <;> rfl) (by cases x <;> rfl) (by show 2 < (fl6 st a).length; exact Nat.le_of_ble_eq_true rfl) hdg (fun H1 locs1 q1 q2 q3 => kk H1 locs1 (h_upd hI hk0 hk1 rfl rfl (fun _ => rfl) ?_ ?_ q1 q2 q3))
  · rw [hC_7 (st := (sR st 602 a x)) (a := a) hk]
    simp [fl6, sR, va_up, gI, gR]
  · intro b hb
    exact hC_ext (fun _ => rfl) (fun f => up2_ne hb) rfl rfl rfl rfl rfl
theorem hg_6_3 {a : Nat} (hx : p.tables.exec = Jvm.exec) (hb : c.code = cc) (hts : ∀ w ∈ Ts, w.before args s = true) (hin : ∀ w ∈ u_ws RX6 TX6 5, w ∈ Ts) (hown : s.vm.findClass own = some m.cls) (hlk : Cond.fieldLink own index "HalfBridge$Rule" "tests" "[I" ∈ Ts) (hI : HI D cy s s0 st H locs cells al ex) (hk : gK st a = 7) (hdg : decode cc pc = .ok (.getfield index, 3)) (kk : W p l e R s m args below meth c H locs cells slots Q (F0 m (pc + 3) ls (va_rf (gR st 603 a) :: rest))) : W p l e R s m args below meth c H locs cells slots Q (F0 m pc ls (.ref a :: rest)) := by
  obtain ⟨k, hk2⟩ := h_at hI (by rw [hk]; decide)
  rw [hC_7 hk] at hk2
  exact va_get (D := D) (ci := 6) (v := va_rf (gR st 603 a)) (C := RX6) (T := TX6) (N := 5) hx hb hts hin hown hI.1 hI.2.1 k hk2 rfl 3 (by decide) (hts _ hlk) (fun _ h9 => h9) rfl hdg kk
theorem hp_6_3 {a : Nat} (hx : p.tables.exec = Jvm.exec) (hb : c.code = cc) (hts : ∀ w ∈ Ts, w.before args s = true) (hin : ∀ w ∈ u_ws RX6 TX6 5, w ∈ Ts) (hown : s.vm.findClass own = some m.cls) (hlk : Cond.fieldLink own index "HalfBridge$Rule" "tests" "[I" ∈ Ts) (hI : HI D cy s s0 st H locs cells al ex) (hk : gK st a = 7) {x : Option Nat} (hin2 : meth.name = "<init>") (hdecl : "HalfBridge$Rule" = own) (hdg : decode cc pc = .ok (.putfield index, 3)) (kk : ∀ (H1 : Heap) (locs1 : List Loc), HI D cy s s0 (sR st 603 a x) H1 locs1 cells al ex → W p l e R s m args below meth c H1 locs1 cells slots Q (F0 m (pc + 3) ls rest)) : W p l e R s m args below meth c H locs cells slots Q (F0 m pc ls (va_rf x :: .ref a :: rest)) := by
  have hk0 : gK st a ≠ 0 := by rw [hk]; decide
  obtain ⟨k, hk1⟩ := h_at hI hk0
  have hk2 := hk1
  rw [hC_7 hk] at hk2
  refine va_putF (D := D) (ci := 6) (v := va_rf x) (ty := (.array .int)) (C := RX6) (T := TX6) (N := 5) hx hb hts hin tyX6 tyX6_ok nmX6 hown hI.1 hI.2.1 hI.2.2.1 (h_S hI) k hk2 rfl 3 (by decide) (hts _ hlk) (fun _ h9 => h9) rfl hin2 hdecl (by decide +kernel) (by cases x <;> rfl) (by cases x <;> rfl) (by show 3 < (fl6 st a).length; exact Nat.le_of_ble_eq_true rfl) hdg (fun H1 locs1 q1 q2 q3 => kk H1 locs1 (h_upd hI hk0 hk1 rfl rfl (fun _ => rfl) ?_ ?_ q1 q2 q3))
  · rw [hC_7 (st := (sR st 603 a x)) (a := a) hk]
    simp [fl6, sR, va_up, gI, gR]
  · intro b hb
    exact hC_ext (fun _ => rfl) (fun f => up2_ne hb) rfl rfl rfl rfl rfl
theorem hg_6_4 {a : Nat} (hx : p.tables.exec = Jvm.exec) (hb : c.code = cc) (hts : ∀ w ∈ Ts, w.before args s = true) (hin : ∀ w ∈ u_ws RX6 TX6 5, w ∈ Ts) (hown : s.vm.findClass own = some m.cls) (hlk : Cond.fieldLink own index "HalfBridge$Rule" "code" "[I" ∈ Ts) (hI : HI D cy s s0 st H locs cells al ex) (hk : gK st a = 7) (hdg : decode cc pc = .ok (.getfield index, 3)) (kk : W p l e R s m args below meth c H locs cells slots Q (F0 m (pc + 3) ls (va_rf (gR st 604 a) :: rest))) : W p l e R s m args below meth c H locs cells slots Q (F0 m pc ls (.ref a :: rest)) := by
  obtain ⟨k, hk2⟩ := h_at hI (by rw [hk]; decide)
  rw [hC_7 hk] at hk2
  exact va_get (D := D) (ci := 6) (v := va_rf (gR st 604 a)) (C := RX6) (T := TX6) (N := 5) hx hb hts hin hown hI.1 hI.2.1 k hk2 rfl 4 (by decide) (hts _ hlk) (fun _ h9 => h9) rfl hdg kk
theorem hp_6_4 {a : Nat} (hx : p.tables.exec = Jvm.exec) (hb : c.code = cc) (hts : ∀ w ∈ Ts, w.before args s = true) (hin : ∀ w ∈ u_ws RX6 TX6 5, w ∈ Ts) (hown : s.vm.findClass own = some m.cls) (hlk : Cond.fieldLink own index "HalfBridge$Rule" "code" "[I" ∈ Ts) (hI : HI D cy s s0 st H locs cells al ex) (hk : gK st a = 7) {x : Option Nat} (hin2 : meth.name = "<init>") (hdecl : "HalfBridge$Rule" = own) (hdg : decode cc pc = .ok (.putfield index, 3)) (kk : ∀ (H1 : Heap) (locs1 : List Loc), HI D cy s s0 (sR st 604 a x) H1 locs1 cells al ex → W p l e R s m args below meth c H1 locs1 cells slots Q (F0 m (pc + 3) ls rest)) : W p l e R s m args below meth c H locs cells slots Q (F0 m pc ls (va_rf x :: .ref a :: rest)) := by
  have hk0 : gK st a ≠ 0 := by rw [hk]; decide
  obtain ⟨k, hk1⟩ := h_at hI hk0
  have hk2 := hk1
  rw [hC_7 hk] at hk2
  refine va_putF (D := D) (ci := 6) (v := va_rf x) (ty := (.array .int)) (C := RX6) (T := TX6) (N := 5) hx hb hts hin tyX6 tyX6_ok nmX6 hown hI.1 hI.2.1 hI.2.2.1 (h_S hI) k hk2 rfl 4 (by decide) (hts _ hlk) (fun _ h9 => h9) rfl hin2 hdecl (by decide +kernel) (by cases x <;> rfl) (by cases x <;> rfl) (by show 4 < (fl6 st a).length; exact Nat.le_of_ble_eq_true rfl) hdg (fun H1 locs1 q1 q2 q3 => kk H1 locs1 (h_upd hI hk0 hk1 rfl rfl (fun _ => rfl) ?_ ?_ q1 q2 q3))
  · rw [hC_7 (st := (sR st 604 a x)) (a := a) hk]
    simp [fl6, sR, va_up, gI, gR]
  · intro b hb
    exact hC_ext (fun _ => rfl) (fun f => up2_ne hb) rfl rfl rfl rfl rfl
theorem hg_7_0 {a : Nat} (hx : p.tables.exec = Jvm.exec) (hb : c.code = cc) (hts : ∀ w ∈ Ts, w.before args s = true) (hin : ∀ w ∈ u_ws RX7 TX7 7, w ∈ Ts) (hown : s.vm.findClass own = some m.cls) (hlk : Cond.fieldLink own index "HalfBridge$RuleReader" "tokens" "LHalfBridge$Tokens;" ∈ Ts) (hI : HI D cy s s0 st H locs cells al ex) (hk : gK st a = 8) (hdg : decode cc pc = .ok (.getfield index, 3)) (kk : W p l e R s m args below meth c H locs cells slots Q (F0 m (pc + 3) ls (va_rf (gR st 700 a) :: rest))) : W p l e R s m args below meth c H locs cells slots Q (F0 m pc ls (.ref a :: rest)) := by
  obtain ⟨k, hk2⟩ := h_at hI (by rw [hk]; decide)
  rw [hC_8 hk] at hk2
  exact va_get (D := D) (ci := 7) (v := va_rf (gR st 700 a)) (C := RX7) (T := TX7) (N := 7) hx hb hts hin hown hI.1 hI.2.1 k hk2 rfl 0 (by decide) (hts _ hlk) (fun _ h9 => h9) rfl hdg kk
theorem hp_7_0 {a : Nat} (hx : p.tables.exec = Jvm.exec) (hb : c.code = cc) (hts : ∀ w ∈ Ts, w.before args s = true) (hin : ∀ w ∈ u_ws RX7 TX7 7, w ∈ Ts) (hown : s.vm.findClass own = some m.cls) (hlk : Cond.fieldLink own index "HalfBridge$RuleReader" "tokens" "LHalfBridge$Tokens;" ∈ Ts) (hI : HI D cy s s0 st H locs cells al ex) (hk : gK st a = 8) {x : Option Nat} (hin2 : meth.name = "<init>") (hdecl : "HalfBridge$RuleReader" = own) (hdg : decode cc pc = .ok (.putfield index, 3)) (kk : ∀ (H1 : Heap) (locs1 : List Loc), HI D cy s s0 (sR st 700 a x) H1 locs1 cells al ex → W p l e R s m args below meth c H1 locs1 cells slots Q (F0 m (pc + 3) ls rest)) : W p l e R s m args below meth c H locs cells slots Q (F0 m pc ls (va_rf x :: .ref a :: rest)) := by
  have hk0 : gK st a ≠ 0 := by rw [hk]; decide
  obtain ⟨k, hk1⟩ := h_at hI hk0
  have hk2 := hk1
  rw [hC_8 hk] at hk2
  refine va_putF (D := D) (ci := 7) (v := va_rf x) (ty := (.object "HalfBridge$Tokens")) (C := RX7) (T := TX7) (N := 7) hx hb hts hin tyX7 tyX7_ok nmX7 hown hI.1 hI.2.1 hI.2.2.1 (h_S hI) k hk2 rfl 0 (by decide) (hts _ hlk) (fun _ h9 => h9) rfl hin2 hdecl (by decide +kernel) (by cases x <;> rfl) (by cases x <;> rfl) (by show 0 < (fl7 st a).length; exact Nat.le_of_ble_eq_true rfl) hdg (fun H1 locs1 q1 q2 q3 => kk H1 locs1 (h_upd hI hk0 hk1 rfl rfl (fun _ => rfl) ?_ ?_ q1 q2 q3))
  · rw [hC_8 (st := (sR st 700 a x)) (a := a) hk]
    simp [fl7, sR, va_up, gI, gR]
  · intro b hb
    exact hC_ext (fun _ => rfl) (fun f => up2_ne hb) rfl rfl rfl rfl rfl
theorem hg_7_1 {a : Nat} (hx : p.tables.exec = Jvm.exec) (hb : c.code = cc) (hts : ∀ w ∈ Ts, w.before args s = true) (hin : ∀ w ∈ u_ws RX7 TX7 7, w ∈ Ts) (hown : s.vm.findClass own = some m.cls) (hlk : Cond.fieldLink own index "HalfBridge$RuleReader" "kinds" "[I" ∈ Ts) (hI : HI D cy s s0 st H locs cells al ex) (hk : gK st a = 8) (hdg : decode cc pc = .ok (.getfield index, 3)) (kk : W p l e R s m args below meth c H locs cells slots Q (F0 m (pc + 3) ls (va_rf (gR st 701 a) :: rest))) : W p l e R s m args below meth c H locs cells slots Q (F0 m pc ls (.ref a :: rest)) := by
  obtain ⟨k, hk2⟩ := h_at hI (by rw [hk]; decide)
  rw [hC_8 hk] at hk2
  exact va_get (D := D) (ci := 7) (v := va_rf (gR st 701 a)) (C := RX7) (T := TX7) (N := 7) hx hb hts hin hown hI.1 hI.2.1 k hk2 rfl 1 (by decide) (hts _ hlk) (fun _ h9 => h9) rfl hdg kk
theorem hp_7_1 {a : Nat} (hx : p.tables.exec = Jvm.exec) (hb : c.code = cc) (hts : ∀ w ∈ Ts, w.before args s = true) (hin : ∀ w ∈ u_ws RX7 TX7 7, w ∈ Ts) (hown : s.vm.findClass own = some m.cls) (hlk : Cond.fieldLink own index "HalfBridge$RuleReader" "kinds" "[I" ∈ Ts) (hI : HI D cy s s0 st H locs cells al ex) (hk : gK st a = 8) {x : Option Nat} (hin2 : meth.name = "<init>") (hdecl : "HalfBridge$RuleReader" = own) (hdg : decode cc pc = .ok (.putfield index, 3)) (kk : ∀ (H1 : Heap) (locs1 : List Loc), HI D cy s s0 (sR st 701 a x) H1 locs1 cells al ex → W p l e R s m args below meth c H1 locs1 cells slots Q (F0 m (pc + 3) ls rest)) : W p l e R s m args below meth c H locs cells slots Q (F0 m pc ls (va_rf x :: .ref a :: rest)) := by
  have hk0 : gK st a ≠ 0 := by rw [hk]; decide
  obtain ⟨k, hk1⟩ := h_at hI hk0
  have hk2 := hk1
  rw [hC_8 hk] at hk2
  refine va_putF (D := D) (ci := 7) (v := va_rf x) (ty := (.array .int)) (C := RX7) (T := TX7) (N := 7) hx hb hts hin tyX7 tyX7_ok nmX7 hown hI.1 hI.2.1 hI.2.2.1 (h_S hI) k hk2 rfl 1 (by decide) (hts _ hlk) (fun _ h9 => h9) rfl hin2 hdecl (by decide +kernel) (by cases x <;> rfl) (by cases x <;> rfl) (by show 1 < (fl7 st a).length; exact Nat.le_of_ble_eq_true rfl) hdg (fun H1 locs1 q1 q2 q3 => kk H1 locs1 (h_upd hI hk0 hk1 rfl rfl (fun _ => rfl) ?_ ?_ q1 q2 q3))
  · rw [hC_8 (st := (sR st 701 a x)) (a := a) hk]
    simp [fl7, sR, va_up, gI, gR]
  · intro b hb
    exact hC_ext (fun _ => rfl) (fun f => up2_ne hb) rfl rfl rfl rfl rfl
theorem hg_7_2 {a : Nat} (hx : p.tables.exec = Jvm.exec) (hb : c.code = cc) (hts : ∀ w ∈ Ts, w.before args s = true) (hin : ∀ w ∈ u_ws RX7 TX7 7, w ∈ Ts) (hown : s.vm.findClass own = some m.cls) (hlk : Cond.fieldLink own index "HalfBridge$RuleReader" "starts" "[I" ∈ Ts) (hI : HI D cy s s0 st H locs cells al ex) (hk : gK st a = 8) (hdg : decode cc pc = .ok (.getfield index, 3)) (kk : W p l e R s m args below meth c H locs cells slots Q (F0 m (pc + 3) ls (va_rf (gR st 702 a) :: rest))) : W p l e R s m args below meth c H locs cells slots Q (F0 m pc ls (.ref a :: rest)) := by
  obtain ⟨k, hk2⟩ := h_at hI (by rw [hk]; decide)
  rw [hC_8 hk] at hk2
  exact va_get (D := D) (ci := 7) (v := va_rf (gR st 702 a)) (C := RX7) (T := TX7) (N := 7) hx hb hts hin hown hI.1 hI.2.1 k hk2 rfl 2 (by decide) (hts _ hlk) (fun _ h9 => h9) rfl hdg kk
theorem hp_7_2 {a : Nat} (hx : p.tables.exec = Jvm.exec) (hb : c.code = cc) (hts : ∀ w ∈ Ts, w.before args s = true) (hin : ∀ w ∈ u_ws RX7 TX7 7, w ∈ Ts) (hown : s.vm.findClass own = some m.cls) (hlk : Cond.fieldLink own index "HalfBridge$RuleReader" "starts" "[I" ∈ Ts) (hI : HI D cy s s0 st H locs cells al ex) (hk : gK st a = 8) {x : Option Nat} (hin2 : meth.name = "<init>") (hdecl : "HalfBridge$RuleReader" = own) (hdg : decode cc pc = .ok (.putfield index, 3)) (kk : ∀ (H1 : Heap) (locs1 : List Loc), HI D cy s s0 (sR st 702 a x) H1 locs1 cells al ex → W p l e R s m args below meth c H1 locs1 cells slots Q (F0 m (pc + 3) ls rest)) : W p l e R s m args below meth c H locs cells slots Q (F0 m pc ls (va_rf x :: .ref a :: rest)) := by
  have hk0 : gK st a ≠ 0 := by rw [hk]; decide
  obtain ⟨k, hk1⟩ := h_at hI hk0
  have hk2 := hk1
  rw [hC_8 hk] at hk2
  refine va_putF (D := D) (ci := 7) (v := va_rf x) (ty := (.array .int)) (C := RX7) (T := TX7) (N := 7) hx hb hts hin tyX7 tyX7_ok nmX7 hown hI.1 hI.2.1 hI.2.2.1 (h_S hI) k hk2 rfl 2 (by decide) (hts _ hlk) (fun _ h9 => h9) rfl hin2 hdecl (by decide +kernel) (by cases x <;> rfl) (by cases x <;> rfl) (by show 2 < (fl7 st a).length; exact Nat.le_of_ble_eq_true rfl) hdg (fun H1 locs1 q1 q2 q3 => kk H1 locs1 (h_upd hI hk0 hk1 rfl rfl (fun _ => rfl) ?_ ?_ q1 q2 q3))
  · rw [hC_8 (st := (sR st 702 a x)) (a := a) hk]
    simp [fl7, sR, va_up, gI, gR]
  · intro b hb
    exact hC_ext (fun _ => rfl) (fun f => up2_ne hb) rfl rfl rfl rfl rfl
theorem hg_7_3 {a : Nat} (hx : p.tables.exec = Jvm.exec) (hb : c.code = cc) (hts : ∀ w ∈ Ts, w.before args s = true) (hin : ∀ w ∈ u_ws RX7 TX7 7, w ∈ Ts) (hown : s.vm.findClass own = some m.cls) (hlk : Cond.fieldLink own index "HalfBridge$RuleReader" "tests" "[I" ∈ Ts) (hI : HI D cy s s0 st H locs cells al ex) (hk : gK st a = 8) (hdg : decode cc pc = .ok (.getfield index, 3)) (kk : W p l e R s m args below meth c H locs cells slots Q (F0 m (pc + 3) ls (va_rf (gR st 703 a) :: rest))) : W p l e R s m args below meth c H locs cells slots Q (F0 m pc ls (.ref a :: rest)) := by
  obtain ⟨k, hk2⟩ := h_at hI (by rw [hk]; decide)
  rw [hC_8 hk] at hk2
  exact va_get (D := D) (ci := 7) (v := va_rf (gR st 703 a)) (C := RX7) (T := TX7) (N := 7) hx hb hts hin hown hI.1 hI.2.1 k hk2 rfl 3 (by decide) (hts _ hlk) (fun _ h9 => h9) rfl hdg kk
theorem hp_7_3 {a : Nat} (hx : p.tables.exec = Jvm.exec) (hb : c.code = cc) (hts : ∀ w ∈ Ts, w.before args s = true) (hin : ∀ w ∈ u_ws RX7 TX7 7, w ∈ Ts) (hown : s.vm.findClass own = some m.cls) (hlk : Cond.fieldLink own index "HalfBridge$RuleReader" "tests" "[I" ∈ Ts) (hI : HI D cy s s0 st H locs cells al ex) (hk : gK st a = 8) {x : Option Nat} (hin2 : meth.name = "<init>") (hdecl : "HalfBridge$RuleReader" = own) (hdg : decode cc pc = .ok (.putfield index, 3)) (kk : ∀ (H1 : Heap) (locs1 : List Loc), HI D cy s s0 (sR st 703 a x) H1 locs1 cells al ex → W p l e R s m args below meth c H1 locs1 cells slots Q (F0 m (pc + 3) ls rest)) : W p l e R s m args below meth c H locs cells slots Q (F0 m pc ls (va_rf x :: .ref a :: rest)) := by
  have hk0 : gK st a ≠ 0 := by rw [hk]; decide
  obtain ⟨k, hk1⟩ := h_at hI hk0
  have hk2 := hk1
  rw [hC_8 hk] at hk2
  refine va_putF (D := D) (ci := 7) (v := va_rf x) (ty := (.array .int)) (C := RX7) (T := TX7) (N := 7) hx hb hts hin tyX7 tyX7_ok nmX7 hown hI.1 hI.2.1 hI.2.2.1 (h_S hI) k hk2 rfl 3 (by decide) (hts _ hlk) (fun _ h9 => h9) rfl hin2 hdecl (by decide +kernel) (by cases x <;> rfl) (by cases x <;> rfl) (by show 3 < (fl7 st a).length; exact Nat.le_of_ble_eq_true rfl) hdg (fun H1 locs1 q1 q2 q3 => kk H1 locs1 (h_upd hI hk0 hk1 rfl rfl (fun _ => rfl) ?_ ?_ q1 q2 q3))
  · rw [hC_8 (st := (sR st 703 a x)) (a := a) hk]
    simp [fl7, sR, va_up, gI, gR]
  · intro b hb
    exact hC_ext (fun _ => rfl) (fun f => up2_ne hb) rfl rfl rfl rfl rfl
theorem hg_7_4 {a : Nat} (hx : p.tables.exec = Jvm.exec) (hb : c.code = cc) (hts : ∀ w ∈ Ts, w.before args s = true) (hin : ∀ w ∈ u_ws RX7 TX7 7, w ∈ Ts) (hown : s.vm.findClass own = some m.cls) (hlk : Cond.fieldLink own index "HalfBridge$RuleReader" "code" "[I" ∈ Ts) (hI : HI D cy s s0 st H locs cells al ex) (hk : gK st a = 8) (hdg : decode cc pc = .ok (.getfield index, 3)) (kk : W p l e R s m args below meth c H locs cells slots Q (F0 m (pc + 3) ls (va_rf (gR st 704 a) :: rest))) : W p l e R s m args below meth c H locs cells slots Q (F0 m pc ls (.ref a :: rest)) := by
  obtain ⟨k, hk2⟩ := h_at hI (by rw [hk]; decide)
  rw [hC_8 hk] at hk2
  exact va_get (D := D) (ci := 7) (v := va_rf (gR st 704 a)) (C := RX7) (T := TX7) (N := 7) hx hb hts hin hown hI.1 hI.2.1 k hk2 rfl 4 (by decide) (hts _ hlk) (fun _ h9 => h9) rfl hdg kk
theorem hp_7_4 {a : Nat} (hx : p.tables.exec = Jvm.exec) (hb : c.code = cc) (hts : ∀ w ∈ Ts, w.before args s = true) (hin : ∀ w ∈ u_ws RX7 TX7 7, w ∈ Ts) (hown : s.vm.findClass own = some m.cls) (hlk : Cond.fieldLink own index "HalfBridge$RuleReader" "code" "[I" ∈ Ts) (hI : HI D cy s s0 st H locs cells al ex) (hk : gK st a = 8) {x : Option Nat} (hin2 : meth.name = "<init>") (hdecl : "HalfBridge$RuleReader" = own) (hdg : decode cc pc = .ok (.putfield index, 3)) (kk : ∀ (H1 : Heap) (locs1 : List Loc), HI D cy s s0 (sR st 704 a x) H1 locs1 cells al ex → W p l e R s m args below meth c H1 locs1 cells slots Q (F0 m (pc + 3) ls rest)) : W p l e R s m args below meth c H locs cells slots Q (F0 m pc ls (va_rf x :: .ref a :: rest)) := by
  have hk0 : gK st a ≠ 0 := by rw [hk]; decide
  obtain ⟨k, hk1⟩ := h_at hI hk0
  have hk2 := hk1
  rw [hC_8 hk] at hk2
  refine va_putF (D := D) (ci := 7) (v := va_rf x) (ty := (.array .int)) (C := RX7) (T := TX7) (N := 7) hx hb hts hin tyX7 tyX7_ok nmX7 hown hI.1 hI.2.1 hI.2.2.1 (h_S hI) k hk2 rfl 4 (by decide) (hts _ hlk) (fun _ h9 => h9) rfl hin2 hdecl (by decide +kernel) (by cases x <;> rfl) (by cases x <;> rfl) (by show 4 < (fl7 st a).length; exact Nat.le_of_ble_eq_true rfl) hdg (fun H1 locs1 q1 q2 q3 => kk H1 locs1 (h_upd hI hk0 hk1 rfl rfl (fun _ => rfl) ?_ ?_ q1 q2 q3))
  · rw [hC_8 (st := (sR st 704 a x)) (a := a) hk]
    simp [fl7, sR, va_up, gI, gR]
  · intro b hb
    exact hC_ext (fun _ => rfl) (fun f => up2_ne hb) rfl rfl rfl rfl rfl
theorem hg_7_5 {a : Nat} (hx : p.tables.exec = Jvm.exec) (hb : c.code = cc) (hts : ∀ w ∈ Ts, w.before args s = true) (hin : ∀ w ∈ u_ws RX7 TX7 7, w ∈ Ts) (hown : s.vm.findClass own = some m.cls) (hlk : Cond.fieldLink own index "HalfBridge$RuleReader" "size" "I" ∈ Ts) (hI : HI D cy s s0 st H locs cells al ex) (hk : gK st a = 8) (hdg : decode cc pc = .ok (.getfield index, 3)) (kk : W p l e R s m args below meth c H locs cells slots Q (F0 m (pc + 3) ls (.int (gI st 705 a) :: rest))) : W p l e R s m args below meth c H locs cells slots Q (F0 m pc ls (.ref a :: rest)) := by
  obtain ⟨k, hk2⟩ := h_at hI (by rw [hk]; decide)
  rw [hC_8 hk] at hk2
  exact va_get (D := D) (ci := 7) (v := .int (gI st 705 a)) (C := RX7) (T := TX7) (N := 7) hx hb hts hin hown hI.1 hI.2.1 k hk2 rfl 5 (by decide) (hts _ hlk) (fun _ h9 => h9) rfl hdg kk
theorem hp_7_5 {a : Nat} (hx : p.tables.exec = Jvm.exec) (hb : c.code = cc) (hts : ∀ w ∈ Ts, w.before args s = true) (hin : ∀ w ∈ u_ws RX7 TX7 7, w ∈ Ts) (hown : s.vm.findClass own = some m.cls) (hlk : Cond.fieldLink own index "HalfBridge$RuleReader" "size" "I" ∈ Ts) (hI : HI D cy s s0 st H locs cells al ex) (hk : gK st a = 8) {x : Int32} (hdg : decode cc pc = .ok (.putfield index, 3)) (kk : ∀ (H1 : Heap) (locs1 : List Loc), HI D cy s s0 (sI st 705 a x) H1 locs1 cells al ex → W p l e R s m args below meth c H1 locs1 cells slots Q (F0 m (pc + 3) ls rest)) : W p l e R s m args below meth c H locs cells slots Q (F0 m pc ls (.int x :: .ref a :: rest)) := by
  have hk0 : gK st a ≠ 0 := by rw [hk]; decide
  obtain ⟨k, hk1⟩ := h_at hI hk0
  have hk2 := hk1
  rw [hC_8 hk] at hk2
  refine va_put (D := D) (ci := 7) (v := .int x) (ty := .int) (C := RX7) (T := TX7) (N := 7) hx hb hts hin tyX7 tyX7_ok nmX7 hown hI.1 hI.2.1 hI.2.2.1 (h_S hI) k hk2 rfl 5 (by decide) (hts _ hlk) (fun _ h9 => h9) rfl (by decide +kernel) rfl rfl (by show 5 < (fl7 st a).length; exact Nat.le_of_ble_eq_true rfl) hdg (fun H1 locs1 q1 q2 q3 => kk H1 locs1 (h_upd hI hk0 hk1 rfl rfl (fun _ => rfl) ?_ ?_ q1 q2 q3))
  · rw [hC_8 (st := (sI st 705 a x)) (a := a) hk]
    simp [fl7, sI, va_up, gI, gR]
  · intro b hb
    exact hC_ext (fun f => up2_ne hb) (fun _ => rfl) rfl rfl rfl rfl rfl
theorem hg_7_6 {a : Nat} (hx : p.tables.exec = Jvm.exec) (hb : c.code = cc) (hts : ∀ w ∈ Ts, w.before args s = true) (hin : ∀ w ∈ u_ws RX7 TX7 7, w ∈ Ts) (hown : s.vm.findClass own = some m.cls) (hlk : Cond.fieldLink own index "HalfBridge$RuleReader" "items" "I" ∈ Ts) (hI : HI D cy s s0 st H locs cells al ex) (hk : gK st a = 8) (hdg : decode cc pc = .ok (.getfield index, 3)) (kk : W p l e R s m args below meth c H locs cells slots Q (F0 m (pc + 3) ls (.int (gI st 706 a) :: rest))) : W p l e R s m args below meth c H locs cells slots Q (F0 m pc ls (.ref a :: rest)) := by
  obtain ⟨k, hk2⟩ := h_at hI (by rw [hk]; decide)
  rw [hC_8 hk] at hk2
  exact va_get (D := D) (ci := 7) (v := .int (gI st 706 a)) (C := RX7) (T := TX7) (N := 7) hx hb hts hin hown hI.1 hI.2.1 k hk2 rfl 6 (by decide) (hts _ hlk) (fun _ h9 => h9) rfl hdg kk
theorem hp_7_6 {a : Nat} (hx : p.tables.exec = Jvm.exec) (hb : c.code = cc) (hts : ∀ w ∈ Ts, w.before args s = true) (hin : ∀ w ∈ u_ws RX7 TX7 7, w ∈ Ts) (hown : s.vm.findClass own = some m.cls) (hlk : Cond.fieldLink own index "HalfBridge$RuleReader" "items" "I" ∈ Ts) (hI : HI D cy s s0 st H locs cells al ex) (hk : gK st a = 8) {x : Int32} (hdg : decode cc pc = .ok (.putfield index, 3)) (kk : ∀ (H1 : Heap) (locs1 : List Loc), HI D cy s s0 (sI st 706 a x) H1 locs1 cells al ex → W p l e R s m args below meth c H1 locs1 cells slots Q (F0 m (pc + 3) ls rest)) : W p l e R s m args below meth c H locs cells slots Q (F0 m pc ls (.int x :: .ref a :: rest)) := by
  have hk0 : gK st a ≠ 0 := by rw [hk]; decide
  obtain ⟨k, hk1⟩ := h_at hI hk0
  have hk2 := hk1
  rw [hC_8 hk] at hk2
  refine va_put (D := D) (ci := 7) (v := .int x) (ty := .int) (C := RX7) (T := TX7) (N := 7) hx hb hts hin tyX7 tyX7_ok nmX7 hown hI.1 hI.2.1 hI.2.2.1 (h_S hI) k hk2 rfl 6 (by decide) (hts _ hlk) (fun _ h9 => h9) rfl (by decide +kernel) rfl rfl (by show 6 < (fl7 st a).length; exact Nat.le_of_ble_eq_true rfl) hdg (fun H1 locs1 q1 q2 q3 => kk H1 locs1 (h_upd hI hk0 hk1 rfl rfl (fun _ => rfl) ?_ ?_ q1 q2 q3))
  · rw [hC_8 (st := (sI st 706 a x)) (a := a) hk]
    simp [fl7, sI, va_up, gI, gR]
  · intro b hb
    exact hC_ext (fun f => up2_ne hb) (fun _ => rfl) rfl rfl rfl rfl rfl
theorem hg_8_0 {a : Nat} (hx : p.tables.exec = Jvm.exec) (hb : c.code = cc) (hts : ∀ w ∈ Ts, w.before args s = true) (hin : ∀ w ∈ u_ws RX8 TX8 5, w ∈ Ts) (hown : s.vm.findClass own = some m.cls) (hlk : Cond.fieldLink own index "HalfBridge$Site" "span" "LHalfBridge$Span;" ∈ Ts) (hI : HI D cy s s0 st H locs cells al ex) (hk : gK st a = 9) (hdg : decode cc pc = .ok (.getfield index, 3)) (kk : W p l e R s m args below meth c H locs cells slots Q (F0 m (pc + 3) ls (va_rf (gR st 800 a) :: rest))) : W p l e R s m args below meth c H locs cells slots Q (F0 m pc ls (.ref a :: rest)) := by
  obtain ⟨k, hk2⟩ := h_at hI (by rw [hk]; decide)
  rw [hC_9 hk] at hk2
  exact va_get (D := D) (ci := 8) (v := va_rf (gR st 800 a)) (C := RX8) (T := TX8) (N := 5) hx hb hts hin hown hI.1 hI.2.1 k hk2 rfl 0 (by decide) (hts _ hlk) (fun _ h9 => h9) rfl hdg kk
theorem hp_8_0 {a : Nat} (hx : p.tables.exec = Jvm.exec) (hb : c.code = cc) (hts : ∀ w ∈ Ts, w.before args s = true) (hin : ∀ w ∈ u_ws RX8 TX8 5, w ∈ Ts) (hown : s.vm.findClass own = some m.cls) (hlk : Cond.fieldLink own index "HalfBridge$Site" "span" "LHalfBridge$Span;" ∈ Ts) (hI : HI D cy s s0 st H locs cells al ex) (hk : gK st a = 9) {x : Option Nat} (hin2 : meth.name = "<init>") (hdecl : "HalfBridge$Site" = own) (hdg : decode cc pc = .ok (.putfield index, 3)) (kk : ∀ (H1 : Heap) (locs1 : List Loc), HI D cy s s0 (sR st 800 a x) H1 locs1 cells al ex → W p l e R s m args below meth c H1 locs1 cells slots Q (F0 m (pc + 3) ls rest)) : W p l e R s m args below meth c H locs cells slots Q (F0 m pc ls (va_rf x :: .ref a :: rest)) := by
  have hk0 : gK st a ≠ 0 := by rw [hk]; decide
  obtain ⟨k, hk1⟩ := h_at hI hk0
  have hk2 := hk1
  rw [hC_9 hk] at hk2
  refine va_putF (D := D) (ci := 8) (v := va_rf x) (ty := (.object "HalfBridge$Span")) (C := RX8) (T := TX8) (N := 5) hx hb hts hin tyX8 tyX8_ok nmX8 hown hI.1 hI.2.1 hI.2.2.1 (h_S hI) k hk2 rfl 0 (by decide) (hts _ hlk) (fun _ h9 => h9) rfl hin2 hdecl (by decide +kernel) (by cases x <;> rfl) (by cases x <;> rfl) (by show 0 < (fl8 st a).length; exact Nat.le_of_ble_eq_true rfl) hdg (fun H1 locs1 q1 q2 q3 => kk H1 locs1 (h_upd hI hk0 hk1 rfl rfl (fun _ => rfl) ?_ ?_ q1 q2 q3))
  · rw [hC_9 (st := (sR st 800 a x)) (a := a) hk]
    simp [fl8, sR, va_up, gI, gR]
  · intro b hb
    exact hC_ext (fun _ => rfl) (fun f => up2_ne hb) rfl rfl rfl rfl rfl
theorem hg_8_1 {a : Nat} (hx : p.tables.exec = Jvm.exec) (hb : c.code = cc) (hts : ∀ w ∈ Ts, w.before args s = true) (hin : ∀ w ∈ u_ws RX8 TX8 5, w ∈ Ts) (hown : s.vm.findClass own = some m.cls) (hlk : Cond.fieldLink own index "HalfBridge$Site" "x" "I" ∈ Ts) (hI : HI D cy s s0 st H locs cells al ex) (hk : gK st a = 9) (hdg : decode cc pc = .ok (.getfield index, 3)) (kk : W p l e R s m args below meth c H locs cells slots Q (F0 m (pc + 3) ls (.int (gI st 801 a) :: rest))) : W p l e R s m args below meth c H locs cells slots Q (F0 m pc ls (.ref a :: rest)) := by
  obtain ⟨k, hk2⟩ := h_at hI (by rw [hk]; decide)
  rw [hC_9 hk] at hk2
  exact va_get (D := D) (ci := 8) (v := .int (gI st 801 a)) (C := RX8) (T := TX8) (N := 5) hx hb hts hin hown hI.1 hI.2.1 k hk2 rfl 1 (by decide) (hts _ hlk) (fun _ h9 => h9) rfl hdg kk
theorem hp_8_1 {a : Nat} (hx : p.tables.exec = Jvm.exec) (hb : c.code = cc) (hts : ∀ w ∈ Ts, w.before args s = true) (hin : ∀ w ∈ u_ws RX8 TX8 5, w ∈ Ts) (hown : s.vm.findClass own = some m.cls) (hlk : Cond.fieldLink own index "HalfBridge$Site" "x" "I" ∈ Ts) (hI : HI D cy s s0 st H locs cells al ex) (hk : gK st a = 9) {x : Int32} (hdg : decode cc pc = .ok (.putfield index, 3)) (kk : ∀ (H1 : Heap) (locs1 : List Loc), HI D cy s s0 (sI st 801 a x) H1 locs1 cells al ex → W p l e R s m args below meth c H1 locs1 cells slots Q (F0 m (pc + 3) ls rest)) : W p l e R s m args below meth c H locs cells slots Q (F0 m pc ls (.int x :: .ref a :: rest)) := by
  have hk0 : gK st a ≠ 0 := by rw [hk]; decide
  obtain ⟨k, hk1⟩ := h_at hI hk0
  have hk2 := hk1
  rw [hC_9 hk] at hk2
  refine va_put (D := D) (ci := 8) (v := .int x) (ty := .int) (C := RX8) (T := TX8) (N := 5) hx hb hts hin tyX8 tyX8_ok nmX8 hown hI.1 hI.2.1 hI.2.2.1 (h_S hI) k hk2 rfl 1 (by decide) (hts _ hlk) (fun _ h9 => h9) rfl (by decide +kernel) rfl rfl (by show 1 < (fl8 st a).length; exact Nat.le_of_ble_eq_true rfl) hdg (fun H1 locs1 q1 q2 q3 => kk H1 locs1 (h_upd hI hk0 hk1 rfl rfl (fun _ => rfl) ?_ ?_ q1 q2 q3))
  · rw [hC_9 (st := (sI st 801 a x)) (a := a) hk]
    simp [fl8, sI, va_up, gI, gR]
  · intro b hb
    exact hC_ext (fun f => up2_ne hb) (fun _ => rfl) rfl rfl rfl rfl rfl
theorem hg_8_2 {a : Nat} (hx : p.tables.exec = Jvm.exec) (hb : c.code = cc) (hts : ∀ w ∈ Ts, w.before args s = true) (hin : ∀ w ∈ u_ws RX8 TX8 5, w ∈ Ts) (hown : s.vm.findClass own = some m.cls) (hlk : Cond.fieldLink own index "HalfBridge$Site" "ruinsTold" "I" ∈ Ts) (hI : HI D cy s s0 st H locs cells al ex) (hk : gK st a = 9) (hdg : decode cc pc = .ok (.getfield index, 3)) (kk : W p l e R s m args below meth c H locs cells slots Q (F0 m (pc + 3) ls (.int (gI st 802 a) :: rest))) : W p l e R s m args below meth c H locs cells slots Q (F0 m pc ls (.ref a :: rest)) := by
  obtain ⟨k, hk2⟩ := h_at hI (by rw [hk]; decide)
  rw [hC_9 hk] at hk2
  exact va_get (D := D) (ci := 8) (v := .int (gI st 802 a)) (C := RX8) (T := TX8) (N := 5) hx hb hts hin hown hI.1 hI.2.1 k hk2 rfl 2 (by decide) (hts _ hlk) (fun _ h9 => h9) rfl hdg kk
theorem hp_8_2 {a : Nat} (hx : p.tables.exec = Jvm.exec) (hb : c.code = cc) (hts : ∀ w ∈ Ts, w.before args s = true) (hin : ∀ w ∈ u_ws RX8 TX8 5, w ∈ Ts) (hown : s.vm.findClass own = some m.cls) (hlk : Cond.fieldLink own index "HalfBridge$Site" "ruinsTold" "I" ∈ Ts) (hI : HI D cy s s0 st H locs cells al ex) (hk : gK st a = 9) {x : Int32} (hdg : decode cc pc = .ok (.putfield index, 3)) (kk : ∀ (H1 : Heap) (locs1 : List Loc), HI D cy s s0 (sI st 802 a x) H1 locs1 cells al ex → W p l e R s m args below meth c H1 locs1 cells slots Q (F0 m (pc + 3) ls rest)) : W p l e R s m args below meth c H locs cells slots Q (F0 m pc ls (.int x :: .ref a :: rest)) := by
  have hk0 : gK st a ≠ 0 := by rw [hk]; decide
  obtain ⟨k, hk1⟩ := h_at hI hk0
  have hk2 := hk1
  rw [hC_9 hk] at hk2
  refine va_put (D := D) (ci := 8) (v := .int x) (ty := .int) (C := RX8) (T := TX8) (N := 5) hx hb hts hin tyX8 tyX8_ok nmX8 hown hI.1 hI.2.1 hI.2.2.1 (h_S hI) k hk2 rfl 2 (by decide) (hts _ hlk) (fun _ h9 => h9) rfl (by decide +kernel) rfl rfl (by show 2 < (fl8 st a).length; exact Nat.le_of_ble_eq_true rfl) hdg (fun H1 locs1 q1 q2 q3 => kk H1 locs1 (h_upd hI hk0 hk1 rfl rfl (fun _ => rfl) ?_ ?_ q1 q2 q3))
  · rw [hC_9 (st := (sI st 802 a x)) (a := a) hk]
    simp [fl8, sI, va_up, gI, gR]
  · intro b hb
    exact hC_ext (fun f => up2_ne hb) (fun _ => rfl) rfl rfl rfl rfl rfl
theorem hg_8_3 {a : Nat} (hx : p.tables.exec = Jvm.exec) (hb : c.code = cc) (hts : ∀ w ∈ Ts, w.before args s = true) (hin : ∀ w ∈ u_ws RX8 TX8 5, w ∈ Ts) (hown : s.vm.findClass own = some m.cls) (hlk : Cond.fieldLink own index "HalfBridge$Site" "errors" "[I" ∈ Ts) (hI : HI D cy s s0 st H locs cells al ex) (hk : gK st a = 9) (hdg : decode cc pc = .ok (.getfield index, 3)) (kk : W p l e R s m args below meth c H locs cells slots Q (F0 m (pc + 3) ls (va_rf (gR st 803 a) :: rest))) : W p l e R s m args below meth c H locs cells slots Q (F0 m pc ls (.ref a :: rest)) := by
  obtain ⟨k, hk2⟩ := h_at hI (by rw [hk]; decide)
  rw [hC_9 hk] at hk2
  exact va_get (D := D) (ci := 8) (v := va_rf (gR st 803 a)) (C := RX8) (T := TX8) (N := 5) hx hb hts hin hown hI.1 hI.2.1 k hk2 rfl 3 (by decide) (hts _ hlk) (fun _ h9 => h9) rfl hdg kk
theorem hp_8_3 {a : Nat} (hx : p.tables.exec = Jvm.exec) (hb : c.code = cc) (hts : ∀ w ∈ Ts, w.before args s = true) (hin : ∀ w ∈ u_ws RX8 TX8 5, w ∈ Ts) (hown : s.vm.findClass own = some m.cls) (hlk : Cond.fieldLink own index "HalfBridge$Site" "errors" "[I" ∈ Ts) (hI : HI D cy s s0 st H locs cells al ex) (hk : gK st a = 9) {x : Option Nat} (hin2 : meth.name = "<init>") (hdecl : "HalfBridge$Site" = own) (hdg : decode cc pc = .ok (.putfield index, 3)) (kk : ∀ (H1 : Heap) (locs1 : List Loc), HI D cy s s0 (sR st 803 a x) H1 locs1 cells al ex → W p l e R s m args below meth c H1 locs1 cells slots Q (F0 m (pc + 3) ls rest)) : W p l e R s m args below meth c H locs cells slots Q (F0 m pc ls (va_rf x :: .ref a :: rest)) := by
  have hk0 : gK st a ≠ 0 := by rw [hk]; decide
  obtain ⟨k, hk1⟩ := h_at hI hk0
  have hk2 := hk1
  rw [hC_9 hk] at hk2
  refine va_putF (D := D) (ci := 8) (v := va_rf x) (ty := (.array .int)) (C := RX8) (T := TX8) (N := 5) hx hb hts hin tyX8 tyX8_ok nmX8 hown hI.1 hI.2.1 hI.2.2.1 (h_S hI) k hk2 rfl 3 (by decide) (hts _ hlk) (fun _ h9 => h9) rfl hin2 hdecl (by decide +kernel) (by cases x <;> rfl) (by cases x <;> rfl) (by show 3 < (fl8 st a).length; exact Nat.le_of_ble_eq_true rfl) hdg (fun H1 locs1 q1 q2 q3 => kk H1 locs1 (h_upd hI hk0 hk1 rfl rfl (fun _ => rfl) ?_ ?_ q1 q2 q3))
  · rw [hC_9 (st := (sR st 803 a x)) (a := a) hk]
    simp [fl8, sR, va_up, gI, gR]
  · intro b hb
    exact hC_ext (fun _ => rfl) (fun f => up2_ne hb) rfl rfl rfl rfl rfl
theorem hg_8_4 {a : Nat} (hx : p.tables.exec = Jvm.exec) (hb : c.code = cc) (hts : ∀ w ∈ Ts, w.before args s = true) (hin : ∀ w ∈ u_ws RX8 TX8 5, w ∈ Ts) (hown : s.vm.findClass own = some m.cls) (hlk : Cond.fieldLink own index "HalfBridge$Site" "ruins" "[I" ∈ Ts) (hI : HI D cy s s0 st H locs cells al ex) (hk : gK st a = 9) (hdg : decode cc pc = .ok (.getfield index, 3)) (kk : W p l e R s m args below meth c H locs cells slots Q (F0 m (pc + 3) ls (va_rf (gR st 804 a) :: rest))) : W p l e R s m args below meth c H locs cells slots Q (F0 m pc ls (.ref a :: rest)) := by
  obtain ⟨k, hk2⟩ := h_at hI (by rw [hk]; decide)
  rw [hC_9 hk] at hk2
  exact va_get (D := D) (ci := 8) (v := va_rf (gR st 804 a)) (C := RX8) (T := TX8) (N := 5) hx hb hts hin hown hI.1 hI.2.1 k hk2 rfl 4 (by decide) (hts _ hlk) (fun _ h9 => h9) rfl hdg kk
theorem hp_8_4 {a : Nat} (hx : p.tables.exec = Jvm.exec) (hb : c.code = cc) (hts : ∀ w ∈ Ts, w.before args s = true) (hin : ∀ w ∈ u_ws RX8 TX8 5, w ∈ Ts) (hown : s.vm.findClass own = some m.cls) (hlk : Cond.fieldLink own index "HalfBridge$Site" "ruins" "[I" ∈ Ts) (hI : HI D cy s s0 st H locs cells al ex) (hk : gK st a = 9) {x : Option Nat} (hin2 : meth.name = "<init>") (hdecl : "HalfBridge$Site" = own) (hdg : decode cc pc = .ok (.putfield index, 3)) (kk : ∀ (H1 : Heap) (locs1 : List Loc), HI D cy s s0 (sR st 804 a x) H1 locs1 cells al ex → W p l e R s m args below meth c H1 locs1 cells slots Q (F0 m (pc + 3) ls rest)) : W p l e R s m args below meth c H locs cells slots Q (F0 m pc ls (va_rf x :: .ref a :: rest)) := by
  have hk0 : gK st a ≠ 0 := by rw [hk]; decide
  obtain ⟨k, hk1⟩ := h_at hI hk0
  have hk2 := hk1
  rw [hC_9 hk] at hk2
  refine va_putF (D := D) (ci := 8) (v := va_rf x) (ty := (.array .int)) (C := RX8) (T := TX8) (N := 5) hx hb hts hin tyX8 tyX8_ok nmX8 hown hI.1 hI.2.1 hI.2.2.1 (h_S hI) k hk2 rfl 4 (by decide) (hts _ hlk) (fun _ h9 => h9) rfl hin2 hdecl (by decide +kernel) (by cases x <;> rfl) (by cases x <;> rfl) (by show 4 < (fl8 st a).length; exact Nat.le_of_ble_eq_true rfl) hdg (fun H1 locs1 q1 q2 q3 => kk H1 locs1 (h_upd hI hk0 hk1 rfl rfl (fun _ => rfl) ?_ ?_ q1 q2 q3))
  · rw [hC_9 (st := (sR st 804 a x)) (a := a) hk]
    simp [fl8, sR, va_up, gI, gR]
  · intro b hb
    exact hC_ext (fun _ => rfl) (fun f => up2_ne hb) rfl rfl rfl rfl rfl
theorem hg_9_0 {a : Nat} (hx : p.tables.exec = Jvm.exec) (hb : c.code = cc) (hts : ∀ w ∈ Ts, w.before args s = true) (hin : ∀ w ∈ u_ws RX9 TX9 5, w ∈ Ts) (hown : s.vm.findClass own = some m.cls) (hlk : Cond.fieldLink own index "HalfBridge$Span" "river" "LHalfBridge$River;" ∈ Ts) (hI : HI D cy s s0 st H locs cells al ex) (hk : gK st a = 10) (hdg : decode cc pc = .ok (.getfield index, 3)) (kk : W p l e R s m args below meth c H locs cells slots Q (F0 m (pc + 3) ls (va_rf (gR st 900 a) :: rest))) : W p l e R s m args below meth c H locs cells slots Q (F0 m pc ls (.ref a :: rest)) := by
  obtain ⟨k, hk2⟩ := h_at hI (by rw [hk]; decide)
  rw [hC_10 hk] at hk2
  exact va_get (D := D) (ci := 9) (v := va_rf (gR st 900 a)) (C := RX9) (T := TX9) (N := 5) hx hb hts hin hown hI.1 hI.2.1 k hk2 rfl 0 (by decide) (hts _ hlk) (fun _ h9 => h9) rfl hdg kk
theorem hp_9_0 {a : Nat} (hx : p.tables.exec = Jvm.exec) (hb : c.code = cc) (hts : ∀ w ∈ Ts, w.before args s = true) (hin : ∀ w ∈ u_ws RX9 TX9 5, w ∈ Ts) (hown : s.vm.findClass own = some m.cls) (hlk : Cond.fieldLink own index "HalfBridge$Span" "river" "LHalfBridge$River;" ∈ Ts) (hI : HI D cy s s0 st H locs cells al ex) (hk : gK st a = 10) {x : Option Nat} (hdg : decode cc pc = .ok (.putfield index, 3)) (kk : ∀ (H1 : Heap) (locs1 : List Loc), HI D cy s s0 (sR st 900 a x) H1 locs1 cells al ex → W p l e R s m args below meth c H1 locs1 cells slots Q (F0 m (pc + 3) ls rest)) : W p l e R s m args below meth c H locs cells slots Q (F0 m pc ls (va_rf x :: .ref a :: rest)) := by
  have hk0 : gK st a ≠ 0 := by rw [hk]; decide
  obtain ⟨k, hk1⟩ := h_at hI hk0
  have hk2 := hk1
  rw [hC_10 hk] at hk2
  refine va_put (D := D) (ci := 9) (v := va_rf x) (ty := (.object "HalfBridge$River")) (C := RX9) (T := TX9) (N := 5) hx hb hts hin tyX9 tyX9_ok nmX9 hown hI.1 hI.2.1 hI.2.2.1 (h_S hI) k hk2 rfl 0 (by decide) (hts _ hlk) (fun _ h9 => h9) rfl (by decide +kernel) (by cases x <;> rfl) (by cases x <;> rfl) (by show 0 < (fl9 st a).length; exact Nat.le_of_ble_eq_true rfl) hdg (fun H1 locs1 q1 q2 q3 => kk H1 locs1 (h_upd hI hk0 hk1 rfl rfl (fun _ => rfl) ?_ ?_ q1 q2 q3))
  · rw [hC_10 (st := (sR st 900 a x)) (a := a) hk]
    simp [fl9, sR, va_up, gI, gR]
  · intro b hb
    exact hC_ext (fun _ => rfl) (fun f => up2_ne hb) rfl rfl rfl rfl rfl
theorem hg_9_1 {a : Nat} (hx : p.tables.exec = Jvm.exec) (hb : c.code = cc) (hts : ∀ w ∈ Ts, w.before args s = true) (hin : ∀ w ∈ u_ws RX9 TX9 5, w ∈ Ts) (hown : s.vm.findClass own = some m.cls) (hlk : Cond.fieldLink own index "HalfBridge$Span" "day" "I" ∈ Ts) (hI : HI D cy s s0 st H locs cells al ex) (hk : gK st a = 10) (hdg : decode cc pc = .ok (.getfield index, 3)) (kk : W p l e R s m args below meth c H locs cells slots Q (F0 m (pc + 3) ls (.int (gI st 901 a) :: rest))) : W p l e R s m args below meth c H locs cells slots Q (F0 m pc ls (.ref a :: rest)) := by
  obtain ⟨k, hk2⟩ := h_at hI (by rw [hk]; decide)
  rw [hC_10 hk] at hk2
  exact va_get (D := D) (ci := 9) (v := .int (gI st 901 a)) (C := RX9) (T := TX9) (N := 5) hx hb hts hin hown hI.1 hI.2.1 k hk2 rfl 1 (by decide) (hts _ hlk) (fun _ h9 => h9) rfl hdg kk
theorem hp_9_1 {a : Nat} (hx : p.tables.exec = Jvm.exec) (hb : c.code = cc) (hts : ∀ w ∈ Ts, w.before args s = true) (hin : ∀ w ∈ u_ws RX9 TX9 5, w ∈ Ts) (hown : s.vm.findClass own = some m.cls) (hlk : Cond.fieldLink own index "HalfBridge$Span" "day" "I" ∈ Ts) (hI : HI D cy s s0 st H locs cells al ex) (hk : gK st a = 10) {x : Int32} (hdg : decode cc pc = .ok (.putfield index, 3)) (kk : ∀ (H1 : Heap) (locs1 : List Loc), HI D cy s s0 (sI st 901 a x) H1 locs1 cells al ex → W p l e R s m args below meth c H1 locs1 cells slots Q (F0 m (pc + 3) ls rest)) : W p l e R s m args below meth c H locs cells slots Q (F0 m pc ls (.int x :: .ref a :: rest)) := by
  have hk0 : gK st a ≠ 0 := by rw [hk]; decide
  obtain ⟨k, hk1⟩ := h_at hI hk0
  have hk2 := hk1
  rw [hC_10 hk] at hk2
  refine va_put (D := D) (ci := 9) (v := .int x) (ty := .int) (C := RX9) (T := TX9) (N := 5) hx hb hts hin tyX9 tyX9_ok nmX9 hown hI.1 hI.2.1 hI.2.2.1 (h_S hI) k hk2 rfl 1 (by decide) (hts _ hlk) (fun _ h9 => h9) rfl (by decide +kernel) rfl rfl (by show 1 < (fl9 st a).length; exact Nat.le_of_ble_eq_true rfl) hdg (fun H1 locs1 q1 q2 q3 => kk H1 locs1 (h_upd hI hk0 hk1 rfl rfl (fun _ => rfl) ?_ ?_ q1 q2 q3))
  · rw [hC_10 (st := (sI st 901 a x)) (a := a) hk]
    simp [fl9, sI, va_up, gI, gR]
  · intro b hb
    exact hC_ext (fun f => up2_ne hb) (fun _ => rfl) rfl rfl rfl rfl rfl
theorem hg_9_2 {a : Nat} (hx : p.tables.exec = Jvm.exec) (hb : c.code = cc) (hts : ∀ w ∈ Ts, w.before args s = true) (hin : ∀ w ∈ u_ws RX9 TX9 5, w ∈ Ts) (hown : s.vm.findClass own = some m.cls) (hlk : Cond.fieldLink own index "HalfBridge$Span" "yards" "[I" ∈ Ts) (hI : HI D cy s s0 st H locs cells al ex) (hk : gK st a = 10) (hdg : decode cc pc = .ok (.getfield index, 3)) (kk : W p l e R s m args below meth c H locs cells slots Q (F0 m (pc + 3) ls (va_rf (gR st 902 a) :: rest))) : W p l e R s m args below meth c H locs cells slots Q (F0 m pc ls (.ref a :: rest)) := by
  obtain ⟨k, hk2⟩ := h_at hI (by rw [hk]; decide)
  rw [hC_10 hk] at hk2
  exact va_get (D := D) (ci := 9) (v := va_rf (gR st 902 a)) (C := RX9) (T := TX9) (N := 5) hx hb hts hin hown hI.1 hI.2.1 k hk2 rfl 2 (by decide) (hts _ hlk) (fun _ h9 => h9) rfl hdg kk
theorem hp_9_2 {a : Nat} (hx : p.tables.exec = Jvm.exec) (hb : c.code = cc) (hts : ∀ w ∈ Ts, w.before args s = true) (hin : ∀ w ∈ u_ws RX9 TX9 5, w ∈ Ts) (hown : s.vm.findClass own = some m.cls) (hlk : Cond.fieldLink own index "HalfBridge$Span" "yards" "[I" ∈ Ts) (hI : HI D cy s s0 st H locs cells al ex) (hk : gK st a = 10) {x : Option Nat} (hin2 : meth.name = "<init>") (hdecl : "HalfBridge$Span" = own) (hdg : decode cc pc = .ok (.putfield index, 3)) (kk : ∀ (H1 : Heap) (locs1 : List Loc), HI D cy s s0 (sR st 902 a x) H1 locs1 cells al ex → W p l e R s m args below meth c H1 locs1 cells slots Q (F0 m (pc + 3) ls rest)) : W p l e R s m args below meth c H locs cells slots Q (F0 m pc ls (va_rf x :: .ref a :: rest)) := by
  have hk0 : gK st a ≠ 0 := by rw [hk]; decide
  obtain ⟨k, hk1⟩ := h_at hI hk0
  have hk2 := hk1
  rw [hC_10 hk] at hk2
  refine va_putF (D := D) (ci := 9) (v := va_rf x) (ty := (.array .int)) (C := RX9) (T := TX9) (N := 5) hx hb hts hin tyX9 tyX9_ok nmX9 hown hI.1 hI.2.1 hI.2.2.1 (h_S hI) k hk2 rfl 2 (by decide) (hts _ hlk) (fun _ h9 => h9) rfl hin2 hdecl (by decide +kernel) (by cases x <;> rfl) (by cases x <;> rfl) (by show 2 < (fl9 st a).length; exact Nat.le_of_ble_eq_true rfl) hdg (fun H1 locs1 q1 q2 q3 => kk H1 locs1 (h_upd hI hk0 hk1 rfl rfl (fun _ => rfl) ?_ ?_ q1 q2 q3))
  · rw [hC_10 (st := (sR st 902 a x)) (a := a) hk]
    simp [fl9, sR, va_up, gI, gR]
  · intro b hb
    exact hC_ext (fun _ => rfl) (fun f => up2_ne hb) rfl rfl rfl rfl rfl
theorem hg_9_3 {a : Nat} (hx : p.tables.exec = Jvm.exec) (hb : c.code = cc) (hts : ∀ w ∈ Ts, w.before args s = true) (hin : ∀ w ∈ u_ws RX9 TX9 5, w ∈ Ts) (hown : s.vm.findClass own = some m.cls) (hlk : Cond.fieldLink own index "HalfBridge$Span" "lines" "[I" ∈ Ts) (hI : HI D cy s s0 st H locs cells al ex) (hk : gK st a = 10) (hdg : decode cc pc = .ok (.getfield index, 3)) (kk : W p l e R s m args below meth c H locs cells slots Q (F0 m (pc + 3) ls (va_rf (gR st 903 a) :: rest))) : W p l e R s m args below meth c H locs cells slots Q (F0 m pc ls (.ref a :: rest)) := by
  obtain ⟨k, hk2⟩ := h_at hI (by rw [hk]; decide)
  rw [hC_10 hk] at hk2
  exact va_get (D := D) (ci := 9) (v := va_rf (gR st 903 a)) (C := RX9) (T := TX9) (N := 5) hx hb hts hin hown hI.1 hI.2.1 k hk2 rfl 3 (by decide) (hts _ hlk) (fun _ h9 => h9) rfl hdg kk
theorem hp_9_3 {a : Nat} (hx : p.tables.exec = Jvm.exec) (hb : c.code = cc) (hts : ∀ w ∈ Ts, w.before args s = true) (hin : ∀ w ∈ u_ws RX9 TX9 5, w ∈ Ts) (hown : s.vm.findClass own = some m.cls) (hlk : Cond.fieldLink own index "HalfBridge$Span" "lines" "[I" ∈ Ts) (hI : HI D cy s s0 st H locs cells al ex) (hk : gK st a = 10) {x : Option Nat} (hin2 : meth.name = "<init>") (hdecl : "HalfBridge$Span" = own) (hdg : decode cc pc = .ok (.putfield index, 3)) (kk : ∀ (H1 : Heap) (locs1 : List Loc), HI D cy s s0 (sR st 903 a x) H1 locs1 cells al ex → W p l e R s m args below meth c H1 locs1 cells slots Q (F0 m (pc + 3) ls rest)) : W p l e R s m args below meth c H locs cells slots Q (F0 m pc ls (va_rf x :: .ref a :: rest)) := by
  have hk0 : gK st a ≠ 0 := by rw [hk]; decide
  obtain ⟨k, hk1⟩ := h_at hI hk0
  have hk2 := hk1
  rw [hC_10 hk] at hk2
  refine va_putF (D := D) (ci := 9) (v := va_rf x) (ty := (.array .int)) (C := RX9) (T := TX9) (N := 5) hx hb hts hin tyX9 tyX9_ok nmX9 hown hI.1 hI.2.1 hI.2.2.1 (h_S hI) k hk2 rfl 3 (by decide) (hts _ hlk) (fun _ h9 => h9) rfl hin2 hdecl (by decide +kernel) (by cases x <;> rfl) (by cases x <;> rfl) (by show 3 < (fl9 st a).length; exact Nat.le_of_ble_eq_true rfl) hdg (fun H1 locs1 q1 q2 q3 => kk H1 locs1 (h_upd hI hk0 hk1 rfl rfl (fun _ => rfl) ?_ ?_ q1 q2 q3))
  · rw [hC_10 (st := (sR st 903 a x)) (a := a) hk]
    simp [fl9, sR, va_up, gI, gR]
  · intro b hb
    exact hC_ext (fun _ => rfl) (fun f => up2_ne hb) rfl rfl rfl rfl rfl
theorem hg_9_4 {a : Nat} (hx : p.tables.exec = Jvm.exec) (hb : c.code = cc) (hts : ∀ w ∈ Ts, w.before args s = true) (hin : ∀ w ∈ u_ws RX9 TX9 5, w ∈ Ts) (hown : s.vm.findClass own = some m.cls) (hlk : Cond.fieldLink own index "HalfBridge$Span" "heights" "[I" ∈ Ts) (hI : HI D cy s s0 st H locs cells al ex) (hk : gK st a = 10) (hdg : decode cc pc = .ok (.getfield index, 3)) (kk : W p l e R s m args below meth c H locs cells slots Q (F0 m (pc + 3) ls (va_rf (gR st 904 a) :: rest))) : W p l e R s m args below meth c H locs cells slots Q (F0 m pc ls (.ref a :: rest)) := by
  obtain ⟨k, hk2⟩ := h_at hI (by rw [hk]; decide)
  rw [hC_10 hk] at hk2
  exact va_get (D := D) (ci := 9) (v := va_rf (gR st 904 a)) (C := RX9) (T := TX9) (N := 5) hx hb hts hin hown hI.1 hI.2.1 k hk2 rfl 4 (by decide) (hts _ hlk) (fun _ h9 => h9) rfl hdg kk
theorem hp_9_4 {a : Nat} (hx : p.tables.exec = Jvm.exec) (hb : c.code = cc) (hts : ∀ w ∈ Ts, w.before args s = true) (hin : ∀ w ∈ u_ws RX9 TX9 5, w ∈ Ts) (hown : s.vm.findClass own = some m.cls) (hlk : Cond.fieldLink own index "HalfBridge$Span" "heights" "[I" ∈ Ts) (hI : HI D cy s s0 st H locs cells al ex) (hk : gK st a = 10) {x : Option Nat} (hin2 : meth.name = "<init>") (hdecl : "HalfBridge$Span" = own) (hdg : decode cc pc = .ok (.putfield index, 3)) (kk : ∀ (H1 : Heap) (locs1 : List Loc), HI D cy s s0 (sR st 904 a x) H1 locs1 cells al ex → W p l e R s m args below meth c H1 locs1 cells slots Q (F0 m (pc + 3) ls rest)) : W p l e R s m args below meth c H locs cells slots Q (F0 m pc ls (va_rf x :: .ref a :: rest)) := by
  have hk0 : gK st a ≠ 0 := by rw [hk]; decide
  obtain ⟨k, hk1⟩ := h_at hI hk0
  have hk2 := hk1
  rw [hC_10 hk] at hk2
  refine va_putF (D := D) (ci := 9) (v := va_rf x) (ty := (.array .int)) (C := RX9) (T := TX9) (N := 5) hx hb hts hin tyX9 tyX9_ok nmX9 hown hI.1 hI.2.1 hI.2.2.1 (h_S hI) k hk2 rfl 4 (by decide) (hts _ hlk) (fun _ h9 => h9) rfl hin2 hdecl (by decide +kernel) (by cases x <;> rfl) (by cases x <;> rfl) (by show 4 < (fl9 st a).length; exact Nat.le_of_ble_eq_true rfl) hdg (fun H1 locs1 q1 q2 q3 => kk H1 locs1 (h_upd hI hk0 hk1 rfl rfl (fun _ => rfl) ?_ ?_ q1 q2 q3))
  · rw [hC_10 (st := (sR st 904 a x)) (a := a) hk]
    simp [fl9, sR, va_up, gI, gR]
  · intro b hb
    exact hC_ext (fun _ => rfl) (fun f => up2_ne hb) rfl rfl rfl rfl rfl
theorem hg_10_0 {a : Nat} (hx : p.tables.exec = Jvm.exec) (hb : c.code = cc) (hts : ∀ w ∈ Ts, w.before args s = true) (hin : ∀ w ∈ u_ws RX10 TX10 6, w ∈ Ts) (hown : s.vm.findClass own = some m.cls) (hlk : Cond.fieldLink own index "HalfBridge$Tokens" "kinds" "[I" ∈ Ts) (hI : HI D cy s s0 st H locs cells al ex) (hk : gK st a = 11) (hdg : decode cc pc = .ok (.getfield index, 3)) (kk : W p l e R s m args below meth c H locs cells slots Q (F0 m (pc + 3) ls (va_rf (gR st 1000 a) :: rest))) : W p l e R s m args below meth c H locs cells slots Q (F0 m pc ls (.ref a :: rest)) := by
  obtain ⟨k, hk2⟩ := h_at hI (by rw [hk]; decide)
  rw [hC_11 hk] at hk2
  exact va_get (D := D) (ci := 10) (v := va_rf (gR st 1000 a)) (C := RX10) (T := TX10) (N := 6) hx hb hts hin hown hI.1 hI.2.1 k hk2 rfl 0 (by decide) (hts _ hlk) (fun _ h9 => h9) rfl hdg kk
theorem hp_10_0 {a : Nat} (hx : p.tables.exec = Jvm.exec) (hb : c.code = cc) (hts : ∀ w ∈ Ts, w.before args s = true) (hin : ∀ w ∈ u_ws RX10 TX10 6, w ∈ Ts) (hown : s.vm.findClass own = some m.cls) (hlk : Cond.fieldLink own index "HalfBridge$Tokens" "kinds" "[I" ∈ Ts) (hI : HI D cy s s0 st H locs cells al ex) (hk : gK st a = 11) {x : Option Nat} (hin2 : meth.name = "<init>") (hdecl : "HalfBridge$Tokens" = own) (hdg : decode cc pc = .ok (.putfield index, 3)) (kk : ∀ (H1 : Heap) (locs1 : List Loc), HI D cy s s0 (sR st 1000 a x) H1 locs1 cells al ex → W p l e R s m args below meth c H1 locs1 cells slots Q (F0 m (pc + 3) ls rest)) : W p l e R s m args below meth c H locs cells slots Q (F0 m pc ls (va_rf x :: .ref a :: rest)) := by
  have hk0 : gK st a ≠ 0 := by rw [hk]; decide
  obtain ⟨k, hk1⟩ := h_at hI hk0
  have hk2 := hk1
  rw [hC_11 hk] at hk2
  refine va_putF (D := D) (ci := 10) (v := va_rf x) (ty := (.array .int)) (C := RX10) (T := TX10) (N := 6) hx hb hts hin tyX10 tyX10_ok nmX10 hown hI.1 hI.2.1 hI.2.2.1 (h_S hI) k hk2 rfl 0 (by decide) (hts _ hlk) (fun _ h9 => h9) rfl hin2 hdecl (by decide +kernel) (by cases x <;> rfl) (by cases x <;> rfl) (by show 0 < (fl10 st a).length; exact Nat.le_of_ble_eq_true rfl) hdg (fun H1 locs1 q1 q2 q3 => kk H1 locs1 (h_upd hI hk0 hk1 rfl rfl (fun _ => rfl) ?_ ?_ q1 q2 q3))
  · rw [hC_11 (st := (sR st 1000 a x)) (a := a) hk]
    simp [fl10, sR, va_up, gI, gR]
  · intro b hb
    exact hC_ext (fun _ => rfl) (fun f => up2_ne hb) rfl rfl rfl rfl rfl
theorem hg_10_1 {a : Nat} (hx : p.tables.exec = Jvm.exec) (hb : c.code = cc) (hts : ∀ w ∈ Ts, w.before args s = true) (hin : ∀ w ∈ u_ws RX10 TX10 6, w ∈ Ts) (hown : s.vm.findClass own = some m.cls) (hlk : Cond.fieldLink own index "HalfBridge$Tokens" "places" "[I" ∈ Ts) (hI : HI D cy s s0 st H locs cells al ex) (hk : gK st a = 11) (hdg : decode cc pc = .ok (.getfield index, 3)) (kk : W p l e R s m args below meth c H locs cells slots Q (F0 m (pc + 3) ls (va_rf (gR st 1001 a) :: rest))) : W p l e R s m args below meth c H locs cells slots Q (F0 m pc ls (.ref a :: rest)) := by
  obtain ⟨k, hk2⟩ := h_at hI (by rw [hk]; decide)
  rw [hC_11 hk] at hk2
  exact va_get (D := D) (ci := 10) (v := va_rf (gR st 1001 a)) (C := RX10) (T := TX10) (N := 6) hx hb hts hin hown hI.1 hI.2.1 k hk2 rfl 1 (by decide) (hts _ hlk) (fun _ h9 => h9) rfl hdg kk
theorem hp_10_1 {a : Nat} (hx : p.tables.exec = Jvm.exec) (hb : c.code = cc) (hts : ∀ w ∈ Ts, w.before args s = true) (hin : ∀ w ∈ u_ws RX10 TX10 6, w ∈ Ts) (hown : s.vm.findClass own = some m.cls) (hlk : Cond.fieldLink own index "HalfBridge$Tokens" "places" "[I" ∈ Ts) (hI : HI D cy s s0 st H locs cells al ex) (hk : gK st a = 11) {x : Option Nat} (hin2 : meth.name = "<init>") (hdecl : "HalfBridge$Tokens" = own) (hdg : decode cc pc = .ok (.putfield index, 3)) (kk : ∀ (H1 : Heap) (locs1 : List Loc), HI D cy s s0 (sR st 1001 a x) H1 locs1 cells al ex → W p l e R s m args below meth c H1 locs1 cells slots Q (F0 m (pc + 3) ls rest)) : W p l e R s m args below meth c H locs cells slots Q (F0 m pc ls (va_rf x :: .ref a :: rest)) := by
  have hk0 : gK st a ≠ 0 := by rw [hk]; decide
  obtain ⟨k, hk1⟩ := h_at hI hk0
  have hk2 := hk1
  rw [hC_11 hk] at hk2
  refine va_putF (D := D) (ci := 10) (v := va_rf x) (ty := (.array .int)) (C := RX10) (T := TX10) (N := 6) hx hb hts hin tyX10 tyX10_ok nmX10 hown hI.1 hI.2.1 hI.2.2.1 (h_S hI) k hk2 rfl 1 (by decide) (hts _ hlk) (fun _ h9 => h9) rfl hin2 hdecl (by decide +kernel) (by cases x <;> rfl) (by cases x <;> rfl) (by show 1 < (fl10 st a).length; exact Nat.le_of_ble_eq_true rfl) hdg (fun H1 locs1 q1 q2 q3 => kk H1 locs1 (h_upd hI hk0 hk1 rfl rfl (fun _ => rfl) ?_ ?_ q1 q2 q3))
  · rw [hC_11 (st := (sR st 1001 a x)) (a := a) hk]
    simp [fl10, sR, va_up, gI, gR]
  · intro b hb
    exact hC_ext (fun _ => rfl) (fun f => up2_ne hb) rfl rfl rfl rfl rfl
theorem hg_10_2 {a : Nat} (hx : p.tables.exec = Jvm.exec) (hb : c.code = cc) (hts : ∀ w ∈ Ts, w.before args s = true) (hin : ∀ w ∈ u_ws RX10 TX10 6, w ∈ Ts) (hown : s.vm.findClass own = some m.cls) (hlk : Cond.fieldLink own index "HalfBridge$Tokens" "values" "[I" ∈ Ts) (hI : HI D cy s s0 st H locs cells al ex) (hk : gK st a = 11) (hdg : decode cc pc = .ok (.getfield index, 3)) (kk : W p l e R s m args below meth c H locs cells slots Q (F0 m (pc + 3) ls (va_rf (gR st 1002 a) :: rest))) : W p l e R s m args below meth c H locs cells slots Q (F0 m pc ls (.ref a :: rest)) := by
  obtain ⟨k, hk2⟩ := h_at hI (by rw [hk]; decide)
  rw [hC_11 hk] at hk2
  exact va_get (D := D) (ci := 10) (v := va_rf (gR st 1002 a)) (C := RX10) (T := TX10) (N := 6) hx hb hts hin hown hI.1 hI.2.1 k hk2 rfl 2 (by decide) (hts _ hlk) (fun _ h9 => h9) rfl hdg kk
theorem hp_10_2 {a : Nat} (hx : p.tables.exec = Jvm.exec) (hb : c.code = cc) (hts : ∀ w ∈ Ts, w.before args s = true) (hin : ∀ w ∈ u_ws RX10 TX10 6, w ∈ Ts) (hown : s.vm.findClass own = some m.cls) (hlk : Cond.fieldLink own index "HalfBridge$Tokens" "values" "[I" ∈ Ts) (hI : HI D cy s s0 st H locs cells al ex) (hk : gK st a = 11) {x : Option Nat} (hin2 : meth.name = "<init>") (hdecl : "HalfBridge$Tokens" = own) (hdg : decode cc pc = .ok (.putfield index, 3)) (kk : ∀ (H1 : Heap) (locs1 : List Loc), HI D cy s s0 (sR st 1002 a x) H1 locs1 cells al ex → W p l e R s m args below meth c H1 locs1 cells slots Q (F0 m (pc + 3) ls rest)) : W p l e R s m args below meth c H locs cells slots Q (F0 m pc ls (va_rf x :: .ref a :: rest)) := by
  have hk0 : gK st a ≠ 0 := by rw [hk]; decide
  obtain ⟨k, hk1⟩ := h_at hI hk0
  have hk2 := hk1
  rw [hC_11 hk] at hk2
  refine va_putF (D := D) (ci := 10) (v := va_rf x) (ty := (.array .int)) (C := RX10) (T := TX10) (N := 6) hx hb hts hin tyX10 tyX10_ok nmX10 hown hI.1 hI.2.1 hI.2.2.1 (h_S hI) k hk2 rfl 2 (by decide) (hts _ hlk) (fun _ h9 => h9) rfl hin2 hdecl (by decide +kernel) (by cases x <;> rfl) (by cases x <;> rfl) (by show 2 < (fl10 st a).length; exact Nat.le_of_ble_eq_true rfl) hdg (fun H1 locs1 q1 q2 q3 => kk H1 locs1 (h_upd hI hk0 hk1 rfl rfl (fun _ => rfl) ?_ ?_ q1 q2 q3))
  · rw [hC_11 (st := (sR st 1002 a x)) (a := a) hk]
    simp [fl10, sR, va_up, gI, gR]
  · intro b hb
    exact hC_ext (fun _ => rfl) (fun f => up2_ne hb) rfl rfl rfl rfl rfl
theorem hg_10_3 {a : Nat} (hx : p.tables.exec = Jvm.exec) (hb : c.code = cc) (hts : ∀ w ∈ Ts, w.before args s = true) (hin : ∀ w ∈ u_ws RX10 TX10 6, w ∈ Ts) (hown : s.vm.findClass own = some m.cls) (hlk : Cond.fieldLink own index "HalfBridge$Tokens" "size" "I" ∈ Ts) (hI : HI D cy s s0 st H locs cells al ex) (hk : gK st a = 11) (hdg : decode cc pc = .ok (.getfield index, 3)) (kk : W p l e R s m args below meth c H locs cells slots Q (F0 m (pc + 3) ls (.int (gI st 1003 a) :: rest))) : W p l e R s m args below meth c H locs cells slots Q (F0 m pc ls (.ref a :: rest)) := by
  obtain ⟨k, hk2⟩ := h_at hI (by rw [hk]; decide)
  rw [hC_11 hk] at hk2
  exact va_get (D := D) (ci := 10) (v := .int (gI st 1003 a)) (C := RX10) (T := TX10) (N := 6) hx hb hts hin hown hI.1 hI.2.1 k hk2 rfl 3 (by decide) (hts _ hlk) (fun _ h9 => h9) rfl hdg kk
theorem hp_10_3 {a : Nat} (hx : p.tables.exec = Jvm.exec) (hb : c.code = cc) (hts : ∀ w ∈ Ts, w.before args s = true) (hin : ∀ w ∈ u_ws RX10 TX10 6, w ∈ Ts) (hown : s.vm.findClass own = some m.cls) (hlk : Cond.fieldLink own index "HalfBridge$Tokens" "size" "I" ∈ Ts) (hI : HI D cy s s0 st H locs cells al ex) (hk : gK st a = 11) {x : Int32} (hdg : decode cc pc = .ok (.putfield index, 3)) (kk : ∀ (H1 : Heap) (locs1 : List Loc), HI D cy s s0 (sI st 1003 a x) H1 locs1 cells al ex → W p l e R s m args below meth c H1 locs1 cells slots Q (F0 m (pc + 3) ls rest)) : W p l e R s m args below meth c H locs cells slots Q (F0 m pc ls (.int x :: .ref a :: rest)) := by
  have hk0 : gK st a ≠ 0 := by rw [hk]; decide
  obtain ⟨k, hk1⟩ := h_at hI hk0
  have hk2 := hk1
  rw [hC_11 hk] at hk2
  refine va_put (D := D) (ci := 10) (v := .int x) (ty := .int) (C := RX10) (T := TX10) (N := 6) hx hb hts hin tyX10 tyX10_ok nmX10 hown hI.1 hI.2.1 hI.2.2.1 (h_S hI) k hk2 rfl 3 (by decide) (hts _ hlk) (fun _ h9 => h9) rfl (by decide +kernel) rfl rfl (by show 3 < (fl10 st a).length; exact Nat.le_of_ble_eq_true rfl) hdg (fun H1 locs1 q1 q2 q3 => kk H1 locs1 (h_upd hI hk0 hk1 rfl rfl (fun _ => rfl) ?_ ?_ q1 q2 q3))
  · rw [hC_11 (st := (sI st 1003 a x)) (a := a) hk]
    simp [fl10, sI, va_up, gI, gR]
  · intro b hb
    exact hC_ext (fun f => up2_ne hb) (fun _ => rfl) rfl rfl rfl rfl rfl
theorem hg_10_4 {a : Nat} (hx : p.tables.exec = Jvm.exec) (hb : c.code = cc) (hts : ∀ w ∈ Ts, w.before args s = true) (hin : ∀ w ∈ u_ws RX10 TX10 6, w ∈ Ts) (hown : s.vm.findClass own = some m.cls) (hlk : Cond.fieldLink own index "HalfBridge$Tokens" "at" "I" ∈ Ts) (hI : HI D cy s s0 st H locs cells al ex) (hk : gK st a = 11) (hdg : decode cc pc = .ok (.getfield index, 3)) (kk : W p l e R s m args below meth c H locs cells slots Q (F0 m (pc + 3) ls (.int (gI st 1004 a) :: rest))) : W p l e R s m args below meth c H locs cells slots Q (F0 m pc ls (.ref a :: rest)) := by
  obtain ⟨k, hk2⟩ := h_at hI (by rw [hk]; decide)
  rw [hC_11 hk] at hk2
  exact va_get (D := D) (ci := 10) (v := .int (gI st 1004 a)) (C := RX10) (T := TX10) (N := 6) hx hb hts hin hown hI.1 hI.2.1 k hk2 rfl 4 (by decide) (hts _ hlk) (fun _ h9 => h9) rfl hdg kk
theorem hp_10_4 {a : Nat} (hx : p.tables.exec = Jvm.exec) (hb : c.code = cc) (hts : ∀ w ∈ Ts, w.before args s = true) (hin : ∀ w ∈ u_ws RX10 TX10 6, w ∈ Ts) (hown : s.vm.findClass own = some m.cls) (hlk : Cond.fieldLink own index "HalfBridge$Tokens" "at" "I" ∈ Ts) (hI : HI D cy s s0 st H locs cells al ex) (hk : gK st a = 11) {x : Int32} (hdg : decode cc pc = .ok (.putfield index, 3)) (kk : ∀ (H1 : Heap) (locs1 : List Loc), HI D cy s s0 (sI st 1004 a x) H1 locs1 cells al ex → W p l e R s m args below meth c H1 locs1 cells slots Q (F0 m (pc + 3) ls rest)) : W p l e R s m args below meth c H locs cells slots Q (F0 m pc ls (.int x :: .ref a :: rest)) := by
  have hk0 : gK st a ≠ 0 := by rw [hk]; decide
  obtain ⟨k, hk1⟩ := h_at hI hk0
  have hk2 := hk1
  rw [hC_11 hk] at hk2
  refine va_put (D := D) (ci := 10) (v := .int x) (ty := .int) (C := RX10) (T := TX10) (N := 6) hx hb hts hin tyX10 tyX10_ok nmX10 hown hI.1 hI.2.1 hI.2.2.1 (h_S hI) k hk2 rfl 4 (by decide) (hts _ hlk) (fun _ h9 => h9) rfl (by decide +kernel) rfl rfl (by show 4 < (fl10 st a).length; exact Nat.le_of_ble_eq_true rfl) hdg (fun H1 locs1 q1 q2 q3 => kk H1 locs1 (h_upd hI hk0 hk1 rfl rfl (fun _ => rfl) ?_ ?_ q1 q2 q3))
  · rw [hC_11 (st := (sI st 1004 a x)) (a := a) hk]
    simp [fl10, sI, va_up, gI, gR]
  · intro b hb
    exact hC_ext (fun f => up2_ne hb) (fun _ => rfl) rfl rfl rfl rfl rfl
theorem hg_10_5 {a : Nat} (hx : p.tables.exec = Jvm.exec) (hb : c.code = cc) (hts : ∀ w ∈ Ts, w.before args s = true) (hin : ∀ w ∈ u_ws RX10 TX10 6, w ∈ Ts) (hown : s.vm.findClass own = some m.cls) (hlk : Cond.fieldLink own index "HalfBridge$Tokens" "fault" "I" ∈ Ts) (hI : HI D cy s s0 st H locs cells al ex) (hk : gK st a = 11) (hdg : decode cc pc = .ok (.getfield index, 3)) (kk : W p l e R s m args below meth c H locs cells slots Q (F0 m (pc + 3) ls (.int (gI st 1005 a) :: rest))) : W p l e R s m args below meth c H locs cells slots Q (F0 m pc ls (.ref a :: rest)) := by
  obtain ⟨k, hk2⟩ := h_at hI (by rw [hk]; decide)
  rw [hC_11 hk] at hk2
  exact va_get (D := D) (ci := 10) (v := .int (gI st 1005 a)) (C := RX10) (T := TX10) (N := 6) hx hb hts hin hown hI.1 hI.2.1 k hk2 rfl 5 (by decide) (hts _ hlk) (fun _ h9 => h9) rfl hdg kk
theorem hp_10_5 {a : Nat} (hx : p.tables.exec = Jvm.exec) (hb : c.code = cc) (hts : ∀ w ∈ Ts, w.before args s = true) (hin : ∀ w ∈ u_ws RX10 TX10 6, w ∈ Ts) (hown : s.vm.findClass own = some m.cls) (hlk : Cond.fieldLink own index "HalfBridge$Tokens" "fault" "I" ∈ Ts) (hI : HI D cy s s0 st H locs cells al ex) (hk : gK st a = 11) {x : Int32} (hdg : decode cc pc = .ok (.putfield index, 3)) (kk : ∀ (H1 : Heap) (locs1 : List Loc), HI D cy s s0 (sI st 1005 a x) H1 locs1 cells al ex → W p l e R s m args below meth c H1 locs1 cells slots Q (F0 m (pc + 3) ls rest)) : W p l e R s m args below meth c H locs cells slots Q (F0 m pc ls (.int x :: .ref a :: rest)) := by
  have hk0 : gK st a ≠ 0 := by rw [hk]; decide
  obtain ⟨k, hk1⟩ := h_at hI hk0
  have hk2 := hk1
  rw [hC_11 hk] at hk2
  refine va_put (D := D) (ci := 10) (v := .int x) (ty := .int) (C := RX10) (T := TX10) (N := 6) hx hb hts hin tyX10 tyX10_ok nmX10 hown hI.1 hI.2.1 hI.2.2.1 (h_S hI) k hk2 rfl 5 (by decide) (hts _ hlk) (fun _ h9 => h9) rfl (by decide +kernel) rfl rfl (by show 5 < (fl10 st a).length; exact Nat.le_of_ble_eq_true rfl) hdg (fun H1 locs1 q1 q2 q3 => kk H1 locs1 (h_upd hI hk0 hk1 rfl rfl (fun _ => rfl) ?_ ?_ q1 q2 q3))
  · rw [hC_11 (st := (sI st 1005 a x)) (a := a) hk]
    simp [fl10, sI, va_up, gI, gR]
  · intro b hb
    exact hC_ext (fun f => up2_ne hb) (fun _ => rfl) rfl rfl rfl rfl rfl
theorem hg_11_0 {a : Nat} (hx : p.tables.exec = Jvm.exec) (hb : c.code = cc) (hts : ∀ w ∈ Ts, w.before args s = true) (hin : ∀ w ∈ u_ws RX11 TX11 10, w ∈ Ts) (hown : s.vm.findClass own = some m.cls) (hlk : Cond.fieldLink own index "HalfBridge" "tape" "[B" ∈ Ts) (hI : HI D cy s s0 st H locs cells al ex) (hk : gK st a = 12) (hdg : decode cc pc = .ok (.getfield index, 3)) (kk : W p l e R s m args below meth c H locs cells slots Q (F0 m (pc + 3) ls (va_rf (gR st 1100 a) :: rest))) : W p l e R s m args below meth c H locs cells slots Q (F0 m pc ls (.ref a :: rest)) := by
  obtain ⟨k, hk2⟩ := h_at hI (by rw [hk]; decide)
  rw [hC_12 hk] at hk2
  exact va_get (D := D) (ci := 11) (v := va_rf (gR st 1100 a)) (C := RX11) (T := TX11) (N := 10) hx hb hts hin hown hI.1 hI.2.1 k hk2 rfl 0 (by decide) (hts _ hlk) (fun _ h9 => h9) rfl hdg kk
theorem hp_11_0 {a : Nat} (hx : p.tables.exec = Jvm.exec) (hb : c.code = cc) (hts : ∀ w ∈ Ts, w.before args s = true) (hin : ∀ w ∈ u_ws RX11 TX11 10, w ∈ Ts) (hown : s.vm.findClass own = some m.cls) (hlk : Cond.fieldLink own index "HalfBridge" "tape" "[B" ∈ Ts) (hI : HI D cy s s0 st H locs cells al ex) (hk : gK st a = 12) {x : Option Nat} (hin2 : meth.name = "<init>") (hdecl : "HalfBridge" = own) (hdg : decode cc pc = .ok (.putfield index, 3)) (kk : ∀ (H1 : Heap) (locs1 : List Loc), HI D cy s s0 (sR st 1100 a x) H1 locs1 cells al ex → W p l e R s m args below meth c H1 locs1 cells slots Q (F0 m (pc + 3) ls rest)) : W p l e R s m args below meth c H locs cells slots Q (F0 m pc ls (va_rf x :: .ref a :: rest)) := by
  have hk0 : gK st a ≠ 0 := by rw [hk]; decide
  obtain ⟨k, hk1⟩ := h_at hI hk0
  have hk2 := hk1
  rw [hC_12 hk] at hk2
  refine va_putF (D := D) (ci := 11) (v := va_rf x) (ty := (.array .byte)) (C := RX11) (T := TX11) (N := 10) hx hb hts hin tyX11 tyX11_ok nmX11 hown hI.1 hI.2.1 hI.2.2.1 (h_S hI) k hk2 rfl 0 (by decide) (hts _ hlk) (fun _ h9 => h9) rfl hin2 hdecl (by decide +kernel) (by cases x <;> rfl) (by cases x <;> rfl) (by show 0 < (fl11 st a).length; exact Nat.le_of_ble_eq_true rfl) hdg (fun H1 locs1 q1 q2 q3 => kk H1 locs1 (h_upd hI hk0 hk1 rfl rfl (fun _ => rfl) ?_ ?_ q1 q2 q3))
  · rw [hC_12 (st := (sR st 1100 a x)) (a := a) hk]
    simp [fl11, sR, va_up, gI, gR]
  · intro b hb
    exact hC_ext (fun _ => rfl) (fun f => up2_ne hb) rfl rfl rfl rfl rfl
theorem hg_11_1 {a : Nat} (hx : p.tables.exec = Jvm.exec) (hb : c.code = cc) (hts : ∀ w ∈ Ts, w.before args s = true) (hin : ∀ w ∈ u_ws RX11 TX11 10, w ∈ Ts) (hown : s.vm.findClass own = some m.cls) (hlk : Cond.fieldLink own index "HalfBridge" "tapeSize" "I" ∈ Ts) (hI : HI D cy s s0 st H locs cells al ex) (hk : gK st a = 12) (hdg : decode cc pc = .ok (.getfield index, 3)) (kk : W p l e R s m args below meth c H locs cells slots Q (F0 m (pc + 3) ls (.int (gI st 1101 a) :: rest))) : W p l e R s m args below meth c H locs cells slots Q (F0 m pc ls (.ref a :: rest)) := by
  obtain ⟨k, hk2⟩ := h_at hI (by rw [hk]; decide)
  rw [hC_12 hk] at hk2
  exact va_get (D := D) (ci := 11) (v := .int (gI st 1101 a)) (C := RX11) (T := TX11) (N := 10) hx hb hts hin hown hI.1 hI.2.1 k hk2 rfl 1 (by decide) (hts _ hlk) (fun _ h9 => h9) rfl hdg kk
theorem hp_11_1 {a : Nat} (hx : p.tables.exec = Jvm.exec) (hb : c.code = cc) (hts : ∀ w ∈ Ts, w.before args s = true) (hin : ∀ w ∈ u_ws RX11 TX11 10, w ∈ Ts) (hown : s.vm.findClass own = some m.cls) (hlk : Cond.fieldLink own index "HalfBridge" "tapeSize" "I" ∈ Ts) (hI : HI D cy s s0 st H locs cells al ex) (hk : gK st a = 12) {x : Int32} (hdg : decode cc pc = .ok (.putfield index, 3)) (kk : ∀ (H1 : Heap) (locs1 : List Loc), HI D cy s s0 (sI st 1101 a x) H1 locs1 cells al ex → W p l e R s m args below meth c H1 locs1 cells slots Q (F0 m (pc + 3) ls rest)) : W p l e R s m args below meth c H locs cells slots Q (F0 m pc ls (.int x :: .ref a :: rest)) := by
  have hk0 : gK st a ≠ 0 := by rw [hk]; decide
  obtain ⟨k, hk1⟩ := h_at hI hk0
  have hk2 := hk1
  rw [hC_12 hk] at hk2
  refine va_put (D := D) (ci := 11) (v := .int x) (ty := .int) (C := RX11) (T := TX11) (N := 10) hx hb hts hin tyX11 tyX11_ok nmX11 hown hI.1 hI.2.1 hI.2.2.1 (h_S hI) k hk2 rfl 1 (by decide) (hts _ hlk) (fun _ h9 => h9) rfl (by decide +kernel) rfl rfl (by show 1 < (fl11 st a).length; exact Nat.le_of_ble_eq_true rfl) hdg (fun H1 locs1 q1 q2 q3 => kk H1 locs1 (h_upd hI hk0 hk1 rfl rfl (fun _ => rfl) ?_ ?_ q1 q2 q3))
  · rw [hC_12 (st := (sI st 1101 a x)) (a := a) hk]
    simp [fl11, sI, va_up, gI, gR]
  · intro b hb
    exact hC_ext (fun f => up2_ne hb) (fun _ => rfl) rfl rfl rfl rfl rfl
theorem hg_11_2 {a : Nat} (hx : p.tables.exec = Jvm.exec) (hb : c.code = cc) (hts : ∀ w ∈ Ts, w.before args s = true) (hin : ∀ w ∈ u_ws RX11 TX11 10, w ∈ Ts) (hown : s.vm.findClass own = some m.cls) (hlk : Cond.fieldLink own index "HalfBridge" "rules" "[LHalfBridge$Rule;" ∈ Ts) (hI : HI D cy s s0 st H locs cells al ex) (hk : gK st a = 12) (hdg : decode cc pc = .ok (.getfield index, 3)) (kk : W p l e R s m args below meth c H locs cells slots Q (F0 m (pc + 3) ls (va_rf (gR st 1102 a) :: rest))) : W p l e R s m args below meth c H locs cells slots Q (F0 m pc ls (.ref a :: rest)) := by
  obtain ⟨k, hk2⟩ := h_at hI (by rw [hk]; decide)
  rw [hC_12 hk] at hk2
  exact va_get (D := D) (ci := 11) (v := va_rf (gR st 1102 a)) (C := RX11) (T := TX11) (N := 10) hx hb hts hin hown hI.1 hI.2.1 k hk2 rfl 2 (by decide) (hts _ hlk) (fun _ h9 => h9) rfl hdg kk
theorem hp_11_2 {a : Nat} (hx : p.tables.exec = Jvm.exec) (hb : c.code = cc) (hts : ∀ w ∈ Ts, w.before args s = true) (hin : ∀ w ∈ u_ws RX11 TX11 10, w ∈ Ts) (hown : s.vm.findClass own = some m.cls) (hlk : Cond.fieldLink own index "HalfBridge" "rules" "[LHalfBridge$Rule;" ∈ Ts) (hI : HI D cy s s0 st H locs cells al ex) (hk : gK st a = 12) {x : Option Nat} (hin2 : meth.name = "<init>") (hdecl : "HalfBridge" = own) (hdg : decode cc pc = .ok (.putfield index, 3)) (kk : ∀ (H1 : Heap) (locs1 : List Loc), HI D cy s s0 (sR st 1102 a x) H1 locs1 cells al ex → W p l e R s m args below meth c H1 locs1 cells slots Q (F0 m (pc + 3) ls rest)) : W p l e R s m args below meth c H locs cells slots Q (F0 m pc ls (va_rf x :: .ref a :: rest)) := by
  have hk0 : gK st a ≠ 0 := by rw [hk]; decide
  obtain ⟨k, hk1⟩ := h_at hI hk0
  have hk2 := hk1
  rw [hC_12 hk] at hk2
  refine va_putF (D := D) (ci := 11) (v := va_rf x) (ty := (.array (.object "HalfBridge$Rule"))) (C := RX11) (T := TX11) (N := 10) hx hb hts hin tyX11 tyX11_ok nmX11 hown hI.1 hI.2.1 hI.2.2.1 (h_S hI) k hk2 rfl 2 (by decide) (hts _ hlk) (fun _ h9 => h9) rfl hin2 hdecl (by decide +kernel) (by cases x <;> rfl) (by cases x <;> rfl) (by show 2 < (fl11 st a).length; exact Nat.le_of_ble_eq_true rfl) hdg (fun H1 locs1 q1 q2 q3 => kk H1 locs1 (h_upd hI hk0 hk1 rfl rfl (fun _ => rfl) ?_ ?_ q1 q2 q3))
  · rw [hC_12 (st := (sR st 1102 a x)) (a := a) hk]
    simp [fl11, sR, va_up, gI, gR]
  · intro b hb
    exact hC_ext (fun _ => rfl) (fun f => up2_ne hb) rfl rfl rfl rfl rfl
theorem hg_11_3 {a : Nat} (hx : p.tables.exec = Jvm.exec) (hb : c.code = cc) (hts : ∀ w ∈ Ts, w.before args s = true) (hin : ∀ w ∈ u_ws RX11 TX11 10, w ∈ Ts) (hown : s.vm.findClass own = some m.cls) (hlk : Cond.fieldLink own index "HalfBridge" "ruleCount" "I" ∈ Ts) (hI : HI D cy s s0 st H locs cells al ex) (hk : gK st a = 12) (hdg : decode cc pc = .ok (.getfield index, 3)) (kk : W p l e R s m args below meth c H locs cells slots Q (F0 m (pc + 3) ls (.int (gI st 1103 a) :: rest))) : W p l e R s m args below meth c H locs cells slots Q (F0 m pc ls (.ref a :: rest)) := by
  obtain ⟨k, hk2⟩ := h_at hI (by rw [hk]; decide)
  rw [hC_12 hk] at hk2
  exact va_get (D := D) (ci := 11) (v := .int (gI st 1103 a)) (C := RX11) (T := TX11) (N := 10) hx hb hts hin hown hI.1 hI.2.1 k hk2 rfl 3 (by decide) (hts _ hlk) (fun _ h9 => h9) rfl hdg kk
theorem hp_11_3 {a : Nat} (hx : p.tables.exec = Jvm.exec) (hb : c.code = cc) (hts : ∀ w ∈ Ts, w.before args s = true) (hin : ∀ w ∈ u_ws RX11 TX11 10, w ∈ Ts) (hown : s.vm.findClass own = some m.cls) (hlk : Cond.fieldLink own index "HalfBridge" "ruleCount" "I" ∈ Ts) (hI : HI D cy s s0 st H locs cells al ex) (hk : gK st a = 12) {x : Int32} (hdg : decode cc pc = .ok (.putfield index, 3)) (kk : ∀ (H1 : Heap) (locs1 : List Loc), HI D cy s s0 (sI st 1103 a x) H1 locs1 cells al ex → W p l e R s m args below meth c H1 locs1 cells slots Q (F0 m (pc + 3) ls rest)) : W p l e R s m args below meth c H locs cells slots Q (F0 m pc ls (.int x :: .ref a :: rest)) := by
  have hk0 : gK st a ≠ 0 := by rw [hk]; decide
  obtain ⟨k, hk1⟩ := h_at hI hk0
  have hk2 := hk1
  rw [hC_12 hk] at hk2
  refine va_put (D := D) (ci := 11) (v := .int x) (ty := .int) (C := RX11) (T := TX11) (N := 10) hx hb hts hin tyX11 tyX11_ok nmX11 hown hI.1 hI.2.1 hI.2.2.1 (h_S hI) k hk2 rfl 3 (by decide) (hts _ hlk) (fun _ h9 => h9) rfl (by decide +kernel) rfl rfl (by show 3 < (fl11 st a).length; exact Nat.le_of_ble_eq_true rfl) hdg (fun H1 locs1 q1 q2 q3 => kk H1 locs1 (h_upd hI hk0 hk1 rfl rfl (fun _ => rfl) ?_ ?_ q1 q2 q3))
  · rw [hC_12 (st := (sI st 1103 a x)) (a := a) hk]
    simp [fl11, sI, va_up, gI, gR]
  · intro b hb
    exact hC_ext (fun f => up2_ne hb) (fun _ => rfl) rfl rfl rfl rfl rfl
theorem hg_11_4 {a : Nat} (hx : p.tables.exec = Jvm.exec) (hb : c.code = cc) (hts : ∀ w ∈ Ts, w.before args s = true) (hin : ∀ w ∈ u_ws RX11 TX11 10, w ∈ Ts) (hown : s.vm.findClass own = some m.cls) (hlk : Cond.fieldLink own index "HalfBridge" "site" "LHalfBridge$Site;" ∈ Ts) (hI : HI D cy s s0 st H locs cells al ex) (hk : gK st a = 12) (hdg : decode cc pc = .ok (.getfield index, 3)) (kk : W p l e R s m args below meth c H locs cells slots Q (F0 m (pc + 3) ls (va_rf (gR st 1104 a) :: rest))) : W p l e R s m args below meth c H locs cells slots Q (F0 m pc ls (.ref a :: rest)) := by
  obtain ⟨k, hk2⟩ := h_at hI (by rw [hk]; decide)
  rw [hC_12 hk] at hk2
  exact va_get (D := D) (ci := 11) (v := va_rf (gR st 1104 a)) (C := RX11) (T := TX11) (N := 10) hx hb hts hin hown hI.1 hI.2.1 k hk2 rfl 4 (by decide) (hts _ hlk) (fun _ h9 => h9) rfl hdg kk
theorem hp_11_4 {a : Nat} (hx : p.tables.exec = Jvm.exec) (hb : c.code = cc) (hts : ∀ w ∈ Ts, w.before args s = true) (hin : ∀ w ∈ u_ws RX11 TX11 10, w ∈ Ts) (hown : s.vm.findClass own = some m.cls) (hlk : Cond.fieldLink own index "HalfBridge" "site" "LHalfBridge$Site;" ∈ Ts) (hI : HI D cy s s0 st H locs cells al ex) (hk : gK st a = 12) {x : Option Nat} (hin2 : meth.name = "<init>") (hdecl : "HalfBridge" = own) (hdg : decode cc pc = .ok (.putfield index, 3)) (kk : ∀ (H1 : Heap) (locs1 : List Loc), HI D cy s s0 (sR st 1104 a x) H1 locs1 cells al ex → W p l e R s m args below meth c H1 locs1 cells slots Q (F0 m (pc + 3) ls rest)) : W p l e R s m args below meth c H locs cells slots Q (F0 m pc ls (va_rf x :: .ref a :: rest)) := by
  have hk0 : gK st a ≠ 0 := by rw [hk]; decide
  obtain ⟨k, hk1⟩ := h_at hI hk0
  have hk2 := hk1
  rw [hC_12 hk] at hk2
  refine va_putF (D := D) (ci := 11) (v := va_rf x) (ty := (.object "HalfBridge$Site")) (C := RX11) (T := TX11) (N := 10) hx hb hts hin tyX11 tyX11_ok nmX11 hown hI.1 hI.2.1 hI.2.2.1 (h_S hI) k hk2 rfl 4 (by decide) (hts _ hlk) (fun _ h9 => h9) rfl hin2 hdecl (by decide +kernel) (by cases x <;> rfl) (by cases x <;> rfl) (by show 4 < (fl11 st a).length; exact Nat.le_of_ble_eq_true rfl) hdg (fun H1 locs1 q1 q2 q3 => kk H1 locs1 (h_upd hI hk0 hk1 rfl rfl (fun _ => rfl) ?_ ?_ q1 q2 q3))
  · rw [hC_12 (st := (sR st 1104 a x)) (a := a) hk]
    simp [fl11, sR, va_up, gI, gR]
  · intro b hb
    exact hC_ext (fun _ => rfl) (fun f => up2_ne hb) rfl rfl rfl rfl rfl
theorem hg_11_5 {a : Nat} (hx : p.tables.exec = Jvm.exec) (hb : c.code = cc) (hts : ∀ w ∈ Ts, w.before args s = true) (hin : ∀ w ∈ u_ws RX11 TX11 10, w ∈ Ts) (hown : s.vm.findClass own = some m.cls) (hlk : Cond.fieldLink own index "HalfBridge" "images" "[LHalfBridge$Site;" ∈ Ts) (hI : HI D cy s s0 st H locs cells al ex) (hk : gK st a = 12) (hdg : decode cc pc = .ok (.getfield index, 3)) (kk : W p l e R s m args below meth c H locs cells slots Q (F0 m (pc + 3) ls (va_rf (gR st 1105 a) :: rest))) : W p l e R s m args below meth c H locs cells slots Q (F0 m pc ls (.ref a :: rest)) := by
  obtain ⟨k, hk2⟩ := h_at hI (by rw [hk]; decide)
  rw [hC_12 hk] at hk2
  exact va_get (D := D) (ci := 11) (v := va_rf (gR st 1105 a)) (C := RX11) (T := TX11) (N := 10) hx hb hts hin hown hI.1 hI.2.1 k hk2 rfl 5 (by decide) (hts _ hlk) (fun _ h9 => h9) rfl hdg kk
theorem hp_11_5 {a : Nat} (hx : p.tables.exec = Jvm.exec) (hb : c.code = cc) (hts : ∀ w ∈ Ts, w.before args s = true) (hin : ∀ w ∈ u_ws RX11 TX11 10, w ∈ Ts) (hown : s.vm.findClass own = some m.cls) (hlk : Cond.fieldLink own index "HalfBridge" "images" "[LHalfBridge$Site;" ∈ Ts) (hI : HI D cy s s0 st H locs cells al ex) (hk : gK st a = 12) {x : Option Nat} (hin2 : meth.name = "<init>") (hdecl : "HalfBridge" = own) (hdg : decode cc pc = .ok (.putfield index, 3)) (kk : ∀ (H1 : Heap) (locs1 : List Loc), HI D cy s s0 (sR st 1105 a x) H1 locs1 cells al ex → W p l e R s m args below meth c H1 locs1 cells slots Q (F0 m (pc + 3) ls rest)) : W p l e R s m args below meth c H locs cells slots Q (F0 m pc ls (va_rf x :: .ref a :: rest)) := by
  have hk0 : gK st a ≠ 0 := by rw [hk]; decide
  obtain ⟨k, hk1⟩ := h_at hI hk0
  have hk2 := hk1
  rw [hC_12 hk] at hk2
  refine va_putF (D := D) (ci := 11) (v := va_rf x) (ty := (.array (.object "HalfBridge$Site"))) (C := RX11) (T := TX11) (N := 10) hx hb hts hin tyX11 tyX11_ok nmX11 hown hI.1 hI.2.1 hI.2.2.1 (h_S hI) k hk2 rfl 5 (by decide) (hts _ hlk) (fun _ h9 => h9) rfl hin2 hdecl (by decide +kernel) (by cases x <;> rfl) (by cases x <;> rfl) (by show 5 < (fl11 st a).length; exact Nat.le_of_ble_eq_true rfl) hdg (fun H1 locs1 q1 q2 q3 => kk H1 locs1 (h_upd hI hk0 hk1 rfl rfl (fun _ => rfl) ?_ ?_ q1 q2 q3))
  · rw [hC_12 (st := (sR st 1105 a x)) (a := a) hk]
    simp [fl11, sR, va_up, gI, gR]
  · intro b hb
    exact hC_ext (fun _ => rfl) (fun f => up2_ne hb) rfl rfl rfl rfl rfl
theorem hg_11_6 {a : Nat} (hx : p.tables.exec = Jvm.exec) (hb : c.code = cc) (hts : ∀ w ∈ Ts, w.before args s = true) (hin : ∀ w ∈ u_ws RX11 TX11 10, w ∈ Ts) (hown : s.vm.findClass own = some m.cls) (hlk : Cond.fieldLink own index "HalfBridge" "tokens" "LHalfBridge$Tokens;" ∈ Ts) (hI : HI D cy s s0 st H locs cells al ex) (hk : gK st a = 12) (hdg : decode cc pc = .ok (.getfield index, 3)) (kk : W p l e R s m args below meth c H locs cells slots Q (F0 m (pc + 3) ls (va_rf (gR st 1106 a) :: rest))) : W p l e R s m args below meth c H locs cells slots Q (F0 m pc ls (.ref a :: rest)) := by
  obtain ⟨k, hk2⟩ := h_at hI (by rw [hk]; decide)
  rw [hC_12 hk] at hk2
  exact va_get (D := D) (ci := 11) (v := va_rf (gR st 1106 a)) (C := RX11) (T := TX11) (N := 10) hx hb hts hin hown hI.1 hI.2.1 k hk2 rfl 6 (by decide) (hts _ hlk) (fun _ h9 => h9) rfl hdg kk
theorem hp_11_6 {a : Nat} (hx : p.tables.exec = Jvm.exec) (hb : c.code = cc) (hts : ∀ w ∈ Ts, w.before args s = true) (hin : ∀ w ∈ u_ws RX11 TX11 10, w ∈ Ts) (hown : s.vm.findClass own = some m.cls) (hlk : Cond.fieldLink own index "HalfBridge" "tokens" "LHalfBridge$Tokens;" ∈ Ts) (hI : HI D cy s s0 st H locs cells al ex) (hk : gK st a = 12) {x : Option Nat} (hin2 : meth.name = "<init>") (hdecl : "HalfBridge" = own) (hdg : decode cc pc = .ok (.putfield index, 3)) (kk : ∀ (H1 : Heap) (locs1 : List Loc), HI D cy s s0 (sR st 1106 a x) H1 locs1 cells al ex → W p l e R s m args below meth c H1 locs1 cells slots Q (F0 m (pc + 3) ls rest)) : W p l e R s m args below meth c H locs cells slots Q (F0 m pc ls (va_rf x :: .ref a :: rest)) := by
  have hk0 : gK st a ≠ 0 := by rw [hk]; decide
  obtain ⟨k, hk1⟩ := h_at hI hk0
  have hk2 := hk1
  rw [hC_12 hk] at hk2
  refine va_putF (D := D) (ci := 11) (v := va_rf x) (ty := (.object "HalfBridge$Tokens")) (C := RX11) (T := TX11) (N := 10) hx hb hts hin tyX11 tyX11_ok nmX11 hown hI.1 hI.2.1 hI.2.2.1 (h_S hI) k hk2 rfl 6 (by decide) (hts _ hlk) (fun _ h9 => h9) rfl hin2 hdecl (by decide +kernel) (by cases x <;> rfl) (by cases x <;> rfl) (by show 6 < (fl11 st a).length; exact Nat.le_of_ble_eq_true rfl) hdg (fun H1 locs1 q1 q2 q3 => kk H1 locs1 (h_upd hI hk0 hk1 rfl rfl (fun _ => rfl) ?_ ?_ q1 q2 q3))
  · rw [hC_12 (st := (sR st 1106 a x)) (a := a) hk]
    simp [fl11, sR, va_up, gI, gR]
  · intro b hb
    exact hC_ext (fun _ => rfl) (fun f => up2_ne hb) rfl rfl rfl rfl rfl
theorem hg_11_7 {a : Nat} (hx : p.tables.exec = Jvm.exec) (hb : c.code = cc) (hts : ∀ w ∈ Ts, w.before args s = true) (hin : ∀ w ∈ u_ws RX11 TX11 10, w ∈ Ts) (hown : s.vm.findClass own = some m.cls) (hlk : Cond.fieldLink own index "HalfBridge" "riverReader" "LHalfBridge$RiverReader;" ∈ Ts) (hI : HI D cy s s0 st H locs cells al ex) (hk : gK st a = 12) (hdg : decode cc pc = .ok (.getfield index, 3)) (kk : W p l e R s m args below meth c H locs cells slots Q (F0 m (pc + 3) ls (va_rf (gR st 1107 a) :: rest))) : W p l e R s m args below meth c H locs cells slots Q (F0 m pc ls (.ref a :: rest)) := by
  obtain ⟨k, hk2⟩ := h_at hI (by rw [hk]; decide)
  rw [hC_12 hk] at hk2
  exact va_get (D := D) (ci := 11) (v := va_rf (gR st 1107 a)) (C := RX11) (T := TX11) (N := 10) hx hb hts hin hown hI.1 hI.2.1 k hk2 rfl 7 (by decide) (hts _ hlk) (fun _ h9 => h9) rfl hdg kk
theorem hp_11_7 {a : Nat} (hx : p.tables.exec = Jvm.exec) (hb : c.code = cc) (hts : ∀ w ∈ Ts, w.before args s = true) (hin : ∀ w ∈ u_ws RX11 TX11 10, w ∈ Ts) (hown : s.vm.findClass own = some m.cls) (hlk : Cond.fieldLink own index "HalfBridge" "riverReader" "LHalfBridge$RiverReader;" ∈ Ts) (hI : HI D cy s s0 st H locs cells al ex) (hk : gK st a = 12) {x : Option Nat} (hin2 : meth.name = "<init>") (hdecl : "HalfBridge" = own) (hdg : decode cc pc = .ok (.putfield index, 3)) (kk : ∀ (H1 : Heap) (locs1 : List Loc), HI D cy s s0 (sR st 1107 a x) H1 locs1 cells al ex → W p l e R s m args below meth c H1 locs1 cells slots Q (F0 m (pc + 3) ls rest)) : W p l e R s m args below meth c H locs cells slots Q (F0 m pc ls (va_rf x :: .ref a :: rest)) := by
  have hk0 : gK st a ≠ 0 := by rw [hk]; decide
  obtain ⟨k, hk1⟩ := h_at hI hk0
  have hk2 := hk1
  rw [hC_12 hk] at hk2
  refine va_putF (D := D) (ci := 11) (v := va_rf x) (ty := (.object "HalfBridge$RiverReader")) (C := RX11) (T := TX11) (N := 10) hx hb hts hin tyX11 tyX11_ok nmX11 hown hI.1 hI.2.1 hI.2.2.1 (h_S hI) k hk2 rfl 7 (by decide) (hts _ hlk) (fun _ h9 => h9) rfl hin2 hdecl (by decide +kernel) (by cases x <;> rfl) (by cases x <;> rfl) (by show 7 < (fl11 st a).length; exact Nat.le_of_ble_eq_true rfl) hdg (fun H1 locs1 q1 q2 q3 => kk H1 locs1 (h_upd hI hk0 hk1 rfl rfl (fun _ => rfl) ?_ ?_ q1 q2 q3))
  · rw [hC_12 (st := (sR st 1107 a x)) (a := a) hk]
    simp [fl11, sR, va_up, gI, gR]
  · intro b hb
    exact hC_ext (fun _ => rfl) (fun f => up2_ne hb) rfl rfl rfl rfl rfl
theorem hg_11_8 {a : Nat} (hx : p.tables.exec = Jvm.exec) (hb : c.code = cc) (hts : ∀ w ∈ Ts, w.before args s = true) (hin : ∀ w ∈ u_ws RX11 TX11 10, w ∈ Ts) (hown : s.vm.findClass own = some m.cls) (hlk : Cond.fieldLink own index "HalfBridge" "ruleReader" "LHalfBridge$RuleReader;" ∈ Ts) (hI : HI D cy s s0 st H locs cells al ex) (hk : gK st a = 12) (hdg : decode cc pc = .ok (.getfield index, 3)) (kk : W p l e R s m args below meth c H locs cells slots Q (F0 m (pc + 3) ls (va_rf (gR st 1108 a) :: rest))) : W p l e R s m args below meth c H locs cells slots Q (F0 m pc ls (.ref a :: rest)) := by
  obtain ⟨k, hk2⟩ := h_at hI (by rw [hk]; decide)
  rw [hC_12 hk] at hk2
  exact va_get (D := D) (ci := 11) (v := va_rf (gR st 1108 a)) (C := RX11) (T := TX11) (N := 10) hx hb hts hin hown hI.1 hI.2.1 k hk2 rfl 8 (by decide) (hts _ hlk) (fun _ h9 => h9) rfl hdg kk
theorem hp_11_8 {a : Nat} (hx : p.tables.exec = Jvm.exec) (hb : c.code = cc) (hts : ∀ w ∈ Ts, w.before args s = true) (hin : ∀ w ∈ u_ws RX11 TX11 10, w ∈ Ts) (hown : s.vm.findClass own = some m.cls) (hlk : Cond.fieldLink own index "HalfBridge" "ruleReader" "LHalfBridge$RuleReader;" ∈ Ts) (hI : HI D cy s s0 st H locs cells al ex) (hk : gK st a = 12) {x : Option Nat} (hin2 : meth.name = "<init>") (hdecl : "HalfBridge" = own) (hdg : decode cc pc = .ok (.putfield index, 3)) (kk : ∀ (H1 : Heap) (locs1 : List Loc), HI D cy s s0 (sR st 1108 a x) H1 locs1 cells al ex → W p l e R s m args below meth c H1 locs1 cells slots Q (F0 m (pc + 3) ls rest)) : W p l e R s m args below meth c H locs cells slots Q (F0 m pc ls (va_rf x :: .ref a :: rest)) := by
  have hk0 : gK st a ≠ 0 := by rw [hk]; decide
  obtain ⟨k, hk1⟩ := h_at hI hk0
  have hk2 := hk1
  rw [hC_12 hk] at hk2
  refine va_putF (D := D) (ci := 11) (v := va_rf x) (ty := (.object "HalfBridge$RuleReader")) (C := RX11) (T := TX11) (N := 10) hx hb hts hin tyX11 tyX11_ok nmX11 hown hI.1 hI.2.1 hI.2.2.1 (h_S hI) k hk2 rfl 8 (by decide) (hts _ hlk) (fun _ h9 => h9) rfl hin2 hdecl (by decide +kernel) (by cases x <;> rfl) (by cases x <;> rfl) (by show 8 < (fl11 st a).length; exact Nat.le_of_ble_eq_true rfl) hdg (fun H1 locs1 q1 q2 q3 => kk H1 locs1 (h_upd hI hk0 hk1 rfl rfl (fun _ => rfl) ?_ ?_ q1 q2 q3))
  · rw [hC_12 (st := (sR st 1108 a x)) (a := a) hk]
    simp [fl11, sR, va_up, gI, gR]
  · intro b hb
    exact hC_ext (fun _ => rfl) (fun f => up2_ne hb) rfl rfl rfl rfl rfl
theorem hg_11_9 {a : Nat} (hx : p.tables.exec = Jvm.exec) (hb : c.code = cc) (hts : ∀ w ∈ Ts, w.before args s = true) (hin : ∀ w ∈ u_ws RX11 TX11 10, w ∈ Ts) (hown : s.vm.findClass own = some m.cls) (hlk : Cond.fieldLink own index "HalfBridge" "foresight" "LHalfBridge$Foresight;" ∈ Ts) (hI : HI D cy s s0 st H locs cells al ex) (hk : gK st a = 12) (hdg : decode cc pc = .ok (.getfield index, 3)) (kk : W p l e R s m args below meth c H locs cells slots Q (F0 m (pc + 3) ls (va_rf (gR st 1109 a) :: rest))) : W p l e R s m args below meth c H locs cells slots Q (F0 m pc ls (.ref a :: rest)) := by
  obtain ⟨k, hk2⟩ := h_at hI (by rw [hk]; decide)
  rw [hC_12 hk] at hk2
  exact va_get (D := D) (ci := 11) (v := va_rf (gR st 1109 a)) (C := RX11) (T := TX11) (N := 10) hx hb hts hin hown hI.1 hI.2.1 k hk2 rfl 9 (by decide) (hts _ hlk) (fun _ h9 => h9) rfl hdg kk
theorem hp_11_9 {a : Nat} (hx : p.tables.exec = Jvm.exec) (hb : c.code = cc) (hts : ∀ w ∈ Ts, w.before args s = true) (hin : ∀ w ∈ u_ws RX11 TX11 10, w ∈ Ts) (hown : s.vm.findClass own = some m.cls) (hlk : Cond.fieldLink own index "HalfBridge" "foresight" "LHalfBridge$Foresight;" ∈ Ts) (hI : HI D cy s s0 st H locs cells al ex) (hk : gK st a = 12) {x : Option Nat} (hin2 : meth.name = "<init>") (hdecl : "HalfBridge" = own) (hdg : decode cc pc = .ok (.putfield index, 3)) (kk : ∀ (H1 : Heap) (locs1 : List Loc), HI D cy s s0 (sR st 1109 a x) H1 locs1 cells al ex → W p l e R s m args below meth c H1 locs1 cells slots Q (F0 m (pc + 3) ls rest)) : W p l e R s m args below meth c H locs cells slots Q (F0 m pc ls (va_rf x :: .ref a :: rest)) := by
  have hk0 : gK st a ≠ 0 := by rw [hk]; decide
  obtain ⟨k, hk1⟩ := h_at hI hk0
  have hk2 := hk1
  rw [hC_12 hk] at hk2
  refine va_putF (D := D) (ci := 11) (v := va_rf x) (ty := (.object "HalfBridge$Foresight")) (C := RX11) (T := TX11) (N := 10) hx hb hts hin tyX11 tyX11_ok nmX11 hown hI.1 hI.2.1 hI.2.2.1 (h_S hI) k hk2 rfl 9 (by decide) (hts _ hlk) (fun _ h9 => h9) rfl hin2 hdecl (by decide +kernel) (by cases x <;> rfl) (by cases x <;> rfl) (by show 9 < (fl11 st a).length; exact Nat.le_of_ble_eq_true rfl) hdg (fun H1 locs1 q1 q2 q3 => kk H1 locs1 (h_upd hI hk0 hk1 rfl rfl (fun _ => rfl) ?_ ?_ q1 q2 q3))
  · rw [hC_12 (st := (sR st 1109 a x)) (a := a) hk]
    simp [fl11, sR, va_up, gI, gR]
  · intro b hb
    exact hC_ext (fun _ => rfl) (fun f => up2_ne hb) rfl rfl rfl rfl rfl
end HROWS
