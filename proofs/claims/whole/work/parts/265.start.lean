theorem arr_p {args : Array Value} {s : State} {ty : FieldType} (h : (Cond.arrayClass ty).before args s = true) : ∃ cA, ArrOfT s cA ty ∧ s.vm.findClass ("[" ++ ty.toString) = some cA := by
  obtain ⟨cA, kA, comp, hf, hk, hkind⟩ := Cond.arrayClass_spec h
  exact ⟨cA, fun n z => ⟨fun k h => (by cases h), kA, hk, comp, hkind⟩, hf⟩
theorem arr_q {args : Array Value} {s : State} {n : String} (h : (Cond.arrayOver (.object n)).before args s = true) : ∃ cA, ArrOfT s cA (.object n) ∧ va_RA s cA (.object n) := by
  obtain ⟨comp, c, k, h1, h2, h3, h4, h5⟩ := Cond.arrayOver_spec h
  exact ⟨c, fun n z => ⟨fun k h => (by cases h), k, h3, comp, h4⟩, k, comp, h3, h4, h1, h5⟩
def sTm (i : Nat) : Term := .string RX10 (sIdx.getD i 0)
abbrev lwF : List Cond := flatC (Jvm.Cond.and given_1 narrow_1)
theorem st_ex : ∀ c ∈ (List.range 23).map (fun i => Cond.exactly (sTm i) "java/lang/String"), c ∈ lwF := by decide +kernel
theorem st_co : ∀ c ∈ (List.range 23).map (fun i => Cond.eq (.field (sTm i) "java/lang/String" "coder" "B") (.int 0)), c ∈ lwF := by decide +kernel
theorem st_ar : ∀ c ∈ (List.range 23).map (fun i => Cond.arrayOf (.field (sTm i) "java/lang/String" "value" "[B") .byte), c ∈ lwF := by decide +kernel
theorem st_le : ∀ c ∈ (List.range 23).map (fun i => Cond.eq (.length (.field (sTm i) "java/lang/String" "value" "[B")) (.int (Int32.ofNat (sLen.getD i 0)))), c ∈ lwF := by decide +kernel
theorem st_el : ∀ c ∈ (List.range 23).flatMap (fun i => (List.range (sLen.getD i 0)).map (fun j => Cond.eq (.elem (.field (sTm i) "java/lang/String" "value" "[B") (.int (Int32.ofNat j))) (.int ((sByt.getD i []).getD j 0)))), c ∈ lwF := by decide +kernel
theorem st_ne1 : ∀ c ∈ (List.range 1).map (fun i => Cond.not (Cond.eq (sTm i) (sTm 1))), c ∈ lwF := by decide +kernel
theorem st_ne2 : ∀ c ∈ (List.range 2).map (fun i => Cond.not (Cond.eq (sTm i) (sTm 2))), c ∈ lwF := by decide +kernel
theorem st_ne3 : ∀ c ∈ (List.range 3).map (fun i => Cond.not (Cond.eq (sTm i) (sTm 3))), c ∈ lwF := by decide +kernel
theorem st_ne4 : ∀ c ∈ (List.range 4).map (fun i => Cond.not (Cond.eq (sTm i) (sTm 4))), c ∈ lwF := by decide +kernel
theorem st_ne5 : ∀ c ∈ (List.range 5).map (fun i => Cond.not (Cond.eq (sTm i) (sTm 5))), c ∈ lwF := by decide +kernel
theorem st_ne6 : ∀ c ∈ (List.range 6).map (fun i => Cond.not (Cond.eq (sTm i) (sTm 6))), c ∈ lwF := by decide +kernel
theorem st_ne7 : ∀ c ∈ (List.range 7).map (fun i => Cond.not (Cond.eq (sTm i) (sTm 7))), c ∈ lwF := by decide +kernel
theorem st_ne8 : ∀ c ∈ (List.range 8).map (fun i => Cond.not (Cond.eq (sTm i) (sTm 8))), c ∈ lwF := by decide +kernel
theorem st_ne9 : ∀ c ∈ (List.range 9).map (fun i => Cond.not (Cond.eq (sTm i) (sTm 9))), c ∈ lwF := by decide +kernel
theorem st_ne10 : ∀ c ∈ (List.range 10).map (fun i => Cond.not (Cond.eq (sTm i) (sTm 10))), c ∈ lwF := by decide +kernel
theorem st_ne11 : ∀ c ∈ (List.range 11).map (fun i => Cond.not (Cond.eq (sTm i) (sTm 11))), c ∈ lwF := by decide +kernel
theorem st_ne12 : ∀ c ∈ (List.range 12).map (fun i => Cond.not (Cond.eq (sTm i) (sTm 12))), c ∈ lwF := by decide +kernel
theorem st_ne13 : ∀ c ∈ (List.range 13).map (fun i => Cond.not (Cond.eq (sTm i) (sTm 13))), c ∈ lwF := by decide +kernel
theorem st_ne14 : ∀ c ∈ (List.range 14).map (fun i => Cond.not (Cond.eq (sTm i) (sTm 14))), c ∈ lwF := by decide +kernel
theorem st_ne15 : ∀ c ∈ (List.range 15).map (fun i => Cond.not (Cond.eq (sTm i) (sTm 15))), c ∈ lwF := by decide +kernel
theorem st_ne16 : ∀ c ∈ (List.range 16).map (fun i => Cond.not (Cond.eq (sTm i) (sTm 16))), c ∈ lwF := by decide +kernel
theorem st_ne17 : ∀ c ∈ (List.range 17).map (fun i => Cond.not (Cond.eq (sTm i) (sTm 17))), c ∈ lwF := by decide +kernel
theorem st_ne18 : ∀ c ∈ (List.range 18).map (fun i => Cond.not (Cond.eq (sTm i) (sTm 18))), c ∈ lwF := by decide +kernel
theorem st_ne19 : ∀ c ∈ (List.range 19).map (fun i => Cond.not (Cond.eq (sTm i) (sTm 19))), c ∈ lwF := by decide +kernel
theorem st_ne20 : ∀ c ∈ (List.range 20).map (fun i => Cond.not (Cond.eq (sTm i) (sTm 20))), c ∈ lwF := by decide +kernel
theorem st_ne21 : ∀ c ∈ (List.range 21).map (fun i => Cond.not (Cond.eq (sTm i) (sTm 21))), c ∈ lwF := by decide +kernel
theorem st_ne22 : ∀ c ∈ (List.range 22).map (fun i => Cond.not (Cond.eq (sTm i) (sTm 22))), c ∈ lwF := by decide +kernel
theorem st_ne {i j : Nat} (hj : j < 23) (h : i < j) : Cond.not (Cond.eq (sTm i) (sTm j)) ∈ lwF := by
  match j, hj with
  | 0, _ => exact absurd h (Nat.not_lt_zero _)
  | 1, _ => exact st_ne1 _ (List.mem_map.mpr ⟨i, List.mem_range.mpr h, rfl⟩)
  | 2, _ => exact st_ne2 _ (List.mem_map.mpr ⟨i, List.mem_range.mpr h, rfl⟩)
  | 3, _ => exact st_ne3 _ (List.mem_map.mpr ⟨i, List.mem_range.mpr h, rfl⟩)
  | 4, _ => exact st_ne4 _ (List.mem_map.mpr ⟨i, List.mem_range.mpr h, rfl⟩)
  | 5, _ => exact st_ne5 _ (List.mem_map.mpr ⟨i, List.mem_range.mpr h, rfl⟩)
  | 6, _ => exact st_ne6 _ (List.mem_map.mpr ⟨i, List.mem_range.mpr h, rfl⟩)
  | 7, _ => exact st_ne7 _ (List.mem_map.mpr ⟨i, List.mem_range.mpr h, rfl⟩)
  | 8, _ => exact st_ne8 _ (List.mem_map.mpr ⟨i, List.mem_range.mpr h, rfl⟩)
  | 9, _ => exact st_ne9 _ (List.mem_map.mpr ⟨i, List.mem_range.mpr h, rfl⟩)
  | 10, _ => exact st_ne10 _ (List.mem_map.mpr ⟨i, List.mem_range.mpr h, rfl⟩)
  | 11, _ => exact st_ne11 _ (List.mem_map.mpr ⟨i, List.mem_range.mpr h, rfl⟩)
  | 12, _ => exact st_ne12 _ (List.mem_map.mpr ⟨i, List.mem_range.mpr h, rfl⟩)
  | 13, _ => exact st_ne13 _ (List.mem_map.mpr ⟨i, List.mem_range.mpr h, rfl⟩)
  | 14, _ => exact st_ne14 _ (List.mem_map.mpr ⟨i, List.mem_range.mpr h, rfl⟩)
  | 15, _ => exact st_ne15 _ (List.mem_map.mpr ⟨i, List.mem_range.mpr h, rfl⟩)
  | 16, _ => exact st_ne16 _ (List.mem_map.mpr ⟨i, List.mem_range.mpr h, rfl⟩)
  | 17, _ => exact st_ne17 _ (List.mem_map.mpr ⟨i, List.mem_range.mpr h, rfl⟩)
  | 18, _ => exact st_ne18 _ (List.mem_map.mpr ⟨i, List.mem_range.mpr h, rfl⟩)
  | 19, _ => exact st_ne19 _ (List.mem_map.mpr ⟨i, List.mem_range.mpr h, rfl⟩)
  | 20, _ => exact st_ne20 _ (List.mem_map.mpr ⟨i, List.mem_range.mpr h, rfl⟩)
  | 21, _ => exact st_ne21 _ (List.mem_map.mpr ⟨i, List.mem_range.mpr h, rfl⟩)
  | 22, _ => exact st_ne22 _ (List.mem_map.mpr ⟨i, List.mem_range.mpr h, rfl⟩)
  | k + 23, hj => omega
theorem st_rf : ∀ c ∈ (List.range 23).map (fun i => Cond.stringRef RX10 (sIdx.getD i 0) (sTxt.getD i "")), c ∈ lw_tbl := by decide +kernel
theorem st_len : ∀ i, i < 23 → sLen.getD i 0 < 2 ^ 31 := by decide +kernel
theorem sf_start {args : Array Value} {s : State} (hts : ∀ w ∈ lw_tbl, w.before args s = true) (hgv : (Jvm.Cond.and given_1 narrow_1).before args s = true) : ∃ adK adV : Nat → Nat, vk_S 23 sLen sByt adK adV (LA s) s s.heap ∧ (∀ i, i < 23 → vk_R RX10 (sIdx.getD i 0) (sTxt.getD i "") (adK i) s) ∧ va_Z "java/lang/String" "COMPACT_STRINGS" "Z" (.int 1) (LA s) s s.heap ∧ va_Zq "jdk/internal/util/Preconditions" "SIOOBE_FORMATTER" "Ljava/util/function/BiFunction;" (LA s) s s.heap := by
  have hs := flat_of_before _ hgv
  have hA : ∀ a : Nat, a < s.heap.size → ¬ LA s a := fun a h => Nat.not_le.mpr h
  have mm : ∀ (f : Nat → Cond) (i : Nat), i < 23 → f i ∈ (List.range 23).map f := fun f i hi => List.mem_map.mpr ⟨i, List.mem_range.mpr hi, rfl⟩
  obtain ⟨adK, adV, h1, h2⟩ := vk_Sof (args := args) (s := s) (N := 23) (tm := sTm) (len := sLen) (byt := sByt) (A := LA s) st_len (fun i hi => hs _ (st_ex _ (mm (fun i => Cond.exactly (sTm i) "java/lang/String") i hi))) (fun i hi => hs _ (st_co _ (mm (fun i => Cond.eq (.field (sTm i) "java/lang/String" "coder" "B") (.int 0)) i hi))) (fun i hi => hs _ (st_ar _ (mm (fun i => Cond.arrayOf (.field (sTm i) "java/lang/String" "value" "[B") .byte) i hi))) (fun i hi => hs _ (st_le _ (mm (fun i => Cond.eq (.length (.field (sTm i) "java/lang/String" "value" "[B")) (.int (Int32.ofNat (sLen.getD i 0)))) i hi)))
    (fun i hi j hj => hs _ (st_el _ (List.mem_flatMap.mpr ⟨i, List.mem_range.mpr hi, List.mem_map.mpr ⟨j, List.mem_range.mpr hj, rfl⟩⟩)))
    (fun i j hi hj hij => by
      rcases Nat.lt_or_gt_of_ne hij with h | h
      · exact Or.inl (hs _ (st_ne hj h))
      · exact Or.inr (hs _ (st_ne hi h))) hA
  refine ⟨adK, adV, h1, fun i hi => vk_R.of (A := args) (hts _ (st_rf _ (mm (fun i => Cond.stringRef RX10 (sIdx.getD i 0) (sTxt.getD i "")) i hi))) (h2 i hi), ?_, ?_⟩
  · exact va_Zof (hts _ (by decide +kernel)) (hts _ (by decide +kernel)) (va_eqi (hs _ (by decide +kernel))) hA
  · exact va_Zqof (hts _ (by decide +kernel)) (hts _ (by decide +kernel)) (hs _ (by decide +kernel)) hA
set_option maxHeartbeats 4000000 in
set_option maxRecDepth 100000 in
theorem start_open {p : Program} {e : Env} {s : State} {m : MethodId} {below : List Frame} {meth : Method} {c : Code} (l : Launch) {b L : Nat} {xs : Nat → Int32} (Rel : Nat → HSt → MSt → Prop) (hRk : ∀ hx hst mst, Rel hx hst mst → gK hst hx = 12) (Z : Sims Rel) (Z0 : HInit Rel) (hL : L ≤ 3584) (C0 : lw_At p s m meth c b L xs) : W p l e room_1 s m #[Value.ref b] below meth c s.heap [] 0 0 (lw_Z below #[Value.ref b] s) (entryFrame m ([Value.ref b] : List Value).toArray 4) := by
  obtain ⟨hx, hb, hr, hml, hown, hts0, hX, hbl, hlocks, hgv⟩ := id C0
  have hts := fun w h => hts0 w (wsL_law_in w h)
  obtain ⟨cX0, iX0, hKX0⟩ := u_known (C := RX0) (T := TX0) (N := 11) (n := 11) hts0 inX0 (hts0 (.instantiable RX0 11) (by decide +kernel))
  obtain ⟨cX1, iX1, hKX1⟩ := u_known (C := RX1) (T := TX1) (N := 12) (n := 12) hts0 inX1 (hts0 (.instantiable RX1 12) (by decide +kernel))
  obtain ⟨cX2, iX2, hKX2⟩ := u_known (C := RX2) (T := TX2) (N := 11) (n := 11) hts0 inX2 (hts0 (.instantiable RX2 11) (by decide +kernel))
  obtain ⟨cX3, iX3, hKX3⟩ := u_known (C := RX3) (T := TX3) (N := 2) (n := 2) hts0 inX3 (hts0 (.instantiable RX3 2) (by decide +kernel))
  obtain ⟨cX4, iX4, hKX4⟩ := u_known (C := RX4) (T := TX4) (N := 9) (n := 9) hts0 inX4 (hts0 (.instantiable RX4 9) (by decide +kernel))
  obtain ⟨cX5, iX5, hKX5⟩ := u_known (C := RX5) (T := TX5) (N := 3) (n := 3) hts0 inX5 (hts0 (.instantiable RX5 3) (by decide +kernel))
  obtain ⟨cX6, iX6, hKX6⟩ := u_known (C := RX6) (T := TX6) (N := 5) (n := 5) hts0 inX6 (hts0 (.instantiable RX6 5) (by decide +kernel))
  obtain ⟨cX7, iX7, hKX7⟩ := u_known (C := RX7) (T := TX7) (N := 7) (n := 7) hts0 inX7 (hts0 (.instantiable RX7 7) (by decide +kernel))
  obtain ⟨cX8, iX8, hKX8⟩ := u_known (C := RX8) (T := TX8) (N := 5) (n := 5) hts0 inX8 (hts0 (.instantiable RX8 5) (by decide +kernel))
  obtain ⟨cX9, iX9, hKX9⟩ := u_known (C := RX9) (T := TX9) (N := 5) (n := 5) hts0 inX9 (hts0 (.instantiable RX9 5) (by decide +kernel))
  obtain ⟨cX10, iX10, hKX10⟩ := u_known (C := RX10) (T := TX10) (N := 6) (n := 6) hts0 inX10 (hts0 (.instantiable RX10 6) (by decide +kernel))
  obtain ⟨cX11, iX11, hKX11⟩ := u_known (C := RX11) (T := TX11) (N := 10) (n := 10) hts0 inX11 (hts0 (.instantiable RX11 10) (by decide +kernel))
  obtain ⟨cX12, iX12, hKX12⟩ := u_known (C := RX12) (T := TX12) (N := 42) (n := 42) hts0 inX12 (hts0 (.instantiable RX12 42) (by decide +kernel))
  obtain ⟨dC, dI, hKc⟩ : ∃ (dC : Nat → ClassId) (dI : Nat → Nat → Nat), ∀ (k : Nat) (q : vw_C), vwCl[k]? = some q → u_Kn s q.1 q.2.1 q.2.2 (dC k) (dI k) := by
    refine ⟨fun k => if k = 0 then cX0 else if k = 1 then cX1 else if k = 2 then cX2 else if k = 3 then cX3 else if k = 4 then cX4 else if k = 5 then cX5 else if k = 6 then cX6 else if k = 7 then cX7 else if k = 8 then cX8 else if k = 9 then cX9 else if k = 10 then cX10 else if k = 11 then cX11 else if k = 12 then cX12 else 0, fun k => if k = 0 then iX0 else if k = 1 then iX1 else if k = 2 then iX2 else if k = 3 then iX3 else if k = 4 then iX4 else if k = 5 then iX5 else if k = 6 then iX6 else if k = 7 then iX7 else if k = 8 then iX8 else if k = 9 then iX9 else if k = 10 then iX10 else if k = 11 then iX11 else if k = 12 then iX12 else fun _ => 0, ?_⟩
    intro k q hq
    match k, hq with
    | 0, hq => cases hq; exact hKX0
    | 1, hq => cases hq; exact hKX1
    | 2, hq => cases hq; exact hKX2
    | 3, hq => cases hq; exact hKX3
    | 4, hq => cases hq; exact hKX4
    | 5, hq => cases hq; exact hKX5
    | 6, hq => cases hq; exact hKX6
    | 7, hq => cases hq; exact hKX7
    | 8, hq => cases hq; exact hKX8
    | 9, hq => cases hq; exact hKX9
    | 10, hq => cases hq; exact hKX10
    | 11, hq => cases hq; exact hKX11
    | 12, hq => cases hq; exact hKX12
    | k + 13, hq => simp [vwCl] at hq
  obtain ⟨y0, a0, f0⟩ := arr_p (hts0 (.arrayClass .byte) (by decide +kernel))
  obtain ⟨y1, a1, f1⟩ := arr_p (hts0 (.arrayClass .int) (by decide +kernel))
  obtain ⟨y2, a2, f2⟩ := arr_p (hts0 (.arrayClass .long) (by decide +kernel))
  obtain ⟨y3, a3, f3⟩ := arr_p (hts0 (.arrayClass .boolean) (by decide +kernel))
  have ov4 := hts0 (.arrayOver (.object "HalfBridge$Rule")) (by decide +kernel)
  obtain ⟨y4, a4, f4⟩ := arr_q ov4
  have ov5 := hts0 (.arrayOver (.object "HalfBridge$Site")) (by decide +kernel)
  obtain ⟨y5, a5, f5⟩ := arr_q ov5
  have ov6 := hts0 (.arrayOver (.object "HalfBridge$Span")) (by decide +kernel)
  obtain ⟨y6, a6, f6⟩ := arr_q ov6
  obtain ⟨adK, adV, sS, sR, sZ, sQ⟩ := sf_start hts0 hgv
  obtain ⟨cy, hcy⟩ : ∃ cy : Nat → ClassId, cy = fun k => if k = 0 then y0 else if k = 1 then y1 else if k = 2 then y2 else if k = 3 then y3 else if k = 4 then y4 else if k = 5 then y5 else if k = 6 then y6 else if k < 200 then adK (k - 100) else adV (k - 200) := ⟨_, rfl⟩
  have e0 : cy 0 = y0 := by rw [hcy]; rfl
  have e1 : cy 1 = y1 := by rw [hcy]; rfl
  have e2 : cy 2 = y2 := by rw [hcy]; rfl
  have e3 : cy 3 = y3 := by rw [hcy]; rfl
  have e4 : cy 4 = y4 := by rw [hcy]; rfl
  have e5 : cy 5 = y5 := by rw [hcy]; rfl
  have e6 : cy 6 = y6 := by rw [hcy]; rfl
  have eK : ∀ i, i < 23 → cy (100 + i) = adK i := fun i hi => by rw [hcy]; simp only []; rw [if_neg (by omega), if_neg (by omega), if_neg (by omega), if_neg (by omega), if_neg (by omega), if_neg (by omega), if_neg (by omega), if_pos (by omega)]; congr 1; omega
  have eV : ∀ i, i < 23 → cy (200 + i) = adV i := fun i hi => by rw [hcy]; simp only []; rw [if_neg (by omega), if_neg (by omega), if_neg (by omega), if_neg (by omega), if_neg (by omega), if_neg (by omega), if_neg (by omega), if_neg (by omega)]; congr 1; omega
  have hK : va_K (dC, dI) vwCl (hT cy) s := by
    refine ⟨hKc, fun k q hq => ?_⟩
    match k, hq with
    | 0, hq => cases hq; rw [e0]; exact ⟨a0, f0⟩
    | 1, hq => cases hq; rw [e1]; exact ⟨a1, f1⟩
    | 2, hq => cases hq; rw [e2]; exact ⟨a2, f2⟩
    | 3, hq => cases hq; rw [e3]; exact ⟨a3, f3⟩
    | 4, hq => cases hq; rw [e4]; exact ⟨a4, f4⟩
    | 5, hq => cases hq; rw [e5]; exact ⟨a5, f5⟩
    | 6, hq => cases hq; rw [e6]; exact ⟨a6, f6⟩
    | k + 7, hq => simp [hT] at hq
  have hSF : SF cy (LA s) s s.heap := by
    refine ⟨⟨fun i hi => ?_, fun i j hi hj h => ?_⟩, fun i hi => ?_, sZ, sQ⟩
    · show va_O _ (cy (100 + i)) _ _ _ ∧ va_OF _ _ _ _ (cy (100 + i)) _ _ _ ∧ va_OF _ _ _ (.ref (cy (200 + i))) (cy (100 + i)) _ _ _ ∧ va_T _ (cy (200 + i)) _ _ _ _ _
      rw [eK i hi, eV i hi]; exact sS.1 i hi
    · refine sS.2 i j hi hj ?_; rw [← eK i hi, ← eK j hj]; exact h
    · rw [eK i hi]; exact sR i hi
  have hCa0 : hCa s := ⟨va_Nw.of rfl (hts0 (.castable "[I" "java/lang/Cloneable") (by decide +kernel)), va_AO.of ov4, va_AO.of ov5, va_AO.of ov6⟩
  have hA0 : ∀ q, hF (hE s.heap.size) q → LA s q := by
    rintro q (h | h)
    · exact absurd h List.not_mem_nil
    · exact h
  have hA1 : ∀ q, LA s q → hF (hE s.heap.size) q := fun q h => Or.inr h
  have hI : HI (dC, dI) cy s (hE s.heap.size) (hE s.heap.size) s.heap [] 0 True True := ⟨hK, fun k q h => by (have h2 : ([] : va_W)[k]? = some q := h); simp at h2, ⟨fun i j p q h => by (have h2 : ([] : va_W)[i]? = some p := h); simp at h2, fun k q h => by (have h2 : ([] : va_W)[k]? = some q := h); simp at h2⟩, va_S.rf, Nat.le_refl _, fun a h => absurd rfl h, ⟨⟨Nat.le_refl _, hSF.narrow hA0⟩, fun _ => ⟨rfl, hCa0⟩⟩, fun _ => rfl, Nat.le_refl _⟩
  have hl := lv_entry ([.ref b]) (n := 4) (Nat.le_of_ble_eq_true rfl)
  rw [lg_entry_eq]
  generalize (lg_sl ([.ref b]) ++ List.replicate (4 - (lg_sl ([.ref b])).length) Slot.unset).toArray = ls at hl ⊢
  have hl : lv_has ls 4 [(0, .ref b)] := hl
  obtain ⟨out, e1, hR⟩ := Z0 s.heap.size
  refine hn_11 hx hb hts inlX11 hown (by decide +kernel) (by decide +kernel) (by decide +kernel) hI trivial trivial (Nat.le_of_ble_eq_true rfl) (Nat.le_of_ble_eq_true rfl) dL_law_0 (fun H hI => ?_)
  refine W.widen (k := 1) (n := 10) (by decide) (by decide) ?_
  refine lv_dup hx hb dL_law_3 rfl ?_
  refine hcall_Iv (ex2 := True) (As := []) (rest := [.ref s.heap.size]) (n := 0) ⟨hx, hb, hml, hown, hts⟩ (ch_X11_init l (dC, dI) cy s.heap.size (nO (hE s.heap.size) 12 0) out e1) (cwI 0 hts gL_law_X11_init rfl rfl rfl (hts (.initialized RX11) (by decide +kernel)) (hts (.methodLink RL 9 yX11_init) (by decide +kernel)) (hts (.instanceMethod yX11_init) (by decide +kernel)) rfl nd_X11_init ⟨Nat.le_of_ble_eq_true rfl, Nat.le_of_ble_eq_true rfl⟩) hI (fun h => ⟨trivial, trivial⟩) (fun _ => ⟨trivial, trivial⟩) rfl hl.1 (Nat.le_of_ble_eq_true rfl) dL_law_4 ⟨Nat.le_of_ble_eq_true rfl, Nat.le_of_ble_eq_true rfl⟩ (fun H locs hI => ?_)
  refine lv_astore_n (lv' := [(1, .ref s.heap.size), (0, .ref b)]) hx hb dL_law_7 rfl hl (by decide) rfl (fun ls hl => ?_)
  obtain ⟨iK, iP, iD, iS, iN, iM, ⟨⟨iz, iF⟩, ial⟩, iex, ig⟩ := hI
  have jP : va_P (dC, dI) vwCl [] H := fun k q h => by simp at h
  have jD : va_D (fun q => H.size ≤ q) [] := ⟨fun i j p q h => by simp at h, fun k q h => by simp at h⟩
  have iSA : va_S (LA s) s.heap H locs := ⟨iS.1, fun q h1 h2 => iS.2.1 q h1 (fun h => h2 (hA0 q h)), fun q hq => hA0 _ (iS.2.2 q hq)⟩
  refine va_forget (fun q hq => iSA.2.2 q hq) ?_
  have jS : va_S (fun q => H.size ≤ q) H H [] := va_S.rf
  refine va_new (ci := 12) (fs := [.null, .int 0, .int 0, .null, .null, .null, .null, .int 0, .int 0, .int 0, .int 0, .null, .null, .null, .int 0, .int 0, .int 0, .int 0, .int 0, .int 0, .int 0, .null, .int 0, .null, .int 0, .null, .null, .null, .null, .null, .null, .null, .null, .null, .null, .null, .null, .null, .int 0, .null, .null, .null]) (C := RX12) (T := TX12) (N := 42) hx hb hts inlX12 tyX12 tyX12_ok hown (hts (.classLink RL 10 RX12) (by decide +kernel)) (hts (.instantiable RX12 42) (by decide +kernel)) (hts (.initialized RX12) (by decide +kernel)) hK jP jD jS (fun q h => h) rfl ?_ (Nat.le_of_ble_eq_true rfl) (Nat.le_of_ble_eq_true rfl) dL_law_8 (fun q8 H2 kP kD kS => ?_)
  · intro j hj
    have hj2 : j < 42 := hj
    rcases (show j = 0 ∨ j = 1 ∨ j = 2 ∨ j = 3 ∨ j = 4 ∨ j = 5 ∨ j = 6 ∨ j = 7 ∨ j = 8 ∨ j = 9 ∨ j = 10 ∨ j = 11 ∨ j = 12 ∨ j = 13 ∨ j = 14 ∨ j = 15 ∨ j = 16 ∨ j = 17 ∨ j = 18 ∨ j = 19 ∨ j = 20 ∨ j = 21 ∨ j = 22 ∨ j = 23 ∨ j = 24 ∨ j = 25 ∨ j = 26 ∨ j = 27 ∨ j = 28 ∨ j = 29 ∨ j = 30 ∨ j = 31 ∨ j = 32 ∨ j = 33 ∨ j = 34 ∨ j = 35 ∨ j = 36 ∨ j = 37 ∨ j = 38 ∨ j = 39 ∨ j = 40 ∨ j = 41 by omega) with rfl | rfl | rfl | rfl | rfl | rfl | rfl | rfl | rfl | rfl | rfl | rfl | rfl | rfl | rfl | rfl | rfl | rfl | rfl | rfl | rfl | rfl | rfl | rfl | rfl | rfl | rfl | rfl | rfl | rfl | rfl | rfl | rfl | rfl | rfl | rfl | rfl | rfl | rfl | rfl | rfl | rfl <;> rfl
  have kP : va_P (dC, dI) vwCl [(q8, .inr (12, [.null, .int 0, .int 0, .null, .null, .null, .null, .int 0, .int 0, .int 0, .int 0, .null, .null, .null, .int 0, .int 0, .int 0, .int 0, .int 0, .int 0, .int 0, .null, .int 0, .null, .int 0, .null, .null, .null, .null, .null, .null, .null, .null, .null, .null, .null, .null, .null, .int 0, .null, .null, .null]))] H2 := kP
  have kD : va_D (fun q => H.size ≤ q) [(q8, .inr (12, [.null, .int 0, .int 0, .null, .null, .null, .null, .int 0, .int 0, .int 0, .int 0, .null, .null, .null, .int 0, .int 0, .int 0, .int 0, .int 0, .int 0, .int 0, .null, .int 0, .null, .int 0, .null, .null, .null, .null, .null, .null, .null, .null, .null, .null, .null, .null, .null, .int 0, .null, .null, .null]))] := kD
  have hq8 : H.size ≤ q8 := kD.2 0 _ rfl
  refine lv_dup hx hb dL_law_11 rfl ?_
  have hmK : va_K (dC, dI) vwCl (mT cy) s := hK.sub [0, 1, 2, 3] rfl
  have hFm : ∀ q, va_A [(q8, .inr (12, [.null, .int 0, .int 0, .null, .null, .null, .null, .int 0, .int 0, .int 0, .int 0, .null, .null, .null, .int 0, .int 0, .int 0, .int 0, .int 0, .int 0, .int 0, .null, .int 0, .null, .int 0, .null, .null, .null, .null, .null, .null, .null, .null, .null, .null, .null, .null, .null, .int 0, .null, .null, .null]))] H2.size q → H.size ≤ q := by
    rintro q (⟨k, e2, hk⟩ | h)
    · exact kD.2 k _ hk
    · exact Nat.le_trans kS.1 h
  refine va_callv (va_runI (As := []) (rest := [.ref q8]) ⟨hx, hb, hml, hown, hts⟩ (cm_init l (dC, dI) q8 cy H2.size) (cwI 0 hts gL_law_X12_init rfl rfl rfl (hts (.initialized RX12) (by decide +kernel)) (hts (.methodLink RL 12 yX12_init) (by decide +kernel)) (hts (.instanceMethod yX12_init) (by decide +kernel)) rfl nd_init ⟨Nat.le_of_ble_eq_true rfl, Nat.le_of_ble_eq_true rfl⟩) ⟨fun a U g mk q => by obtain ⟨q0, q1, qP, qK, qD⟩ := q; exact ⟨q0, q1, qP, va_K.moved (u := U) (U := U.calling g mk a) (Vm.Alike.refl U.vm) qK, qD⟩, fun U hU hW => ⟨rfl, by rw [hU], by rw [hU]; exact kP, va_K.moved hW.alike hmK, kD.weaken (fun _ _ _ _ => trivial)⟩⟩ rfl rfl hl.1 rfl (lv_room (Nat.le_of_ble_eq_true rfl)) dL_law_12 ⟨Nat.le_of_ble_eq_true rfl, Nat.le_of_ble_eq_true rfl⟩) kS (fun q _ h => hFm q h) hFm (fun ad t H3 locs3 ht hvm hw hB hz1 hk1 hS3 => ?_)
  obtain ⟨mP, mK, mD⟩ := hB
  rw [ht] at mP
  refine lv_astore_n (lv' := [(2, .ref q8), (1, .ref s.heap.size), (0, .ref b)]) hx hb dL_law_15 rfl hl (by decide) rfl (fun ls hl => ?_)
  refine lv_iconst (v := 0) hx hb dL_law_16 (by decide) ?_
  refine lv_istore_n (lv' := [(3, .int 0), (2, .ref q8), (1, .ref s.heap.size), (0, .ref b)]) hx hb dL_law_17 rfl hl (by decide) rfl (fun ls hl => ?_)
  have hold : ∀ q : Nat, q < H.size → H3[q]? = H[q]? := fun q hq => hS3.2.1 q hq (Nat.not_le.mpr hq)
  have hLI : LI (dC, dI) cy s q8 ad out mz H3 locs3 := by
    refine ⟨hK, iP.kept (fun k q hk => hold q.1 (va_at.lt (iP k q hk))), iD.weaken (fun _ _ _ h => hA0 _ h), mP, mD.weaken (fun _ _ _ h => Nat.le_trans iS.1 (hFm _ h)), ?_, ⟨Nat.le_trans iS.1 hS3.1, fun q h1 h2 => (hold q (Nat.lt_of_lt_of_le h1 iS.1)).trans (iSA.2.1 q h1 h2), fun q hq => Nat.le_trans iS.1 (hS3.2.2 q hq)⟩, Nat.le_trans iN hS3.1, iM, hSF, hCa0⟩
    intro a ha hm2
    have h1 : a < H.size := va_pl_lt (X := []) iP hm2
    have hml2 : a ∈ (mW q8 ad cy mz).map Prod.fst := by rw [mW_map]; exact ha
    obtain ⟨q, hq, rfl⟩ := List.mem_map.mp hml2
    obtain ⟨k2, hk2⟩ := List.mem_iff_getElem?.mp hq
    have h2 := hFm _ (mD.2 k2 q hk2)
    omega
  refine W.widen (k := 137 + 13 * 0) (n := 60150 + 2709 * 0) (by decide) (by decide) ?_
  exact law_loop Rel hRk Z hL C0 512 0 out mz H3 locs3 ls (by omega) (by omega) hR hLI (lv_sub hl [3, 2, 1, 0] rfl)
