def LA (s : State) : Nat → Prop := fun q => s.heap.size ≤ q
def mAd (hm : Nat) (ad : Nat → Nat) : List Nat := [hm, ad 0, ad 3, ad 4, ad 5, ad 6, ad 11, ad 12, ad 13, ad 21, ad 23, ad 25, ad 26, ad 27, ad 28, ad 29, ad 30, ad 31, ad 32, ad 33, ad 34, ad 35, ad 36, ad 37, ad 39, ad 40, ad 41]
theorem mW_map (hm : Nat) (ad : Nat → Nat) (cy : Nat → ClassId) (mst : MSt) : (mW hm ad cy mst).map Prod.fst = mAd hm ad := rfl
theorem mW_mem {hm : Nat} {ad : Nat → Nat} {cy : Nat → ClassId} {mst : MSt} {k : Nat} {q : Nat × va_E} (h : (mW hm ad cy mst)[k]? = some q) : q.1 ∈ mAd hm ad := by
  rw [← mW_map hm ad cy mst]
  exact List.mem_map_of_mem (List.mem_of_getElem? h)
def LI (D : va_G) (cy : Nat → ClassId) (s : State) (hm : Nat) (ad : Nat → Nat) (hst : HSt) (mst : MSt) (H : Heap) (locs : List Loc) : Prop :=
  va_K D vwCl (hT cy) s ∧ va_P D vwCl (hW cy hst) H ∧ va_D (LA s) (hW cy hst) ∧ va_P D vwCl (mW hm ad cy mst) H ∧ va_D (LA s) (mW hm ad cy mst) ∧ (∀ a ∈ mAd hm ad, a ∉ gX hst) ∧ va_S (LA s) s.heap H locs ∧ gN hst ≤ H.size ∧ (∀ a, gK hst a ≠ 0 → a ∈ gX hst) ∧ SF cy (LA s) s s.heap ∧ hCa s
section LROWS
variable {p : Program} {l : Launch} {e : Env} {R : Room} {s : State} {m : MethodId} {args : Array Value} {below : List Frame} {meth : Method} {c : Code} {H : Heap} {locs : List Loc} {cells slots : Nat} {Q : State → Prop}
variable {cc : ByteArray} {pc : Nat} {ls : Array Slot} {rest : List Value} {D : va_G} {cy : Nat → ClassId} {hm : Nat} {ad : Nat → Nat} {hst : HSt} {mst : MSt} {Ts : List Cond} {own : String} {index : Nat}
theorem hT_mT {tys : List (ClassId × FieldType)} (h : va_K D vwCl (hT cy) s) : va_K D vwCl (mT cy) s := h.sub [0, 1, 2, 3] rfl
theorem lcall_h {y : MethodName} {bytes : ByteArray} {maxL nL n mc ms : Nat} {ret : Option FieldType} {ws : List Cond} {rm : Room} {As : List Value} {out : HSt × Int32} {alc exc : Prop} {hx0 : Nat} (S : CallFix p m c cc nL s args Ts own) (hkx : gK hst hx0 = 12) (hM : CHi l D cy y ws rm mc ms alc exc (.ref hx0 :: As) (setN hst H.size) out) (cw : CallW R s args own RX11 index y bytes maxL ret ws rm mc ms n) (hI : LI D cy s hm ad hst mst H locs) (hn : As.length = n) (hsize : ls.size = nL) (hWr : (rest.map fun v => v.category).sum ≤ 8) (hdg : decode cc pc = .ok (.invokevirtual index, 3)) (hf : cells + mc ≤ R.cells ∧ slots + ms ≤ R.slots)
    (kk : ∀ (H1 : Heap) (locs1 : List Loc), LI D cy s hm ad out.1 mst H1 locs1 → W p l e R s m args below meth c H1 locs1 (cells + mc) (slots + ms) Q (F0 m (pc + 3) ls (.int out.2 :: rest))) : W p l e R s m args below meth c H locs cells slots Q (F0 m pc ls (As.reverse ++ .ref hx0 :: rest)) := by
  obtain ⟨iK, iP, iD, jP, jD, iX, iS, iN, iM, iF, iC⟩ := hI
  have hFA : ∀ q, hF (setN hst H.size) q → LA s q := by
    rintro q (h | h)
    · obtain ⟨k, hk⟩ := va_pl_get (X := []) (f := hC cy hst) h
      exact iD.2 k _ hk
    · exact Nat.le_trans iS.1 h
  have hnF : ∀ a ∈ mAd hm ad, a < H.size → ¬ hF (setN hst H.size) a := by
    rintro a ha hlt (h | h)
    · exact iX a ha h
    · exact absurd hlt (Nat.not_lt.mpr h)
  have hmlt : ∀ (k : Nat) (q : Nat × va_E), (mW hm ad cy mst)[k]? = some q → q.1 < H.size := fun k q hk => va_at.lt (jP k q hk)
  have hmem : hx0 ∈ gX hst := iM hx0 (by rw [hkx]; decide)
  refine va_calli (va_runV (As := As) (rest := rest) S hM cw ⟨h_blind, ?_, ?_⟩ rfl hn hsize rfl (lv_room hWr) hdg hf) iS (fun q _ h => hFA q h) hFA (fun r u t H1 locs1 ht hvm hw hB hz1 hk1 hS => ?_)
  · obtain ⟨k, hk⟩ := va_pl_get (X := []) (f := hC cy hst) hmem
    have hk2 : (hW cy hst)[k]? = some (hx0, hC cy hst hx0) := hk
    rw [hC_12 hkx] at hk2
    exact va_recv iK iP rfl hk2
  · intro U hU hW
    refine ⟨rfl, by rw [hU]; exact iP, va_K.moved hW.alike iK, iD.weaken (fun _ _ _ _ => trivial), iM, ⟨by rw [hU]; exact Nat.le_refl _, by rw [hU]; exact SF.warm hW ((iF.kept iS.2.1).narrow hFA)⟩, fun _ => ⟨by rw [hU]; rfl, hCa.warm hW iC⟩⟩
  · obtain ⟨b1, b2, b3, b4, b5, b6, b7⟩ := hB
    obtain ⟨hw1, hw2⟩ := hw
    subst hw1; subst hw2
    rw [ht] at b1 b4
    refine kk H1 locs1 ⟨iK, b1, b3.weaken (fun _ _ _ h => hFA _ h), jP.kept (fun k q hk => hk1 q.1 (hmlt k q hk) (hnF q.1 (mW_mem hk) (hmlt k q hk))), jD, ?_, hS, b4, b5, iF, iC⟩
    intro a ha hm2
    obtain ⟨k, hk⟩ := va_pl_get (X := []) (f := hC cy out.1) hm2
    have hFa := b3.2 k _ hk
    have hml : a ∈ (mW hm ad cy mst).map Prod.fst := by rw [mW_map]; exact ha
    obtain ⟨q, hq, rfl⟩ := List.mem_map.mp hml
    obtain ⟨k2, hk2⟩ := List.mem_iff_getElem?.mp hq
    exact hnF q.1 ha (hmlt k2 q hk2) hFa
theorem lcall_m {y : MethodName} {bytes : ByteArray} {maxL nL n : Nat} {ret : Option FieldType} {ws : List Cond} {rm : Room} {As : List Value} {out : MSt × Int32} (S : CallFix p m c cc nL s args Ts own) (hM : CMi l D hm ad cy y ws rm As mst out H.size) (cw : CallW R s args own RX12 index y bytes maxL ret ws rm 0 0 n) (hI : LI D cy s hm ad hst mst H locs) (hn : As.length = n) (hsize : ls.size = nL) (hWr : (rest.map fun v => v.category).sum ≤ 8) (hdg : decode cc pc = .ok (.invokevirtual index, 3)) (hf : cells ≤ R.cells ∧ slots ≤ R.slots)
    (kk : ∀ (H1 : Heap) (locs1 : List Loc), LI D cy s hm ad hst out.1 H1 locs1 → W p l e R s m args below meth c H1 locs1 cells slots Q (F0 m (pc + 3) ls (.int out.2 :: rest))) : W p l e R s m args below meth c H locs cells slots Q (F0 m pc ls (As.reverse ++ .ref hm :: rest)) := by
  obtain ⟨iK, iP, iD, jP, jD, iX, iS, iN, iM, iF, iC⟩ := hI
  have hFA : ∀ q, MA hm ad cy mst H.size q → LA s q := by
    rintro q (⟨k, e2, hk⟩ | h)
    · exact jD.2 k _ hk
    · exact Nat.le_trans iS.1 h
  have hnF : ∀ (k : Nat) (q : Nat × va_E), (hW cy hst)[k]? = some q → ¬ MA hm ad cy mst H.size q.1 := by
    rintro k q hk (⟨k2, e2, hk2⟩ | h)
    · exact iX q.1 (show q.1 ∈ mAd hm ad from mW_mem (q := (q.1, e2)) hk2) (pl_mem hk)
    · exact absurd (va_at.lt (iP k q hk)) (Nat.not_lt.mpr h)
  have hmK : va_K D vwCl (mT cy) s := iK.sub [0, 1, 2, 3] rfl
  refine va_calli (va_runV (As := As) (rest := rest) S hM cw ⟨fun a U g mk q => by obtain ⟨q0, q1, qP, qK, qD⟩ := q; exact ⟨q0, q1, qP, va_K.moved (u := U) (U := U.calling g mk a) (Vm.Alike.refl U.vm) qK, qD⟩, va_recv hmK jP (ci := 12) (q0 := 0) rfl rfl, fun U hU hW => ⟨rfl, by rw [hU], by rw [hU]; exact jP, va_K.moved hW.alike hmK, jD.weaken (fun _ _ _ _ => trivial)⟩⟩ rfl hn hsize rfl (lv_room hWr) hdg hf) iS (fun q _ h => hFA q h) hFA (fun r u t H1 locs1 ht hvm hw hB hz1 hk1 hS => ?_)
  obtain ⟨b1, b2, b3⟩ := hB
  obtain ⟨hw1, hw2⟩ := hw
  subst hw1; subst hw2
  rw [ht] at b1
  exact kk H1 locs1 ⟨iK, iP.kept (fun k q hk => hk1 q.1 (va_at.lt (iP k q hk)) (hnF k q hk)), iD, b1, b3.weaken (fun _ _ _ h => hFA _ h), iX, hS, Nat.le_trans iN hz1, iM, iF, iC⟩
end LROWS
