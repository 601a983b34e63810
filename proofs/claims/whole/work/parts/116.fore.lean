/-! Foresight, HalfBridge: all that a new object makes -/
def noF (f : Nat) (ps : List Op) : Bool := ps.all (fun o => !(o.1 == 1) || !(o.2.1 == f))
theorem rOf_keep {f j : Nat} : ∀ {ps : List Op} {c : Nat} {q : Option (Option Nat)}, noF f ps = true → j < c → rOf f ps c j q = q
  | [], _, _, _, _ => rfl
  | o :: ps, c, q, h, hj => by
    have h' : (!(o.1 == 1) || !(o.2.1 == f)) = true ∧ noF f ps = true := by
      have : ((!(o.1 == 1) || !(o.2.1 == f)) && noF f ps) = true := h
      rw [Bool.and_eq_true] at this; exact this
    unfold rOf
    by_cases h0 : o.1 = 0
    · rw [if_pos h0, if_neg (by omega)]; exact rOf_keep h'.2 (by omega)
    · rw [if_neg h0]
      by_cases h1 : o.1 = 1
      · rw [if_pos h1, if_neg (fun z => by have := h'.1; rw [h1, z.1] at this; simp at this)]; exact rOf_keep h'.2 hj
      · rw [if_neg h1]; exact rOf_keep h'.2 hj
section RUN3
variable {N : Nat} {st : HSt}
theorem s_dr {f j v k : Nat} {os ps : List Op} (hN : gN st = N) (h : rOf f ps 0 j none = some (some v)) (hk : kOf os 0 v = some k) : dr (run N st os) (gR (run N st ps) f (N + j)) k = some (N + v) := by
  rw [s_gR hN h]; exact dr_of (isk_k (s_isk hN hk))
/-- what stands when i spares are made: Foresight at j, its first cell c -/
def FoI (o : List Op) (j c i : Nat) : Prop := kOf o 0 j = some 1 ∧ kOf o 0 (c + 3) = some 27 ∧ lOf o 0 (c + 3) = some 7 ∧ rOf 6 o 0 j none = some (some (c + 3)) ∧ rOf 0 o 0 j none = some (some c) ∧ cO o = c + 5 + 10 * i
theorem fo_next {o : List Op} {j c i : Nat} (hj : j < c) (F : FoI o j c i) : FoI (o ++ [(0, 10, 0, 0)] ++ spaO (c + 5 + 10 * i) (c + 5 + 10 * i + 1) ++ [(2, c + 3, i, c + 5 + 10 * i)]) j c (i + 1) := by
  obtain ⟨f1, f2, f3, f4, f5, f6⟩ := F
  refine ⟨kOf_app (kOf_app (kOf_app f1)), kOf_app (kOf_app (kOf_app f2)), lOf_app (lOf_app (lOf_app f3)), ?_, ?_, ?_⟩
  · rw [rOf_app, rOf_app, rOf_app, f4, rOf_keep (q := some (some (c + 3))) rfl (by rw [f6]; omega), rOf_keep (q := some (some (c + 3))) rfl (by rw [cO_0, f6]; omega), rOf_keep (q := some (some (c + 3))) rfl (by rw [cO_app, cO_0, f6]; omega)]
  · rw [rOf_app, rOf_app, rOf_app, f5, rOf_keep (q := some (some c)) rfl (by rw [f6]; omega), rOf_keep (q := some (some c)) rfl (by rw [cO_0, f6]; omega), rOf_keep (q := some (some c)) rfl (by rw [cO_app, cO_0, f6]; omega)]
  · rw [cO_2, cO_app, cO_0, f6]; show c + 5 + 10 * i + 1 + 9 = _; omega
def forO (j c : Nat) : List Op := [(0, 4, 0, 0)] ++ lokO c (c + 1) ++ [(1, 0, j, c), (0, 27, 7, 0), (1, 6, j, c + 3), (0, 22, 3, 0), (1, 7, j, c + 4)] ++ ([(0, 10, 0, 0)] ++ spaO (c + 5) (c + 5 + 1) ++ [(2, c + 3, 0, c + 5)]) ++ ([(0, 10, 0, 0)] ++ spaO (c + 15) (c + 15 + 1) ++ [(2, c + 3, 1, c + 15)]) ++ ([(0, 10, 0, 0)] ++ spaO (c + 25) (c + 25 + 1) ++ [(2, c + 3, 2, c + 25)]) ++ ([(0, 10, 0, 0)] ++ spaO (c + 35) (c + 35 + 1) ++ [(2, c + 3, 3, c + 35)]) ++ ([(0, 10, 0, 0)] ++ spaO (c + 45) (c + 45 + 1) ++ [(2, c + 3, 4, c + 45)]) ++ ([(0, 10, 0, 0)] ++ spaO (c + 55) (c + 55 + 1) ++ [(2, c + 3, 5, c + 55)]) ++ ([(0, 10, 0, 0)] ++ spaO (c + 65) (c + 65 + 1) ++ [(2, c + 3, 6, c + 65)]) ++ ([(0, 2, 0, 0)] ++ hanO (c + 75) (c + 76) c (c + 3) ++ [(1, 1, j, c + 75), (0, 3, 0, 0)] ++ inqO (c + 78) (c + 79) c (c + 3) ++ [(1, 2, j, c + 78)])
theorem s_fore {os : List Op} {j c : Nat} (hN : gN st = N) (hk : kOf os 0 j = some 1) (hc : cO os = c) (hj : j < c) (hr6 : rOf 6 os 0 j none = some none) : fh_X0_init (N + j) (run N st os) = some (run N st (os ++ forO j c)) := by
  have g : ∀ {ps : List Op} {d : Nat}, cO ps = d → gN (run N st ps) = N + d := fun h => s_gN hN h
  unfold fh_X0_init
  rw [bs_, s_new, g hc, s_look (j := c) (c := c + 1) hN (s_new_k hc) (by rw [cO_0, hc]), bs_]
  have c1 : cO (os ++ [(0, 4, 0, 0)] ++ lokO c (c + 1)) = c + 3 := by rw [cO_app, cO_0, hc]; rfl
  have k1 : kOf (os ++ [(0, 4, 0, 0)] ++ lokO c (c + 1)) 0 j = some 1 := kOf_app (kOf_app hk)
  rw [s_ref, chk_t (s_isk hN k1), g (show cO (os ++ [(0, 4, 0, 0)] ++ lokO c (c + 1) ++ [(1, 0, j, c)]) = c + 3 by rw [cO_1, c1]), bs_, s_new, s_ref, chk_t (s_isk hN (kOf_app (kOf_app k1))), g (show cO (os ++ [(0, 4, 0, 0)] ++ lokO c (c + 1) ++ [(1, 0, j, c)] ++ [(0, 27, 7, 0)] ++ [(1, 6, j, c + 3)]) = c + 4 by rw [cO_1, cO_0, cO_1, c1]), bs_, s_new, s_ref, chk_t (s_isk hN (kOf_app (kOf_app (kOf_app (kOf_app k1))))), bs_]
  have F0 : FoI (os ++ [(0, 4, 0, 0)] ++ lokO c (c + 1) ++ [(1, 0, j, c)] ++ [(0, 27, 7, 0)] ++ [(1, 6, j, c + 3)] ++ [(0, 22, 3, 0)] ++ [(1, 7, j, c + 4)]) j c 0 := by
    refine ⟨kOf_app (kOf_app (kOf_app (kOf_app (kOf_app k1)))), kOf_app (kOf_app (kOf_app (s_new_k (by rw [cO_1, c1])))), lOf_app (lOf_app (lOf_app (lOf_new (by rw [cO_1, c1])))), ?_, ?_, ?_⟩
    · rw [rOf_app, rOf_app, rOf_app]
      rw [show rOf 6 [(1, 6, j, c + 3)] (0 + cO (os ++ [(0, 4, 0, 0)] ++ lokO c (c + 1) ++ [(1, 0, j, c)] ++ [(0, 27, 7, 0)])) j (rOf 6 (os ++ [(0, 4, 0, 0)] ++ lokO c (c + 1) ++ [(1, 0, j, c)] ++ [(0, 27, 7, 0)]) 0 j none) = some (some (c + 3)) from by
        show (if (1 : Nat) = 0 then _ else if (1 : Nat) = 1 then rOf 6 [] _ j (if 6 = 6 ∧ j = j then some (some (c + 3)) else _) else _) = _
        rw [if_neg (by omega), if_pos rfl, if_pos ⟨rfl, rfl⟩]; rfl]
      rw [rOf_keep (ps := [(0, 22, 3, 0)]) rfl (by rw [cO_1, cO_0, cO_1, c1]; omega), rOf_keep (ps := [(1, 7, j, c + 4)]) rfl (by rw [cO_0, cO_1, cO_0, cO_1, c1]; omega)]
    · rw [rOf_app, rOf_app, rOf_app, rOf_app, rOf_app]
      rw [show rOf 0 [(1, 0, j, c)] (0 + cO (os ++ [(0, 4, 0, 0)] ++ lokO c (c + 1))) j (rOf 0 (os ++ [(0, 4, 0, 0)] ++ lokO c (c + 1)) 0 j none) = some (some c) from by
        show (if (1 : Nat) = 0 then _ else if (1 : Nat) = 1 then rOf 0 [] _ j (if 0 = 0 ∧ j = j then some (some c) else _) else _) = _
        rw [if_neg (by omega), if_pos rfl, if_pos ⟨rfl, rfl⟩]; rfl]
      rw [rOf_keep (ps := [(0, 27, 7, 0)]) rfl (by rw [cO_1, c1]; omega), rOf_keep (ps := [(1, 6, j, c + 3)]) rfl (by rw [cO_0, cO_1, c1]; omega), rOf_keep (ps := [(0, 22, 3, 0)]) rfl (by rw [cO_1, cO_0, cO_1, c1]; omega), rOf_keep (ps := [(1, 7, j, c + 4)]) rfl (by rw [cO_0, cO_1, cO_0, cO_1, c1]; omega)]
    · rw [cO_1, cO_0, cO_1, cO_0, cO_1, c1]
  generalize h0 : os ++ [(0, 4, 0, 0)] ++ lokO c (c + 1) ++ [(1, 0, j, c)] ++ [(0, 27, 7, 0)] ++ [(1, 6, j, c + 3)] ++ [(0, 22, 3, 0)] ++ [(1, 7, j, c + 4)] = o0 at F0 ⊢
  obtain ⟨a0, b0, l0, r0, q0, n0⟩ := id F0
  have nn0 : cO o0 = c + 5 := n0
  rw [s_dr hN r0 b0, bs_, s_gL hN l0, if_neg (show ¬ nI 7 ≤ (0 : Int32) by decide), bs_, s_new, g nn0, s_span (j := c + 5) (c := c + 5 + 1) hN (s_new_k nn0) (by rw [cO_0, nn0]), bs_, chk_t (s_isk hN (kOf_app (s_new_k nn0))), chk_t (s_isk hN (kOf_app (kOf_app b0))), s_gL hN (lOf_app (lOf_app l0)), chk_t (show inb (0 : Int32) 7 = true by decide), show Int32.toNatClampNeg (0 : Int32) = 0 by decide, chk_t (s_isk hN (kOf_app (kOf_app a0))), s_el]
  have F1 := fo_next hj F0
  have F1' : FoI (o0 ++ [(0, 10, 0, 0)] ++ spaO (c + 5) (c + 5 + 1) ++ [(2, c + 3, 0, c + 5)]) j c 1 := F1
  rw [s_dr hN F1'.2.2.2.1 (kOf_app (kOf_app b0)), bs_]
  clear F1
  generalize h1 : o0 ++ [(0, 10, 0, 0)] ++ spaO (c + 5) (c + 5 + 1) ++ [(2, c + 3, 0, c + 5)] = o1 at F1' ⊢
  have F1 := F1'
  obtain ⟨a1, b1, l1, r1, q1, n1⟩ := id F1
  have nn1 : cO o1 = c + 15 := n1
  rw [s_gL hN l1, if_neg (show ¬ nI 7 ≤ ((0 : Int32) + 1) by decide), bs_, s_new, g nn1, s_span (j := c + 15) (c := c + 15 + 1) hN (s_new_k nn1) (by rw [cO_0, nn1]), bs_, chk_t (s_isk hN (kOf_app (s_new_k nn1))), chk_t (s_isk hN (kOf_app (kOf_app b1))), s_gL hN (lOf_app (lOf_app l1)), chk_t (show inb ((0 : Int32) + 1) 7 = true by decide), show Int32.toNatClampNeg ((0 : Int32) + 1) = 1 by decide, s_el, bs_, chk_t (s_isk hN (kOf_app (kOf_app (kOf_app a1))))]
  have F2 := fo_next hj F1
  have F2' : FoI (o1 ++ [(0, 10, 0, 0)] ++ spaO (c + 15) (c + 15 + 1) ++ [(2, c + 3, 1, c + 15)]) j c 2 := F2
  clear F2
  generalize h2 : o1 ++ [(0, 10, 0, 0)] ++ spaO (c + 15) (c + 15 + 1) ++ [(2, c + 3, 1, c + 15)] = o2 at F2' ⊢
  have F2 := F2'
  obtain ⟨a2, b2, l2, r2, q2, n2⟩ := id F2
  have nn2 : cO o2 = c + 25 := n2
  rw [s_dr hN r2 b2, bs_, s_gL hN l2, if_neg (show ¬ nI 7 ≤ (((0 : Int32) + 1) + 1) by decide), bs_, s_new, g nn2, s_span (j := c + 25) (c := c + 25 + 1) hN (s_new_k nn2) (by rw [cO_0, nn2]), bs_, chk_t (s_isk hN (kOf_app (s_new_k nn2))), chk_t (s_isk hN (kOf_app (kOf_app b2))), s_gL hN (lOf_app (lOf_app l2)), chk_t (show inb (((0 : Int32) + 1) + 1) 7 = true by decide), show Int32.toNatClampNeg (((0 : Int32) + 1) + 1) = 2 by decide, chk_t (s_isk hN (kOf_app (kOf_app a2))), s_el]
  have F3 := fo_next hj F2
  have F3' : FoI (o2 ++ [(0, 10, 0, 0)] ++ spaO (c + 25) (c + 25 + 1) ++ [(2, c + 3, 2, c + 25)]) j c 3 := F3
  rw [s_dr hN F3'.2.2.2.1 (kOf_app (kOf_app b2)), bs_]
  clear F3
  generalize h3 : o2 ++ [(0, 10, 0, 0)] ++ spaO (c + 25) (c + 25 + 1) ++ [(2, c + 3, 2, c + 25)] = o3 at F3' ⊢
  have F3 := F3'
  obtain ⟨a3, b3, l3, r3, q3, n3⟩ := id F3
  have nn3 : cO o3 = c + 35 := n3
  rw [s_gL hN l3, if_neg (show ¬ nI 7 ≤ ((((0 : Int32) + 1) + 1) + 1) by decide), bs_, s_new, g nn3, s_span (j := c + 35) (c := c + 35 + 1) hN (s_new_k nn3) (by rw [cO_0, nn3]), bs_, chk_t (s_isk hN (kOf_app (s_new_k nn3))), chk_t (s_isk hN (kOf_app (kOf_app b3))), s_gL hN (lOf_app (lOf_app l3)), chk_t (show inb ((((0 : Int32) + 1) + 1) + 1) 7 = true by decide), show Int32.toNatClampNeg ((((0 : Int32) + 1) + 1) + 1) = 3 by decide, s_el, bs_, chk_t (s_isk hN (kOf_app (kOf_app (kOf_app a3))))]
  have F4 := fo_next hj F3
  have F4' : FoI (o3 ++ [(0, 10, 0, 0)] ++ spaO (c + 35) (c + 35 + 1) ++ [(2, c + 3, 3, c + 35)]) j c 4 := F4
  clear F4
  generalize h4 : o3 ++ [(0, 10, 0, 0)] ++ spaO (c + 35) (c + 35 + 1) ++ [(2, c + 3, 3, c + 35)] = o4 at F4' ⊢
  have F4 := F4'
  obtain ⟨a4, b4, l4, r4, q4, n4⟩ := id F4
  have nn4 : cO o4 = c + 45 := n4
  rw [s_dr hN r4 b4, bs_, s_gL hN l4, if_neg (show ¬ nI 7 ≤ (((((0 : Int32) + 1) + 1) + 1) + 1) by decide), bs_, s_new, g nn4, s_span (j := c + 45) (c := c + 45 + 1) hN (s_new_k nn4) (by rw [cO_0, nn4]), bs_, chk_t (s_isk hN (kOf_app (s_new_k nn4))), chk_t (s_isk hN (kOf_app (kOf_app b4))), s_gL hN (lOf_app (lOf_app l4)), chk_t (show inb (((((0 : Int32) + 1) + 1) + 1) + 1) 7 = true by decide), show Int32.toNatClampNeg (((((0 : Int32) + 1) + 1) + 1) + 1) = 4 by decide, s_el, bs_, chk_t (s_isk hN (kOf_app (kOf_app (kOf_app a4))))]
  have F5 := fo_next hj F4
  have F5' : FoI (o4 ++ [(0, 10, 0, 0)] ++ spaO (c + 45) (c + 45 + 1) ++ [(2, c + 3, 4, c + 45)]) j c 5 := F5
  clear F5
  generalize h5 : o4 ++ [(0, 10, 0, 0)] ++ spaO (c + 45) (c + 45 + 1) ++ [(2, c + 3, 4, c + 45)] = o5 at F5' ⊢
  have F5 := F5'
  obtain ⟨a5, b5, l5, r5, q5, n5⟩ := id F5
  have nn5 : cO o5 = c + 55 := n5
  rw [s_dr hN r5 b5, bs_, s_gL hN l5, if_neg (show ¬ nI 7 ≤ ((((((0 : Int32) + 1) + 1) + 1) + 1) + 1) by decide), bs_, s_new, g nn5, s_span (j := c + 55) (c := c + 55 + 1) hN (s_new_k nn5) (by rw [cO_0, nn5]), bs_, chk_t (s_isk hN (kOf_app (s_new_k nn5))), chk_t (s_isk hN (kOf_app (kOf_app b5))), s_gL hN (lOf_app (lOf_app l5)), chk_t (show inb ((((((0 : Int32) + 1) + 1) + 1) + 1) + 1) 7 = true by decide), show Int32.toNatClampNeg ((((((0 : Int32) + 1) + 1) + 1) + 1) + 1) = 5 by decide, s_el, bs_, chk_t (s_isk hN (kOf_app (kOf_app (kOf_app a5))))]
  have F6 := fo_next hj F5
  have F6' : FoI (o5 ++ [(0, 10, 0, 0)] ++ spaO (c + 55) (c + 55 + 1) ++ [(2, c + 3, 5, c + 55)]) j c 6 := F6
  clear F6
  generalize h6 : o5 ++ [(0, 10, 0, 0)] ++ spaO (c + 55) (c + 55 + 1) ++ [(2, c + 3, 5, c + 55)] = o6 at F6' ⊢
  have F6 := F6'
  obtain ⟨a6, b6, l6, r6, q6, n6⟩ := id F6
  have nn6 : cO o6 = c + 65 := n6
  rw [s_dr hN r6 b6, bs_, s_gL hN l6, if_neg (show ¬ nI 7 ≤ (((((((0 : Int32) + 1) + 1) + 1) + 1) + 1) + 1) by decide), bs_, s_new, g nn6, s_span (j := c + 65) (c := c + 65 + 1) hN (s_new_k nn6) (by rw [cO_0, nn6]), bs_, chk_t (s_isk hN (kOf_app (s_new_k nn6))), chk_t (s_isk hN (kOf_app (kOf_app b6))), s_gL hN (lOf_app (lOf_app l6)), chk_t (show inb (((((((0 : Int32) + 1) + 1) + 1) + 1) + 1) + 1) 7 = true by decide), show Int32.toNatClampNeg (((((((0 : Int32) + 1) + 1) + 1) + 1) + 1) + 1) = 6 by decide, s_el, bs_, chk_t (s_isk hN (kOf_app (kOf_app (kOf_app a6))))]
  have F7 := fo_next hj F6
  have F7' : FoI (o6 ++ [(0, 10, 0, 0)] ++ spaO (c + 65) (c + 65 + 1) ++ [(2, c + 3, 6, c + 65)]) j c 7 := F7
  clear F7
  generalize h7 : o6 ++ [(0, 10, 0, 0)] ++ spaO (c + 65) (c + 65 + 1) ++ [(2, c + 3, 6, c + 65)] = o7 at F7' ⊢
  have F7 := F7'
  obtain ⟨a7, b7, l7, r7, q7, n7⟩ := id F7
  have nn7 : cO o7 = c + 75 := n7
  rw [s_dr hN r7 b7, bs_, s_gL hN l7, if_pos (show nI 7 ≤ ((((((((0 : Int32) + 1) + 1) + 1) + 1) + 1) + 1) + 1) by decide), bs_, s_new, chk_t (s_isk hN (kOf_app a7)), g nn7]
  have q8 : rOf 0 (o7 ++ [(0, 2, 0, 0)]) 0 j none = some (some c) := by rw [rOf_app, q7, rOf_keep (q := some (some c)) rfl (by rw [nn7]; omega)]
  have r8 : rOf 6 (o7 ++ [(0, 2, 0, 0)]) 0 j none = some (some (c + 3)) := by rw [rOf_app, r7, rOf_keep (q := some (some (c + 3))) rfl (by rw [nn7]; omega)]
  rw [s_gR hN q8, s_gR hN r8, s_hand (j := c + 75) (c := c + 76) hN (s_new_k nn7) (by rw [cO_0, nn7]), bs_, chk_t (s_isk hN (kOf_app (kOf_app a7))), s_ref]
  have n9 : cO (o7 ++ [(0, 2, 0, 0)] ++ hanO (c + 75) (c + 76) c (c + 3) ++ [(1, 1, j, c + 75)]) = c + 78 := by rw [cO_1, cO_app, cO_0, nn7]; rfl
  have q9 : rOf 0 (o7 ++ [(0, 2, 0, 0)] ++ hanO (c + 75) (c + 76) c (c + 3) ++ [(1, 1, j, c + 75)] ++ [(0, 3, 0, 0)]) 0 j none = some (some c) := by rw [rOf_app, rOf_app, rOf_app, q8, rOf_keep (q := some (some c)) rfl (by rw [cO_0, nn7]; omega), rOf_keep (q := some (some c)) rfl (by rw [cO_app, cO_0, nn7]; show j < 0 + (c + 75 + 1 + 2); omega), rOf_keep (q := some (some c)) rfl (by rw [n9]; omega)]
  have r9 : rOf 6 (o7 ++ [(0, 2, 0, 0)] ++ hanO (c + 75) (c + 76) c (c + 3) ++ [(1, 1, j, c + 75)] ++ [(0, 3, 0, 0)]) 0 j none = some (some (c + 3)) := by rw [rOf_app, rOf_app, rOf_app, r8, rOf_keep (q := some (some (c + 3))) rfl (by rw [cO_0, nn7]; omega), rOf_keep (q := some (some (c + 3))) rfl (by rw [cO_app, cO_0, nn7]; show j < 0 + (c + 75 + 1 + 2); omega), rOf_keep (q := some (some (c + 3))) rfl (by rw [n9]; omega)]
  rw [bs_, s_new, chk_t (s_isk hN (kOf_app (kOf_app (kOf_app (kOf_app a7))))), g n9, s_gR hN q9, s_gR hN r9, s_inq (j := c + 78) (c := c + 79) hN (s_new_k n9) (by rw [cO_0, n9]), bs_, chk_t (s_isk hN (kOf_app (kOf_app (kOf_app (kOf_app (kOf_app a7)))))), s_ref]
  rw [← h7, ← h6, ← h5, ← h4, ← h3, ← h2, ← h1, ← h0]
  unfold forO
  simp only [List.append_assoc, List.cons_append, List.nil_append]
end RUN3
