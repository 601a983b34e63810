/-! a RULE's code: a machine with a stack, and the class's worth -/
def opv (s : Nat) (x y : Int64) : Int64 := if s = 2 then x + y else if s = 3 then x - y else if s = 4 then x * y else if s = 5 then (if lg_cmp y 0 = 0 then 0 else x / y) else if s = 6 then (if 0 ≤ lg_cmp x y then 0 else 1) else if s = 7 then (if 0 < lg_cmp x y then 0 else 1) else if s = 8 then (if lg_cmp x y = 0 then 1 else 0) else if s = 9 then (if lg_cmp x y < 0 then 0 else 1) else if s = 10 then (if lg_cmp x y ≤ 0 then 0 else 1) else if s = 12 then x &&& y else x ||| y
def stp (w : Nat → Int64) (c : Nat × Nat) (k : List Int64) : List Int64 := if c.1 = 0 then (nI c.2).toInt64 :: k else if c.1 = 1 then w c.2 :: k else if c.1 = 11 then (1 - k.headD 0) :: k.tail else opv c.1 (k.tail.headD 0) (k.headD 0) :: k.tail.tail
def rs (w : Nat → Int64) (cd : Nat → Nat × Nat) (i : Nat) : Nat → List Int64
  | 0 => []
  | n + 1 => stp w (cd (i + n)) (rs w cd i n)
def pRun (w : Nat → Int64) (cd : Nat → Nat × Nat) (i n : Nat) : Int64 := (rs w cd i n).headD 0
/-- the types on the stack: true where it is 0 or 1 -/
def ty (c : Nat × Nat) (k : List Bool) : Option (List Bool) := if c.1 = 0 then (if c.2 ≤ 99999 then some (false :: k) else none) else if c.1 = 1 then (if c.2 < 9 then some (false :: k) else none) else if c.1 = 11 then (if k.headD false = true ∧ 1 ≤ k.length then some (true :: k.tail) else none) else if c.1 ≤ 5 then (if 2 ≤ k.length then some (false :: k.tail.tail) else none) else if c.1 ≤ 10 then (if 2 ≤ k.length then some (true :: k.tail.tail) else none) else if c.1 ≤ 13 then (if k.headD false = true ∧ k.tail.headD false = true ∧ 2 ≤ k.length then some (true :: k.tail.tail) else none) else none
def tys (cd : Nat → Nat × Nat) (i : Nat) : Nat → Option (List Bool)
  | 0 => some []
  | n + 1 => (tys cd i n).bind (ty (cd (i + n)))
def tOk : List Bool → List Int64 → Prop
  | [], [] => True
  | b :: bs, x :: xs => (b = true → x = 0 ∨ x = 1) ∧ tOk bs xs
  | _, _ => False
def SegOk (cd : Nat → Nat × Nat) (i n : Nat) (b : Bool) : Prop := tys cd i n = some [b] ∧ ∀ m, m ≤ n → ∃ L, tys cd i m = some L ∧ L.length ≤ 60
theorem tOk_len : ∀ {L : List Bool} {k : List Int64}, tOk L k → L.length = k.length
  | [], [], _ => rfl
  | [], _ :: _, h => h.elim
  | _ :: _, [], h => h.elim
  | _ :: L, _ :: k, h => congrArg (· + 1) (tOk_len (L := L) (k := k) h.2)
theorem ite01 {p : Prop} [h : Decidable p] : (if p then (0 : Int64) else 1) = 0 ∨ (if p then (0 : Int64) else 1) = 1 := by
  by_cases q : p
  · left; exact if_pos q
  · right; exact if_neg q
theorem ite10 {p : Prop} [h : Decidable p] : (if p then (1 : Int64) else 0) = 0 ∨ (if p then (1 : Int64) else 0) = 1 := by
  by_cases q : p
  · right; exact if_pos q
  · left; exact if_neg q
theorem opv_b {s : Nat} {x y : Int64} (h : 6 ≤ s) (h2 : s ≤ 10) : opv s x y = 0 ∨ opv s x y = 1 := by
  rcases (by omega : s = 6 ∨ s = 7 ∨ s = 8 ∨ s = 9 ∨ s = 10) with rfl | rfl | rfl | rfl | rfl
  · exact ite01 (p := 0 ≤ lg_cmp x y)
  · exact ite01 (p := 0 < lg_cmp x y)
  · exact ite10 (p := lg_cmp x y = 0)
  · exact ite01 (p := lg_cmp x y < 0)
  · exact ite01 (p := lg_cmp x y ≤ 0)
theorem opv_l {s : Nat} {x y : Int64} (h : s = 12 ∨ s = 13) (hx : x = 0 ∨ x = 1) (hy : y = 0 ∨ y = 1) : opv s x y = 0 ∨ opv s x y = 1 := by
  rcases h with rfl | rfl <;> rcases hx with rfl | rfl <;> rcases hy with rfl | rfl <;> decide
theorem ty_ok {w : Nat → Int64} {c : Nat × Nat} {L L2 : List Bool} {k : List Int64} (h : tOk L k) (e : ty c L = some L2) : tOk L2 (stp w c k) := by
  unfold ty at e
  unfold stp
  by_cases h0 : c.1 = 0
  · rw [if_pos h0] at e ⊢
    split at e
    · injection e with e; subst e; exact ⟨fun q => (by cases q), h⟩
    · cases e
  · rw [if_neg h0] at e ⊢
    by_cases h1 : c.1 = 1
    · rw [if_pos h1] at e ⊢
      split at e
      · injection e with e; subst e; exact ⟨fun q => (by cases q), h⟩
      · cases e
    · rw [if_neg h1] at e ⊢
      by_cases h11 : c.1 = 11
      · rw [if_pos h11] at e ⊢
        split at e
        · rename_i hh
          injection e with e; subst e
          match L, k, h, hh with
          | b :: L, x :: k, h, hh =>
            refine ⟨fun _ => ?_, h.2⟩
            have hb : b = true := hh.1
            rcases h.1 hb with q | q
            · right; show 1 - x = 1; rw [q]; decide
            · left; show 1 - x = 0; rw [q]; decide
          | [], _, _, hh => exact absurd hh.2 (by simp)
        · cases e
      · rw [if_neg h11] at e ⊢
        have two : ∀ b : Bool, 2 ≤ L.length → some (b :: L.tail.tail) = some L2 → (b = true → opv c.1 (k.tail.headD 0) (k.headD 0) = 0 ∨ opv c.1 (k.tail.headD 0) (k.headD 0) = 1) → tOk L2 (opv c.1 (k.tail.headD 0) (k.headD 0) :: k.tail.tail) := by
          intro b hl e2 hb
          injection e2 with e2; subst e2
          match L, k, h, hl with
          | b1 :: b2 :: L, x :: y :: k, h, _ => exact ⟨hb, h.2.2⟩
          | [_], _, _, hl => exact absurd hl (by simp)
          | [], _, _, hl => exact absurd hl (by simp)
          | _ :: _ :: _, [_], h, _ => exact h.2.elim
        by_cases h5 : c.1 ≤ 5
        · rw [if_pos h5] at e
          split at e
          · rename_i hl; exact two false hl e (fun q => by cases q)
          · cases e
        · rw [if_neg h5] at e
          by_cases h10 : c.1 ≤ 10
          · rw [if_pos h10] at e
            split at e
            · rename_i hl; exact two true hl e (fun _ => opv_b (by omega) h10)
            · cases e
          · rw [if_neg h10] at e
            by_cases h13 : c.1 ≤ 13
            · rw [if_pos h13] at e
              split at e
              · rename_i hl
                refine two true hl.2.2 e (fun _ => opv_l (by omega) ?_ ?_)
                · match L, k, h, hl with
                  | b1 :: b2 :: L, x :: y :: k, h, hl => exact h.2.1 hl.2.1
                  | [_], _, _, hl => exact absurd hl.2.2 (by simp)
                  | [], _, _, hl => exact absurd hl.2.2 (by simp)
                  | _ :: _ :: _, [_], h, _ => exact h.2.elim
                · match L, k, h, hl with
                  | b1 :: b2 :: L, x :: y :: k, h, hl => exact h.1 hl.1
                  | [_], _, _, hl => exact absurd hl.2.2 (by simp)
                  | [], _, _, hl => exact absurd hl.2.2 (by simp)
                  | _ :: _ :: _, [_], h, _ => exact h.2.elim
              · cases e
            · rw [if_neg h13] at e; cases e
theorem rs_ok {w : Nat → Int64} {cd : Nat → Nat × Nat} {i : Nat} : ∀ {n : Nat} {L : List Bool}, tys cd i n = some L → tOk L (rs w cd i n)
  | 0, L, h => by injection h with h; subst h; trivial
  | n + 1, L, h => by
    unfold tys at h
    cases hL : tys cd i n with
    | none => rw [hL] at h; cases h
    | some L1 => rw [hL] at h; exact ty_ok (rs_ok hL) h
theorem seg_b {w : Nat → Int64} {cd : Nat → Nat × Nat} {i n : Nat} (h : SegOk cd i n true) : pRun w cd i n = 0 ∨ pRun w cd i n = 1 := by
  have := rs_ok (w := w) h.1
  unfold pRun
  match hr : rs w cd i n, this with
  | x :: k, q => exact q.1 rfl
/-- the next instruction of a good stretch -/
theorem seg_step {cd : Nat → Nat × Nat} {i n m : Nat} {b : Bool} (h : SegOk cd i n b) (hm : m < n) : ∃ L L2, tys cd i m = some L ∧ ty (cd (i + m)) L = some L2 ∧ L.length ≤ 60 ∧ L2.length ≤ 60 := by
  obtain ⟨L, e1, l1⟩ := h.2 m (by omega)
  obtain ⟨L2, e2, l2⟩ := h.2 (m + 1) (by omega)
  refine ⟨L, L2, e1, ?_, l1, l2⟩
  unfold tys at e2; rw [e1] at e2; exact e2
def stk (g : Nat → Int64) : List Int64 → Prop
  | [] => True
  | x :: k => g k.length = x ∧ stk g k
theorem stk_up {g : Nat → Int64} {j : Nat} {z : Int64} : ∀ {k : List Int64}, stk g k → k.length ≤ j → stk (vp_updL g j z) k
  | [], _, _ => trivial
  | x :: k, h, hj => by
    have : k.length < j := hj
    refine ⟨?_, stk_up h.2 (by omega)⟩
    show (if k.length = j then z else g k.length) = x
    rw [if_neg (by omega)]; exact h.1
theorem stk_push {g : Nat → Int64} {z : Int64} {k : List Int64} (h : stk g k) : stk (vp_updL g k.length z) (z :: k) := ⟨if_pos rfl, stk_up h (Nat.le_refl _)⟩
def opH (s : Nat) : Nat := if s = 2 then 43 else if s = 3 then 45 else if s = 4 then 42 else if s = 5 then 47 else if s = 6 then 60 else if s = 7 then 3 else if s = 8 then 61 else if s = 9 then 4 else if s = 10 then 62 else if s = 11 then 269 else if s = 12 then 268 else 267
def encH (c : Nat × Nat) : Int32 := if c.1 = 0 then nI c.2 else if c.1 = 1 then -nI (270 + c.2) else -nI (opH c.1)
theorem lg_eq {a b : Int64} : lg_cmp a b = 0 ↔ a = b := by
  unfold lg_cmp
  split
  · rename_i h; constructor
    · intro q; exact absurd q (by decide)
    · intro q; subst q; exact absurd h Int64.lt_irrefl
  · split
    · rename_i h; exact ⟨fun _ => h, fun _ => rfl⟩
    · rename_i h; exact ⟨fun q => absurd q (by decide), fun q => absurd q h⟩
theorem h_joined {s : Nat} {x y : Int64} {st : HSt} (h2 : 2 ≤ s) (h13 : s ≤ 13) (h11 : s ≠ 11) : fh_X3_joined (nI (opH s)) x y st = some (st, opv s x y) := by
  have hz : ∀ y : Int64, ¬ lg_cmp y 0 = 0 → nzl y = true := fun y h => decide_eq_true (fun q => h (lg_eq.mpr q))
  rcases (by omega : s = 2 ∨ s = 3 ∨ s = 4 ∨ s = 5 ∨ s = 6 ∨ s = 7 ∨ s = 8 ∨ s = 9 ∨ s = 10 ∨ s = 12 ∨ s = 13) with rfl | rfl | rfl | rfl | rfl | rfl | rfl | rfl | rfl | rfl | rfl
  · rfl
  · rfl
  · rfl
  · show (if lg_cmp y 0 = 0 then some (st, (0 : Int64)) else chk (nzl y) (some (st, x / y))) = some (st, if lg_cmp y 0 = 0 then 0 else x / y)
    by_cases h : lg_cmp y 0 = 0
    · rw [if_pos h, if_pos h]
    · rw [if_neg h, if_neg h, hz y h]; rfl
  · show (if 0 ≤ lg_cmp x y then some (st, (0 : Int64)) else some (st, (1 : Int64))) = some (st, if 0 ≤ lg_cmp x y then 0 else 1)
    split <;> rfl
  · show (if 0 < lg_cmp x y then some (st, (0 : Int64)) else some (st, (1 : Int64))) = some (st, if 0 < lg_cmp x y then 0 else 1)
    split <;> rfl
  · show (if lg_cmp x y = 0 then some (st, (1 : Int64)) else some (st, (0 : Int64))) = some (st, if lg_cmp x y = 0 then 1 else 0)
    split <;> rfl
  · show (if lg_cmp x y < 0 then some (st, (0 : Int64)) else some (st, (1 : Int64))) = some (st, if lg_cmp x y < 0 then 0 else 1)
    split <;> rfl
  · show (if lg_cmp x y ≤ 0 then some (st, (0 : Int64)) else some (st, (1 : Int64))) = some (st, if lg_cmp x y ≤ 0 then 0 else 1)
    split <;> rfl
  · rfl
  · rfl
/-- the Looker: its words, its stack -/
def Lk (st : HSt) (h : Nat) : Prop := gK st h = 4 ∧ gR st 300 h = some (h + 1) ∧ gK st (h + 1) = 23 ∧ gL st (h + 1) = 9 ∧ gR st 301 h = some (h + 2) ∧ gK st (h + 2) = 23 ∧ gL st (h + 2) = 64
theorem Lk.fr {X : Nat → Prop} {a b : HSt} {h : Nat} (l : Lk a h) (F : Fr X a b) : Lk b h := by
  obtain ⟨l1, l2, l3, l4, l5, l6, l7⟩ := l
  exact ⟨(F.K h).trans l1, (F.R h rfl).trans l2, (F.K _).trans l3, (F.L _).trans l4, (F.R h rfl).trans l5, (F.K _).trans l6, (F.L _).trans l7⟩
theorem nn (n : Int32) : -(-n) = n := Int32.neg_neg
theorem opH_b {s : Nat} (h2 : 2 ≤ s) (h11 : s ≠ 11) : 0 < opH s ∧ opH s < 269 := by
  unfold opH; repeat (split; · omega)
  omega
theorem h_worth_step {st : HSt} {h q i m n : Nat} {cd : Nat → Nat × Nat} {w : Nat → Int64} {b : Bool} {N : Nat} (l : Lk st h) (hq : gK st q = 22) (hN : gL st q = N) (hNb : N ≤ 400) (hiN : i + n ≤ N) (hc : ∀ j, j < N → gA st q j = encH (cd j)) (hw : ∀ j, j < 9 → gJ st (h + 1) j = w j) (S : SegOk cd i n b) (hm : m < n) (hs : stk (gJ st (h + 2)) (rs w cd i m)) (hl : (rs w cd i m).length ≤ 60) :
    ∃ z : Int64 × Nat, fh_X3_worth_s10 h (some q) (nI (i + n)) (nI (rs w cd i m).length) (nI (i + m)) st = some (.inr (.inl (nI (rs w cd i (m + 1)).length, nI (i + m + 1), sJ st (h + 2) z.2 z.1))) ∧ stk (gJ (sJ st (h + 2) z.2 z.1) (h + 2)) (rs w cd i (m + 1)) := by
  obtain ⟨l1, l2, l3, l4, l5, l6, l7⟩ := l
  obtain ⟨L, L2, e1, e2, q1, q2⟩ := seg_step S hm
  have ok := rs_ok (w := w) e1
  have hlen := tOk_len ok
  have hlt : i + m < N := by omega
  have head : fh_X3_worth_s10 h (some q) (nI (i + n)) (nI (rs w cd i m).length) (nI (i + m)) st = (if (-(encH (cd (i + m)))) = (269 : Int32) then (if nI (rs w cd i m).length < (1 : Int32) then some (.inr (.inl (nI (rs w cd i m).length, (nI (i + m) + 1), st))) else chk (isk st h 4) ((dr st (gR st 301 h) 23).bind fun b44 => chk (inb (nI (rs w cd i m).length - (1 : Int32)) (gL st b44)) (chk (inb (nI (rs w cd i m).length - (1 : Int32)) (gL st b44)) ((some (sJ st b44 (nI (rs w cd i m).length - (1 : Int32)).toNatClampNeg ((1 : Int64) - (gJ st b44 (nI (rs w cd i m).length - (1 : Int32)).toNatClampNeg)))).bind fun x50 => some (.inr (.inl (nI (rs w cd i m).length, (nI (i + m) + 1), x50))))))) else (if (-(encH (cd (i + m)))) ≤ 0 then fh_X3_worth_j80 h (some q) (nI (i + n)) (nI (rs w cd i m).length) (nI (i + m)) (-(encH (cd (i + m)))) st else (if (-(encH (cd (i + m)))) < (270 : Int32) then (if nI (rs w cd i m).length < (2 : Int32) then some (.inr (.inl (nI (rs w cd i m).length, (nI (i + m) + 1), st))) else chk (isk st h 4) ((dr st (gR st 301 h) 23).bind fun b32 => chk (inb ((nI (rs w cd i m).length + -1) - (1 : Int32)) (gL st b32)) (chk (inb (nI (rs w cd i m).length + -1) (gL st b32)) ((fh_X3_joined (-(encH (cd (i + m)))) (gJ st b32 ((nI (rs w cd i m).length + -1) - (1 : Int32)).toNatClampNeg) (gJ st b32 (nI (rs w cd i m).length + -1).toNatClampNeg) st).bind fun x38 => chk (isk x38.1 b32 23) (chk (inb ((nI (rs w cd i m).length + -1) - (1 : Int32)) (gL x38.1 b32)) (some (.inr (.inl ((nI (rs w cd i m).length + -1), (nI (i + m) + 1), (sJ x38.1 b32 ((nI (rs w cd i m).length + -1) - (1 : Int32)).toNatClampNeg x38.2)))))))))) else fh_X3_worth_j80 h (some q) (nI (i + n)) (nI (rs w cd i m).length) (nI (i + m)) (-(encH (cd (i + m)))) st))) := by
    unfold fh_X3_worth_s10
    rw [if_neg (nI_ge (by omega) (by omega)), dr_of hq, bs_, hN, if_neg (nI_ge (by omega) (by omega)), chk_t (inb_n hlt (by omega)), nI_clamp (by omega), hc _ hlt]
  rw [head, nI_1]
  have er : rs w cd i (m + 1) = stp w (cd (i + m)) (rs w cd i m) := rfl
  rw [er]
  have push : ∀ x : Int64, stp w (cd (i + m)) (rs w cd i m) = x :: rs w cd i m → fh_X3_worth_j80 h (some q) (nI (i + n)) (nI (rs w cd i m).length) (nI (i + m)) (-(encH (cd (i + m)))) st = some (.inr (.inl (nI (rs w cd i m).length + 1, nI (i + m) + 1, sJ st (h + 2) (rs w cd i m).length x))) → ∃ z : Int64 × Nat, fh_X3_worth_j80 h (some q) (nI (i + n)) (nI (rs w cd i m).length) (nI (i + m)) (-(encH (cd (i + m)))) st = some (.inr (.inl (nI (stp w (cd (i + m)) (rs w cd i m)).length, nI (i + m + 1), sJ st (h + 2) z.2 z.1))) ∧ stk (gJ (sJ st (h + 2) z.2 z.1) (h + 2)) (stp w (cd (i + m)) (rs w cd i m)) := by
    intro x hx e
    refine ⟨(x, (rs w cd i m).length), ?_, ?_⟩
    · rw [e, hx, nI_1, nI_1]; rfl
    · rw [hx, gJ_sJ]; exact stk_push hs
  unfold ty at e2
  by_cases h0 : (cd (i + m)).1 = 0
  · rw [if_pos h0] at e2
    split at e2
    · rename_i h9
      have eh : encH (cd (i + m)) = nI (cd (i + m)).2 := by unfold encH; rw [if_pos h0]
      have hle : -nI (cd (i + m)).2 ≤ 0 := by rw [Int32.le_iff_toInt_le, sb_negT (by omega)]; show _ ≤ (0 : Int); omega
      have hne : ¬ -nI (cd (i + m)).2 = 269 := fun q => by rw [q] at hle; exact absurd hle (by decide)
      rw [eh, if_neg hne, if_pos hle, ← eh]
      refine push ((nI (cd (i + m)).2).toInt64) (by unfold stp; rw [if_pos h0]) ?_
      unfold fh_X3_worth_j80
      rw [chk_t (isk_t l1), l5, dr_of l6, bs_, l7, if_neg (nI_ge (by omega) (by omega)), eh, if_neg (fun q => absurd (Int32.lt_of_lt_of_le q hle) (by decide)), chk_t (inb_n (by omega) (by omega)), nI_clamp (by omega), nn]
    · cases e2
  · rw [if_neg h0] at e2
    by_cases h1 : (cd (i + m)).1 = 1
    · rw [if_pos h1] at e2
      split at e2
      · rename_i h9
        have eh : -encH (cd (i + m)) = nI (270 + (cd (i + m)).2) := by unfold encH; rw [if_neg h0, if_pos h1, nn]
        rw [eh, if_neg (show ¬ nI (270 + (cd (i + m)).2) = 269 from fun q => absurd ((nI_eq (a := 270 + (cd (i + m)).2) (b := 269) (by omega) (by omega)).mp q) (by omega)), if_neg (nI_nle (by omega) (by omega)), if_neg (show ¬ nI (270 + (cd (i + m)).2) < 270 from nI_nlt (b := 270) (by omega) (by omega)), ← eh]
        refine push (w (cd (i + m)).2) (by unfold stp; rw [if_neg h0, if_pos h1]) ?_
        have e270 : nI (270 + (cd (i + m)).2) - 270 = nI (cd (i + m)).2 := by
          rw [show (270 : Int32) = nI 270 from rfl, pk_sub (by omega)]; exact congrArg nI (by omega)
        have wo : fh_X3_wordOf h (nI (270 + (cd (i + m)).2)) st = some (st, w (cd (i + m)).2) := by
          unfold fh_X3_wordOf
          rw [e270, if_neg (nI_pos (by omega)), chk_t (isk_t l1), l2, dr_of l3, bs_, l4, if_neg (nI_ge (by omega) (by omega)), chk_t (inb_n h9 (by omega)), nI_clamp (by omega), hw _ h9]
        unfold fh_X3_worth_j80
        rw [chk_t (isk_t l1), l5, dr_of l6, bs_, l7, if_neg (nI_ge (by omega) (by omega)), eh, if_pos (show (0 : Int32) < nI (270 + (cd (i + m)).2) from nI_lt (a := 0) (by omega) (by omega)), wo, bs_, chk_t (isk_t l6), l7, chk_t (inb_n (by omega) (by omega)), nI_clamp (by omega)]
      · cases e2
    · rw [if_neg h1] at e2
      by_cases h11 : (cd (i + m)).1 = 11
      · rw [if_pos h11] at e2
        split at e2
        · rename_i hh
          have eh : -encH (cd (i + m)) = 269 := by unfold encH; rw [if_neg h0, if_neg h1, h11, nn]; rfl
          rw [eh, if_pos rfl]
          have hl1 : 1 ≤ (rs w cd i m).length := by omega
          match hrs : rs w cd i m with
          | [] => rw [hrs] at hl1; exact absurd hl1 (by simp)
          | x :: k =>
            rw [hrs] at hs hl
            have hk : k.length < 60 := hl
            have es : stp w (cd (i + m)) (x :: k) = (1 - x) :: k := by unfold stp; rw [if_neg h0, if_neg h1, if_pos h11]; rfl
            rw [es]
            refine ⟨(1 - x, k.length), ?_, ?_⟩
            · show (if nI (k.length + 1) < 1 then _ else _) = _
              rw [if_neg (show ¬ nI (k.length + 1) < 1 from nI_nlt (b := 1) (by omega) (by omega)), chk_t (isk_t l1), l5, dr_of l6, bs_, l7]
              show chk (inb (nI (k.length + 1) - 1) 64) (chk (inb (nI (k.length + 1) - 1) 64) ((some (sJ st (h + 2) (nI (k.length + 1) - 1).toNatClampNeg (1 - gJ st (h + 2) (nI (k.length + 1) - 1).toNatClampNeg))).bind fun x50 => some (Sum.inr (Sum.inl (nI (k.length + 1), nI (i + m + 1), x50))))) = _
              rw [nI_pred, chk_t (inb_n (by omega) (by omega)), chk_t (inb_n (by omega) (by omega)), nI_clamp (by omega), bs_, hs.1]
              rfl
            · rw [gJ_sJ]; exact stk_push hs.2
        · cases e2
      · rw [if_neg h11] at e2
        have h13 : (cd (i + m)).1 ≤ 13 := by
          rcases Nat.lt_or_ge 13 (cd (i + m)).1 with z | z
          · rw [if_neg (by omega), if_neg (by omega), if_neg (by omega)] at e2; cases e2
          · exact z
        have hl2 : 2 ≤ L.length := by
          by_cases z5 : (cd (i + m)).1 ≤ 5
          · rw [if_pos z5] at e2
            split at e2
            · assumption
            · cases e2
          · rw [if_neg z5] at e2
            by_cases z10 : (cd (i + m)).1 ≤ 10
            · rw [if_pos z10] at e2
              split at e2
              · assumption
              · cases e2
            · rw [if_neg z10, if_pos h13] at e2
              split at e2
              · rename_i hh; exact hh.2.2
              · cases e2
        have hs2 : 2 ≤ (cd (i + m)).1 := by omega
        have eh : -encH (cd (i + m)) = nI (opH (cd (i + m)).1) := by unfold encH; rw [if_neg h0, if_neg h1, nn]
        obtain ⟨b1, b2⟩ := opH_b hs2 h11
        rw [eh, if_neg (show ¬ nI (opH (cd (i + m)).1) = 269 from fun q => absurd ((nI_eq (a := opH (cd (i + m)).1) (b := 269) (by omega) (by omega)).mp q) (by omega)), if_neg (nI_nle (by omega) (by omega)), if_pos (show nI (opH (cd (i + m)).1) < 270 from nI_lt (b := 270) (by omega) (by omega))]
        rw [hlen] at hl2
        match hrs : rs w cd i m with
        | [] => rw [hrs] at hl2; exact absurd hl2 (by simp)
        | [_] => rw [hrs] at hl2; exact absurd hl2 (by simp)
        | y :: x :: k =>
          rw [hrs] at hs hl
          have hk : k.length + 1 < 60 := hl
          have es : stp w (cd (i + m)) (y :: x :: k) = opv (cd (i + m)).1 x y :: k := by unfold stp; rw [if_neg h0, if_neg h1, if_neg h11]; rfl
          rw [es]
          refine ⟨(opv (cd (i + m)).1 x y, k.length), ?_, ?_⟩
          · have lc : nI (y :: x :: k).length + -1 = nI (k.length + 1) := pk_m1 (k.length + 1)
            rw [if_neg (show ¬ nI (y :: x :: k).length < 2 from nI_nlt (b := 2) (by simp) (by simp; omega)), chk_t (isk_t l1), l5, dr_of l6, bs_, l7, lc, nI_pred, chk_t (inb_n (by omega) (by omega)), chk_t (inb_n (by omega) (by omega)), nI_clamp (by omega), nI_clamp (by omega), show gJ st (h + 2) k.length = x from hs.2.1, show gJ st (h + 2) (k.length + 1) = y from hs.1, h_joined hs2 h13 h11, bs_, chk_t (isk_t l6), l7, chk_t (inb_n (by omega) (by omega))]
            rfl
          · rw [gJ_sJ]; exact stk_push hs.2.2
