/-! a RULE's code: types of pieces of it -/
def tyF (cd : Nat → Nat × Nat) (i : Nat) : Nat → List Bool → Option (List Bool)
  | 0, L => some L
  | n + 1, L => (tyF cd i n L).bind (ty (cd (i + n)))
theorem tys_F {cd : Nat → Nat × Nat} {i : Nat} : ∀ n, tys cd i n = tyF cd i n []
  | 0 => rfl
  | n + 1 => by unfold tys tyF; rw [tys_F n]
theorem tyF_add {cd : Nat → Nat × Nat} {i a : Nat} {L : List Bool} : ∀ b, tyF cd i (a + b) L = (tyF cd i a L).bind (tyF cd (i + a) b)
  | 0 => by
    show tyF cd i a L = (tyF cd i a L).bind some
    cases tyF cd i a L <;> rfl
  | b + 1 => by
    show (tyF cd i (a + b) L).bind (ty (cd (i + (a + b)))) = _
    rw [tyF_add b, ← Nat.add_assoc]
    cases h : tyF cd i a L with
    | none => rfl
    | some x => rfl
theorem hd_app {L K : List Bool} (h : 1 ≤ L.length) : (L ++ K).headD false = L.headD false ∧ (L ++ K).tail = L.tail ++ K := by
  cases L with
  | nil => exact absurd h (by decide)
  | cons x L => exact ⟨rfl, rfl⟩
theorem ty_app {c : Nat × Nat} {L L2 K : List Bool} (h : ty c L = some L2) : ty c (L ++ K) = some (L2 ++ K) := by
  unfold ty at h ⊢
  by_cases h0 : c.1 = 0
  · rw [if_pos h0] at h ⊢
    by_cases h1 : c.2 ≤ 99999
    · rw [if_pos h1] at h ⊢; injection h with h; rw [← h]; rfl
    · rw [if_neg h1] at h; cases h
  rw [if_neg h0] at h ⊢
  by_cases h1 : c.1 = 1
  · rw [if_pos h1] at h ⊢
    by_cases h2 : c.2 < 9
    · rw [if_pos h2] at h ⊢; injection h with h; rw [← h]; rfl
    · rw [if_neg h2] at h; cases h
  rw [if_neg h1] at h ⊢
  by_cases h11 : c.1 = 11
  · rw [if_pos h11] at h ⊢
    by_cases q : L.headD false = true ∧ 1 ≤ L.length
    · rw [if_pos q] at h
      obtain ⟨a, b⟩ := hd_app (K := K) q.2
      rw [if_pos ⟨by rw [a]; exact q.1, by rw [List.length_append]; omega⟩, b]
      injection h with h; rw [← h]; rfl
    · rw [if_neg q] at h; cases h
  rw [if_neg h11] at h ⊢
  have two : 2 ≤ L.length → (L ++ K).headD false = L.headD false ∧ (L ++ K).tail.headD false = L.tail.headD false ∧ (L ++ K).tail.tail = L.tail.tail ++ K ∧ 2 ≤ (L ++ K).length := fun q => by
    cases L with
    | nil => exact absurd q (by decide)
    | cons x L => cases L with
      | nil => exact absurd q (show ¬ 2 ≤ 1 by decide)
      | cons y L => exact ⟨rfl, rfl, rfl, by rw [List.length_append]; omega⟩
  by_cases h5 : c.1 ≤ 5
  · rw [if_pos h5] at h ⊢
    by_cases q : 2 ≤ L.length
    · rw [if_pos q] at h
      obtain ⟨-, -, b, d⟩ := two q
      rw [if_pos d, b]; injection h with h; rw [← h]; rfl
    · rw [if_neg q] at h; cases h
  rw [if_neg h5] at h ⊢
  by_cases h10 : c.1 ≤ 10
  · rw [if_pos h10] at h ⊢
    by_cases q : 2 ≤ L.length
    · rw [if_pos q] at h
      obtain ⟨-, -, b, d⟩ := two q
      rw [if_pos d, b]; injection h with h; rw [← h]; rfl
    · rw [if_neg q] at h; cases h
  rw [if_neg h10] at h ⊢
  by_cases h13 : c.1 ≤ 13
  · rw [if_pos h13] at h ⊢
    by_cases q : L.headD false = true ∧ L.tail.headD false = true ∧ 2 ≤ L.length
    · rw [if_pos q] at h
      obtain ⟨a, a2, b, d⟩ := two q.2.2
      rw [if_pos ⟨by rw [a]; exact q.1, by rw [a2]; exact q.2.1, d⟩, b]; injection h with h; rw [← h]; rfl
    · rw [if_neg q] at h; cases h
  · rw [if_neg h13] at h; cases h
theorem tyF_app {cd : Nat → Nat × Nat} {i : Nat} {L K K2 : List Bool} : ∀ n L, tyF cd i n K2 = some L → tyF cd i n (K2 ++ K) = some (L ++ K)
  | 0, L, h => by injection h with h; show some (K2 ++ K) = _; rw [h]
  | n + 1, L, h => by
    unfold tyF at h ⊢
    cases e : tyF cd i n K2 with
    | none => rw [e] at h; cases h
    | some x =>
      rw [e] at h
      rw [tyF_app (L := L) n x e]
      exact ty_app h
theorem tyF_cg {cd cd2 : Nat → Nat × Nat} {i : Nat} {L : List Bool} : ∀ n, (∀ j, i ≤ j → j < i + n → cd2 j = cd j) → tyF cd2 i n L = tyF cd i n L
  | 0, _ => rfl
  | n + 1, h => by unfold tyF; rw [tyF_cg n (fun j h1 h2 => h j h1 (by omega)), h (i + n) (by omega) (by omega)]
/-- a piece of code from a to z leaves one worth, of type b; at most h worths stand -/
def Sg (cd : Nat → Nat × Nat) (a z : Nat) (b : Bool) (h : Nat) : Prop := a < z ∧ 1 ≤ h ∧ tyF cd a (z - a) [] = some [b] ∧ ∀ m, m ≤ z - a → ∃ L, tyF cd a m [] = some L ∧ L.length ≤ h
theorem Sg.cg {cd cd2 : Nat → Nat × Nat} {a z h : Nat} {b : Bool} (S : Sg cd a z b h) (e : ∀ j, j < z → cd2 j = cd j) : Sg cd2 a z b h := by
  obtain ⟨s1, s0, s2, s3⟩ := S
  refine ⟨s1, s0, ?_, fun m hm => ?_⟩
  · rw [tyF_cg _ (fun j h1 h2 => e j (by omega))]; exact s2
  · rw [tyF_cg _ (fun j h1 h2 => e j (by omega))]; exact s3 m hm
theorem Sg.mo {cd : Nat → Nat × Nat} {a z h h2 : Nat} {b : Bool} (S : Sg cd a z b h) (e : h ≤ h2) : Sg cd a z b h2 := by
  obtain ⟨s1, s0, s2, s3⟩ := S
  refine ⟨s1, by omega, s2, fun m hm => ?_⟩
  obtain ⟨L, l1, l2⟩ := s3 m hm
  exact ⟨L, l1, by omega⟩
theorem Sg.one {cd : Nat → Nat × Nat} {a : Nat} (h : ((cd a).1 = 0 ∧ (cd a).2 ≤ 99999) ∨ ((cd a).1 = 1 ∧ (cd a).2 < 9)) : Sg cd a (a + 1) false 1 := by
  have e : tyF cd a 1 [] = some [false] := by
    show (some ([] : List Bool)).bind (ty (cd (a + 0))) = _
    show ty (cd a) [] = _
    unfold ty
    rcases h with ⟨h1, h2⟩ | ⟨h1, h2⟩
    · rw [if_pos h1, if_pos h2]
    · rw [if_neg (by omega), if_pos h1, if_pos h2]
  refine ⟨by omega, by omega, by rw [show a + 1 - a = 1 by omega]; exact e, fun m hm => ?_⟩
  rcases (by omega : m = 0 ∨ m = 1) with q | q
  · exact ⟨[], by rw [q]; rfl, by decide⟩
  · exact ⟨[false], by rw [q]; exact e, by decide⟩
theorem Sg.bin {cd : Nat → Nat × Nat} {a y z h1 h2 : Nat} {b1 b2 b : Bool} (S1 : Sg cd a y b1 h1) (S2 : Sg cd y z b2 h2) (e : ty (cd z) [b2, b1] = some [b]) : Sg cd a (z + 1) b (h1 + h2) := by
  obtain ⟨p1, p0, p2, p3⟩ := S1
  obtain ⟨q1, q0, q2, q3⟩ := S2
  have mid : ∀ m L, tyF cd y m [] = some L → tyF cd a (y - a + m) [] = some (L ++ [b1]) := fun m L hL => by
    rw [tyF_add, p2]
    show tyF cd (a + (y - a)) m [b1] = _
    rw [show a + (y - a) = y by omega]
    exact tyF_app (L := L) (K2 := []) m L hL
  have fin : tyF cd a (z + 1 - a) [] = some [b] := by
    rw [show z + 1 - a = (y - a + (z - y)) + 1 by omega]
    unfold tyF
    rw [mid _ _ q2, show a + (y - a + (z - y)) = z by omega]
    exact e
  refine ⟨by omega, by omega, fin, fun m hm => ?_⟩
  rcases Nat.lt_or_ge m (y - a + 1) with c | c
  · obtain ⟨L, l1, l2⟩ := p3 m (by omega)
    exact ⟨L, l1, by omega⟩
  · rcases Nat.lt_or_ge m (z + 1 - a) with d | d
    · obtain ⟨L, l1, l2⟩ := q3 (m - (y - a)) (by omega)
      have := mid _ _ l1
      rw [show y - a + (m - (y - a)) = m by omega] at this
      exact ⟨_, this, by rw [List.length_append]; show L.length + 1 ≤ _; omega⟩
    · rw [show m = z + 1 - a by omega]
      exact ⟨_, fin, by show 1 ≤ _; omega⟩
theorem Sg.un {cd : Nat → Nat × Nat} {a z h : Nat} (S : Sg cd a z true h) (e : (cd z).1 = 11) : Sg cd a (z + 1) true h := by
  obtain ⟨p1, p0, p2, p3⟩ := S
  have fin : tyF cd a (z + 1 - a) [] = some [true] := by
    rw [show z + 1 - a = (z - a) + 1 by omega]
    unfold tyF
    rw [p2, show a + (z - a) = z by omega]
    show ty (cd z) [true] = _
    unfold ty
    rw [if_neg (by omega), if_neg (by omega), if_pos e, if_pos ⟨rfl, by decide⟩]
    rfl
  refine ⟨by omega, p0, fin, fun m hm => ?_⟩
  rcases Nat.lt_or_ge m (z + 1 - a) with d | d
  · exact p3 m (by omega)
  · rw [show m = z + 1 - a by omega]
    exact ⟨_, fin, by show 1 ≤ _; omega⟩
theorem Sg.ok {cd : Nat → Nat × Nat} {a z h : Nat} {b : Bool} (S : Sg cd a z b h) (hh : h ≤ 60) : SegOk cd a (z - a) b := by
  obtain ⟨s1, s0, s2, s3⟩ := S
  refine ⟨by rw [tys_F]; exact s2, fun m hm => ?_⟩
  obtain ⟨L, l1, l2⟩ := s3 m hm
  exact ⟨L, by rw [tys_F]; exact l1, by omega⟩
theorem ty_a {c : Nat × Nat} {x y : Bool} (h2 : 2 ≤ c.1) (h5 : c.1 ≤ 5) : ty c [x, y] = some [false] := by
  unfold ty
  rw [if_neg (by omega), if_neg (by omega), if_neg (by omega), if_pos h5, if_pos (show 2 ≤ [x, y].length from Nat.le_refl 2)]; rfl
theorem ty_c {c : Nat × Nat} {x y : Bool} (h2 : 6 ≤ c.1) (h5 : c.1 ≤ 10) : ty c [x, y] = some [true] := by
  unfold ty
  rw [if_neg (by omega), if_neg (by omega), if_neg (by omega), if_neg (by omega), if_pos h5, if_pos (show 2 ≤ [x, y].length from Nat.le_refl 2)]; rfl
theorem ty_l {c : Nat × Nat} (h2 : 12 ≤ c.1) (h5 : c.1 ≤ 13) : ty c [true, true] = some [true] := by
  unfold ty
  rw [if_neg (by omega), if_neg (by omega), if_neg (by omega), if_neg (by omega), if_neg (by omega), if_pos h5, if_pos (by decide)]; rfl
