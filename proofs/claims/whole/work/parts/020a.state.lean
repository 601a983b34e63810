abbrev MSt : Type := (Nat → Int32) × (Nat → Nat → Int32) × (Nat → Nat → Int64)
def msi (st : MSt) (k : Nat) (v : Int32) : MSt := (upd st.1 k v, st.2)
def msa (st : MSt) (k i : Nat) (v : Int32) : MSt := (st.1, va_up st.2.1 k (upd (st.2.1 k) i v), st.2.2)
def msl (st : MSt) (k i : Nat) (v : Int64) : MSt := (st.1, st.2.1, va_up st.2.2 k (vp_updL (st.2.2 k) i v))
/-! the class's state: whole numbers and references by field and address, rows by address, lengths, kinds, the next address, the addresses -/
abbrev HSt : Type := (Nat → Nat → Int32) × (Nat → Nat → Option Nat) × (Nat → Nat → Int32) × (Nat → Nat → Int64) × (Nat → Nat → Option Nat) × (Nat → Nat) × (Nat → Nat) × Nat × List Nat
abbrev gI (st : HSt) (f a : Nat) : Int32 := st.1 f a
abbrev gR (st : HSt) (f a : Nat) : Option Nat := st.2.1 f a
abbrev gA (st : HSt) (a : Nat) : Nat → Int32 := st.2.2.1 a
abbrev gJ (st : HSt) (a : Nat) : Nat → Int64 := st.2.2.2.1 a
abbrev gQ (st : HSt) (a : Nat) : Nat → Option Nat := st.2.2.2.2.1 a
abbrev gL (st : HSt) (a : Nat) : Nat := st.2.2.2.2.2.1 a
abbrev gK (st : HSt) (a : Nat) : Nat := st.2.2.2.2.2.2.1 a
abbrev gN (st : HSt) : Nat := st.2.2.2.2.2.2.2.1
abbrev gX (st : HSt) : List Nat := st.2.2.2.2.2.2.2.2
def sI (st : HSt) (f a : Nat) (v : Int32) : HSt := (va_up st.1 f (va_up (st.1 f) a v), st.2)
def sR (st : HSt) (f a : Nat) (v : Option Nat) : HSt := (st.1, va_up st.2.1 f (va_up (st.2.1 f) a v), st.2.2)
def sAf (st : HSt) (a : Nat) (g : Nat → Int32) : HSt := (st.1, st.2.1, va_up st.2.2.1 a g, st.2.2.2)
def sA (st : HSt) (a i : Nat) (v : Int32) : HSt := sAf st a (upd (st.2.2.1 a) i v)
def sJ (st : HSt) (a i : Nat) (v : Int64) : HSt := (st.1, st.2.1, st.2.2.1, va_up st.2.2.2.1 a (vp_updL (st.2.2.2.1 a) i v), st.2.2.2.2)
def sQ (st : HSt) (a i : Nat) (v : Option Nat) : HSt := (st.1, st.2.1, st.2.2.1, st.2.2.2.1, va_up st.2.2.2.2.1 a (va_up (st.2.2.2.2.1 a) i v), st.2.2.2.2.2)
def nO (st : HSt) (k n : Nat) : HSt := (fun f => va_up (st.1 f) (gN st) 0, fun f => va_up (st.2.1 f) (gN st) none, va_up st.2.2.1 (gN st) (fun _ => 0), va_up st.2.2.2.1 (gN st) (fun _ => 0), va_up st.2.2.2.2.1 (gN st) (fun _ => none), va_up st.2.2.2.2.2.1 (gN st) n, va_up st.2.2.2.2.2.2.1 (gN st) k, gN st + 1, gX st ++ [gN st])
def isk (st : HSt) (a k : Nat) : Bool := decide (gK st a = k)
theorem isk_k {st : HSt} {a k : Nat} (h : isk st a k = true) : gK st a = k := of_decide_eq_true h
def dr (st : HSt) (e : Option Nat) (k : Nat) : Option Nat := e.bind fun b => if gK st b = k then some b else none
theorem dr_e {st : HSt} {e : Option Nat} {k b : Nat} (h : dr st e k = some b) : e = some b ∧ gK st b = k := by
  cases e with
  | none => simp [dr] at h
  | some x =>
    by_cases hx : gK st x = k
    · simp [dr, hx] at h; subst h; exact ⟨rfl, hx⟩
    · simp [dr, hx] at h
theorem dr_of {st : HSt} {b k : Nat} (h : gK st b = k) : dr st (some b) k = some b := by simp [dr, h]
def sIdx : List Nat := [70, 76, 78, 80, 82, 84, 86, 88, 90, 92, 94, 96, 98, 100, 105, 107, 109, 111, 113, 115, 117, 119, 121]
def sTxt : List String := ["wide", "bank", "eyes", "step", "inches", "flood", "turn", "rise", "wait", "pull", "if", "or", "and", "not", "side", "line", "height", "other", "tall", "gap", "day", "yards", "last"]
def sLen : List Nat := [4, 4, 4, 4, 6, 5, 4, 4, 4, 4, 2, 2, 3, 3, 4, 4, 6, 5, 4, 3, 3, 5, 4]
def sByt : List (List Int32) := [[119, 105, 100, 101], [98, 97, 110, 107], [101, 121, 101, 115], [115, 116, 101, 112], [105, 110, 99, 104, 101, 115], [102, 108, 111, 111, 100], [116, 117, 114, 110], [114, 105, 115, 101], [119, 97, 105, 116], [112, 117, 108, 108], [105, 102], [111, 114], [97, 110, 100], [110, 111, 116], [115, 105, 100, 101], [108, 105, 110, 101], [104, 101, 105, 103, 104, 116], [111, 116, 104, 101, 114], [116, 97, 108, 108], [103, 97, 112], [100, 97, 121], [121, 97, 114, 100, 115], [108, 97, 115, 116]]
def cpyok (sp dp n : Int32) (n0 n1 : Nat) : Bool := decide (¬ sp < 0 ∧ ¬ dp < 0 ∧ ¬ n < 0 ∧ sp.toNatClampNeg + n.toNatClampNeg ≤ n0 ∧ dp.toNatClampNeg + n.toNatClampNeg ≤ n1)
def cpO (st : HSt) (a : Nat) : HSt := sAf (nO st 22 (gL st a)) (gN st) (gA st a)
def mz : MSt := (fun _ => 0, fun _ _ => 0, fun _ _ => 0)
def setN (st : HSt) (n : Nat) : HSt := (st.1, st.2.1, st.2.2.1, st.2.2.2.1, st.2.2.2.2.1, st.2.2.2.2.2.1, st.2.2.2.2.2.2.1, n, st.2.2.2.2.2.2.2.2)
