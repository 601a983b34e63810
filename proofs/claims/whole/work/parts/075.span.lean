/-! the class's objects: what never changes of them; a frame; a Span and its River that hold a plain state -/
def WfS (st : HSt) : Prop := ∀ a, gK st a = 10 → gK st (a + 1) = 5 ∧ (∀ j, 1 < j → j < 10 → gK st (a + j) = 22) ∧ gR st 902 a = some (a + 7) ∧ gL st (a + 7) = 2 ∧ gR st 903 a = some (a + 8) ∧ gL st (a + 8) = 80 ∧ gR st 904 a = some (a + 9) ∧ gL st (a + 9) = 80
def WfR (st : HSt) : Prop := ∀ r, gK st r = 5 → (∀ j, 0 < j → j < 6 → gK st (r + j) = 22) ∧ gR st 404 r = some (r + 1) ∧ gL st (r + 1) = 2 ∧ gR st 405 r = some (r + 2) ∧ gL st (r + 2) = 2 ∧ gR st 406 r = some (r + 3) ∧ gL st (r + 3) = 2 ∧ gR st 407 r = some (r + 4) ∧ gL st (r + 4) = 8 ∧ gR st 408 r = some (r + 5) ∧ gL st (r + 5) = 8
def WfU (st : HSt) : Prop := ∀ q, gK st q = 7 → (∀ j, 0 < j → j < 5 → gK st (q + j) = 22) ∧ gR st 601 q = some (q + 1) ∧ gR st 602 q = some (q + 2) ∧ gR st 603 q = some (q + 3) ∧ gR st 604 q = some (q + 4)
def WfI (st : HSt) : Prop := ∀ S, gK st S = 9 → gK st (S + 1) = 10 ∧ gK st (S + 11) = 22 ∧ gK st (S + 12) = 22 ∧ gR st 800 S = some (S + 1) ∧ gR st 803 S = some (S + 11) ∧ gL st (S + 11) = 16 ∧ gR st 804 S = some (S + 12) ∧ gL st (S + 12) = 80
def Wf (st : HSt) : Prop := WfS st ∧ WfR st ∧ WfU st ∧ WfI st
def fin (f : Nat) : Bool := decide (f ≠ 900 ∧ f ≠ 10 ∧ f ≠ 106 ∧ f ≠ 107 ∧ f ≠ 206 ∧ f ≠ 207 ∧ f ≠ 208)
/-- all that changes lies in X; references of final fields, kinds, lengths never change -/
def Fr (X : Nat → Prop) (st st2 : HSt) : Prop := st2.2.2.2.2 = st.2.2.2.2 ∧ (∀ f b, fin f = true → gR st2 f b = gR st f b) ∧ ∀ b, ¬ X b → (∀ f, gI st2 f b = gI st f b) ∧ (∀ f, gR st2 f b = gR st f b) ∧ gA st2 b = gA st b ∧ gJ st2 b = gJ st b
theorem Fr.rf {X : Nat → Prop} {st : HSt} : Fr X st st := ⟨rfl, fun _ _ _ => rfl, fun _ _ => ⟨fun _ => rfl, fun _ => rfl, rfl, rfl⟩⟩
theorem Fr.tr {X : Nat → Prop} {a b c : HSt} (h : Fr X a b) (h2 : Fr X b c) : Fr X a c := ⟨h2.1.trans h.1, fun f q hf => (h2.2.1 f q hf).trans (h.2.1 f q hf), fun q hq => by
  obtain ⟨x1, x2, x3, x4⟩ := h.2.2 q hq
  obtain ⟨y1, y2, y3, y4⟩ := h2.2.2 q hq
  exact ⟨fun f => (y1 f).trans (x1 f), fun f => (y2 f).trans (x2 f), y3.trans x3, y4.trans x4⟩⟩
theorem Fr.mo {X Y : Nat → Prop} {a b : HSt} (h : Fr X a b) (hXY : ∀ q, X q → Y q) : Fr Y a b := ⟨h.1, h.2.1, fun q hq => h.2.2 q (fun hx => hq (hXY q hx))⟩
theorem Fr.K {X : Nat → Prop} {a b : HSt} (h : Fr X a b) (q : Nat) : gK b q = gK a q := by
  show b.2.2.2.2.2.2.1 q = a.2.2.2.2.2.2.1 q; rw [h.1]
theorem Fr.L {X : Nat → Prop} {a b : HSt} (h : Fr X a b) (q : Nat) : gL b q = gL a q := by
  show b.2.2.2.2.2.1 q = a.2.2.2.2.2.1 q; rw [h.1]
theorem Fr.Q {X : Nat → Prop} {a b : HSt} (h : Fr X a b) (q : Nat) : gQ b q = gQ a q := by
  show b.2.2.2.2.1 q = a.2.2.2.2.1 q; rw [h.1]
theorem Fr.N {X : Nat → Prop} {a b : HSt} (h : Fr X a b) : gN b = gN a := by
  show b.2.2.2.2.2.2.2.1 = a.2.2.2.2.2.2.2.1; rw [h.1]
theorem Fr.R {X : Nat → Prop} {a b : HSt} (h : Fr X a b) {f : Nat} (q : Nat) (hf : fin f = true) : gR b f q = gR a f q := h.2.1 f q hf
theorem Fr.R' {X : Nat → Prop} {a b : HSt} (h : Fr X a b) (f : Nat) {q : Nat} (hq : ¬ X q) : gR b f q = gR a f q := (h.2.2 q hq).2.1 f
theorem Fr.I {X : Nat → Prop} {a b : HSt} (h : Fr X a b) (f : Nat) {q : Nat} (hq : ¬ X q) : gI b f q = gI a f q := (h.2.2 q hq).1 f
theorem Fr.A {X : Nat → Prop} {a b : HSt} (h : Fr X a b) {q : Nat} (hq : ¬ X q) : gA b q = gA a q := (h.2.2 q hq).2.2.1
theorem Fr.J {X : Nat → Prop} {a b : HSt} (h : Fr X a b) {q : Nat} (hq : ¬ X q) : gJ b q = gJ a q := (h.2.2 q hq).2.2.2
theorem Fr.Wf {X : Nat → Prop} {a b : HSt} (h : Fr X a b) (w : Wf a) : Wf b := by
  obtain ⟨w1, w2, w3, w4⟩ := w
  refine ⟨fun q hq => ?_, fun q hq => ?_, fun q hq => ?_, fun q hq => ?_⟩
  · simp only [h.K, h.L, h.R _ (show fin 902 = true from rfl), h.R _ (show fin 903 = true from rfl), h.R _ (show fin 904 = true from rfl)] at hq ⊢; exact w1 q hq
  · simp only [h.K, h.L, h.R _ (show fin 404 = true from rfl), h.R _ (show fin 405 = true from rfl), h.R _ (show fin 406 = true from rfl), h.R _ (show fin 407 = true from rfl), h.R _ (show fin 408 = true from rfl)] at hq ⊢; exact w2 q hq
  · simp only [h.K, h.L, h.R _ (show fin 601 = true from rfl), h.R _ (show fin 602 = true from rfl), h.R _ (show fin 603 = true from rfl), h.R _ (show fin 604 = true from rfl)] at hq ⊢; exact w3 q hq
  · simp only [h.K, h.L, h.R _ (show fin 800 = true from rfl), h.R _ (show fin 803 = true from rfl), h.R _ (show fin 804 = true from rfl)] at hq ⊢; exact w4 q hq
/-! what a frame is of single writes -/
theorem Fr.sA {X : Nat → Prop} {st : HSt} {a i : Nat} {v : Int32} (h : X a) : Fr X st (sA st a i v) := ⟨rfl, fun _ _ _ => rfl, fun b hb => ⟨fun _ => rfl, fun _ => rfl, gA_sA_ne (fun e => hb (e ▸ h)), rfl⟩⟩
theorem Fr.sAf {X : Nat → Prop} {st : HSt} {a : Nat} {g : Nat → Int32} (h : X a) : Fr X st (sAf st a g) := ⟨rfl, fun _ _ _ => rfl, fun b hb => ⟨fun _ => rfl, fun _ => rfl, gA_ne (fun e => hb (e ▸ h)), rfl⟩⟩
theorem Fr.sJ {X : Nat → Prop} {st : HSt} {a i : Nat} {v : Int64} (h : X a) : Fr X st (sJ st a i v) := ⟨rfl, fun _ _ _ => rfl, fun b hb => ⟨fun _ => rfl, fun _ => rfl, rfl, gJ_sJ_ne (fun e => hb (e ▸ h))⟩⟩
theorem Fr.sI {X : Nat → Prop} {st : HSt} {f a : Nat} {v : Int32} (h : X a) : Fr X st (sI st f a v) := ⟨rfl, fun _ _ _ => rfl, fun b hb => ⟨fun _ => gI_sI_ne (Or.inr (fun e => hb (e ▸ h))), fun _ => rfl, rfl, rfl⟩⟩
theorem Fr.sR {X : Nat → Prop} {st : HSt} {f a : Nat} {v : Option Nat} (h : X a) (hf : fin f = false) : Fr X st (sR st f a v) := ⟨rfl, fun f2 b h2 => sR_R_ne (Or.inr (fun e => by rw [e, hf] at h2; cases h2)), fun b hb => ⟨fun _ => rfl, fun _ => sR_R_ne (Or.inl (fun e => hb (e ▸ h))), rfl, rfl⟩⟩
/-! a River and a Span hold v -/
def RvR (st : HSt) (r : Nat) (v : Nat → Int32) : Prop := gK st r = 5 ∧ gI st 400 r = v 0 ∧ gI st 401 r = v 2 ∧ gI st 402 r = v 3 ∧ gI st 403 r = v 4 ∧ (∀ s, s < 2 → gA st (r + 1) s = v (8 + 2 * s) ∧ gA st (r + 2) s = v (8 + 2 * s + 1) ∧ gA st (r + 3) s = v (12 + s)) ∧ (∀ f, f < (v 4).toNatClampNeg → gA st (r + 4) f = v (14 + 2 * f) ∧ gA st (r + 5) f = v (14 + 2 * f + 1))
def SnR (st : HSt) (a : Nat) (v : Nat → Int32) : Prop := gK st a = 10 ∧ gI st 901 a = v 1 ∧ (∀ s, s < 2 → gA st (a + 7) s = v (6 + s)) ∧ (∀ s k, s < 2 → k < yN v s → gA st (a + 8) (40 * s + k) = v (126 + 40 * s + k) ∧ gA st (a + 9) (40 * s + k) = v (206 + 40 * s + k))
def SpR (st : HSt) (a r : Nat) (v : Nat → Int32) : Prop := gR st 900 a = some r ∧ RvR st r v ∧ SnR st a v
theorem yN_e {v : Nat → Int32} {s y : Nat} (h : v (6 + s) = nI y) (hy : y ≤ 40) : yN v s = y := by unfold yN; rw [h]; exact nI_clamp (by omega)
section SPANR
variable {st : HSt} {a r : Nat} {v : Nat → Int32}
theorem h_gap (w : Wf st) (h : SpR st a r v) : fh_X9_gap a st = some (st, pGap v) := by
  obtain ⟨hr, ⟨k5, i0, i2, i3, i4, hb, hf⟩, ⟨k10, i1, hy, hl⟩⟩ := h
  obtain ⟨-, K, R2, L2, R3, L3, R4, L4⟩ := w.1 a k10
  have K7 := K 7 (by omega) (by omega)
  have y0 := hy 0 (by omega); have y1 := hy 1 (by omega)
  unfold fh_X9_gap pGap
  rw [chk_t (isk_t k10), hr, dr_of k5, bs_, R2, dr_of K7, bs_, L2]
  show some (st, gI st 400 r - gA st (a + 7) 0 - gA st (a + 7) 1) = _
  rw [i0, y0, y1]
theorem h_met (w : Wf st) (h : SpR st a r v) : fh_X9_isMet a st = some (st, if pGap v = 0 then 1 else 0) := by
  unfold fh_X9_isMet
  rw [chk_t (isk_t h.2.2.1), h_gap w h, bs_]
  split <;> rfl
theorem h_yardsOf {s : Nat} {x : Int32} (w : Wf st) (h : SpR st a r v) (hx : x = nI s) (hs : s < 2) : fh_X9_yardsOf a x st = some (st, v (6 + s)) := by
  obtain ⟨hr, -, ⟨k10, i1, hy, hl⟩⟩ := h
  obtain ⟨-, K, R2, L2, R3, L3, R4, L4⟩ := w.1 a k10
  subst hx
  unfold fh_X9_yardsOf
  rw [chk_t (isk_t k10), R2, dr_of (K 7 (by omega) (by omega)), bs_, L2, chk_t (inb_n hs (by decide)), nI_clamp (by omega), hy s hs]
theorem ix40 (s y : Nat) : nI s * 40 + nI y = nI (40 * s + y) := by
  show nI s * nI 40 + nI y = _
  rw [pk_mul, nI_add, Nat.mul_comm s 40]
theorem ix40m (s y : Nat) : nI s * 40 + nI (y + 1) - 1 = nI (40 * s + y) := by
  rw [ix40, show 40 * s + (y + 1) = (40 * s + y) + 1 by omega, nI_pred]
theorem h_tipL {s y : Nat} {x : Int32} (w : Wf st) (h : SpR st a r v) (hx : x = nI s) (hs : s < 2) (hv : v (6 + s) = nI y) (hy40 : y ≤ 40) : fh_X9_tipLine a x st = some (st, pTip v s 0) := by
  have hyn := yN_e hv hy40
  obtain ⟨hr, ⟨k5, i0, i2, i3, i4, hb, hf⟩, ⟨k10, i1, hy, hl⟩⟩ := h
  obtain ⟨-, K, R2, L2, R3, L3, R4, L4⟩ := w.1 a k10
  obtain ⟨KR, R404, L1, -⟩ := w.2.1 r k5
  subst hx
  unfold fh_X9_tipLine pTip pAt
  rw [chk_t (isk_t k10), R2, dr_of (K 7 (by omega) (by omega)), bs_, L2, chk_t (inb_n hs (by decide)), nI_clamp (by omega), hy s hs, hv, hyn]
  cases y with
  | zero => rw [if_pos (show nI 0 = 0 from rfl), if_pos rfl, hr, dr_of k5, bs_, R404, dr_of (KR 1 (by omega) (by omega)), bs_, L1, chk_t (inb_n hs (by decide)), (hb s hs).1]; rfl
  | succ y => rw [if_neg (nI_ne0 (by omega) (by omega)), if_neg (by omega), R3, dr_of (K 8 (by omega) (by omega)), bs_, L3, ix40m, chk_t (inb_n (by omega) (by decide)), nI_clamp (by omega), (hl s y hs (by omega)).1, show 126 + 80 * 0 + 40 * s + (y + 1 - 1) = 126 + 40 * s + y by omega]
theorem h_tipH {s y : Nat} {x : Int32} (w : Wf st) (h : SpR st a r v) (hx : x = nI s) (hs : s < 2) (hv : v (6 + s) = nI y) (hy40 : y ≤ 40) : fh_X9_tipHeight a x st = some (st, pTip v s 1) := by
  have hyn := yN_e hv hy40
  obtain ⟨hr, ⟨k5, i0, i2, i3, i4, hb, hf⟩, ⟨k10, i1, hy, hl⟩⟩ := h
  obtain ⟨-, K, R2, L2, R3, L3, R4, L4⟩ := w.1 a k10
  obtain ⟨KR, -, -, R405, L2', -⟩ := w.2.1 r k5
  subst hx
  unfold fh_X9_tipHeight pTip pAt
  rw [chk_t (isk_t k10), R2, dr_of (K 7 (by omega) (by omega)), bs_, L2, chk_t (inb_n hs (by decide)), nI_clamp (by omega), hy s hs, hv, hyn]
  cases y with
  | zero => rw [if_pos (show nI 0 = 0 from rfl), if_pos rfl, hr, dr_of k5, bs_, R405, dr_of (KR 2 (by omega) (by omega)), bs_, L2', chk_t (inb_n hs (by decide)), (hb s hs).2.1]
  | succ y => rw [if_neg (nI_ne0 (by omega) (by omega)), if_neg (by omega), R4, dr_of (K 9 (by omega) (by omega)), bs_, L4, ix40m, chk_t (inb_n (by omega) (by decide)), nI_clamp (by omega), (hl s y hs (by omega)).2, show 206 + 40 * s + y = 126 + 80 * 1 + 40 * s + (y + 1 - 1) by omega]
/-- a place k - 1 (k = 0: ahead of the first YARD) -/
theorem h_lineAt {s y k : Nat} {x z : Int32} (w : Wf st) (h : SpR st a r v) (hx : x = nI s) (hs : s < 2) (hv : v (6 + s) = nI y) (hy40 : y ≤ 40) (hz : z = nI k - 1) (hk : k ≤ y) : fh_X9_lineAt a x z st = some (st, pAt v s k 0) := by
  have hyn := yN_e hv hy40
  obtain ⟨hr, ⟨k5, i0, i2, i3, i4, hb, hf⟩, ⟨k10, i1, hy, hl⟩⟩ := h
  obtain ⟨-, K, R2, L2, R3, L3, R4, L4⟩ := w.1 a k10
  obtain ⟨KR, R404, L1, -⟩ := w.2.1 r k5
  subst hx; subst hz
  unfold fh_X9_lineAt pAt
  cases k with
  | zero => rw [if_pos (show nI 0 - 1 < 0 by decide), if_pos rfl, chk_t (isk_t k10), hr, dr_of k5, bs_, R404, dr_of (KR 1 (by omega) (by omega)), bs_, L1, chk_t (inb_n hs (by decide)), nI_clamp (by omega), (hb s hs).1]; rfl
  | succ k => rw [nI_pred, if_neg (nI_pos (by omega)), chk_t (isk_t k10), R2, dr_of (K 7 (by omega) (by omega)), bs_, L2, chk_t (inb_n hs (by decide)), nI_clamp (by omega), hy s hs, hv, if_pos (nI_lt (by omega) (by omega)), R3, dr_of (K 8 (by omega) (by omega)), bs_, L3, ix40, chk_t (inb_n (by omega) (by decide)), nI_clamp (by omega), (hl s k hs (by omega)).1, if_neg (by omega), show 126 + 80 * 0 + 40 * s + (k + 1 - 1) = 126 + 40 * s + k by omega]
theorem h_heightAt {s y k : Nat} {x z : Int32} (w : Wf st) (h : SpR st a r v) (hx : x = nI s) (hs : s < 2) (hv : v (6 + s) = nI y) (hy40 : y ≤ 40) (hz : z = nI k - 1) (hk : k ≤ y) : fh_X9_heightAt a x z st = some (st, pAt v s k 1) := by
  have hyn := yN_e hv hy40
  obtain ⟨hr, ⟨k5, i0, i2, i3, i4, hb, hf⟩, ⟨k10, i1, hy, hl⟩⟩ := h
  obtain ⟨-, K, R2, L2, R3, L3, R4, L4⟩ := w.1 a k10
  obtain ⟨KR, -, -, R405, L2', -⟩ := w.2.1 r k5
  subst hx; subst hz
  unfold fh_X9_heightAt pAt
  cases k with
  | zero => rw [if_pos (show nI 0 - 1 < 0 by decide), if_pos rfl, chk_t (isk_t k10), hr, dr_of k5, bs_, R405, dr_of (KR 2 (by omega) (by omega)), bs_, L2', chk_t (inb_n hs (by decide)), nI_clamp (by omega), (hb s hs).2.1]
  | succ k => rw [nI_pred, if_neg (nI_pos (by omega)), chk_t (isk_t k10), R2, dr_of (K 7 (by omega) (by omega)), bs_, L2, chk_t (inb_n hs (by decide)), nI_clamp (by omega), hy s hs, hv, if_pos (nI_lt (by omega) (by omega)), R4, dr_of (K 9 (by omega) (by omega)), bs_, L4, ix40, chk_t (inb_n (by omega) (by decide)), nI_clamp (by omega), (hl s k hs (by omega)).2, if_neg (by omega), show 126 + 80 * 1 + 40 * s + (k + 1 - 1) = 206 + 40 * s + k by omega]
theorem n1s {s : Nat} (hs : s < 2) : (1 : Int32) - nI s = nI (1 - s) := by
  rcases (by omega : s = 0 ∨ s = 1) with rfl | rfl <;> rfl
theorem h_seenL {s y : Nat} {x e : Int32} (w : Wf st) (h : SpR st a r v) (hx : x = nI s) (hs : s < 2) (hv : v (6 + (1 - s)) = nI y) (hy40 : y ≤ 40) : fh_X9_seenLine a x e st = some (st, pSee v s e 0) := by
  have ht := h_tipL w h (n1s hs) (by omega) hv hy40
  have hg := h_gap w h
  obtain ⟨hr, ⟨k5, i0, i2, i3, i4, hb, hf⟩, ⟨k10, i1, hy, hl⟩⟩ := h
  obtain ⟨KR, -, -, -, -, R406, L3, -⟩ := w.2.1 r k5
  subst hx
  unfold fh_X9_seenLine pSee
  rw [chk_t (isk_t k10), ht, bs_, chk_t (isk_t k10), hr, dr_of k5, bs_, R406, dr_of (KR 3 (by omega) (by omega)), bs_, L3, chk_t (inb_n hs (by decide)), nI_clamp (by omega), hg, bs_, (hb s hs).2.2, if_pos rfl]
theorem h_seenH {s y : Nat} {x e : Int32} (w : Wf st) (h : SpR st a r v) (hx : x = nI s) (hs : s < 2) (hv : v (6 + (1 - s)) = nI y) (hy40 : y ≤ 40) : fh_X9_seenHeight a x e st = some (st, pSee v s e 1) := by
  have ht := h_tipH w h (n1s hs) (by omega) hv hy40
  have hg := h_gap w h
  obtain ⟨hr, ⟨k5, i0, i2, i3, i4, hb, hf⟩, ⟨k10, i1, hy, hl⟩⟩ := h
  obtain ⟨KR, -, -, -, -, R406, L3, -⟩ := w.2.1 r k5
  subst hx
  unfold fh_X9_seenHeight pSee
  rw [chk_t (isk_t k10), ht, bs_, chk_t (isk_t k10), hr, dr_of k5, bs_, R406, dr_of (KR 3 (by omega) (by omega)), bs_, L3, chk_t (inb_n hs (by decide)), nI_clamp (by omega), hg, bs_, (hb s hs).2.2, if_neg (by omega)]
/-- TURN of the last YARD -/
def pLast (v : Nat → Int32) (s : Nat) : Int32 := if yN v s = 0 then 0 else pAt v s (yN v s) 0 - pAt v s (yN v s - 1) 0
theorem h_lastTurn {s y : Nat} {x : Int32} (w : Wf st) (h : SpR st a r v) (hx : x = nI s) (hs : s < 2) (hv : v (6 + s) = nI y) (hy40 : y ≤ 40) : fh_X9_lastTurn a x st = some (st, pLast v s) := by
  have ht := h_tipL w h hx hs hv hy40
  have hyn := yN_e hv hy40
  have h0 := h
  obtain ⟨hr, ⟨k5, i0, i2, i3, i4, hb, hf⟩, ⟨k10, i1, hy, hl⟩⟩ := h
  obtain ⟨-, K, R2, L2, R3, L3, R4, L4⟩ := w.1 a k10
  unfold fh_X9_lastTurn pLast
  rw [chk_t (isk_t k10), ht, bs_, chk_t (isk_t k10), R2, dr_of (K 7 (by omega) (by omega)), bs_, L2, hx, chk_t (inb_n hs (by decide)), nI_clamp (by omega), hy s hs, hv, hyn]
  cases y with
  | zero =>
    obtain ⟨KR, R404, L1, -⟩ := w.2.1 r k5
    have e : fh_X9_lineAt a (nI s) (nI 0 - 2) st = some (st, pAt v s 0 0) := by
      unfold fh_X9_lineAt pAt
      rw [if_pos (show nI 0 - 2 < 0 by decide), if_pos rfl, chk_t (isk_t k10), hr, dr_of k5, bs_, R404, dr_of (KR 1 (by omega) (by omega)), bs_, L1, chk_t (inb_n hs (by decide)), nI_clamp (by omega), (hb s hs).1]; rfl
    rw [e, bs_, if_pos rfl]
    show some (st, pTip v s 0 - pAt v s 0 0) = _
    unfold pTip
    rw [hyn, Int32.sub_self]
  | succ y =>
    have e : fh_X9_lineAt a (nI s) (nI (y + 1) - 2) st = some (st, pAt v s y 0) := h_lineAt (k := y) w h0 rfl hs hv hy40 (by rw [show (2 : Int32) = 1 + 1 from rfl, ← Int32.sub_sub, nI_pred]) (by omega)
    rw [e, bs_, if_neg (by omega)]
    unfold pTip
    rw [hyn]
    rfl
end SPANR
