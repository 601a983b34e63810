/-! straight, spite: one side as it likes; the plain search -/
def pl (t : Int32) : Int32 := (t + 20) * 41 + 0 + 20
def pOth (v : Nat → Int32) (sd : Nat) (u : Option Ru) : Int32 := pPlan v u (1 - sd) (pErr v (1 - sd))
def pFd (v : Nat → Int32) (sd : Nat) (u : Option Ru) (t : Int32) : Nat → Int32 := pEnd (if sd = 0 then pAct (pAct v 0 (pl t)) 1 (pOth v 0 u) else pAct (pAct v 0 (pOth v 1 u)) 1 (pl t))
def hasB (v : Nat → Int32) (sd : Nat) (u : Option Ru) : Bool := if sd = 0 then true else decide (¬ pGap (pAct v 0 (pOth v 1 u)) ≤ 0)
theorem sm20_0 : sm20 0 := ⟨by decide, by decide⟩
theorem pl_ok {t : Int32} (h : sm20 t) : PlOk (pl t) := (pl_of h sm20_0).1
theorem pAct_pl {v : Nat → Int32} {s : Nat} {t : Int32} (h : sm20 t) : pAct v s (pl t) = if pGap v ≤ 0 then v else pBuild v s t 0 := by
  obtain ⟨-, q1, q2⟩ := pl_of h sm20_0
  obtain ⟨n, hn, en⟩ := pl_n h sm20_0
  have q1' : pl t / 41 - 20 = t := q1
  have q2' : pl t - pl t / 41 * 41 - 20 = 0 := q2
  have en' : pl t = nI n := en
  have p0 : ¬ pl t < 0 := by rw [en']; exact nI_pos (by omega)
  have pm : ¬ pl t = -1 := fun z => p0 (by rw [z]; decide)
  unfold pAct
  rw [if_neg pm, if_neg p0, q1', q2']
theorem VOk.fd {D sd : Nat} {v : Nat → Int32} {u : Option Ru} {t : Int32} (V : VOk D v) (h : sm20 t) : VOk (D + 1) (pFd v sd u t) := by
  unfold pFd
  split
  · exact ((V.act (by omega) (pl_ok h)).act (by omega) (plan_ok V)).dend
  · exact ((V.act (by omega) (plan_ok V)).act (by omega) (pl_ok h)).dend
theorem Kp_fd {sd : Nat} {v : Nat → Int32} {u : Option Ru} {t : Int32} : KpR v (pFd v sd u t) := by
  unfold pFd
  split
  · exact ((Kp_act (by omega)).tr (Kp_act (by omega))).tr Kp_end
  · exact ((Kp_act (by omega)).tr (Kp_act (by omega))).tr Kp_end
theorem fd_hi {D sd i : Nat} {v : Nat → Int32} {u : Option Ru} {t : Int32} (V : VOk D v) (h : sm20 t) (hi : 286 ≤ i) : pFd v sd u t i = v i := by
  unfold pFd
  rw [end_hi hi]
  split
  · rw [act_hi (V.act (by omega) (pl_ok h)) (by omega) hi, act_hi V (by omega) hi]
  · rw [act_hi (V.act (s := 0) (p := pOth v 1 u) (by omega) (plan_ok V)) (by omega) hi, act_hi V (by omega) hi]
/-- where it can't build, the TURN does not matter -/
theorem fd_ind {sd : Nat} {v : Nat → Int32} {u : Option Ru} {t t2 : Int32} (h : hasB v sd u = false) (ht : sm20 t) (ht2 : sm20 t2) : pFd v sd u t = pFd v sd u t2 := by
  unfold hasB at h
  by_cases s0 : sd = 0
  · rw [if_pos s0] at h; cases h
  · rw [if_neg s0] at h
    have hg : pGap (pAct v 0 (pOth v 1 u)) ≤ 0 := by
      have := of_decide_eq_false h
      exact Classical.not_not.mp this
    unfold pFd
    rw [if_neg s0, if_neg s0, pAct_pl ht, pAct_pl ht2, if_pos hg, if_pos hg]
/-! a day closes two YARDS at most -/
def gp (v : Nat → Int32) : Nat := (pGap v).toNatClampNeg
theorem gp_e {w y0 y1 : Nat} {v : Nat → Int32} (h0 : v 0 = nI w) (h6 : v 6 = nI y0) (h7 : v 7 = nI y1) (h : y0 + y1 ≤ w) (hw : w ≤ 40) : gp v = w - y0 - y1 := by
  unfold gp; rw [pGap_n h0 h6 h7 h, nI_clamp (by omega)]
theorem gp_0 {D : Nat} {v : Nat → Int32} (V : VOk D v) : pGap v = 0 ↔ gp v = 0 := by
  obtain ⟨w, y, d, sp, fl, h0, h6, h1, h2, h4, hw, hy, -⟩ := V
  rw [gp_e h0 (h6 0 (by omega)) (h6 1 (by omega)) hy hw, pGap_n h0 (h6 0 (by omega)) (h6 1 (by omega)) hy]
  constructor
  · intro q; exact (nI_eq (b := 0) (by omega) (by omega)).mp q
  · intro q; rw [q]; rfl
theorem gp_take {D s c : Nat} {v : Nat → Int32} (V : VOk D v) (hs : s < 2) (hc : c ≤ 40) : gp v ≤ gp (pTake v s (nI c)) := by
  have V2 := V.take (c := c) hs hc
  obtain ⟨w, y, d, sp, fl, h0, h6, h1, h2, h4, hw, hy, -⟩ := V
  have hys : y s ≤ 40 := by rcases (by omega : s = 0 ∨ s = 1) with rfl | rfl <;> omega
  rw [gp_e h0 (h6 0 (by omega)) (h6 1 (by omega)) hy hw, pTake_e (h6 s hs) hys hc]
  rcases (by omega : s = 0 ∨ s = 1) with rfl | rfl
  · rw [gp_e (w := w) (y0 := y 0 - c) (y1 := y 1) (by rw [pk_un (by omega)]; exact h0) pk_us (by rw [pk_un (by omega)]; exact h6 1 (by omega)) (by omega) hw]; omega
  · rw [gp_e (w := w) (y0 := y 0) (y1 := y 1 - c) (by rw [pk_un (by omega)]; exact h0) (by rw [pk_un (by omega)]; exact h6 0 (by omega)) pk_us (by omega) hw]; omega
theorem gp_act {D s : Nat} {v : Nat → Int32} {p : Int32} (V : VOk D v) (hs : s < 2) : gp v ≤ gp (pAct v s p) + 1 := by
  unfold pAct
  split
  · have := gp_take (c := 1) V hs (by omega)
    have e : pTake v s (nI 1) = pTake v s 1 := rfl
    rw [e] at this; omega
  · split
    · omega
    · split
      · omega
      · rename_i hg
        obtain ⟨w, y, d, sp, fl, h0, h6, h1, h2, h4, hw, hy, -⟩ := V
        have hyw : y 0 + y 1 < w := by
          rcases Nat.lt_or_ge (y 0 + y 1) w with q | q
          · exact q
          · exfalso; apply hg; rw [pGap_n h0 (h6 0 (by omega)) (h6 1 (by omega)) hy, show w - y 0 - y 1 = 0 by omega]; decide
        rw [gp_e h0 (h6 0 (by omega)) (h6 1 (by omega)) hy hw]
        have b0 : ∀ t r, pBuild v s t r 0 = nI w := fun t r => by rw [Kp_build hs 0 (by omega) (by omega) (by omega) (by omega)]; exact h0
        rcases (by omega : s = 0 ∨ s = 1) with rfl | rfl
        · rw [gp_e (b0 _ _) (build_y (s := 0) (h6 0 (by omega))) (by rw [show (7 : Nat) = 6 + 1 from rfl, build_yo (by omega) (by omega) (by omega)]; exact h6 1 (by omega)) (by omega) hw]; omega
        · rw [gp_e (b0 _ _) (by rw [show (6 : Nat) = 6 + 0 from rfl, build_yo (by omega) (by omega) (by omega)]; exact h6 0 (by omega)) (build_y (s := 1) (h6 1 (by omega))) (by omega) hw]; omega
theorem gp_fld {D fl : Nat} {v : Nat → Int32} (V : VOk D v) (h4 : v 4 = nI fl) (hfl : fl ≤ 8) : ∀ f, f ≤ fl → gp v ≤ gp (pFld v f)
  | 0, _ => Nat.le_refl _
  | f + 1, hf => by
    have ih := gp_fld V h4 hfl f (by omega)
    have Vf := V.fld h4 hfl f (by omega)
    unfold pFld
    split
    · obtain ⟨w, y, d, sp, fl2, -, -, -, -, h42, -, -, -, -, hfl2, -, hc, -⟩ := id V
      have e : fl2 = fl := (nI_eq (by omega) (by omega)).mp (h42.symm.trans h4)
      obtain ⟨c, e1, hc2⟩ := hc f (by omega)
      rw [e1]
      have a := gp_take (c := c) Vf (s := 0) (by omega) (by omega)
      have b := gp_take (c := c) (Vf.take (c := c) (s := 0) (by omega) (by omega)) (s := 1) (by omega) (by omega)
      omega
    · exact ih
theorem gp_end {D : Nat} {v : Nat → Int32} (V : VOk D v) : gp v ≤ gp (pEnd v) := by
  obtain ⟨w, y, d, sp, fl, -, -, -, -, h4, -, -, -, -, hfl, -⟩ := id V
  have := gp_fld V h4 hfl fl (Nat.le_refl _)
  unfold pEnd
  rw [h4, nI_clamp (by omega)]
  have e : gp (upd (pFld v fl) 1 (v 1 + 1)) = gp (pFld v fl) := by
    unfold gp pGap; rw [pk_un (by omega), pk_un (by omega), pk_un (by omega)]
  rw [e]; exact this
theorem gp_fd {D sd : Nat} {v : Nat → Int32} {u : Option Ru} {t : Int32} (V : VOk D v) (h : sm20 t) : gp v ≤ gp (pFd v sd u t) + 2 := by
  unfold pFd
  split
  · have a := gp_act (p := pl t) V (s := 0) (by omega)
    have b := gp_act (p := pOth v 0 u) (V.act (s := 0) (by omega) (pl_ok h)) (s := 1) (by omega)
    have c := gp_end ((V.act (s := 0) (by omega) (pl_ok h)).act (s := 1) (p := pOth v 0 u) (by omega) (plan_ok V))
    omega
  · have a := gp_act (p := pOth v 1 u) V (s := 0) (by omega)
    have b := gp_act (p := pl t) (V.act (s := 0) (p := pOth v 1 u) (by omega) (plan_ok V)) (s := 1) (by omega)
    have c := gp_end ((V.act (s := 0) (p := pOth v 1 u) (by omega) (plan_ok V)).act (s := 1) (by omega) (pl_ok h))
    omega
/-! the search: md = none: straight; some c: spite with c -/
abbrev Ac : Type := Option Nat × (Nat → Int32)
def tv (rc k : Nat) : Int32 := nI k - nI rc
def ab (rc k : Nat) : Nat := if rc ≤ k then k - rc else rc - k
def pru (md : Option Nat) (cost : Nat) (a : Ac) : Bool := match md with
  | some c => decide (c < cost)
  | none => match a.1 with
    | none => false
    | some b => decide (b ≤ cost)
def crN (v : Nat → Int32) (s : Nat) : Nat := (pCrk v s (yN v s)).toNatClampNeg
def rowO (path : Nat → Int32) (g i : Nat) : Int32 := if i < g then path i else -100
def wei (md : Option Nat) (sd : Nat) (v : Nat → Int32) (cost : Nat) (row : Nat → Int32) (a : Ac) : Ac := match md with
  | none => if pTm v = 0 then a else (some cost, row)
  | some _ => match a.1 with
    | none => (some (crN v (1 - sd)), row)
    | some b => if b < crN v (1 - sd) then (some (crN v (1 - sd)), row) else a
def foldK (f : Nat → Ac → Ac) : Nat → Ac → Ac
  | 0, a => a
  | n + 1, a => f n (foldK f n a)
def chi (md : Option Nat) (sd : Nat) (m g cost : Nat) (path : Nat → Int32) (v2 : Nat → Int32) (mark : Int32) (nd : Nat → (Nat → Int32) → (Nat → Int32) → Ac → Ac) (a : Ac) : Ac := if pru md cost a = true then a else if pGap v2 = 0 ∨ m = 0 then wei md sd v2 cost (rowO (upd path g mark) (g + 1)) a else nd cost (upd path g mark) v2 a
def nod (md : Option Nat) (sd rc : Nat) (u : Option Ru) : Nat → Nat → Nat → (Nat → Int32) → (Nat → Int32) → Ac → Ac
  | 0, _, _, _, _, a => a
  | m + 1, g, cost, path, v, a => if hasB v sd u = true then foldK (fun k a => chi md sd m g (cost + ab rc k) path (pFd v sd u (tv rc k)) (tv rc k) (nod md sd rc u m (g + 1)) a) (2 * rc + 1) a else chi md sd m g cost path (pFd v sd u (tv rc 0)) (-100) (nod md sd rc u m (g + 1)) a
theorem tv_s {rc k : Nat} (hr : rc ≤ 2) (hk : k ≤ 2 * rc) : sm20 (tv rc k) := by
  have e : (tv rc k).toInt = (k : Int) - rc := pk_sub_toInt (by omega) (by omega)
  unfold sm20; rw [e]; omega
theorem tv_a {rc k : Nat} (hr : rc ≤ 2) (hk : k ≤ 2 * rc) : pAbs (tv rc k) = nI (ab rc k) := by
  unfold pAbs tv ab
  by_cases h : rc ≤ k
  · rw [if_pos h, pk_sub h, if_pos (nI_pos' (by omega))]
  · rw [if_neg h]
    have n : nI k - nI rc < 0 := pk_sneg (by omega) (by omega)
    rw [if_neg (fun q => Int32.lt_irrefl (Int32.lt_of_lt_of_le n q)), Int32.zero_sub, Int32.neg_sub, pk_sub (by omega)]
theorem foldK_id {f : Nat → Ac → Ac} {a : Ac} : ∀ n, (∀ k, k < n → f k a = a) → foldK f n a = a
  | 0, _ => rfl
  | n + 1, h => by unfold foldK; rw [foldK_id n (fun k hk => h k (by omega))]; exact h n (by omega)
/-- too wide a GAP: nothing is found -/
theorem nod_far {sd rc : Nat} {u : Option Ru} (hr : rc ≤ 2) : ∀ (m g cost D : Nat) (path v : Nat → Int32) (a : Ac), VOk D v → 2 * m < gp v → nod none sd rc u m g cost path v a = a
  | 0, _, _, _, _, _, _, _, _ => rfl
  | m + 1, g, cost, D, path, v, a, V, hg => by
    have ch : ∀ (cost : Nat) (t mark : Int32), sm20 t → chi none sd m g cost path (pFd v sd u t) mark (nod none sd rc u m (g + 1)) a = a := fun cost t mark ht => by
      have V2 := V.fd (sd := sd) (u := u) ht
      have h2 := gp_fd (sd := sd) (u := u) V ht
      have hne : ¬ pGap (pFd v sd u t) = 0 := fun q => by have := (gp_0 V2).mp q; omega
      unfold chi
      split
      · rfl
      · split
        · unfold wei pTm
          dsimp only
          rw [if_neg hne, if_pos rfl]
        · exact nod_far hr m (g + 1) cost (D + 1) _ _ a V2 (by omega)
    unfold nod
    split
    · exact foldK_id _ (fun k hk => ch _ _ _ (tv_s hr (by omega)))
    · exact ch _ _ _ (tv_s hr (by omega))
