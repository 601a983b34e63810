/-! zigzag (reference) -/
def mXk (k : Nat) : Bool := k == 32 || k == 33
theorem mXk_q : ∀ k, mXk k = true → mXq k = true := fun k h => by
  unfold mXk at h; unfold mXq; simp only [Bool.or_eq_true, Bool.and_eq_true, decide_eq_true_eq, beq_iff_eq] at h ⊢; omega
theorem mXe_q : ∀ k, mXe k = true → mXq k = true := fun k h => by
  unfold mXe at h; unfold mXq; simp only [Bool.or_eq_true, Bool.and_eq_true, decide_eq_true_eq, beq_iff_eq] at h ⊢; omega
def HasD (ms : MSt) (a : Nat → Int32) (d : Nat) : Prop := ∀ s, s < 2 → ms.2.1 32 (2 * d + s) = a (6 + s) ∧ ∀ k w, k < yN a s → w < 2 → ms.2.1 33 (160 * d + 80 * s + 2 * k + w) = pAt a s (k + 1) w
theorem m_kd1 {m : MSt} {v : Nat → Int32} {d s k : Nat} (hv : m.2.1 26 = v) (hd : d ≤ 300) (hs : s < 2) (hk : k < 40) : ∃ y : Int32 × MSt, iter (fun x : (Int32 × MSt) => fm_keepsDay_s44 (nI d) (nI s) (nI k) x.1 x.2) mFuel ((0 : Int32), m) = some (.inr y) ∧ y.2 = msa (msa m 33 (160 * d + 80 * s + 2 * k) (pAt v s (k + 1) 0)) 33 (160 * d + 80 * s + 2 * k + 1) (pAt v s (k + 1) 1) := by
  have ix : ∀ w, (160 : Int32) * nI d + 80 * nI s + 2 * nI k + nI w = nI (160 * d + 80 * s + 2 * k + w) := fun w => by
    show nI 160 * nI d + nI 80 * nI s + nI 2 * nI k + nI w = _
    rw [pk_mul, pk_mul, pk_mul, nI_add, nI_add, nI_add]
  have st : ∀ (w : Nat) (x : MSt), w < 2 → x.2.1 26 = v → fm_keepsDay_s44 (nI d) (nI s) (nI k) (nI w) x = some (.inr (.inl (nI (w + 1), msa x 33 (160 * d + 80 * s + 2 * k + w) (pAt v s (k + 1) w)))) := fun w x hw hx => by
    unfold fm_keepsDay_s44
    rw [if_neg (show ¬ (2 : Int32) ≤ nI w from nI_ge (b := 2) hw (by omega)), m_yardOf (k := k + 1) hx rfl hs (by rw [nI_pred]) (by omega) rfl hw, bs_]
    dsimp only
    rw [ix w, chk_t (inb_n (by omega) (by omega)), nI_clamp (by omega), nI_1]
  have s0 := st 0 m (by omega) hv
  have s1 := st 1 (msa m 33 (160 * d + 80 * s + 2 * k) (pAt v s (k + 1) 0)) (by omega) (by rw [msa_n (by omega)]; exact hv)
  have s2 : fm_keepsDay_s44 (nI d) (nI s) (nI k) (nI 2) (msa (msa m 33 (160 * d + 80 * s + 2 * k) (pAt v s (k + 1) 0)) 33 (160 * d + 80 * s + 2 * k + 1) (pAt v s (k + 1) 1)) = some (.inr (.inr (nI 2, (msa (msa m 33 (160 * d + 80 * s + 2 * k) (pAt v s (k + 1) 0)) 33 (160 * d + 80 * s + 2 * k + 1) (pAt v s (k + 1) 1))))) := by
    unfold fm_keepsDay_s44; rw [if_pos (by decide)]
  obtain ⟨n, hn⟩ := mF2
  refine ⟨(nI 2, msa (msa m 33 (160 * d + 80 * s + 2 * k) (pAt v s (k + 1) 0)) 33 (160 * d + 80 * s + 2 * k + 1) (pAt v s (k + 1) 1)), ?_, rfl⟩
  rw [hn]
  show iter (fun x : (Int32 × MSt) => fm_keepsDay_s44 (nI d) (nI s) (nI k) x.1 x.2) (n + 3) (nI 0, m) = _
  rw [iter_c s0, iter_c s1, iter_x s2]
theorem m_kd2 {m : MSt} {v : Nat → Int32} {d s : Nat} (hv : m.2.1 26 = v) (hd : d ≤ 300) (hs : s < 2) (h6 : v (6 + s) = nI (yN v s)) (hy : yN v s ≤ 40) : ∃ y : Int32 × MSt, iter (fun x : (Int32 × MSt) => fm_keepsDay_s28 (nI d) (nI s) x.1 x.2) mFuel ((0 : Int32), m) = some (.inr y) ∧ MF (fun k => k == 33) m y.2 ∧ (∀ k w, k < yN v s → w < 2 → y.2.2.1 33 (160 * d + 80 * s + 2 * k + w) = pAt v s (k + 1) w) ∧ ∀ i, i < 160 * d + 80 * s → y.2.2.1 33 i = m.2.1 33 i := by
  have e6 : (6 : Int32) + nI s = nI (6 + s) := nI_add 6 s
  refine iter_n (fun k (x : Int32 × MSt) => x.1 = nI k ∧ MF (fun k => k == 33) m x.2 ∧ (∀ q w, q < k → w < 2 → x.2.2.1 33 (160 * d + 80 * s + 2 * q + w) = pAt v s (q + 1) w) ∧ ∀ i, i < 160 * d + 80 * s → x.2.2.1 33 i = m.2.1 33 i) (yN v s) _ ?_ ?_ ⟨rfl, MF.rf, fun _ _ q _ => absurd q (Nat.not_lt_zero _), fun _ _ => rfl⟩ (by omega)
  · rintro k ⟨x1, x⟩ hk ⟨q1, F, A, B⟩
    simp only at q1 F A B
    subst q1
    have hx : x.2.1 26 = v := (F.A 26 rfl).trans hv
    obtain ⟨y, e, y2⟩ := m_kd1 (s := s) (k := k) hx hd hs (by omega)
    refine ⟨(nI (k + 1), y.2), ?_, rfl, ?_, fun q w hq hw => ?_, fun i hi => ?_⟩
    · show fm_keepsDay_s28 (nI d) (nI s) (nI k) x = _
      unfold fm_keepsDay_s28
      rw [e6, chk_t (inb_n (by omega) (by omega)), nI_clamp (by omega), hx, h6, if_neg (nI_ge hk (by omega)), e]
      show fm_keepsDay_j86 (nI d) (nI s) (nI k) y.2 = _
      unfold fm_keepsDay_j86
      rw [nI_1]
    · rw [y2]; exact (F.tr (MF.msa rfl)).tr (MF.msa rfl)
    · show y.2.2.1 33 _ = _
      rw [y2, msa_s]
      rcases Nat.lt_or_ge q k with c | c
      · rw [pk_un (by omega), msa_s, pk_un (by omega)]; exact A q w c hw
      · have : q = k := by omega
        subst this
        rcases (by omega : w = 0 ∨ w = 1) with rfl | rfl
        · rw [pk_un (by omega), msa_s]; show upd _ _ _ (160 * d + 80 * s + 2 * q) = _; rw [pk_us]
        · rw [pk_us]
    · show y.2.2.1 33 i = _
      rw [y2, msa_s, pk_un (by omega), msa_s, pk_un (by omega)]; exact B i hi
  · rintro ⟨x1, x⟩ ⟨q1, F, A, B⟩
    simp only at q1 F A B
    subst q1
    have hx : x.2.1 26 = v := (F.A 26 rfl).trans hv
    refine ⟨(nI (yN v s), x), ?_, F, A, B⟩
    show fm_keepsDay_s28 (nI d) (nI s) (nI (yN v s)) x = _
    unfold fm_keepsDay_s28
    rw [e6, chk_t (inb_n (by omega) (by omega)), nI_clamp (by omega), hx, h6, if_pos (nI_le (Nat.le_refl _) (by omega))]
theorem VOk.y6 {D : Nat} {v : Nat → Int32} (V : VOk D v) {s : Nat} (hs : s < 2) : v (6 + s) = nI (yN v s) ∧ yN v s ≤ 40 := by
  obtain ⟨w0, y, d, sp, fl, h0, h6, -, -, -, hw0, hy, -⟩ := V
  have : y s ≤ 40 := by rcases (by omega : s = 0 ∨ s = 1) with rfl | rfl <;> omega
  have e := yN_e (h6 s hs) this
  rw [e]; exact ⟨h6 s hs, this⟩
theorem m_keepsDay {ms : MSt} {v : Nat → Int32} {d D : Nat} (hv : ms.2.1 26 = v) (V : VOk D v) (hd : d ≤ 300) : ∃ m2, fm_keepsDay (nI d) ms = some m2 ∧ HasD m2 v d ∧ (∀ a e, e < d → (∀ s, s < 2 → yN a s ≤ 40) → HasD ms a e → HasD m2 a e) ∧ MF mXk ms m2 := by
  have e6 : ∀ s, (6 : Int32) + nI s = nI (6 + s) := fun s => nI_add 6 s
  have e2 : ∀ s, (2 : Int32) * nI d + nI s = nI (2 * d + s) := fun s => by show nI 2 * nI d + _ = _; rw [pk_mul, nI_add]
  obtain ⟨y, e, F, A, B, C⟩ : ∃ y : Int32 × MSt, iter (fun x : (Int32 × MSt) => fm_keepsDay_s2 (nI d) x.1 x.2) mFuel ((0 : Int32), ms) = some (.inr y) ∧ MF mXk ms y.2 ∧ HasD y.2 v d ∧ (∀ i, i < 2 * d → y.2.2.1 32 i = ms.2.1 32 i) ∧ ∀ i, i < 160 * d → y.2.2.1 33 i = ms.2.1 33 i := by
    refine iter_n (fun t (x : Int32 × MSt) => x.1 = nI t ∧ MF mXk ms x.2 ∧ (∀ s, s < t → x.2.2.1 32 (2 * d + s) = v (6 + s) ∧ ∀ k w, k < yN v s → w < 2 → x.2.2.1 33 (160 * d + 80 * s + 2 * k + w) = pAt v s (k + 1) w) ∧ (∀ i, i < 2 * d → x.2.2.1 32 i = ms.2.1 32 i) ∧ ∀ i, i < 160 * d → x.2.2.1 33 i = ms.2.1 33 i) 2 _ ?_ ?_ ⟨rfl, MF.rf, fun _ q => absurd q (Nat.not_lt_zero _), fun _ _ => rfl, fun _ _ => rfl⟩ (by omega)
    · rintro t ⟨x1, x⟩ ht ⟨q1, F, A, B, C⟩
      simp only at q1 F A B C
      subst q1
      have hx : x.2.1 26 = v := (F.A 26 rfl).trans hv
      obtain ⟨h6, hy⟩ := V.y6 ht
      have hx2 : (msa x 32 (2 * d + t) (v (6 + t))).2.1 26 = v := by rw [msa_n (by omega)]; exact hx
      obtain ⟨z, e, G, A2, B2⟩ := m_kd2 hx2 hd ht h6 hy
      refine ⟨(nI (t + 1), z.2), ?_, rfl, (F.tr (MF.msa rfl)).tr (G.mo (fun k hk => by unfold mXk; rw [hk, Bool.or_true])), fun s hs => ?_, fun i hi => ?_, fun i hi => ?_⟩
      · show fm_keepsDay_s2 (nI d) (nI t) x = _
        unfold fm_keepsDay_s2
        rw [if_neg (show ¬ (2 : Int32) ≤ nI t from nI_ge (b := 2) ht (by omega)), e6, e2, chk_t (inb_n (by omega) (by omega)), chk_t (inb_n (by omega) (by omega)), nI_clamp (by omega), nI_clamp (by omega), hx, e]
        show fm_keepsDay_j92 (nI d) (nI t) z.2 = _
        unfold fm_keepsDay_j92
        rw [nI_1]
      · show z.2.2.1 32 _ = _ ∧ ∀ k w, k < yN v s → w < 2 → z.2.2.1 33 _ = _
        rw [G.A 32 rfl, msa_s]
        rcases Nat.lt_or_ge s t with c | c
        · obtain ⟨a1, a2⟩ := A s c
          refine ⟨by rw [pk_un (by omega)]; exact a1, fun k w hk hw => ?_⟩
          obtain ⟨-, hys⟩ := V.y6 (s := s) (by omega)
          rw [B2 _ (by omega), msa_n (by omega)]; exact a2 k w hk hw
        · have : s = t := by omega
          subst this
          exact ⟨by rw [pk_us], A2⟩
      · show z.2.2.1 32 i = _
        rw [G.A 32 rfl, msa_s, pk_un (by omega)]; exact B i hi
      · show z.2.2.1 33 i = _
        rw [B2 i (by omega), msa_n (by omega)]; exact C i hi
    · rintro ⟨x1, x⟩ ⟨q1, F, A, B, C⟩
      simp only at q1 F A B C
      subst q1
      refine ⟨(nI 2, x), ?_, F, A, B, C⟩
      show fm_keepsDay_s2 (nI d) (nI 2) x = _
      unfold fm_keepsDay_s2
      rw [if_pos (by decide)]
  refine ⟨y.2, ?_, A, fun a c hc ha H s hs => ?_, F⟩
  · unfold fm_keepsDay
    rw [e]; rfl
  · obtain ⟨b1, b2⟩ := H s hs
    have := ha s hs
    exact ⟨by rw [B _ (by omega)]; exact b1, fun k w hk hw => by rw [C _ (by omega)]; exact b2 k w hk hw⟩
