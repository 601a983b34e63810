theorem nI_lt7 {j L : Nat} (hL : L ≤ 3584) (h : 7 * j + 7 ≤ L) : ¬ nI L - 7 < nI (7 * j) := by
  have h1 : nI L - 7 = nI (L - 7) := by
    obtain ⟨k, rfl⟩ : ∃ k, L = k + 7 := ⟨L - 7, by omega⟩
    rw [show k + 7 - 7 = k by omega, ← nI_add k 7]
    show nI k + 7 - 7 = nI k
    exact Int32.add_sub_cancel _ _
  rw [h1]
  exact nI_nlt (by omega) (by omega)
theorem nI_ix {j L k : Nat} (hL : L ≤ 3584) (h : 7 * j + 7 ≤ L) (hk : k < 7) : vp_in (nI (7 * j) + nI k) L := by
  rw [nI_add]
  exact vp_in_nI (by omega) (by omega)
theorem nI_lt7r {j L : Nat} (hL : L ≤ 3584) (hj : 7 * j ≤ L) (h : ¬ nI L - 7 < nI (7 * j)) : 7 * j + 7 ≤ L := by
  rcases Nat.lt_or_ge L (7 * j + 7) with q | q
  · exfalso
    apply h
    obtain ⟨d, hd, hd7⟩ : ∃ d, L = 7 * j + d ∧ d < 7 := ⟨L - 7 * j, by omega, by omega⟩
    rw [Int32.lt_iff_toInt_lt, nI_toInt (by omega)]
    have e : (nI L - 7).toInt = (L : Int) - 7 := by
      rw [Int32.toInt_sub, nI_toInt (by omega)]
      show ((L : Int) - 7).bmod (2 ^ 32) = _
      rw [Int.bmod_eq_of_le (by omega) (by omega)]
    rw [e]
    omega
  · exact q
set_option maxHeartbeats 4000000 in
set_option maxRecDepth 100000 in
/-- the law's loop: with any relation of the two states that all calls keep, it comes to its end with 1 -/
theorem law_loop {p : Program} {l : Launch} {e : Env} {s : State} {m : MethodId} {below : List Frame} {meth : Method} {c : Code} {D : va_G} {cy : Nat → ClassId} {b L : Nat} {xs : Nat → Int32} (Rel : Nat → HSt → MSt → Prop) (hRk : ∀ hx hst mst, Rel hx hst mst → gK hst hx = 12) (Z : Sims Rel) (hL : L ≤ 3584) (C0 : lw_At p s m meth c b L xs) {hx0 hm : Nat} {ad : Nat → Nat} :
    ∀ (n j : Nat) (hst : HSt) (mst : MSt) (H : Heap) (locs : List Loc) (ls : Array Slot), 7 * j ≤ L → L ≤ 7 * j + 6 + 7 * n → Rel hx0 hst mst → LI D cy s hm ad hst mst H locs → lv_has ls 4 [(0, .ref b), (1, .ref hx0), (2, .ref hm), (3, .int (nI (7 * j)))] → W p l e room_1 s m #[Value.ref b] below meth c H locs (137 + 13 * j) (60150 + 2709 * j) (lw_Z below #[Value.ref b] s) (F0 m 18 ls []) := by
  obtain ⟨hx, hb, hr, hml, hown, hts0, hX, hbl, hlocks, hgv⟩ := C0
  have hts := fun w h => hts0 w (wsL_law_in w h)
  have hbA : ¬ LA s b := Nat.not_le.mpr hbl
  obtain ⟨z_feed, z_end, z_river, z_rule, z_yard, z_tip, z_err, z_build, z_pull, z_spring, z_miss, z_ahead, z_zigzag, z_whatever, z_straight, z_spite, z_mend, z_ruin, z_erred, z_seed, z_tried, z_leap, z_count, z_image, z_back⟩ := Z
  intro n
  induction n with
  | zero =>
    intro j hst mst H locs ls hj hn hR hI hl
    refine lv_iload_n hx hb dL_law_18 rfl (lv_at hl 3 rfl) ?_
    refine lv_aload_n hx hb dL_law_19 rfl (lv_at hl 0 rfl) ?_
    refine va_slen hx hb hX hbl hbA hI.2.2.2.2.2.2.1 dL_law_20 ?_
    refine lv_bipush (v := 7) hx hb dL_law_21 (by decide) ?_
    refine lv_isub hx hb dL_law_23 ?_
    refine lv_icmp_gt (tgt := 1103) hx hb dL_law_24 (by decide) (fun c1 => ?_) (fun c1 => ?_)
    · refine lv_iconst (v := 1) hx hb dL_law_1103 (by decide) ?_
      refine va_forget (fun q hq => hI.2.2.2.2.2.2.1.2.2 q hq) ?_
      refine W.widen (k := 600000) (n := 7302250) (by omega) (by omega) ?_
      exact lw_ret hx hb hr hlocks dL_law_1104
    · exact absurd (nI_lt7r hL hj c1) (by omega)
  | succ n ih =>
    intro j hst mst H locs ls hj hn hR hI hl
    have contI : ∀ (hst : HSt) (mst : MSt) (H : Heap) (locs : List Loc) (ls : Array Slot), 7 * j + 7 ≤ L → Rel hx0 hst mst → LI D cy s hm ad hst mst H locs → lv_has ls 4 [(0, .ref b), (1, .ref hx0), (2, .ref hm), (3, .int (nI (7 * j)))] → W p l e room_1 s m #[Value.ref b] below meth c H locs (137 + 13 * (j + 1)) (60150 + 2709 * (j + 1)) (lw_Z below #[Value.ref b] s) (F0 m 1097 ls []) := by
      intro hst mst H locs ls hj2 hR hI hl
      refine lv_iinc (v := nI (7 * (j + 1))) (lv' := [(3, .int (nI (7 * (j + 1)))), (0, .ref b), (1, .ref hx0), (2, .ref hm)]) hx hb dL_law_1097 hl (k := 3) rfl (by rw [show 7 * (j + 1) = 7 * j + 7 by omega, ← nI_add]; rfl) (by decide) rfl (fun ls hl => ?_)
      refine lv_goto (tgt := 18) hx hb dL_law_1100 (by decide) ?_
      exact ih (j + 1) hst mst H locs ls (by omega) (by omega) hR hI (lv_sub hl [1, 2, 3, 0] rfl)
    refine lv_iload_n hx hb dL_law_18 rfl (lv_at hl 3 rfl) ?_
    refine lv_aload_n hx hb dL_law_19 rfl (lv_at hl 0 rfl) ?_
    refine va_slen hx hb hX hbl hbA hI.2.2.2.2.2.2.1 dL_law_20 ?_
    refine lv_bipush (v := 7) hx hb dL_law_21 (by decide) ?_
    refine lv_isub hx hb dL_law_23 ?_
    refine lv_icmp_gt (tgt := 1103) hx hb dL_law_24 (by decide) (fun c1 => ?_) (fun c1 => ?_)
    · refine lv_iconst (v := 1) hx hb dL_law_1103 (by decide) ?_
      refine va_forget (fun q hq => hI.2.2.2.2.2.2.1.2.2 q hq) ?_
      refine W.widen (k := 600000) (n := 7302250) (by omega) (by omega) ?_
      exact lw_ret hx hb hr hlocks dL_law_1104
    · have hj2 := nI_lt7r hL hj c1
      have hv0 : vp_in (nI (7 * j)) L := vp_in_nI (by omega) (by omega)
      have hv1 : vp_in (nI (7 * j) + 1) L := nI_ix (k := 1) hL hj2 (by omega)
      have hv2 : vp_in (nI (7 * j) + 2) L := nI_ix (k := 2) hL hj2 (by omega)
      have hv3 : vp_in (nI (7 * j) + 3) L := nI_ix (k := 3) hL hj2 (by omega)
      have hv4 : vp_in (nI (7 * j) + 4) L := nI_ix (k := 4) hL hj2 (by omega)
      have hv5 : vp_in (nI (7 * j) + 5) L := nI_ix (k := 5) hL hj2 (by omega)
      have hv6 : vp_in (nI (7 * j) + 6) L := nI_ix (k := 6) hL hj2 (by omega)
      refine lv_aload_n hx hb dL_law_27 rfl (lv_at hl 0 rfl) ?_
      refine lv_iload_n hx hb dL_law_28 rfl (lv_at hl 3 rfl) ?_
      refine va_sld hx hb hX hbl hbA hI.2.2.2.2.2.2.1 hv0 dL_law_29 ?_
      refine lv_bipush (v := 31) hx hb dL_law_30 (by decide) ?_
      refine lv_iand hx hb dL_law_32 ?_
      refine lv_topi (fun sw esw => ?_)
      by_cases w0 : sw = 0
      · refine lv_tableIn (off := 115) (tgt := 148) hx hb dL_law_33 (by rw [w0]; decide) (by rw [w0]; decide) (by rw [w0]; rfl) (by decide) ?_
        obtain ⟨x1, x2, e1, e2, e3, hR2⟩ := z_feed hx0 hst mst H.size (xs (nI (7 * j) + 1).toNatClampNeg) (xs (nI (7 * j) + 2).toNatClampNeg) (xs (nI (7 * j) + 3).toNatClampNeg) (xs (nI (7 * j) + 4).toNatClampNeg) (xs (nI (7 * j) + 5).toNatClampNeg) hR hI.2.2.2.2.2.2.2.1
        refine lv_aload_n hx hb dL_law_148 rfl (lv_at hl 1 rfl) ?_
        refine lv_aload_n hx hb dL_law_149 rfl (lv_at hl 0 rfl) ?_
        refine lv_iload_n hx hb dL_law_150 rfl (lv_at hl 3 rfl) ?_
        refine lv_iconst (v := 1) hx hb dL_law_151 (by decide) ?_
        refine lv_iadd hx hb dL_law_152 ?_
        refine va_sld hx hb hX hbl hbA hI.2.2.2.2.2.2.1 hv1 dL_law_153 ?_
        refine lv_aload_n hx hb dL_law_154 rfl (lv_at hl 0 rfl) ?_
        refine lv_iload_n hx hb dL_law_155 rfl (lv_at hl 3 rfl) ?_
        refine lv_iconst (v := 2) hx hb dL_law_156 (by decide) ?_
        refine lv_iadd hx hb dL_law_157 ?_
        refine va_sld hx hb hX hbl hbA hI.2.2.2.2.2.2.1 hv2 dL_law_158 ?_
        refine lv_aload_n hx hb dL_law_159 rfl (lv_at hl 0 rfl) ?_
        refine lv_iload_n hx hb dL_law_160 rfl (lv_at hl 3 rfl) ?_
        refine lv_iconst (v := 3) hx hb dL_law_161 (by decide) ?_
        refine lv_iadd hx hb dL_law_162 ?_
        refine va_sld hx hb hX hbl hbA hI.2.2.2.2.2.2.1 hv3 dL_law_163 ?_
        refine lv_aload_n hx hb dL_law_164 rfl (lv_at hl 0 rfl) ?_
        refine lv_iload_n hx hb dL_law_165 rfl (lv_at hl 3 rfl) ?_
        refine lv_iconst (v := 4) hx hb dL_law_166 (by decide) ?_
        refine lv_iadd hx hb dL_law_167 ?_
        refine va_sld hx hb hX hbl hbA hI.2.2.2.2.2.2.1 hv4 dL_law_168 ?_
        refine lv_aload_n hx hb dL_law_169 rfl (lv_at hl 0 rfl) ?_
        refine lv_iload_n hx hb dL_law_170 rfl (lv_at hl 3 rfl) ?_
        refine lv_iconst (v := 5) hx hb dL_law_171 (by decide) ?_
        refine lv_iadd hx hb dL_law_172 ?_
        refine va_sld hx hb hX hbl hbA hI.2.2.2.2.2.2.1 hv5 dL_law_173 ?_
        refine lcall_h (As := [.int (xs (nI (7 * j) + 1).toNatClampNeg), .int (xs (nI (7 * j) + 2).toNatClampNeg), .int (xs (nI (7 * j) + 3).toNatClampNeg), .int (xs (nI (7 * j) + 4).toNatClampNeg), .int (xs (nI (7 * j) + 5).toNatClampNeg)]) (rest := []) (n := 5) ⟨hx, hb, hml, hown, hts⟩ (hRk _ _ _ hR) (ch_X11_feed l D cy hx0 (xs (nI (7 * j) + 1).toNatClampNeg) (xs (nI (7 * j) + 2).toNatClampNeg) (xs (nI (7 * j) + 3).toNatClampNeg) (xs (nI (7 * j) + 4).toNatClampNeg) (xs (nI (7 * j) + 5).toNatClampNeg) (setN hst H.size) x1 e1) (cwV 5 hts gL_law_X11_feed rfl rfl rfl ⟨rfl, nd_X11_feed⟩ ⟨Nat.le_of_ble_eq_true rfl, Nat.le_of_ble_eq_true rfl⟩) hI rfl hl.1 (Nat.le_of_ble_eq_true rfl) dL_law_174 ⟨(show 137 + 13 * j + 0 ≤ 600000 by omega), (show 60150 + 2709 * j + 0 ≤ 7302250 by omega)⟩ (fun H locs hI => ?_)
        refine lv_aload_n hx hb dL_law_177 rfl (lv_at hl 2 rfl) ?_
        refine lv_aload_n hx hb dL_law_178 rfl (lv_at hl 0 rfl) ?_
        refine lv_iload_n hx hb dL_law_179 rfl (lv_at hl 3 rfl) ?_
        refine lv_iconst (v := 1) hx hb dL_law_180 (by decide) ?_
        refine lv_iadd hx hb dL_law_181 ?_
        refine va_sld hx hb hX hbl hbA hI.2.2.2.2.2.2.1 hv1 dL_law_182 ?_
        refine lv_aload_n hx hb dL_law_183 rfl (lv_at hl 0 rfl) ?_
        refine lv_iload_n hx hb dL_law_184 rfl (lv_at hl 3 rfl) ?_
        refine lv_iconst (v := 2) hx hb dL_law_185 (by decide) ?_
        refine lv_iadd hx hb dL_law_186 ?_
        refine va_sld hx hb hX hbl hbA hI.2.2.2.2.2.2.1 hv2 dL_law_187 ?_
        refine lv_aload_n hx hb dL_law_188 rfl (lv_at hl 0 rfl) ?_
        refine lv_iload_n hx hb dL_law_189 rfl (lv_at hl 3 rfl) ?_
        refine lv_iconst (v := 3) hx hb dL_law_190 (by decide) ?_
        refine lv_iadd hx hb dL_law_191 ?_
        refine va_sld hx hb hX hbl hbA hI.2.2.2.2.2.2.1 hv3 dL_law_192 ?_
        refine lv_aload_n hx hb dL_law_193 rfl (lv_at hl 0 rfl) ?_
        refine lv_iload_n hx hb dL_law_194 rfl (lv_at hl 3 rfl) ?_
        refine lv_iconst (v := 4) hx hb dL_law_195 (by decide) ?_
        refine lv_iadd hx hb dL_law_196 ?_
        refine va_sld hx hb hX hbl hbA hI.2.2.2.2.2.2.1 hv4 dL_law_197 ?_
        refine lv_aload_n hx hb dL_law_198 rfl (lv_at hl 0 rfl) ?_
        refine lv_iload_n hx hb dL_law_199 rfl (lv_at hl 3 rfl) ?_
        refine lv_iconst (v := 5) hx hb dL_law_200 (by decide) ?_
        refine lv_iadd hx hb dL_law_201 ?_
        refine va_sld hx hb hX hbl hbA hI.2.2.2.2.2.2.1 hv5 dL_law_202 ?_
        refine lcall_m (As := [.int (xs (nI (7 * j) + 1).toNatClampNeg), .int (xs (nI (7 * j) + 2).toNatClampNeg), .int (xs (nI (7 * j) + 3).toNatClampNeg), .int (xs (nI (7 * j) + 4).toNatClampNeg), .int (xs (nI (7 * j) + 5).toNatClampNeg)]) (rest := [.int x1.2]) (n := 5) ⟨hx, hb, hml, hown, hts⟩ (cm_feed l D hm ad cy (xs (nI (7 * j) + 1).toNatClampNeg) (xs (nI (7 * j) + 2).toNatClampNeg) (xs (nI (7 * j) + 3).toNatClampNeg) (xs (nI (7 * j) + 4).toNatClampNeg) (xs (nI (7 * j) + 5).toNatClampNeg) mst x2 e2 _) (cwV 5 hts gL_law_X12_feed rfl rfl rfl ⟨rfl, nd_feed⟩ ⟨Nat.le_of_ble_eq_true rfl, Nat.le_of_ble_eq_true rfl⟩) hI rfl hl.1 (Nat.le_of_ble_eq_true rfl) dL_law_203 ⟨(show 137 + 13 * j + 0 ≤ 600000 by omega), (show 60150 + 2709 * j + 0 ≤ 7302250 by omega)⟩ (fun H locs hI => ?_)
        refine lv_icmp_eq (tgt := 1097) hx hb dL_law_206 (by decide) (fun c2 => ?_) (fun c2 => absurd e3 c2)
        refine W.widen (k := 137 + 13 * (j + 1)) (n := 60150 + 2709 * (j + 1)) (by omega) (by omega) ?_
        exact contI x1.1 x2.1 H locs ls hj2 hR2 hI hl
      by_cases w1 : sw = 1
      · refine lv_tableIn (off := 178) (tgt := 211) hx hb dL_law_33 (by rw [w1]; decide) (by rw [w1]; decide) (by rw [w1]; rfl) (by decide) ?_
        obtain ⟨x1, x2, e1, e2, e3, hR2⟩ := z_end hx0 hst mst H.size (xs (nI (7 * j) + 1).toNatClampNeg) hR hI.2.2.2.2.2.2.2.1
        refine lv_aload_n hx hb dL_law_211 rfl (lv_at hl 1 rfl) ?_
        refine lv_aload_n hx hb dL_law_212 rfl (lv_at hl 0 rfl) ?_
        refine lv_iload_n hx hb dL_law_213 rfl (lv_at hl 3 rfl) ?_
        refine lv_iconst (v := 1) hx hb dL_law_214 (by decide) ?_
        refine lv_iadd hx hb dL_law_215 ?_
        refine va_sld hx hb hX hbl hbA hI.2.2.2.2.2.2.1 hv1 dL_law_216 ?_
        refine lcall_h (As := [.int (xs (nI (7 * j) + 1).toNatClampNeg)]) (rest := []) (n := 1) ⟨hx, hb, hml, hown, hts⟩ (hRk _ _ _ hR) (ch_X11_end l D cy hx0 (xs (nI (7 * j) + 1).toNatClampNeg) (setN hst H.size) x1 e1) (cwV 1 hts gL_law_X11_end rfl rfl rfl ⟨rfl, nd_X11_end⟩ ⟨Nat.le_of_ble_eq_true rfl, Nat.le_of_ble_eq_true rfl⟩) hI rfl hl.1 (Nat.le_of_ble_eq_true rfl) dL_law_217 ⟨(show 137 + 13 * j + 0 ≤ 600000 by omega), (show 60150 + 2709 * j + 0 ≤ 7302250 by omega)⟩ (fun H locs hI => ?_)
        refine lv_aload_n hx hb dL_law_220 rfl (lv_at hl 2 rfl) ?_
        refine lv_aload_n hx hb dL_law_221 rfl (lv_at hl 0 rfl) ?_
        refine lv_iload_n hx hb dL_law_222 rfl (lv_at hl 3 rfl) ?_
        refine lv_iconst (v := 1) hx hb dL_law_223 (by decide) ?_
        refine lv_iadd hx hb dL_law_224 ?_
        refine va_sld hx hb hX hbl hbA hI.2.2.2.2.2.2.1 hv1 dL_law_225 ?_
        refine lcall_m (As := [.int (xs (nI (7 * j) + 1).toNatClampNeg)]) (rest := [.int x1.2]) (n := 1) ⟨hx, hb, hml, hown, hts⟩ (cm_end l D hm ad cy (xs (nI (7 * j) + 1).toNatClampNeg) mst x2 e2 _) (cwV 1 hts gL_law_X12_end rfl rfl rfl ⟨rfl, nd_end⟩ ⟨Nat.le_of_ble_eq_true rfl, Nat.le_of_ble_eq_true rfl⟩) hI rfl hl.1 (Nat.le_of_ble_eq_true rfl) dL_law_226 ⟨(show 137 + 13 * j + 0 ≤ 600000 by omega), (show 60150 + 2709 * j + 0 ≤ 7302250 by omega)⟩ (fun H locs hI => ?_)
        refine lv_icmp_eq (tgt := 1097) hx hb dL_law_229 (by decide) (fun c2 => ?_) (fun c2 => absurd e3 c2)
        refine W.widen (k := 137 + 13 * (j + 1)) (n := 60150 + 2709 * (j + 1)) (by omega) (by omega) ?_
        exact contI x1.1 x2.1 H locs ls hj2 hR2 hI hl
      by_cases w2 : sw = 2
      · refine lv_tableIn (off := 201) (tgt := 234) hx hb dL_law_33 (by rw [w2]; decide) (by rw [w2]; decide) (by rw [w2]; rfl) (by decide) ?_
        obtain ⟨x1, x2, e1, e2, e3, hR2⟩ := z_river hx0 hst mst H.size  hR hI.2.2.2.2.2.2.2.1
        refine lv_aload_n hx hb dL_law_234 rfl (lv_at hl 1 rfl) ?_
        refine lcall_h (As := []) (rest := []) (n := 0) ⟨hx, hb, hml, hown, hts⟩ (hRk _ _ _ hR) (ch_X11_river l D cy hx0  (setN hst H.size) x1 e1) (cwV 0 hts gL_law_X11_river rfl rfl rfl ⟨rfl, nd_X11_river⟩ ⟨Nat.le_of_ble_eq_true rfl, Nat.le_of_ble_eq_true rfl⟩) hI rfl hl.1 (Nat.le_of_ble_eq_true rfl) dL_law_235 ⟨(show 137 + 13 * j + 6 ≤ 600000 by omega), (show 60150 + 2709 * j + 31 ≤ 7302250 by omega)⟩ (fun H locs hI => ?_)
        refine lv_aload_n hx hb dL_law_238 rfl (lv_at hl 2 rfl) ?_
        refine lcall_m (As := []) (rest := [.int x1.2]) (n := 0) ⟨hx, hb, hml, hown, hts⟩ (cm_river l D hm ad cy  mst x2 e2 _) (cwV 0 hts gL_law_X12_river rfl rfl rfl ⟨rfl, nd_river⟩ ⟨Nat.le_of_ble_eq_true rfl, Nat.le_of_ble_eq_true rfl⟩) hI rfl hl.1 (Nat.le_of_ble_eq_true rfl) dL_law_239 ⟨(show 137 + 13 * j + 6 ≤ 600000 by omega), (show 60150 + 2709 * j + 31 ≤ 7302250 by omega)⟩ (fun H locs hI => ?_)
        refine lv_icmp_eq (tgt := 1097) hx hb dL_law_242 (by decide) (fun c2 => ?_) (fun c2 => absurd e3 c2)
        refine W.widen (k := 137 + 13 * (j + 1)) (n := 60150 + 2709 * (j + 1)) (by omega) (by omega) ?_
        exact contI x1.1 x2.1 H locs ls hj2 hR2 hI hl
      by_cases w3 : sw = 3
      · refine lv_tableIn (off := 214) (tgt := 247) hx hb dL_law_33 (by rw [w3]; decide) (by rw [w3]; decide) (by rw [w3]; rfl) (by decide) ?_
        obtain ⟨x1, x2, e1, e2, e3, hR2⟩ := z_rule hx0 hst mst H.size  hR hI.2.2.2.2.2.2.2.1
        refine lv_aload_n hx hb dL_law_247 rfl (lv_at hl 1 rfl) ?_
        refine lcall_h (As := []) (rest := []) (n := 0) ⟨hx, hb, hml, hown, hts⟩ (hRk _ _ _ hR) (ch_X11_rule l D cy hx0  (setN hst H.size) x1 e1) (cwV 0 hts gL_law_X11_rule rfl rfl rfl ⟨rfl, nd_X11_rule⟩ ⟨Nat.le_of_ble_eq_true rfl, Nat.le_of_ble_eq_true rfl⟩) hI rfl hl.1 (Nat.le_of_ble_eq_true rfl) dL_law_248 ⟨(show 137 + 13 * j + 5 ≤ 600000 by omega), (show 60150 + 2709 * j + 1605 ≤ 7302250 by omega)⟩ (fun H locs hI => ?_)
        refine lv_aload_n hx hb dL_law_251 rfl (lv_at hl 2 rfl) ?_
        refine lcall_m (As := []) (rest := [.int x1.2]) (n := 0) ⟨hx, hb, hml, hown, hts⟩ (cm_rule l D hm ad cy  mst x2 e2 _) (cwV 0 hts gL_law_X12_rule rfl rfl rfl ⟨rfl, nd_rule⟩ ⟨Nat.le_of_ble_eq_true rfl, Nat.le_of_ble_eq_true rfl⟩) hI rfl hl.1 (Nat.le_of_ble_eq_true rfl) dL_law_252 ⟨(show 137 + 13 * j + 5 ≤ 600000 by omega), (show 60150 + 2709 * j + 1605 ≤ 7302250 by omega)⟩ (fun H locs hI => ?_)
        refine lv_icmp_eq (tgt := 1097) hx hb dL_law_255 (by decide) (fun c2 => ?_) (fun c2 => absurd e3 c2)
        refine W.widen (k := 137 + 13 * (j + 1)) (n := 60150 + 2709 * (j + 1)) (by omega) (by omega) ?_
        exact contI x1.1 x2.1 H locs ls hj2 hR2 hI hl
      by_cases w4 : sw = 4
      · refine lv_tableIn (off := 227) (tgt := 260) hx hb dL_law_33 (by rw [w4]; decide) (by rw [w4]; decide) (by rw [w4]; rfl) (by decide) ?_
        obtain ⟨x1, x2, e1, e2, e3, hR2⟩ := z_yard hx0 hst mst H.size (xs (nI (7 * j) + 1).toNatClampNeg) (xs (nI (7 * j) + 2).toNatClampNeg) (xs (nI (7 * j) + 3).toNatClampNeg) hR hI.2.2.2.2.2.2.2.1
        refine lv_aload_n hx hb dL_law_260 rfl (lv_at hl 1 rfl) ?_
        refine lv_aload_n hx hb dL_law_261 rfl (lv_at hl 0 rfl) ?_
        refine lv_iload_n hx hb dL_law_262 rfl (lv_at hl 3 rfl) ?_
        refine lv_iconst (v := 1) hx hb dL_law_263 (by decide) ?_
        refine lv_iadd hx hb dL_law_264 ?_
        refine va_sld hx hb hX hbl hbA hI.2.2.2.2.2.2.1 hv1 dL_law_265 ?_
        refine lv_aload_n hx hb dL_law_266 rfl (lv_at hl 0 rfl) ?_
        refine lv_iload_n hx hb dL_law_267 rfl (lv_at hl 3 rfl) ?_
        refine lv_iconst (v := 2) hx hb dL_law_268 (by decide) ?_
        refine lv_iadd hx hb dL_law_269 ?_
        refine va_sld hx hb hX hbl hbA hI.2.2.2.2.2.2.1 hv2 dL_law_270 ?_
        refine lv_aload_n hx hb dL_law_271 rfl (lv_at hl 0 rfl) ?_
        refine lv_iload_n hx hb dL_law_272 rfl (lv_at hl 3 rfl) ?_
        refine lv_iconst (v := 3) hx hb dL_law_273 (by decide) ?_
        refine lv_iadd hx hb dL_law_274 ?_
        refine va_sld hx hb hX hbl hbA hI.2.2.2.2.2.2.1 hv3 dL_law_275 ?_
        refine lcall_h (As := [.int (xs (nI (7 * j) + 1).toNatClampNeg), .int (xs (nI (7 * j) + 2).toNatClampNeg), .int (xs (nI (7 * j) + 3).toNatClampNeg)]) (rest := []) (n := 3) ⟨hx, hb, hml, hown, hts⟩ (hRk _ _ _ hR) (ch_X11_yard l D cy hx0 (xs (nI (7 * j) + 1).toNatClampNeg) (xs (nI (7 * j) + 2).toNatClampNeg) (xs (nI (7 * j) + 3).toNatClampNeg) (setN hst H.size) x1 e1) (cwV 3 hts gL_law_X11_yard rfl rfl rfl ⟨rfl, nd_X11_yard⟩ ⟨Nat.le_of_ble_eq_true rfl, Nat.le_of_ble_eq_true rfl⟩) hI rfl hl.1 (Nat.le_of_ble_eq_true rfl) dL_law_276 ⟨(show 137 + 13 * j + 0 ≤ 600000 by omega), (show 60150 + 2709 * j + 0 ≤ 7302250 by omega)⟩ (fun H locs hI => ?_)
        refine lv_aload_n hx hb dL_law_279 rfl (lv_at hl 2 rfl) ?_
        refine lv_aload_n hx hb dL_law_280 rfl (lv_at hl 0 rfl) ?_
        refine lv_iload_n hx hb dL_law_281 rfl (lv_at hl 3 rfl) ?_
        refine lv_iconst (v := 1) hx hb dL_law_282 (by decide) ?_
        refine lv_iadd hx hb dL_law_283 ?_
        refine va_sld hx hb hX hbl hbA hI.2.2.2.2.2.2.1 hv1 dL_law_284 ?_
        refine lv_aload_n hx hb dL_law_285 rfl (lv_at hl 0 rfl) ?_
        refine lv_iload_n hx hb dL_law_286 rfl (lv_at hl 3 rfl) ?_
        refine lv_iconst (v := 2) hx hb dL_law_287 (by decide) ?_
        refine lv_iadd hx hb dL_law_288 ?_
        refine va_sld hx hb hX hbl hbA hI.2.2.2.2.2.2.1 hv2 dL_law_289 ?_
        refine lv_aload_n hx hb dL_law_290 rfl (lv_at hl 0 rfl) ?_
        refine lv_iload_n hx hb dL_law_291 rfl (lv_at hl 3 rfl) ?_
        refine lv_iconst (v := 3) hx hb dL_law_292 (by decide) ?_
        refine lv_iadd hx hb dL_law_293 ?_
        refine va_sld hx hb hX hbl hbA hI.2.2.2.2.2.2.1 hv3 dL_law_294 ?_
        refine lcall_m (As := [.int (xs (nI (7 * j) + 1).toNatClampNeg), .int (xs (nI (7 * j) + 2).toNatClampNeg), .int (xs (nI (7 * j) + 3).toNatClampNeg)]) (rest := [.int x1.2]) (n := 3) ⟨hx, hb, hml, hown, hts⟩ (cm_yard l D hm ad cy (xs (nI (7 * j) + 1).toNatClampNeg) (xs (nI (7 * j) + 2).toNatClampNeg) (xs (nI (7 * j) + 3).toNatClampNeg) mst x2 e2 _) (cwV 3 hts gL_law_X12_yard rfl rfl rfl ⟨rfl, nd_yard⟩ ⟨Nat.le_of_ble_eq_true rfl, Nat.le_of_ble_eq_true rfl⟩) hI rfl hl.1 (Nat.le_of_ble_eq_true rfl) dL_law_295 ⟨(show 137 + 13 * j + 0 ≤ 600000 by omega), (show 60150 + 2709 * j + 0 ≤ 7302250 by omega)⟩ (fun H locs hI => ?_)
        refine lv_icmp_eq (tgt := 1097) hx hb dL_law_298 (by decide) (fun c2 => ?_) (fun c2 => absurd e3 c2)
        refine W.widen (k := 137 + 13 * (j + 1)) (n := 60150 + 2709 * (j + 1)) (by omega) (by omega) ?_
        exact contI x1.1 x2.1 H locs ls hj2 hR2 hI hl
      by_cases w5 : sw = 5
      · refine lv_tableIn (off := 270) (tgt := 303) hx hb dL_law_33 (by rw [w5]; decide) (by rw [w5]; decide) (by rw [w5]; rfl) (by decide) ?_
        obtain ⟨x1, x2, e1, e2, e3, hR2⟩ := z_tip hx0 hst mst H.size (xs (nI (7 * j) + 1).toNatClampNeg) (xs (nI (7 * j) + 2).toNatClampNeg) hR hI.2.2.2.2.2.2.2.1
        refine lv_aload_n hx hb dL_law_303 rfl (lv_at hl 1 rfl) ?_
        refine lv_aload_n hx hb dL_law_304 rfl (lv_at hl 0 rfl) ?_
        refine lv_iload_n hx hb dL_law_305 rfl (lv_at hl 3 rfl) ?_
        refine lv_iconst (v := 1) hx hb dL_law_306 (by decide) ?_
        refine lv_iadd hx hb dL_law_307 ?_
        refine va_sld hx hb hX hbl hbA hI.2.2.2.2.2.2.1 hv1 dL_law_308 ?_
        refine lv_aload_n hx hb dL_law_309 rfl (lv_at hl 0 rfl) ?_
        refine lv_iload_n hx hb dL_law_310 rfl (lv_at hl 3 rfl) ?_
        refine lv_iconst (v := 2) hx hb dL_law_311 (by decide) ?_
        refine lv_iadd hx hb dL_law_312 ?_
        refine va_sld hx hb hX hbl hbA hI.2.2.2.2.2.2.1 hv2 dL_law_313 ?_
        refine lcall_h (As := [.int (xs (nI (7 * j) + 1).toNatClampNeg), .int (xs (nI (7 * j) + 2).toNatClampNeg)]) (rest := []) (n := 2) ⟨hx, hb, hml, hown, hts⟩ (hRk _ _ _ hR) (ch_X11_tip l D cy hx0 (xs (nI (7 * j) + 1).toNatClampNeg) (xs (nI (7 * j) + 2).toNatClampNeg) (setN hst H.size) x1 e1) (cwV 2 hts gL_law_X11_tip rfl rfl rfl ⟨rfl, nd_X11_tip⟩ ⟨Nat.le_of_ble_eq_true rfl, Nat.le_of_ble_eq_true rfl⟩) hI rfl hl.1 (Nat.le_of_ble_eq_true rfl) dL_law_314 ⟨(show 137 + 13 * j + 0 ≤ 600000 by omega), (show 60150 + 2709 * j + 0 ≤ 7302250 by omega)⟩ (fun H locs hI => ?_)
        refine lv_aload_n hx hb dL_law_317 rfl (lv_at hl 2 rfl) ?_
        refine lv_aload_n hx hb dL_law_318 rfl (lv_at hl 0 rfl) ?_
        refine lv_iload_n hx hb dL_law_319 rfl (lv_at hl 3 rfl) ?_
        refine lv_iconst (v := 1) hx hb dL_law_320 (by decide) ?_
        refine lv_iadd hx hb dL_law_321 ?_
        refine va_sld hx hb hX hbl hbA hI.2.2.2.2.2.2.1 hv1 dL_law_322 ?_
        refine lv_aload_n hx hb dL_law_323 rfl (lv_at hl 0 rfl) ?_
        refine lv_iload_n hx hb dL_law_324 rfl (lv_at hl 3 rfl) ?_
        refine lv_iconst (v := 2) hx hb dL_law_325 (by decide) ?_
        refine lv_iadd hx hb dL_law_326 ?_
        refine va_sld hx hb hX hbl hbA hI.2.2.2.2.2.2.1 hv2 dL_law_327 ?_
        refine lcall_m (As := [.int (xs (nI (7 * j) + 1).toNatClampNeg), .int (xs (nI (7 * j) + 2).toNatClampNeg)]) (rest := [.int x1.2]) (n := 2) ⟨hx, hb, hml, hown, hts⟩ (cm_tip l D hm ad cy (xs (nI (7 * j) + 1).toNatClampNeg) (xs (nI (7 * j) + 2).toNatClampNeg) mst x2 e2 _) (cwV 2 hts gL_law_X12_tip rfl rfl rfl ⟨rfl, nd_tip⟩ ⟨Nat.le_of_ble_eq_true rfl, Nat.le_of_ble_eq_true rfl⟩) hI rfl hl.1 (Nat.le_of_ble_eq_true rfl) dL_law_328 ⟨(show 137 + 13 * j + 0 ≤ 600000 by omega), (show 60150 + 2709 * j + 0 ≤ 7302250 by omega)⟩ (fun H locs hI => ?_)
        refine lv_icmp_eq (tgt := 1097) hx hb dL_law_331 (by decide) (fun c2 => ?_) (fun c2 => absurd e3 c2)
        refine W.widen (k := 137 + 13 * (j + 1)) (n := 60150 + 2709 * (j + 1)) (by omega) (by omega) ?_
        exact contI x1.1 x2.1 H locs ls hj2 hR2 hI hl
      by_cases w6 : sw = 6
      · refine lv_tableIn (off := 303) (tgt := 336) hx hb dL_law_33 (by rw [w6]; decide) (by rw [w6]; decide) (by rw [w6]; rfl) (by decide) ?_
        obtain ⟨x1, x2, e1, e2, e3, hR2⟩ := z_err hx0 hst mst H.size (xs (nI (7 * j) + 1).toNatClampNeg) (xs (nI (7 * j) + 2).toNatClampNeg) (xs (nI (7 * j) + 3).toNatClampNeg) hR hI.2.2.2.2.2.2.2.1
        refine lv_aload_n hx hb dL_law_336 rfl (lv_at hl 1 rfl) ?_
        refine lv_aload_n hx hb dL_law_337 rfl (lv_at hl 0 rfl) ?_
        refine lv_iload_n hx hb dL_law_338 rfl (lv_at hl 3 rfl) ?_
        refine lv_iconst (v := 1) hx hb dL_law_339 (by decide) ?_
        refine lv_iadd hx hb dL_law_340 ?_
        refine va_sld hx hb hX hbl hbA hI.2.2.2.2.2.2.1 hv1 dL_law_341 ?_
        refine lv_aload_n hx hb dL_law_342 rfl (lv_at hl 0 rfl) ?_
        refine lv_iload_n hx hb dL_law_343 rfl (lv_at hl 3 rfl) ?_
        refine lv_iconst (v := 2) hx hb dL_law_344 (by decide) ?_
        refine lv_iadd hx hb dL_law_345 ?_
        refine va_sld hx hb hX hbl hbA hI.2.2.2.2.2.2.1 hv2 dL_law_346 ?_
        refine lv_aload_n hx hb dL_law_347 rfl (lv_at hl 0 rfl) ?_
        refine lv_iload_n hx hb dL_law_348 rfl (lv_at hl 3 rfl) ?_
        refine lv_iconst (v := 3) hx hb dL_law_349 (by decide) ?_
        refine lv_iadd hx hb dL_law_350 ?_
        refine va_sld hx hb hX hbl hbA hI.2.2.2.2.2.2.1 hv3 dL_law_351 ?_
        refine lcall_h (As := [.int (xs (nI (7 * j) + 1).toNatClampNeg), .int (xs (nI (7 * j) + 2).toNatClampNeg), .int (xs (nI (7 * j) + 3).toNatClampNeg)]) (rest := []) (n := 3) ⟨hx, hb, hml, hown, hts⟩ (hRk _ _ _ hR) (ch_X11_err l D cy hx0 (xs (nI (7 * j) + 1).toNatClampNeg) (xs (nI (7 * j) + 2).toNatClampNeg) (xs (nI (7 * j) + 3).toNatClampNeg) (setN hst H.size) x1 e1) (cwV 3 hts gL_law_X11_err rfl rfl rfl ⟨rfl, nd_X11_err⟩ ⟨Nat.le_of_ble_eq_true rfl, Nat.le_of_ble_eq_true rfl⟩) hI rfl hl.1 (Nat.le_of_ble_eq_true rfl) dL_law_352 ⟨(show 137 + 13 * j + 0 ≤ 600000 by omega), (show 60150 + 2709 * j + 0 ≤ 7302250 by omega)⟩ (fun H locs hI => ?_)
        refine lv_aload_n hx hb dL_law_355 rfl (lv_at hl 2 rfl) ?_
        refine lv_aload_n hx hb dL_law_356 rfl (lv_at hl 0 rfl) ?_
        refine lv_iload_n hx hb dL_law_357 rfl (lv_at hl 3 rfl) ?_
        refine lv_iconst (v := 1) hx hb dL_law_358 (by decide) ?_
        refine lv_iadd hx hb dL_law_359 ?_
        refine va_sld hx hb hX hbl hbA hI.2.2.2.2.2.2.1 hv1 dL_law_360 ?_
        refine lv_aload_n hx hb dL_law_361 rfl (lv_at hl 0 rfl) ?_
        refine lv_iload_n hx hb dL_law_362 rfl (lv_at hl 3 rfl) ?_
        refine lv_iconst (v := 2) hx hb dL_law_363 (by decide) ?_
        refine lv_iadd hx hb dL_law_364 ?_
        refine va_sld hx hb hX hbl hbA hI.2.2.2.2.2.2.1 hv2 dL_law_365 ?_
        refine lv_aload_n hx hb dL_law_366 rfl (lv_at hl 0 rfl) ?_
        refine lv_iload_n hx hb dL_law_367 rfl (lv_at hl 3 rfl) ?_
        refine lv_iconst (v := 3) hx hb dL_law_368 (by decide) ?_
        refine lv_iadd hx hb dL_law_369 ?_
        refine va_sld hx hb hX hbl hbA hI.2.2.2.2.2.2.1 hv3 dL_law_370 ?_
        refine lcall_m (As := [.int (xs (nI (7 * j) + 1).toNatClampNeg), .int (xs (nI (7 * j) + 2).toNatClampNeg), .int (xs (nI (7 * j) + 3).toNatClampNeg)]) (rest := [.int x1.2]) (n := 3) ⟨hx, hb, hml, hown, hts⟩ (cm_err l D hm ad cy (xs (nI (7 * j) + 1).toNatClampNeg) (xs (nI (7 * j) + 2).toNatClampNeg) (xs (nI (7 * j) + 3).toNatClampNeg) mst x2 e2 _) (cwV 3 hts gL_law_X12_err rfl rfl rfl ⟨rfl, nd_err⟩ ⟨Nat.le_of_ble_eq_true rfl, Nat.le_of_ble_eq_true rfl⟩) hI rfl hl.1 (Nat.le_of_ble_eq_true rfl) dL_law_371 ⟨(show 137 + 13 * j + 0 ≤ 600000 by omega), (show 60150 + 2709 * j + 0 ≤ 7302250 by omega)⟩ (fun H locs hI => ?_)
        refine lv_icmp_eq (tgt := 1097) hx hb dL_law_374 (by decide) (fun c2 => ?_) (fun c2 => absurd e3 c2)
        refine W.widen (k := 137 + 13 * (j + 1)) (n := 60150 + 2709 * (j + 1)) (by omega) (by omega) ?_
        exact contI x1.1 x2.1 H locs ls hj2 hR2 hI hl
      by_cases w7 : sw = 7
      · refine lv_tableIn (off := 346) (tgt := 379) hx hb dL_law_33 (by rw [w7]; decide) (by rw [w7]; decide) (by rw [w7]; rfl) (by decide) ?_
        obtain ⟨x1, x2, e1, e2, e3, hR2⟩ := z_build hx0 hst mst H.size (xs (nI (7 * j) + 1).toNatClampNeg) (xs (nI (7 * j) + 2).toNatClampNeg) (xs (nI (7 * j) + 3).toNatClampNeg) hR hI.2.2.2.2.2.2.2.1
        refine lv_aload_n hx hb dL_law_379 rfl (lv_at hl 1 rfl) ?_
        refine lv_aload_n hx hb dL_law_380 rfl (lv_at hl 0 rfl) ?_
        refine lv_iload_n hx hb dL_law_381 rfl (lv_at hl 3 rfl) ?_
        refine lv_iconst (v := 1) hx hb dL_law_382 (by decide) ?_
        refine lv_iadd hx hb dL_law_383 ?_
        refine va_sld hx hb hX hbl hbA hI.2.2.2.2.2.2.1 hv1 dL_law_384 ?_
        refine lv_aload_n hx hb dL_law_385 rfl (lv_at hl 0 rfl) ?_
        refine lv_iload_n hx hb dL_law_386 rfl (lv_at hl 3 rfl) ?_
        refine lv_iconst (v := 2) hx hb dL_law_387 (by decide) ?_
        refine lv_iadd hx hb dL_law_388 ?_
        refine va_sld hx hb hX hbl hbA hI.2.2.2.2.2.2.1 hv2 dL_law_389 ?_
        refine lv_aload_n hx hb dL_law_390 rfl (lv_at hl 0 rfl) ?_
        refine lv_iload_n hx hb dL_law_391 rfl (lv_at hl 3 rfl) ?_
        refine lv_iconst (v := 3) hx hb dL_law_392 (by decide) ?_
        refine lv_iadd hx hb dL_law_393 ?_
        refine va_sld hx hb hX hbl hbA hI.2.2.2.2.2.2.1 hv3 dL_law_394 ?_
        refine lcall_h (As := [.int (xs (nI (7 * j) + 1).toNatClampNeg), .int (xs (nI (7 * j) + 2).toNatClampNeg), .int (xs (nI (7 * j) + 3).toNatClampNeg)]) (rest := []) (n := 3) ⟨hx, hb, hml, hown, hts⟩ (hRk _ _ _ hR) (ch_X11_build l D cy hx0 (xs (nI (7 * j) + 1).toNatClampNeg) (xs (nI (7 * j) + 2).toNatClampNeg) (xs (nI (7 * j) + 3).toNatClampNeg) (setN hst H.size) x1 e1) (cwV 3 hts gL_law_X11_build rfl rfl rfl ⟨rfl, nd_X11_build⟩ ⟨Nat.le_of_ble_eq_true rfl, Nat.le_of_ble_eq_true rfl⟩) hI rfl hl.1 (Nat.le_of_ble_eq_true rfl) dL_law_395 ⟨(show 137 + 13 * j + 0 ≤ 600000 by omega), (show 60150 + 2709 * j + 0 ≤ 7302250 by omega)⟩ (fun H locs hI => ?_)
        refine lv_aload_n hx hb dL_law_398 rfl (lv_at hl 2 rfl) ?_
        refine lv_aload_n hx hb dL_law_399 rfl (lv_at hl 0 rfl) ?_
        refine lv_iload_n hx hb dL_law_400 rfl (lv_at hl 3 rfl) ?_
        refine lv_iconst (v := 1) hx hb dL_law_401 (by decide) ?_
        refine lv_iadd hx hb dL_law_402 ?_
        refine va_sld hx hb hX hbl hbA hI.2.2.2.2.2.2.1 hv1 dL_law_403 ?_
        refine lv_aload_n hx hb dL_law_404 rfl (lv_at hl 0 rfl) ?_
        refine lv_iload_n hx hb dL_law_405 rfl (lv_at hl 3 rfl) ?_
        refine lv_iconst (v := 2) hx hb dL_law_406 (by decide) ?_
        refine lv_iadd hx hb dL_law_407 ?_
        refine va_sld hx hb hX hbl hbA hI.2.2.2.2.2.2.1 hv2 dL_law_408 ?_
        refine lv_aload_n hx hb dL_law_409 rfl (lv_at hl 0 rfl) ?_
        refine lv_iload_n hx hb dL_law_410 rfl (lv_at hl 3 rfl) ?_
        refine lv_iconst (v := 3) hx hb dL_law_411 (by decide) ?_
        refine lv_iadd hx hb dL_law_412 ?_
        refine va_sld hx hb hX hbl hbA hI.2.2.2.2.2.2.1 hv3 dL_law_413 ?_
        refine lcall_m (As := [.int (xs (nI (7 * j) + 1).toNatClampNeg), .int (xs (nI (7 * j) + 2).toNatClampNeg), .int (xs (nI (7 * j) + 3).toNatClampNeg)]) (rest := [.int x1.2]) (n := 3) ⟨hx, hb, hml, hown, hts⟩ (cm_build l D hm ad cy (xs (nI (7 * j) + 1).toNatClampNeg) (xs (nI (7 * j) + 2).toNatClampNeg) (xs (nI (7 * j) + 3).toNatClampNeg) mst x2 e2 _) (cwV 3 hts gL_law_X12_build rfl rfl rfl ⟨rfl, nd_build⟩ ⟨Nat.le_of_ble_eq_true rfl, Nat.le_of_ble_eq_true rfl⟩) hI rfl hl.1 (Nat.le_of_ble_eq_true rfl) dL_law_414 ⟨(show 137 + 13 * j + 0 ≤ 600000 by omega), (show 60150 + 2709 * j + 0 ≤ 7302250 by omega)⟩ (fun H locs hI => ?_)
        refine lv_icmp_eq (tgt := 1097) hx hb dL_law_417 (by decide) (fun c2 => ?_) (fun c2 => absurd e3 c2)
        refine W.widen (k := 137 + 13 * (j + 1)) (n := 60150 + 2709 * (j + 1)) (by omega) (by omega) ?_
        exact contI x1.1 x2.1 H locs ls hj2 hR2 hI hl
      by_cases w8 : sw = 8
      · refine lv_tableIn (off := 389) (tgt := 422) hx hb dL_law_33 (by rw [w8]; decide) (by rw [w8]; decide) (by rw [w8]; rfl) (by decide) ?_
        obtain ⟨x1, x2, e1, e2, e3, hR2⟩ := z_pull hx0 hst mst H.size (xs (nI (7 * j) + 1).toNatClampNeg) hR hI.2.2.2.2.2.2.2.1
        refine lv_aload_n hx hb dL_law_422 rfl (lv_at hl 1 rfl) ?_
        refine lv_aload_n hx hb dL_law_423 rfl (lv_at hl 0 rfl) ?_
        refine lv_iload_n hx hb dL_law_424 rfl (lv_at hl 3 rfl) ?_
        refine lv_iconst (v := 1) hx hb dL_law_425 (by decide) ?_
        refine lv_iadd hx hb dL_law_426 ?_
        refine va_sld hx hb hX hbl hbA hI.2.2.2.2.2.2.1 hv1 dL_law_427 ?_
        refine lcall_h (As := [.int (xs (nI (7 * j) + 1).toNatClampNeg)]) (rest := []) (n := 1) ⟨hx, hb, hml, hown, hts⟩ (hRk _ _ _ hR) (ch_X11_pull l D cy hx0 (xs (nI (7 * j) + 1).toNatClampNeg) (setN hst H.size) x1 e1) (cwV 1 hts gL_law_X11_pull rfl rfl rfl ⟨rfl, nd_X11_pull⟩ ⟨Nat.le_of_ble_eq_true rfl, Nat.le_of_ble_eq_true rfl⟩) hI rfl hl.1 (Nat.le_of_ble_eq_true rfl) dL_law_428 ⟨(show 137 + 13 * j + 0 ≤ 600000 by omega), (show 60150 + 2709 * j + 0 ≤ 7302250 by omega)⟩ (fun H locs hI => ?_)
        refine lv_aload_n hx hb dL_law_431 rfl (lv_at hl 2 rfl) ?_
        refine lv_aload_n hx hb dL_law_432 rfl (lv_at hl 0 rfl) ?_
        refine lv_iload_n hx hb dL_law_433 rfl (lv_at hl 3 rfl) ?_
        refine lv_iconst (v := 1) hx hb dL_law_434 (by decide) ?_
        refine lv_iadd hx hb dL_law_435 ?_
        refine va_sld hx hb hX hbl hbA hI.2.2.2.2.2.2.1 hv1 dL_law_436 ?_
        refine lcall_m (As := [.int (xs (nI (7 * j) + 1).toNatClampNeg)]) (rest := [.int x1.2]) (n := 1) ⟨hx, hb, hml, hown, hts⟩ (cm_pull l D hm ad cy (xs (nI (7 * j) + 1).toNatClampNeg) mst x2 e2 _) (cwV 1 hts gL_law_X12_pull rfl rfl rfl ⟨rfl, nd_pull⟩ ⟨Nat.le_of_ble_eq_true rfl, Nat.le_of_ble_eq_true rfl⟩) hI rfl hl.1 (Nat.le_of_ble_eq_true rfl) dL_law_437 ⟨(show 137 + 13 * j + 0 ≤ 600000 by omega), (show 60150 + 2709 * j + 0 ≤ 7302250 by omega)⟩ (fun H locs hI => ?_)
        refine lv_icmp_eq (tgt := 1097) hx hb dL_law_440 (by decide) (fun c2 => ?_) (fun c2 => absurd e3 c2)
        refine W.widen (k := 137 + 13 * (j + 1)) (n := 60150 + 2709 * (j + 1)) (by omega) (by omega) ?_
        exact contI x1.1 x2.1 H locs ls hj2 hR2 hI hl
      by_cases w9 : sw = 9
      · refine lv_tableIn (off := 412) (tgt := 445) hx hb dL_law_33 (by rw [w9]; decide) (by rw [w9]; decide) (by rw [w9]; rfl) (by decide) ?_
        obtain ⟨x1, x2, e1, e2, e3, hR2⟩ := z_spring hx0 hst mst H.size (xs (nI (7 * j) + 1).toNatClampNeg) (xs (nI (7 * j) + 2).toNatClampNeg) (xs (nI (7 * j) + 3).toNatClampNeg) hR hI.2.2.2.2.2.2.2.1
        refine lv_aload_n hx hb dL_law_445 rfl (lv_at hl 1 rfl) ?_
        refine lv_aload_n hx hb dL_law_446 rfl (lv_at hl 0 rfl) ?_
        refine lv_iload_n hx hb dL_law_447 rfl (lv_at hl 3 rfl) ?_
        refine lv_iconst (v := 1) hx hb dL_law_448 (by decide) ?_
        refine lv_iadd hx hb dL_law_449 ?_
        refine va_sld hx hb hX hbl hbA hI.2.2.2.2.2.2.1 hv1 dL_law_450 ?_
        refine lv_aload_n hx hb dL_law_451 rfl (lv_at hl 0 rfl) ?_
        refine lv_iload_n hx hb dL_law_452 rfl (lv_at hl 3 rfl) ?_
        refine lv_iconst (v := 2) hx hb dL_law_453 (by decide) ?_
        refine lv_iadd hx hb dL_law_454 ?_
        refine va_sld hx hb hX hbl hbA hI.2.2.2.2.2.2.1 hv2 dL_law_455 ?_
        refine lv_aload_n hx hb dL_law_456 rfl (lv_at hl 0 rfl) ?_
        refine lv_iload_n hx hb dL_law_457 rfl (lv_at hl 3 rfl) ?_
        refine lv_iconst (v := 3) hx hb dL_law_458 (by decide) ?_
        refine lv_iadd hx hb dL_law_459 ?_
        refine va_sld hx hb hX hbl hbA hI.2.2.2.2.2.2.1 hv3 dL_law_460 ?_
        refine lcall_h (As := [.int (xs (nI (7 * j) + 1).toNatClampNeg), .int (xs (nI (7 * j) + 2).toNatClampNeg), .int (xs (nI (7 * j) + 3).toNatClampNeg)]) (rest := []) (n := 3) ⟨hx, hb, hml, hown, hts⟩ (hRk _ _ _ hR) (ch_X11_spring l D cy hx0 (xs (nI (7 * j) + 1).toNatClampNeg) (xs (nI (7 * j) + 2).toNatClampNeg) (xs (nI (7 * j) + 3).toNatClampNeg) (setN hst H.size) x1 e1) (cwV 3 hts gL_law_X11_spring rfl rfl rfl ⟨rfl, nd_X11_spring⟩ ⟨Nat.le_of_ble_eq_true rfl, Nat.le_of_ble_eq_true rfl⟩) hI rfl hl.1 (Nat.le_of_ble_eq_true rfl) dL_law_461 ⟨(show 137 + 13 * j + 0 ≤ 600000 by omega), (show 60150 + 2709 * j + 0 ≤ 7302250 by omega)⟩ (fun H locs hI => ?_)
        refine lv_aload_n hx hb dL_law_464 rfl (lv_at hl 2 rfl) ?_
        refine lv_aload_n hx hb dL_law_465 rfl (lv_at hl 0 rfl) ?_
        refine lv_iload_n hx hb dL_law_466 rfl (lv_at hl 3 rfl) ?_
        refine lv_iconst (v := 1) hx hb dL_law_467 (by decide) ?_
        refine lv_iadd hx hb dL_law_468 ?_
        refine va_sld hx hb hX hbl hbA hI.2.2.2.2.2.2.1 hv1 dL_law_469 ?_
        refine lv_aload_n hx hb dL_law_470 rfl (lv_at hl 0 rfl) ?_
        refine lv_iload_n hx hb dL_law_471 rfl (lv_at hl 3 rfl) ?_
        refine lv_iconst (v := 2) hx hb dL_law_472 (by decide) ?_
        refine lv_iadd hx hb dL_law_473 ?_
        refine va_sld hx hb hX hbl hbA hI.2.2.2.2.2.2.1 hv2 dL_law_474 ?_
        refine lv_aload_n hx hb dL_law_475 rfl (lv_at hl 0 rfl) ?_
        refine lv_iload_n hx hb dL_law_476 rfl (lv_at hl 3 rfl) ?_
        refine lv_iconst (v := 3) hx hb dL_law_477 (by decide) ?_
        refine lv_iadd hx hb dL_law_478 ?_
        refine va_sld hx hb hX hbl hbA hI.2.2.2.2.2.2.1 hv3 dL_law_479 ?_
        refine lcall_m (As := [.int (xs (nI (7 * j) + 1).toNatClampNeg), .int (xs (nI (7 * j) + 2).toNatClampNeg), .int (xs (nI (7 * j) + 3).toNatClampNeg)]) (rest := [.int x1.2]) (n := 3) ⟨hx, hb, hml, hown, hts⟩ (cm_spring l D hm ad cy (xs (nI (7 * j) + 1).toNatClampNeg) (xs (nI (7 * j) + 2).toNatClampNeg) (xs (nI (7 * j) + 3).toNatClampNeg) mst x2 e2 _) (cwV 3 hts gL_law_X12_spring rfl rfl rfl ⟨rfl, nd_spring⟩ ⟨Nat.le_of_ble_eq_true rfl, Nat.le_of_ble_eq_true rfl⟩) hI rfl hl.1 (Nat.le_of_ble_eq_true rfl) dL_law_480 ⟨(show 137 + 13 * j + 0 ≤ 600000 by omega), (show 60150 + 2709 * j + 0 ≤ 7302250 by omega)⟩ (fun H locs hI => ?_)
        refine lv_icmp_eq (tgt := 1097) hx hb dL_law_483 (by decide) (fun c2 => ?_) (fun c2 => absurd e3 c2)
        refine W.widen (k := 137 + 13 * (j + 1)) (n := 60150 + 2709 * (j + 1)) (by omega) (by omega) ?_
        exact contI x1.1 x2.1 H locs ls hj2 hR2 hI hl
      by_cases w10 : sw = 10
      · refine lv_tableIn (off := 455) (tgt := 488) hx hb dL_law_33 (by rw [w10]; decide) (by rw [w10]; decide) (by rw [w10]; rfl) (by decide) ?_
        obtain ⟨x1, x2, e1, e2, e3, hR2⟩ := z_miss hx0 hst mst H.size (xs (nI (7 * j) + 1).toNatClampNeg) hR hI.2.2.2.2.2.2.2.1
        refine lv_aload_n hx hb dL_law_488 rfl (lv_at hl 1 rfl) ?_
        refine lv_aload_n hx hb dL_law_489 rfl (lv_at hl 0 rfl) ?_
        refine lv_iload_n hx hb dL_law_490 rfl (lv_at hl 3 rfl) ?_
        refine lv_iconst (v := 1) hx hb dL_law_491 (by decide) ?_
        refine lv_iadd hx hb dL_law_492 ?_
        refine va_sld hx hb hX hbl hbA hI.2.2.2.2.2.2.1 hv1 dL_law_493 ?_
        refine lcall_h (As := [.int (xs (nI (7 * j) + 1).toNatClampNeg)]) (rest := []) (n := 1) ⟨hx, hb, hml, hown, hts⟩ (hRk _ _ _ hR) (ch_X11_miss l D cy hx0 (xs (nI (7 * j) + 1).toNatClampNeg) (setN hst H.size) x1 e1) (cwV 1 hts gL_law_X11_miss rfl rfl rfl ⟨rfl, nd_X11_miss⟩ ⟨Nat.le_of_ble_eq_true rfl, Nat.le_of_ble_eq_true rfl⟩) hI rfl hl.1 (Nat.le_of_ble_eq_true rfl) dL_law_494 ⟨(show 137 + 13 * j + 0 ≤ 600000 by omega), (show 60150 + 2709 * j + 0 ≤ 7302250 by omega)⟩ (fun H locs hI => ?_)
        refine lv_aload_n hx hb dL_law_497 rfl (lv_at hl 2 rfl) ?_
        refine lv_aload_n hx hb dL_law_498 rfl (lv_at hl 0 rfl) ?_
        refine lv_iload_n hx hb dL_law_499 rfl (lv_at hl 3 rfl) ?_
        refine lv_iconst (v := 1) hx hb dL_law_500 (by decide) ?_
        refine lv_iadd hx hb dL_law_501 ?_
        refine va_sld hx hb hX hbl hbA hI.2.2.2.2.2.2.1 hv1 dL_law_502 ?_
        refine lcall_m (As := [.int (xs (nI (7 * j) + 1).toNatClampNeg)]) (rest := [.int x1.2]) (n := 1) ⟨hx, hb, hml, hown, hts⟩ (cm_miss l D hm ad cy (xs (nI (7 * j) + 1).toNatClampNeg) mst x2 e2 _) (cwV 1 hts gL_law_X12_miss rfl rfl rfl ⟨rfl, nd_miss⟩ ⟨Nat.le_of_ble_eq_true rfl, Nat.le_of_ble_eq_true rfl⟩) hI rfl hl.1 (Nat.le_of_ble_eq_true rfl) dL_law_503 ⟨(show 137 + 13 * j + 0 ≤ 600000 by omega), (show 60150 + 2709 * j + 0 ≤ 7302250 by omega)⟩ (fun H locs hI => ?_)
        refine lv_icmp_eq (tgt := 1097) hx hb dL_law_506 (by decide) (fun c2 => ?_) (fun c2 => absurd e3 c2)
        refine W.widen (k := 137 + 13 * (j + 1)) (n := 60150 + 2709 * (j + 1)) (by omega) (by omega) ?_
        exact contI x1.1 x2.1 H locs ls hj2 hR2 hI hl
      by_cases w11 : sw = 11
      · refine lv_tableIn (off := 478) (tgt := 511) hx hb dL_law_33 (by rw [w11]; decide) (by rw [w11]; decide) (by rw [w11]; rfl) (by decide) ?_
        obtain ⟨x1, x2, e1, e2, e3, hR2⟩ := z_ahead hx0 hst mst H.size (xs (nI (7 * j) + 1).toNatClampNeg) (xs (nI (7 * j) + 2).toNatClampNeg) (xs (nI (7 * j) + 3).toNatClampNeg) (xs (nI (7 * j) + 4).toNatClampNeg) hR hI.2.2.2.2.2.2.2.1
        refine lv_aload_n hx hb dL_law_511 rfl (lv_at hl 1 rfl) ?_
        refine lv_aload_n hx hb dL_law_512 rfl (lv_at hl 0 rfl) ?_
        refine lv_iload_n hx hb dL_law_513 rfl (lv_at hl 3 rfl) ?_
        refine lv_iconst (v := 1) hx hb dL_law_514 (by decide) ?_
        refine lv_iadd hx hb dL_law_515 ?_
        refine va_sld hx hb hX hbl hbA hI.2.2.2.2.2.2.1 hv1 dL_law_516 ?_
        refine lv_aload_n hx hb dL_law_517 rfl (lv_at hl 0 rfl) ?_
        refine lv_iload_n hx hb dL_law_518 rfl (lv_at hl 3 rfl) ?_
        refine lv_iconst (v := 2) hx hb dL_law_519 (by decide) ?_
        refine lv_iadd hx hb dL_law_520 ?_
        refine va_sld hx hb hX hbl hbA hI.2.2.2.2.2.2.1 hv2 dL_law_521 ?_
        refine lv_aload_n hx hb dL_law_522 rfl (lv_at hl 0 rfl) ?_
        refine lv_iload_n hx hb dL_law_523 rfl (lv_at hl 3 rfl) ?_
        refine lv_iconst (v := 3) hx hb dL_law_524 (by decide) ?_
        refine lv_iadd hx hb dL_law_525 ?_
        refine va_sld hx hb hX hbl hbA hI.2.2.2.2.2.2.1 hv3 dL_law_526 ?_
        refine lv_aload_n hx hb dL_law_527 rfl (lv_at hl 0 rfl) ?_
        refine lv_iload_n hx hb dL_law_528 rfl (lv_at hl 3 rfl) ?_
        refine lv_iconst (v := 4) hx hb dL_law_529 (by decide) ?_
        refine lv_iadd hx hb dL_law_530 ?_
        refine va_sld hx hb hX hbl hbA hI.2.2.2.2.2.2.1 hv4 dL_law_531 ?_
        refine lcall_h (As := [.int (xs (nI (7 * j) + 1).toNatClampNeg), .int (xs (nI (7 * j) + 2).toNatClampNeg), .int (xs (nI (7 * j) + 3).toNatClampNeg), .int (xs (nI (7 * j) + 4).toNatClampNeg)]) (rest := []) (n := 4) ⟨hx, hb, hml, hown, hts⟩ (hRk _ _ _ hR) (ch_X11_ahead l D cy hx0 (xs (nI (7 * j) + 1).toNatClampNeg) (xs (nI (7 * j) + 2).toNatClampNeg) (xs (nI (7 * j) + 3).toNatClampNeg) (xs (nI (7 * j) + 4).toNatClampNeg) (setN hst H.size) x1 e1) (cwV 4 hts gL_law_X11_ahead rfl rfl rfl ⟨rfl, nd_X11_ahead⟩ ⟨Nat.le_of_ble_eq_true rfl, Nat.le_of_ble_eq_true rfl⟩) hI rfl hl.1 (Nat.le_of_ble_eq_true rfl) dL_law_532 ⟨(show 137 + 13 * j + 0 ≤ 600000 by omega), (show 60150 + 2709 * j + 0 ≤ 7302250 by omega)⟩ (fun H locs hI => ?_)
        refine lv_aload_n hx hb dL_law_535 rfl (lv_at hl 2 rfl) ?_
        refine lv_aload_n hx hb dL_law_536 rfl (lv_at hl 0 rfl) ?_
        refine lv_iload_n hx hb dL_law_537 rfl (lv_at hl 3 rfl) ?_
        refine lv_iconst (v := 1) hx hb dL_law_538 (by decide) ?_
        refine lv_iadd hx hb dL_law_539 ?_
        refine va_sld hx hb hX hbl hbA hI.2.2.2.2.2.2.1 hv1 dL_law_540 ?_
        refine lv_aload_n hx hb dL_law_541 rfl (lv_at hl 0 rfl) ?_
        refine lv_iload_n hx hb dL_law_542 rfl (lv_at hl 3 rfl) ?_
        refine lv_iconst (v := 2) hx hb dL_law_543 (by decide) ?_
        refine lv_iadd hx hb dL_law_544 ?_
        refine va_sld hx hb hX hbl hbA hI.2.2.2.2.2.2.1 hv2 dL_law_545 ?_
        refine lv_aload_n hx hb dL_law_546 rfl (lv_at hl 0 rfl) ?_
        refine lv_iload_n hx hb dL_law_547 rfl (lv_at hl 3 rfl) ?_
        refine lv_iconst (v := 3) hx hb dL_law_548 (by decide) ?_
        refine lv_iadd hx hb dL_law_549 ?_
        refine va_sld hx hb hX hbl hbA hI.2.2.2.2.2.2.1 hv3 dL_law_550 ?_
        refine lv_aload_n hx hb dL_law_551 rfl (lv_at hl 0 rfl) ?_
        refine lv_iload_n hx hb dL_law_552 rfl (lv_at hl 3 rfl) ?_
        refine lv_iconst (v := 4) hx hb dL_law_553 (by decide) ?_
        refine lv_iadd hx hb dL_law_554 ?_
        refine va_sld hx hb hX hbl hbA hI.2.2.2.2.2.2.1 hv4 dL_law_555 ?_
        refine lcall_m (As := [.int (xs (nI (7 * j) + 1).toNatClampNeg), .int (xs (nI (7 * j) + 2).toNatClampNeg), .int (xs (nI (7 * j) + 3).toNatClampNeg), .int (xs (nI (7 * j) + 4).toNatClampNeg)]) (rest := [.int x1.2]) (n := 4) ⟨hx, hb, hml, hown, hts⟩ (cm_ahead l D hm ad cy (xs (nI (7 * j) + 1).toNatClampNeg) (xs (nI (7 * j) + 2).toNatClampNeg) (xs (nI (7 * j) + 3).toNatClampNeg) (xs (nI (7 * j) + 4).toNatClampNeg) mst x2 e2 _) (cwV 4 hts gL_law_X12_ahead rfl rfl rfl ⟨rfl, nd_ahead⟩ ⟨Nat.le_of_ble_eq_true rfl, Nat.le_of_ble_eq_true rfl⟩) hI rfl hl.1 (Nat.le_of_ble_eq_true rfl) dL_law_556 ⟨(show 137 + 13 * j + 0 ≤ 600000 by omega), (show 60150 + 2709 * j + 0 ≤ 7302250 by omega)⟩ (fun H locs hI => ?_)
        refine lv_icmp_eq (tgt := 1097) hx hb dL_law_559 (by decide) (fun c2 => ?_) (fun c2 => absurd e3 c2)
        refine W.widen (k := 137 + 13 * (j + 1)) (n := 60150 + 2709 * (j + 1)) (by omega) (by omega) ?_
        exact contI x1.1 x2.1 H locs ls hj2 hR2 hI hl
      by_cases w12 : sw = 12
      · refine lv_tableIn (off := 531) (tgt := 564) hx hb dL_law_33 (by rw [w12]; decide) (by rw [w12]; decide) (by rw [w12]; rfl) (by decide) ?_
        obtain ⟨x1, x2, e1, e2, e3, hR2⟩ := z_zigzag hx0 hst mst H.size (xs (nI (7 * j) + 1).toNatClampNeg) (xs (nI (7 * j) + 2).toNatClampNeg) (xs (nI (7 * j) + 3).toNatClampNeg) hR hI.2.2.2.2.2.2.2.1
        refine lv_aload_n hx hb dL_law_564 rfl (lv_at hl 1 rfl) ?_
        refine lv_aload_n hx hb dL_law_565 rfl (lv_at hl 0 rfl) ?_
        refine lv_iload_n hx hb dL_law_566 rfl (lv_at hl 3 rfl) ?_
        refine lv_iconst (v := 1) hx hb dL_law_567 (by decide) ?_
        refine lv_iadd hx hb dL_law_568 ?_
        refine va_sld hx hb hX hbl hbA hI.2.2.2.2.2.2.1 hv1 dL_law_569 ?_
        refine lv_aload_n hx hb dL_law_570 rfl (lv_at hl 0 rfl) ?_
        refine lv_iload_n hx hb dL_law_571 rfl (lv_at hl 3 rfl) ?_
        refine lv_iconst (v := 2) hx hb dL_law_572 (by decide) ?_
        refine lv_iadd hx hb dL_law_573 ?_
        refine va_sld hx hb hX hbl hbA hI.2.2.2.2.2.2.1 hv2 dL_law_574 ?_
        refine lv_aload_n hx hb dL_law_575 rfl (lv_at hl 0 rfl) ?_
        refine lv_iload_n hx hb dL_law_576 rfl (lv_at hl 3 rfl) ?_
        refine lv_iconst (v := 3) hx hb dL_law_577 (by decide) ?_
        refine lv_iadd hx hb dL_law_578 ?_
        refine va_sld hx hb hX hbl hbA hI.2.2.2.2.2.2.1 hv3 dL_law_579 ?_
        refine lcall_h (As := [.int (xs (nI (7 * j) + 1).toNatClampNeg), .int (xs (nI (7 * j) + 2).toNatClampNeg), .int (xs (nI (7 * j) + 3).toNatClampNeg)]) (rest := []) (n := 3) ⟨hx, hb, hml, hown, hts⟩ (hRk _ _ _ hR) (ch_X11_zigzag l D cy hx0 (xs (nI (7 * j) + 1).toNatClampNeg) (xs (nI (7 * j) + 2).toNatClampNeg) (xs (nI (7 * j) + 3).toNatClampNeg) (setN hst H.size) x1 e1) (cwV 3 hts gL_law_X11_zigzag rfl rfl rfl ⟨rfl, nd_X11_zigzag⟩ ⟨Nat.le_of_ble_eq_true rfl, Nat.le_of_ble_eq_true rfl⟩) hI rfl hl.1 (Nat.le_of_ble_eq_true rfl) dL_law_580 ⟨(show 137 + 13 * j + 1 ≤ 600000 by omega), (show 60150 + 2709 * j + 2709 ≤ 7302250 by omega)⟩ (fun H locs hI => ?_)
        refine lv_aload_n hx hb dL_law_583 rfl (lv_at hl 2 rfl) ?_
        refine lv_aload_n hx hb dL_law_584 rfl (lv_at hl 0 rfl) ?_
        refine lv_iload_n hx hb dL_law_585 rfl (lv_at hl 3 rfl) ?_
        refine lv_iconst (v := 1) hx hb dL_law_586 (by decide) ?_
        refine lv_iadd hx hb dL_law_587 ?_
        refine va_sld hx hb hX hbl hbA hI.2.2.2.2.2.2.1 hv1 dL_law_588 ?_
        refine lv_aload_n hx hb dL_law_589 rfl (lv_at hl 0 rfl) ?_
        refine lv_iload_n hx hb dL_law_590 rfl (lv_at hl 3 rfl) ?_
        refine lv_iconst (v := 2) hx hb dL_law_591 (by decide) ?_
        refine lv_iadd hx hb dL_law_592 ?_
        refine va_sld hx hb hX hbl hbA hI.2.2.2.2.2.2.1 hv2 dL_law_593 ?_
        refine lv_aload_n hx hb dL_law_594 rfl (lv_at hl 0 rfl) ?_
        refine lv_iload_n hx hb dL_law_595 rfl (lv_at hl 3 rfl) ?_
        refine lv_iconst (v := 3) hx hb dL_law_596 (by decide) ?_
        refine lv_iadd hx hb dL_law_597 ?_
        refine va_sld hx hb hX hbl hbA hI.2.2.2.2.2.2.1 hv3 dL_law_598 ?_
        refine lcall_m (As := [.int (xs (nI (7 * j) + 1).toNatClampNeg), .int (xs (nI (7 * j) + 2).toNatClampNeg), .int (xs (nI (7 * j) + 3).toNatClampNeg)]) (rest := [.int x1.2]) (n := 3) ⟨hx, hb, hml, hown, hts⟩ (cm_zigzag l D hm ad cy (xs (nI (7 * j) + 1).toNatClampNeg) (xs (nI (7 * j) + 2).toNatClampNeg) (xs (nI (7 * j) + 3).toNatClampNeg) mst x2 e2 _) (cwV 3 hts gL_law_X12_zigzag rfl rfl rfl ⟨rfl, nd_zigzag⟩ ⟨Nat.le_of_ble_eq_true rfl, Nat.le_of_ble_eq_true rfl⟩) hI rfl hl.1 (Nat.le_of_ble_eq_true rfl) dL_law_599 ⟨(show 137 + 13 * j + 1 ≤ 600000 by omega), (show 60150 + 2709 * j + 2709 ≤ 7302250 by omega)⟩ (fun H locs hI => ?_)
        refine lv_icmp_eq (tgt := 1097) hx hb dL_law_602 (by decide) (fun c2 => ?_) (fun c2 => absurd e3 c2)
        refine W.widen (k := 137 + 13 * (j + 1)) (n := 60150 + 2709 * (j + 1)) (by omega) (by omega) ?_
        exact contI x1.1 x2.1 H locs ls hj2 hR2 hI hl
      by_cases w13 : sw = 13
      · refine lv_tableIn (off := 574) (tgt := 607) hx hb dL_law_33 (by rw [w13]; decide) (by rw [w13]; decide) (by rw [w13]; rfl) (by decide) ?_
        obtain ⟨x1, x2, e1, e2, e3, hR2⟩ := z_whatever hx0 hst mst H.size (xs (nI (7 * j) + 1).toNatClampNeg) (xs (nI (7 * j) + 2).toNatClampNeg) (xs (nI (7 * j) + 3).toNatClampNeg) (xs (nI (7 * j) + 4).toNatClampNeg) (xs (nI (7 * j) + 5).toNatClampNeg) (xs (nI (7 * j) + 6).toNatClampNeg) hR hI.2.2.2.2.2.2.2.1
        refine lv_aload_n hx hb dL_law_607 rfl (lv_at hl 1 rfl) ?_
        refine lv_aload_n hx hb dL_law_608 rfl (lv_at hl 0 rfl) ?_
        refine lv_iload_n hx hb dL_law_609 rfl (lv_at hl 3 rfl) ?_
        refine lv_iconst (v := 1) hx hb dL_law_610 (by decide) ?_
        refine lv_iadd hx hb dL_law_611 ?_
        refine va_sld hx hb hX hbl hbA hI.2.2.2.2.2.2.1 hv1 dL_law_612 ?_
        refine lv_aload_n hx hb dL_law_613 rfl (lv_at hl 0 rfl) ?_
        refine lv_iload_n hx hb dL_law_614 rfl (lv_at hl 3 rfl) ?_
        refine lv_iconst (v := 2) hx hb dL_law_615 (by decide) ?_
        refine lv_iadd hx hb dL_law_616 ?_
        refine va_sld hx hb hX hbl hbA hI.2.2.2.2.2.2.1 hv2 dL_law_617 ?_
        refine lv_aload_n hx hb dL_law_618 rfl (lv_at hl 0 rfl) ?_
        refine lv_iload_n hx hb dL_law_619 rfl (lv_at hl 3 rfl) ?_
        refine lv_iconst (v := 3) hx hb dL_law_620 (by decide) ?_
        refine lv_iadd hx hb dL_law_621 ?_
        refine va_sld hx hb hX hbl hbA hI.2.2.2.2.2.2.1 hv3 dL_law_622 ?_
        refine lv_aload_n hx hb dL_law_623 rfl (lv_at hl 0 rfl) ?_
        refine lv_iload_n hx hb dL_law_624 rfl (lv_at hl 3 rfl) ?_
        refine lv_iconst (v := 4) hx hb dL_law_625 (by decide) ?_
        refine lv_iadd hx hb dL_law_626 ?_
        refine va_sld hx hb hX hbl hbA hI.2.2.2.2.2.2.1 hv4 dL_law_627 ?_
        refine lv_aload_n hx hb dL_law_628 rfl (lv_at hl 0 rfl) ?_
        refine lv_iload_n hx hb dL_law_629 rfl (lv_at hl 3 rfl) ?_
        refine lv_iconst (v := 5) hx hb dL_law_630 (by decide) ?_
        refine lv_iadd hx hb dL_law_631 ?_
        refine va_sld hx hb hX hbl hbA hI.2.2.2.2.2.2.1 hv5 dL_law_632 ?_
        refine lv_aload_n hx hb dL_law_633 rfl (lv_at hl 0 rfl) ?_
        refine lv_iload_n hx hb dL_law_634 rfl (lv_at hl 3 rfl) ?_
        refine lv_bipush (v := 6) hx hb dL_law_635 (by decide) ?_
        refine lv_iadd hx hb dL_law_637 ?_
        refine va_sld hx hb hX hbl hbA hI.2.2.2.2.2.2.1 hv6 dL_law_638 ?_
        refine lcall_h (As := [.int (xs (nI (7 * j) + 1).toNatClampNeg), .int (xs (nI (7 * j) + 2).toNatClampNeg), .int (xs (nI (7 * j) + 3).toNatClampNeg), .int (xs (nI (7 * j) + 4).toNatClampNeg), .int (xs (nI (7 * j) + 5).toNatClampNeg), .int (xs (nI (7 * j) + 6).toNatClampNeg)]) (rest := []) (n := 6) ⟨hx, hb, hml, hown, hts⟩ (hRk _ _ _ hR) (ch_X11_whatever l D cy hx0 (xs (nI (7 * j) + 1).toNatClampNeg) (xs (nI (7 * j) + 2).toNatClampNeg) (xs (nI (7 * j) + 3).toNatClampNeg) (xs (nI (7 * j) + 4).toNatClampNeg) (xs (nI (7 * j) + 5).toNatClampNeg) (xs (nI (7 * j) + 6).toNatClampNeg) (setN hst H.size) x1 e1) (cwV 6 hts gL_law_X11_whatever rfl rfl rfl ⟨rfl, nd_X11_whatever⟩ ⟨Nat.le_of_ble_eq_true rfl, Nat.le_of_ble_eq_true rfl⟩) hI rfl hl.1 (Nat.le_of_ble_eq_true rfl) dL_law_639 ⟨(show 137 + 13 * j + 0 ≤ 600000 by omega), (show 60150 + 2709 * j + 0 ≤ 7302250 by omega)⟩ (fun H locs hI => ?_)
        refine lv_aload_n hx hb dL_law_642 rfl (lv_at hl 2 rfl) ?_
        refine lv_aload_n hx hb dL_law_643 rfl (lv_at hl 0 rfl) ?_
        refine lv_iload_n hx hb dL_law_644 rfl (lv_at hl 3 rfl) ?_
        refine lv_iconst (v := 1) hx hb dL_law_645 (by decide) ?_
        refine lv_iadd hx hb dL_law_646 ?_
        refine va_sld hx hb hX hbl hbA hI.2.2.2.2.2.2.1 hv1 dL_law_647 ?_
        refine lv_aload_n hx hb dL_law_648 rfl (lv_at hl 0 rfl) ?_
        refine lv_iload_n hx hb dL_law_649 rfl (lv_at hl 3 rfl) ?_
        refine lv_iconst (v := 2) hx hb dL_law_650 (by decide) ?_
        refine lv_iadd hx hb dL_law_651 ?_
        refine va_sld hx hb hX hbl hbA hI.2.2.2.2.2.2.1 hv2 dL_law_652 ?_
        refine lv_aload_n hx hb dL_law_653 rfl (lv_at hl 0 rfl) ?_
        refine lv_iload_n hx hb dL_law_654 rfl (lv_at hl 3 rfl) ?_
        refine lv_iconst (v := 3) hx hb dL_law_655 (by decide) ?_
        refine lv_iadd hx hb dL_law_656 ?_
        refine va_sld hx hb hX hbl hbA hI.2.2.2.2.2.2.1 hv3 dL_law_657 ?_
        refine lv_aload_n hx hb dL_law_658 rfl (lv_at hl 0 rfl) ?_
        refine lv_iload_n hx hb dL_law_659 rfl (lv_at hl 3 rfl) ?_
        refine lv_iconst (v := 4) hx hb dL_law_660 (by decide) ?_
        refine lv_iadd hx hb dL_law_661 ?_
        refine va_sld hx hb hX hbl hbA hI.2.2.2.2.2.2.1 hv4 dL_law_662 ?_
        refine lv_aload_n hx hb dL_law_663 rfl (lv_at hl 0 rfl) ?_
        refine lv_iload_n hx hb dL_law_664 rfl (lv_at hl 3 rfl) ?_
        refine lv_iconst (v := 5) hx hb dL_law_665 (by decide) ?_
        refine lv_iadd hx hb dL_law_666 ?_
        refine va_sld hx hb hX hbl hbA hI.2.2.2.2.2.2.1 hv5 dL_law_667 ?_
        refine lv_aload_n hx hb dL_law_668 rfl (lv_at hl 0 rfl) ?_
        refine lv_iload_n hx hb dL_law_669 rfl (lv_at hl 3 rfl) ?_
        refine lv_bipush (v := 6) hx hb dL_law_670 (by decide) ?_
        refine lv_iadd hx hb dL_law_672 ?_
        refine va_sld hx hb hX hbl hbA hI.2.2.2.2.2.2.1 hv6 dL_law_673 ?_
        refine lcall_m (As := [.int (xs (nI (7 * j) + 1).toNatClampNeg), .int (xs (nI (7 * j) + 2).toNatClampNeg), .int (xs (nI (7 * j) + 3).toNatClampNeg), .int (xs (nI (7 * j) + 4).toNatClampNeg), .int (xs (nI (7 * j) + 5).toNatClampNeg), .int (xs (nI (7 * j) + 6).toNatClampNeg)]) (rest := [.int x1.2]) (n := 6) ⟨hx, hb, hml, hown, hts⟩ (cm_whatever l D hm ad cy (xs (nI (7 * j) + 1).toNatClampNeg) (xs (nI (7 * j) + 2).toNatClampNeg) (xs (nI (7 * j) + 3).toNatClampNeg) (xs (nI (7 * j) + 4).toNatClampNeg) (xs (nI (7 * j) + 5).toNatClampNeg) (xs (nI (7 * j) + 6).toNatClampNeg) mst x2 e2 _) (cwV 6 hts gL_law_X12_whatever rfl rfl rfl ⟨rfl, nd_whatever⟩ ⟨Nat.le_of_ble_eq_true rfl, Nat.le_of_ble_eq_true rfl⟩) hI rfl hl.1 (Nat.le_of_ble_eq_true rfl) dL_law_674 ⟨(show 137 + 13 * j + 0 ≤ 600000 by omega), (show 60150 + 2709 * j + 0 ≤ 7302250 by omega)⟩ (fun H locs hI => ?_)
        refine lv_icmp_eq (tgt := 1097) hx hb dL_law_677 (by decide) (fun c2 => ?_) (fun c2 => absurd e3 c2)
        refine W.widen (k := 137 + 13 * (j + 1)) (n := 60150 + 2709 * (j + 1)) (by omega) (by omega) ?_
        exact contI x1.1 x2.1 H locs ls hj2 hR2 hI hl
      by_cases w14 : sw = 14
      · refine lv_tableIn (off := 649) (tgt := 682) hx hb dL_law_33 (by rw [w14]; decide) (by rw [w14]; decide) (by rw [w14]; rfl) (by decide) ?_
        obtain ⟨x1, x2, e1, e2, e3, hR2⟩ := z_straight hx0 hst mst H.size (xs (nI (7 * j) + 1).toNatClampNeg) (xs (nI (7 * j) + 2).toNatClampNeg) (xs (nI (7 * j) + 3).toNatClampNeg) hR hI.2.2.2.2.2.2.2.1
        refine lv_aload_n hx hb dL_law_682 rfl (lv_at hl 1 rfl) ?_
        refine lv_aload_n hx hb dL_law_683 rfl (lv_at hl 0 rfl) ?_
        refine lv_iload_n hx hb dL_law_684 rfl (lv_at hl 3 rfl) ?_
        refine lv_iconst (v := 1) hx hb dL_law_685 (by decide) ?_
        refine lv_iadd hx hb dL_law_686 ?_
        refine va_sld hx hb hX hbl hbA hI.2.2.2.2.2.2.1 hv1 dL_law_687 ?_
        refine lv_aload_n hx hb dL_law_688 rfl (lv_at hl 0 rfl) ?_
        refine lv_iload_n hx hb dL_law_689 rfl (lv_at hl 3 rfl) ?_
        refine lv_iconst (v := 2) hx hb dL_law_690 (by decide) ?_
        refine lv_iadd hx hb dL_law_691 ?_
        refine va_sld hx hb hX hbl hbA hI.2.2.2.2.2.2.1 hv2 dL_law_692 ?_
        refine lv_aload_n hx hb dL_law_693 rfl (lv_at hl 0 rfl) ?_
        refine lv_iload_n hx hb dL_law_694 rfl (lv_at hl 3 rfl) ?_
        refine lv_iconst (v := 3) hx hb dL_law_695 (by decide) ?_
        refine lv_iadd hx hb dL_law_696 ?_
        refine va_sld hx hb hX hbl hbA hI.2.2.2.2.2.2.1 hv3 dL_law_697 ?_
        refine lcall_h (As := [.int (xs (nI (7 * j) + 1).toNatClampNeg), .int (xs (nI (7 * j) + 2).toNatClampNeg), .int (xs (nI (7 * j) + 3).toNatClampNeg)]) (rest := []) (n := 3) ⟨hx, hb, hml, hown, hts⟩ (hRk _ _ _ hR) (ch_X11_straight l D cy hx0 (xs (nI (7 * j) + 1).toNatClampNeg) (xs (nI (7 * j) + 2).toNatClampNeg) (xs (nI (7 * j) + 3).toNatClampNeg) (setN hst H.size) x1 e1) (cwV 3 hts gL_law_X11_straight rfl rfl rfl ⟨rfl, nd_X11_straight⟩ ⟨Nat.le_of_ble_eq_true rfl, Nat.le_of_ble_eq_true rfl⟩) hI rfl hl.1 (Nat.le_of_ble_eq_true rfl) dL_law_698 ⟨(show 137 + 13 * j + 0 ≤ 600000 by omega), (show 60150 + 2709 * j + 0 ≤ 7302250 by omega)⟩ (fun H locs hI => ?_)
        refine lv_aload_n hx hb dL_law_701 rfl (lv_at hl 2 rfl) ?_
        refine lv_aload_n hx hb dL_law_702 rfl (lv_at hl 0 rfl) ?_
        refine lv_iload_n hx hb dL_law_703 rfl (lv_at hl 3 rfl) ?_
        refine lv_iconst (v := 1) hx hb dL_law_704 (by decide) ?_
        refine lv_iadd hx hb dL_law_705 ?_
        refine va_sld hx hb hX hbl hbA hI.2.2.2.2.2.2.1 hv1 dL_law_706 ?_
        refine lv_aload_n hx hb dL_law_707 rfl (lv_at hl 0 rfl) ?_
        refine lv_iload_n hx hb dL_law_708 rfl (lv_at hl 3 rfl) ?_
        refine lv_iconst (v := 2) hx hb dL_law_709 (by decide) ?_
        refine lv_iadd hx hb dL_law_710 ?_
        refine va_sld hx hb hX hbl hbA hI.2.2.2.2.2.2.1 hv2 dL_law_711 ?_
        refine lv_aload_n hx hb dL_law_712 rfl (lv_at hl 0 rfl) ?_
        refine lv_iload_n hx hb dL_law_713 rfl (lv_at hl 3 rfl) ?_
        refine lv_iconst (v := 3) hx hb dL_law_714 (by decide) ?_
        refine lv_iadd hx hb dL_law_715 ?_
        refine va_sld hx hb hX hbl hbA hI.2.2.2.2.2.2.1 hv3 dL_law_716 ?_
        refine lcall_m (As := [.int (xs (nI (7 * j) + 1).toNatClampNeg), .int (xs (nI (7 * j) + 2).toNatClampNeg), .int (xs (nI (7 * j) + 3).toNatClampNeg)]) (rest := [.int x1.2]) (n := 3) ⟨hx, hb, hml, hown, hts⟩ (cm_straight l D hm ad cy (xs (nI (7 * j) + 1).toNatClampNeg) (xs (nI (7 * j) + 2).toNatClampNeg) (xs (nI (7 * j) + 3).toNatClampNeg) mst x2 e2 _) (cwV 3 hts gL_law_X12_straight rfl rfl rfl ⟨rfl, nd_straight⟩ ⟨Nat.le_of_ble_eq_true rfl, Nat.le_of_ble_eq_true rfl⟩) hI rfl hl.1 (Nat.le_of_ble_eq_true rfl) dL_law_717 ⟨(show 137 + 13 * j + 0 ≤ 600000 by omega), (show 60150 + 2709 * j + 0 ≤ 7302250 by omega)⟩ (fun H locs hI => ?_)
        refine lv_icmp_eq (tgt := 1097) hx hb dL_law_720 (by decide) (fun c2 => ?_) (fun c2 => absurd e3 c2)
        refine W.widen (k := 137 + 13 * (j + 1)) (n := 60150 + 2709 * (j + 1)) (by omega) (by omega) ?_
        exact contI x1.1 x2.1 H locs ls hj2 hR2 hI hl
      by_cases w15 : sw = 15
      · refine lv_tableIn (off := 692) (tgt := 725) hx hb dL_law_33 (by rw [w15]; decide) (by rw [w15]; decide) (by rw [w15]; rfl) (by decide) ?_
        obtain ⟨x1, x2, e1, e2, e3, hR2⟩ := z_spite hx0 hst mst H.size (xs (nI (7 * j) + 1).toNatClampNeg) (xs (nI (7 * j) + 2).toNatClampNeg) (xs (nI (7 * j) + 3).toNatClampNeg) (xs (nI (7 * j) + 4).toNatClampNeg) hR hI.2.2.2.2.2.2.2.1
        refine lv_aload_n hx hb dL_law_725 rfl (lv_at hl 1 rfl) ?_
        refine lv_aload_n hx hb dL_law_726 rfl (lv_at hl 0 rfl) ?_
        refine lv_iload_n hx hb dL_law_727 rfl (lv_at hl 3 rfl) ?_
        refine lv_iconst (v := 1) hx hb dL_law_728 (by decide) ?_
        refine lv_iadd hx hb dL_law_729 ?_
        refine va_sld hx hb hX hbl hbA hI.2.2.2.2.2.2.1 hv1 dL_law_730 ?_
        refine lv_aload_n hx hb dL_law_731 rfl (lv_at hl 0 rfl) ?_
        refine lv_iload_n hx hb dL_law_732 rfl (lv_at hl 3 rfl) ?_
        refine lv_iconst (v := 2) hx hb dL_law_733 (by decide) ?_
        refine lv_iadd hx hb dL_law_734 ?_
        refine va_sld hx hb hX hbl hbA hI.2.2.2.2.2.2.1 hv2 dL_law_735 ?_
        refine lv_aload_n hx hb dL_law_736 rfl (lv_at hl 0 rfl) ?_
        refine lv_iload_n hx hb dL_law_737 rfl (lv_at hl 3 rfl) ?_
        refine lv_iconst (v := 3) hx hb dL_law_738 (by decide) ?_
        refine lv_iadd hx hb dL_law_739 ?_
        refine va_sld hx hb hX hbl hbA hI.2.2.2.2.2.2.1 hv3 dL_law_740 ?_
        refine lv_aload_n hx hb dL_law_741 rfl (lv_at hl 0 rfl) ?_
        refine lv_iload_n hx hb dL_law_742 rfl (lv_at hl 3 rfl) ?_
        refine lv_iconst (v := 4) hx hb dL_law_743 (by decide) ?_
        refine lv_iadd hx hb dL_law_744 ?_
        refine va_sld hx hb hX hbl hbA hI.2.2.2.2.2.2.1 hv4 dL_law_745 ?_
        refine lcall_h (As := [.int (xs (nI (7 * j) + 1).toNatClampNeg), .int (xs (nI (7 * j) + 2).toNatClampNeg), .int (xs (nI (7 * j) + 3).toNatClampNeg), .int (xs (nI (7 * j) + 4).toNatClampNeg)]) (rest := []) (n := 4) ⟨hx, hb, hml, hown, hts⟩ (hRk _ _ _ hR) (ch_X11_spite l D cy hx0 (xs (nI (7 * j) + 1).toNatClampNeg) (xs (nI (7 * j) + 2).toNatClampNeg) (xs (nI (7 * j) + 3).toNatClampNeg) (xs (nI (7 * j) + 4).toNatClampNeg) (setN hst H.size) x1 e1) (cwV 4 hts gL_law_X11_spite rfl rfl rfl ⟨rfl, nd_X11_spite⟩ ⟨Nat.le_of_ble_eq_true rfl, Nat.le_of_ble_eq_true rfl⟩) hI rfl hl.1 (Nat.le_of_ble_eq_true rfl) dL_law_746 ⟨(show 137 + 13 * j + 0 ≤ 600000 by omega), (show 60150 + 2709 * j + 0 ≤ 7302250 by omega)⟩ (fun H locs hI => ?_)
        refine lv_aload_n hx hb dL_law_749 rfl (lv_at hl 2 rfl) ?_
        refine lv_aload_n hx hb dL_law_750 rfl (lv_at hl 0 rfl) ?_
        refine lv_iload_n hx hb dL_law_751 rfl (lv_at hl 3 rfl) ?_
        refine lv_iconst (v := 1) hx hb dL_law_752 (by decide) ?_
        refine lv_iadd hx hb dL_law_753 ?_
        refine va_sld hx hb hX hbl hbA hI.2.2.2.2.2.2.1 hv1 dL_law_754 ?_
        refine lv_aload_n hx hb dL_law_755 rfl (lv_at hl 0 rfl) ?_
        refine lv_iload_n hx hb dL_law_756 rfl (lv_at hl 3 rfl) ?_
        refine lv_iconst (v := 2) hx hb dL_law_757 (by decide) ?_
        refine lv_iadd hx hb dL_law_758 ?_
        refine va_sld hx hb hX hbl hbA hI.2.2.2.2.2.2.1 hv2 dL_law_759 ?_
        refine lv_aload_n hx hb dL_law_760 rfl (lv_at hl 0 rfl) ?_
        refine lv_iload_n hx hb dL_law_761 rfl (lv_at hl 3 rfl) ?_
        refine lv_iconst (v := 3) hx hb dL_law_762 (by decide) ?_
        refine lv_iadd hx hb dL_law_763 ?_
        refine va_sld hx hb hX hbl hbA hI.2.2.2.2.2.2.1 hv3 dL_law_764 ?_
        refine lv_aload_n hx hb dL_law_765 rfl (lv_at hl 0 rfl) ?_
        refine lv_iload_n hx hb dL_law_766 rfl (lv_at hl 3 rfl) ?_
        refine lv_iconst (v := 4) hx hb dL_law_767 (by decide) ?_
        refine lv_iadd hx hb dL_law_768 ?_
        refine va_sld hx hb hX hbl hbA hI.2.2.2.2.2.2.1 hv4 dL_law_769 ?_
        refine lcall_m (As := [.int (xs (nI (7 * j) + 1).toNatClampNeg), .int (xs (nI (7 * j) + 2).toNatClampNeg), .int (xs (nI (7 * j) + 3).toNatClampNeg), .int (xs (nI (7 * j) + 4).toNatClampNeg)]) (rest := [.int x1.2]) (n := 4) ⟨hx, hb, hml, hown, hts⟩ (cm_spite l D hm ad cy (xs (nI (7 * j) + 1).toNatClampNeg) (xs (nI (7 * j) + 2).toNatClampNeg) (xs (nI (7 * j) + 3).toNatClampNeg) (xs (nI (7 * j) + 4).toNatClampNeg) mst x2 e2 _) (cwV 4 hts gL_law_X12_spite rfl rfl rfl ⟨rfl, nd_spite⟩ ⟨Nat.le_of_ble_eq_true rfl, Nat.le_of_ble_eq_true rfl⟩) hI rfl hl.1 (Nat.le_of_ble_eq_true rfl) dL_law_770 ⟨(show 137 + 13 * j + 0 ≤ 600000 by omega), (show 60150 + 2709 * j + 0 ≤ 7302250 by omega)⟩ (fun H locs hI => ?_)
        refine lv_icmp_eq (tgt := 1097) hx hb dL_law_773 (by decide) (fun c2 => ?_) (fun c2 => absurd e3 c2)
        refine W.widen (k := 137 + 13 * (j + 1)) (n := 60150 + 2709 * (j + 1)) (by omega) (by omega) ?_
        exact contI x1.1 x2.1 H locs ls hj2 hR2 hI hl
      by_cases w16 : sw = 16
      · refine lv_tableIn (off := 745) (tgt := 778) hx hb dL_law_33 (by rw [w16]; decide) (by rw [w16]; decide) (by rw [w16]; rfl) (by decide) ?_
        obtain ⟨x1, x2, e1, e2, e3, hR2⟩ := z_mend hx0 hst mst H.size (xs (nI (7 * j) + 1).toNatClampNeg) hR hI.2.2.2.2.2.2.2.1
        refine lv_aload_n hx hb dL_law_778 rfl (lv_at hl 1 rfl) ?_
        refine lv_aload_n hx hb dL_law_779 rfl (lv_at hl 0 rfl) ?_
        refine lv_iload_n hx hb dL_law_780 rfl (lv_at hl 3 rfl) ?_
        refine lv_iconst (v := 1) hx hb dL_law_781 (by decide) ?_
        refine lv_iadd hx hb dL_law_782 ?_
        refine va_sld hx hb hX hbl hbA hI.2.2.2.2.2.2.1 hv1 dL_law_783 ?_
        refine lcall_h (As := [.int (xs (nI (7 * j) + 1).toNatClampNeg)]) (rest := []) (n := 1) ⟨hx, hb, hml, hown, hts⟩ (hRk _ _ _ hR) (ch_X11_mend l D cy hx0 (xs (nI (7 * j) + 1).toNatClampNeg) (setN hst H.size) x1 e1) (cwV 1 hts gL_law_X11_mend rfl rfl rfl ⟨rfl, nd_X11_mend⟩ ⟨Nat.le_of_ble_eq_true rfl, Nat.le_of_ble_eq_true rfl⟩) hI rfl hl.1 (Nat.le_of_ble_eq_true rfl) dL_law_784 ⟨(show 137 + 13 * j + 0 ≤ 600000 by omega), (show 60150 + 2709 * j + 0 ≤ 7302250 by omega)⟩ (fun H locs hI => ?_)
        refine lv_aload_n hx hb dL_law_787 rfl (lv_at hl 2 rfl) ?_
        refine lv_aload_n hx hb dL_law_788 rfl (lv_at hl 0 rfl) ?_
        refine lv_iload_n hx hb dL_law_789 rfl (lv_at hl 3 rfl) ?_
        refine lv_iconst (v := 1) hx hb dL_law_790 (by decide) ?_
        refine lv_iadd hx hb dL_law_791 ?_
        refine va_sld hx hb hX hbl hbA hI.2.2.2.2.2.2.1 hv1 dL_law_792 ?_
        refine lcall_m (As := [.int (xs (nI (7 * j) + 1).toNatClampNeg)]) (rest := [.int x1.2]) (n := 1) ⟨hx, hb, hml, hown, hts⟩ (cm_mend l D hm ad cy (xs (nI (7 * j) + 1).toNatClampNeg) mst x2 e2 _) (cwV 1 hts gL_law_X12_mend rfl rfl rfl ⟨rfl, nd_mend⟩ ⟨Nat.le_of_ble_eq_true rfl, Nat.le_of_ble_eq_true rfl⟩) hI rfl hl.1 (Nat.le_of_ble_eq_true rfl) dL_law_793 ⟨(show 137 + 13 * j + 0 ≤ 600000 by omega), (show 60150 + 2709 * j + 0 ≤ 7302250 by omega)⟩ (fun H locs hI => ?_)
        refine lv_icmp_eq (tgt := 1097) hx hb dL_law_796 (by decide) (fun c2 => ?_) (fun c2 => absurd e3 c2)
        refine W.widen (k := 137 + 13 * (j + 1)) (n := 60150 + 2709 * (j + 1)) (by omega) (by omega) ?_
        exact contI x1.1 x2.1 H locs ls hj2 hR2 hI hl
      by_cases w17 : sw = 17
      · refine lv_tableIn (off := 768) (tgt := 801) hx hb dL_law_33 (by rw [w17]; decide) (by rw [w17]; decide) (by rw [w17]; rfl) (by decide) ?_
        obtain ⟨x1, x2, e1, e2, e3, hR2⟩ := z_ruin hx0 hst mst H.size (xs (nI (7 * j) + 1).toNatClampNeg) (xs (nI (7 * j) + 2).toNatClampNeg) (xs (nI (7 * j) + 3).toNatClampNeg) hR hI.2.2.2.2.2.2.2.1
        refine lv_aload_n hx hb dL_law_801 rfl (lv_at hl 1 rfl) ?_
        refine lv_aload_n hx hb dL_law_802 rfl (lv_at hl 0 rfl) ?_
        refine lv_iload_n hx hb dL_law_803 rfl (lv_at hl 3 rfl) ?_
        refine lv_iconst (v := 1) hx hb dL_law_804 (by decide) ?_
        refine lv_iadd hx hb dL_law_805 ?_
        refine va_sld hx hb hX hbl hbA hI.2.2.2.2.2.2.1 hv1 dL_law_806 ?_
        refine lv_aload_n hx hb dL_law_807 rfl (lv_at hl 0 rfl) ?_
        refine lv_iload_n hx hb dL_law_808 rfl (lv_at hl 3 rfl) ?_
        refine lv_iconst (v := 2) hx hb dL_law_809 (by decide) ?_
        refine lv_iadd hx hb dL_law_810 ?_
        refine va_sld hx hb hX hbl hbA hI.2.2.2.2.2.2.1 hv2 dL_law_811 ?_
        refine lv_aload_n hx hb dL_law_812 rfl (lv_at hl 0 rfl) ?_
        refine lv_iload_n hx hb dL_law_813 rfl (lv_at hl 3 rfl) ?_
        refine lv_iconst (v := 3) hx hb dL_law_814 (by decide) ?_
        refine lv_iadd hx hb dL_law_815 ?_
        refine va_sld hx hb hX hbl hbA hI.2.2.2.2.2.2.1 hv3 dL_law_816 ?_
        refine lcall_h (As := [.int (xs (nI (7 * j) + 1).toNatClampNeg), .int (xs (nI (7 * j) + 2).toNatClampNeg), .int (xs (nI (7 * j) + 3).toNatClampNeg)]) (rest := []) (n := 3) ⟨hx, hb, hml, hown, hts⟩ (hRk _ _ _ hR) (ch_X11_ruin l D cy hx0 (xs (nI (7 * j) + 1).toNatClampNeg) (xs (nI (7 * j) + 2).toNatClampNeg) (xs (nI (7 * j) + 3).toNatClampNeg) (setN hst H.size) x1 e1) (cwV 3 hts gL_law_X11_ruin rfl rfl rfl ⟨rfl, nd_X11_ruin⟩ ⟨Nat.le_of_ble_eq_true rfl, Nat.le_of_ble_eq_true rfl⟩) hI rfl hl.1 (Nat.le_of_ble_eq_true rfl) dL_law_817 ⟨(show 137 + 13 * j + 0 ≤ 600000 by omega), (show 60150 + 2709 * j + 0 ≤ 7302250 by omega)⟩ (fun H locs hI => ?_)
        refine lv_aload_n hx hb dL_law_820 rfl (lv_at hl 2 rfl) ?_
        refine lv_aload_n hx hb dL_law_821 rfl (lv_at hl 0 rfl) ?_
        refine lv_iload_n hx hb dL_law_822 rfl (lv_at hl 3 rfl) ?_
        refine lv_iconst (v := 1) hx hb dL_law_823 (by decide) ?_
        refine lv_iadd hx hb dL_law_824 ?_
        refine va_sld hx hb hX hbl hbA hI.2.2.2.2.2.2.1 hv1 dL_law_825 ?_
        refine lv_aload_n hx hb dL_law_826 rfl (lv_at hl 0 rfl) ?_
        refine lv_iload_n hx hb dL_law_827 rfl (lv_at hl 3 rfl) ?_
        refine lv_iconst (v := 2) hx hb dL_law_828 (by decide) ?_
        refine lv_iadd hx hb dL_law_829 ?_
        refine va_sld hx hb hX hbl hbA hI.2.2.2.2.2.2.1 hv2 dL_law_830 ?_
        refine lv_aload_n hx hb dL_law_831 rfl (lv_at hl 0 rfl) ?_
        refine lv_iload_n hx hb dL_law_832 rfl (lv_at hl 3 rfl) ?_
        refine lv_iconst (v := 3) hx hb dL_law_833 (by decide) ?_
        refine lv_iadd hx hb dL_law_834 ?_
        refine va_sld hx hb hX hbl hbA hI.2.2.2.2.2.2.1 hv3 dL_law_835 ?_
        refine lcall_m (As := [.int (xs (nI (7 * j) + 1).toNatClampNeg), .int (xs (nI (7 * j) + 2).toNatClampNeg), .int (xs (nI (7 * j) + 3).toNatClampNeg)]) (rest := [.int x1.2]) (n := 3) ⟨hx, hb, hml, hown, hts⟩ (cm_ruin l D hm ad cy (xs (nI (7 * j) + 1).toNatClampNeg) (xs (nI (7 * j) + 2).toNatClampNeg) (xs (nI (7 * j) + 3).toNatClampNeg) mst x2 e2 _) (cwV 3 hts gL_law_X12_ruin rfl rfl rfl ⟨rfl, nd_ruin⟩ ⟨Nat.le_of_ble_eq_true rfl, Nat.le_of_ble_eq_true rfl⟩) hI rfl hl.1 (Nat.le_of_ble_eq_true rfl) dL_law_836 ⟨(show 137 + 13 * j + 0 ≤ 600000 by omega), (show 60150 + 2709 * j + 0 ≤ 7302250 by omega)⟩ (fun H locs hI => ?_)
        refine lv_icmp_eq (tgt := 1097) hx hb dL_law_839 (by decide) (fun c2 => ?_) (fun c2 => absurd e3 c2)
        refine W.widen (k := 137 + 13 * (j + 1)) (n := 60150 + 2709 * (j + 1)) (by omega) (by omega) ?_
        exact contI x1.1 x2.1 H locs ls hj2 hR2 hI hl
      by_cases w18 : sw = 18
      · refine lv_tableIn (off := 811) (tgt := 844) hx hb dL_law_33 (by rw [w18]; decide) (by rw [w18]; decide) (by rw [w18]; rfl) (by decide) ?_
        obtain ⟨x1, x2, e1, e2, e3, hR2⟩ := z_erred hx0 hst mst H.size (xs (nI (7 * j) + 1).toNatClampNeg) (xs (nI (7 * j) + 2).toNatClampNeg) (xs (nI (7 * j) + 3).toNatClampNeg) (xs (nI (7 * j) + 4).toNatClampNeg) (xs (nI (7 * j) + 5).toNatClampNeg) hR hI.2.2.2.2.2.2.2.1
        refine lv_aload_n hx hb dL_law_844 rfl (lv_at hl 1 rfl) ?_
        refine lv_aload_n hx hb dL_law_845 rfl (lv_at hl 0 rfl) ?_
        refine lv_iload_n hx hb dL_law_846 rfl (lv_at hl 3 rfl) ?_
        refine lv_iconst (v := 1) hx hb dL_law_847 (by decide) ?_
        refine lv_iadd hx hb dL_law_848 ?_
        refine va_sld hx hb hX hbl hbA hI.2.2.2.2.2.2.1 hv1 dL_law_849 ?_
        refine lv_aload_n hx hb dL_law_850 rfl (lv_at hl 0 rfl) ?_
        refine lv_iload_n hx hb dL_law_851 rfl (lv_at hl 3 rfl) ?_
        refine lv_iconst (v := 2) hx hb dL_law_852 (by decide) ?_
        refine lv_iadd hx hb dL_law_853 ?_
        refine va_sld hx hb hX hbl hbA hI.2.2.2.2.2.2.1 hv2 dL_law_854 ?_
        refine lv_aload_n hx hb dL_law_855 rfl (lv_at hl 0 rfl) ?_
        refine lv_iload_n hx hb dL_law_856 rfl (lv_at hl 3 rfl) ?_
        refine lv_iconst (v := 3) hx hb dL_law_857 (by decide) ?_
        refine lv_iadd hx hb dL_law_858 ?_
        refine va_sld hx hb hX hbl hbA hI.2.2.2.2.2.2.1 hv3 dL_law_859 ?_
        refine lv_aload_n hx hb dL_law_860 rfl (lv_at hl 0 rfl) ?_
        refine lv_iload_n hx hb dL_law_861 rfl (lv_at hl 3 rfl) ?_
        refine lv_iconst (v := 4) hx hb dL_law_862 (by decide) ?_
        refine lv_iadd hx hb dL_law_863 ?_
        refine va_sld hx hb hX hbl hbA hI.2.2.2.2.2.2.1 hv4 dL_law_864 ?_
        refine lv_aload_n hx hb dL_law_865 rfl (lv_at hl 0 rfl) ?_
        refine lv_iload_n hx hb dL_law_866 rfl (lv_at hl 3 rfl) ?_
        refine lv_iconst (v := 5) hx hb dL_law_867 (by decide) ?_
        refine lv_iadd hx hb dL_law_868 ?_
        refine va_sld hx hb hX hbl hbA hI.2.2.2.2.2.2.1 hv5 dL_law_869 ?_
        refine lcall_h (As := [.int (xs (nI (7 * j) + 1).toNatClampNeg), .int (xs (nI (7 * j) + 2).toNatClampNeg), .int (xs (nI (7 * j) + 3).toNatClampNeg), .int (xs (nI (7 * j) + 4).toNatClampNeg), .int (xs (nI (7 * j) + 5).toNatClampNeg)]) (rest := []) (n := 5) ⟨hx, hb, hml, hown, hts⟩ (hRk _ _ _ hR) (ch_X11_erred l D cy hx0 (xs (nI (7 * j) + 1).toNatClampNeg) (xs (nI (7 * j) + 2).toNatClampNeg) (xs (nI (7 * j) + 3).toNatClampNeg) (xs (nI (7 * j) + 4).toNatClampNeg) (xs (nI (7 * j) + 5).toNatClampNeg) (setN hst H.size) x1 e1) (cwV 5 hts gL_law_X11_erred rfl rfl rfl ⟨rfl, nd_X11_erred⟩ ⟨Nat.le_of_ble_eq_true rfl, Nat.le_of_ble_eq_true rfl⟩) hI rfl hl.1 (Nat.le_of_ble_eq_true rfl) dL_law_870 ⟨(show 137 + 13 * j + 0 ≤ 600000 by omega), (show 60150 + 2709 * j + 0 ≤ 7302250 by omega)⟩ (fun H locs hI => ?_)
        refine lv_aload_n hx hb dL_law_873 rfl (lv_at hl 2 rfl) ?_
        refine lv_aload_n hx hb dL_law_874 rfl (lv_at hl 0 rfl) ?_
        refine lv_iload_n hx hb dL_law_875 rfl (lv_at hl 3 rfl) ?_
        refine lv_iconst (v := 1) hx hb dL_law_876 (by decide) ?_
        refine lv_iadd hx hb dL_law_877 ?_
        refine va_sld hx hb hX hbl hbA hI.2.2.2.2.2.2.1 hv1 dL_law_878 ?_
        refine lv_aload_n hx hb dL_law_879 rfl (lv_at hl 0 rfl) ?_
        refine lv_iload_n hx hb dL_law_880 rfl (lv_at hl 3 rfl) ?_
        refine lv_iconst (v := 2) hx hb dL_law_881 (by decide) ?_
        refine lv_iadd hx hb dL_law_882 ?_
        refine va_sld hx hb hX hbl hbA hI.2.2.2.2.2.2.1 hv2 dL_law_883 ?_
        refine lv_aload_n hx hb dL_law_884 rfl (lv_at hl 0 rfl) ?_
        refine lv_iload_n hx hb dL_law_885 rfl (lv_at hl 3 rfl) ?_
        refine lv_iconst (v := 3) hx hb dL_law_886 (by decide) ?_
        refine lv_iadd hx hb dL_law_887 ?_
        refine va_sld hx hb hX hbl hbA hI.2.2.2.2.2.2.1 hv3 dL_law_888 ?_
        refine lv_aload_n hx hb dL_law_889 rfl (lv_at hl 0 rfl) ?_
        refine lv_iload_n hx hb dL_law_890 rfl (lv_at hl 3 rfl) ?_
        refine lv_iconst (v := 4) hx hb dL_law_891 (by decide) ?_
        refine lv_iadd hx hb dL_law_892 ?_
        refine va_sld hx hb hX hbl hbA hI.2.2.2.2.2.2.1 hv4 dL_law_893 ?_
        refine lv_aload_n hx hb dL_law_894 rfl (lv_at hl 0 rfl) ?_
        refine lv_iload_n hx hb dL_law_895 rfl (lv_at hl 3 rfl) ?_
        refine lv_iconst (v := 5) hx hb dL_law_896 (by decide) ?_
        refine lv_iadd hx hb dL_law_897 ?_
        refine va_sld hx hb hX hbl hbA hI.2.2.2.2.2.2.1 hv5 dL_law_898 ?_
        refine lcall_m (As := [.int (xs (nI (7 * j) + 1).toNatClampNeg), .int (xs (nI (7 * j) + 2).toNatClampNeg), .int (xs (nI (7 * j) + 3).toNatClampNeg), .int (xs (nI (7 * j) + 4).toNatClampNeg), .int (xs (nI (7 * j) + 5).toNatClampNeg)]) (rest := [.int x1.2]) (n := 5) ⟨hx, hb, hml, hown, hts⟩ (cm_erred l D hm ad cy (xs (nI (7 * j) + 1).toNatClampNeg) (xs (nI (7 * j) + 2).toNatClampNeg) (xs (nI (7 * j) + 3).toNatClampNeg) (xs (nI (7 * j) + 4).toNatClampNeg) (xs (nI (7 * j) + 5).toNatClampNeg) mst x2 e2 _) (cwV 5 hts gL_law_X12_erred rfl rfl rfl ⟨rfl, nd_erred⟩ ⟨Nat.le_of_ble_eq_true rfl, Nat.le_of_ble_eq_true rfl⟩) hI rfl hl.1 (Nat.le_of_ble_eq_true rfl) dL_law_899 ⟨(show 137 + 13 * j + 0 ≤ 600000 by omega), (show 60150 + 2709 * j + 0 ≤ 7302250 by omega)⟩ (fun H locs hI => ?_)
        refine lv_icmp_eq (tgt := 1097) hx hb dL_law_902 (by decide) (fun c2 => ?_) (fun c2 => absurd e3 c2)
        refine W.widen (k := 137 + 13 * (j + 1)) (n := 60150 + 2709 * (j + 1)) (by omega) (by omega) ?_
        exact contI x1.1 x2.1 H locs ls hj2 hR2 hI hl
      by_cases w19 : sw = 19
      · refine lv_tableIn (off := 874) (tgt := 907) hx hb dL_law_33 (by rw [w19]; decide) (by rw [w19]; decide) (by rw [w19]; rfl) (by decide) ?_
        obtain ⟨x1, x2, e1, e2, e3, hR2⟩ := z_seed hx0 hst mst H.size (xs (nI (7 * j) + 1).toNatClampNeg) hR hI.2.2.2.2.2.2.2.1
        refine lv_aload_n hx hb dL_law_907 rfl (lv_at hl 1 rfl) ?_
        refine lv_aload_n hx hb dL_law_908 rfl (lv_at hl 0 rfl) ?_
        refine lv_iload_n hx hb dL_law_909 rfl (lv_at hl 3 rfl) ?_
        refine lv_iconst (v := 1) hx hb dL_law_910 (by decide) ?_
        refine lv_iadd hx hb dL_law_911 ?_
        refine va_sld hx hb hX hbl hbA hI.2.2.2.2.2.2.1 hv1 dL_law_912 ?_
        refine lcall_h (As := [.int (xs (nI (7 * j) + 1).toNatClampNeg)]) (rest := []) (n := 1) ⟨hx, hb, hml, hown, hts⟩ (hRk _ _ _ hR) (ch_X11_seed l D cy hx0 (xs (nI (7 * j) + 1).toNatClampNeg) (setN hst H.size) x1 e1) (cwV 1 hts gL_law_X11_seed rfl rfl rfl ⟨rfl, nd_X11_seed⟩ ⟨Nat.le_of_ble_eq_true rfl, Nat.le_of_ble_eq_true rfl⟩) hI rfl hl.1 (Nat.le_of_ble_eq_true rfl) dL_law_913 ⟨(show 137 + 13 * j + 0 ≤ 600000 by omega), (show 60150 + 2709 * j + 0 ≤ 7302250 by omega)⟩ (fun H locs hI => ?_)
        refine lv_aload_n hx hb dL_law_916 rfl (lv_at hl 2 rfl) ?_
        refine lv_aload_n hx hb dL_law_917 rfl (lv_at hl 0 rfl) ?_
        refine lv_iload_n hx hb dL_law_918 rfl (lv_at hl 3 rfl) ?_
        refine lv_iconst (v := 1) hx hb dL_law_919 (by decide) ?_
        refine lv_iadd hx hb dL_law_920 ?_
        refine va_sld hx hb hX hbl hbA hI.2.2.2.2.2.2.1 hv1 dL_law_921 ?_
        refine lcall_m (As := [.int (xs (nI (7 * j) + 1).toNatClampNeg)]) (rest := [.int x1.2]) (n := 1) ⟨hx, hb, hml, hown, hts⟩ (cm_seed l D hm ad cy (xs (nI (7 * j) + 1).toNatClampNeg) mst x2 e2 _) (cwV 1 hts gL_law_X12_seed rfl rfl rfl ⟨rfl, nd_seed⟩ ⟨Nat.le_of_ble_eq_true rfl, Nat.le_of_ble_eq_true rfl⟩) hI rfl hl.1 (Nat.le_of_ble_eq_true rfl) dL_law_922 ⟨(show 137 + 13 * j + 0 ≤ 600000 by omega), (show 60150 + 2709 * j + 0 ≤ 7302250 by omega)⟩ (fun H locs hI => ?_)
        refine lv_icmp_eq (tgt := 1097) hx hb dL_law_925 (by decide) (fun c2 => ?_) (fun c2 => absurd e3 c2)
        refine W.widen (k := 137 + 13 * (j + 1)) (n := 60150 + 2709 * (j + 1)) (by omega) (by omega) ?_
        exact contI x1.1 x2.1 H locs ls hj2 hR2 hI hl
      by_cases w20 : sw = 20
      · refine lv_tableIn (off := 897) (tgt := 930) hx hb dL_law_33 (by rw [w20]; decide) (by rw [w20]; decide) (by rw [w20]; rfl) (by decide) ?_
        obtain ⟨x1, x2, e1, e2, e3, hR2⟩ := z_tried hx0 hst mst H.size (xs (nI (7 * j) + 1).toNatClampNeg) (xs (nI (7 * j) + 2).toNatClampNeg) (xs (nI (7 * j) + 3).toNatClampNeg) (xs (nI (7 * j) + 4).toNatClampNeg) (xs (nI (7 * j) + 5).toNatClampNeg) (xs (nI (7 * j) + 6).toNatClampNeg) hR hI.2.2.2.2.2.2.2.1
        refine lv_aload_n hx hb dL_law_930 rfl (lv_at hl 1 rfl) ?_
        refine lv_aload_n hx hb dL_law_931 rfl (lv_at hl 0 rfl) ?_
        refine lv_iload_n hx hb dL_law_932 rfl (lv_at hl 3 rfl) ?_
        refine lv_iconst (v := 1) hx hb dL_law_933 (by decide) ?_
        refine lv_iadd hx hb dL_law_934 ?_
        refine va_sld hx hb hX hbl hbA hI.2.2.2.2.2.2.1 hv1 dL_law_935 ?_
        refine lv_aload_n hx hb dL_law_936 rfl (lv_at hl 0 rfl) ?_
        refine lv_iload_n hx hb dL_law_937 rfl (lv_at hl 3 rfl) ?_
        refine lv_iconst (v := 2) hx hb dL_law_938 (by decide) ?_
        refine lv_iadd hx hb dL_law_939 ?_
        refine va_sld hx hb hX hbl hbA hI.2.2.2.2.2.2.1 hv2 dL_law_940 ?_
        refine lv_aload_n hx hb dL_law_941 rfl (lv_at hl 0 rfl) ?_
        refine lv_iload_n hx hb dL_law_942 rfl (lv_at hl 3 rfl) ?_
        refine lv_iconst (v := 3) hx hb dL_law_943 (by decide) ?_
        refine lv_iadd hx hb dL_law_944 ?_
        refine va_sld hx hb hX hbl hbA hI.2.2.2.2.2.2.1 hv3 dL_law_945 ?_
        refine lv_aload_n hx hb dL_law_946 rfl (lv_at hl 0 rfl) ?_
        refine lv_iload_n hx hb dL_law_947 rfl (lv_at hl 3 rfl) ?_
        refine lv_iconst (v := 4) hx hb dL_law_948 (by decide) ?_
        refine lv_iadd hx hb dL_law_949 ?_
        refine va_sld hx hb hX hbl hbA hI.2.2.2.2.2.2.1 hv4 dL_law_950 ?_
        refine lv_aload_n hx hb dL_law_951 rfl (lv_at hl 0 rfl) ?_
        refine lv_iload_n hx hb dL_law_952 rfl (lv_at hl 3 rfl) ?_
        refine lv_iconst (v := 5) hx hb dL_law_953 (by decide) ?_
        refine lv_iadd hx hb dL_law_954 ?_
        refine va_sld hx hb hX hbl hbA hI.2.2.2.2.2.2.1 hv5 dL_law_955 ?_
        refine lv_aload_n hx hb dL_law_956 rfl (lv_at hl 0 rfl) ?_
        refine lv_iload_n hx hb dL_law_957 rfl (lv_at hl 3 rfl) ?_
        refine lv_bipush (v := 6) hx hb dL_law_958 (by decide) ?_
        refine lv_iadd hx hb dL_law_960 ?_
        refine va_sld hx hb hX hbl hbA hI.2.2.2.2.2.2.1 hv6 dL_law_961 ?_
        refine lcall_h (As := [.int (xs (nI (7 * j) + 1).toNatClampNeg), .int (xs (nI (7 * j) + 2).toNatClampNeg), .int (xs (nI (7 * j) + 3).toNatClampNeg), .int (xs (nI (7 * j) + 4).toNatClampNeg), .int (xs (nI (7 * j) + 5).toNatClampNeg), .int (xs (nI (7 * j) + 6).toNatClampNeg)]) (rest := []) (n := 6) ⟨hx, hb, hml, hown, hts⟩ (hRk _ _ _ hR) (ch_X11_tried l D cy hx0 (xs (nI (7 * j) + 1).toNatClampNeg) (xs (nI (7 * j) + 2).toNatClampNeg) (xs (nI (7 * j) + 3).toNatClampNeg) (xs (nI (7 * j) + 4).toNatClampNeg) (xs (nI (7 * j) + 5).toNatClampNeg) (xs (nI (7 * j) + 6).toNatClampNeg) (setN hst H.size) x1 e1) (cwV 6 hts gL_law_X11_tried rfl rfl rfl ⟨rfl, nd_X11_tried⟩ ⟨Nat.le_of_ble_eq_true rfl, Nat.le_of_ble_eq_true rfl⟩) hI rfl hl.1 (Nat.le_of_ble_eq_true rfl) dL_law_962 ⟨(show 137 + 13 * j + 0 ≤ 600000 by omega), (show 60150 + 2709 * j + 0 ≤ 7302250 by omega)⟩ (fun H locs hI => ?_)
        refine lv_aload_n hx hb dL_law_965 rfl (lv_at hl 2 rfl) ?_
        refine lv_aload_n hx hb dL_law_966 rfl (lv_at hl 0 rfl) ?_
        refine lv_iload_n hx hb dL_law_967 rfl (lv_at hl 3 rfl) ?_
        refine lv_iconst (v := 1) hx hb dL_law_968 (by decide) ?_
        refine lv_iadd hx hb dL_law_969 ?_
        refine va_sld hx hb hX hbl hbA hI.2.2.2.2.2.2.1 hv1 dL_law_970 ?_
        refine lv_aload_n hx hb dL_law_971 rfl (lv_at hl 0 rfl) ?_
        refine lv_iload_n hx hb dL_law_972 rfl (lv_at hl 3 rfl) ?_
        refine lv_iconst (v := 2) hx hb dL_law_973 (by decide) ?_
        refine lv_iadd hx hb dL_law_974 ?_
        refine va_sld hx hb hX hbl hbA hI.2.2.2.2.2.2.1 hv2 dL_law_975 ?_
        refine lv_aload_n hx hb dL_law_976 rfl (lv_at hl 0 rfl) ?_
        refine lv_iload_n hx hb dL_law_977 rfl (lv_at hl 3 rfl) ?_
        refine lv_iconst (v := 3) hx hb dL_law_978 (by decide) ?_
        refine lv_iadd hx hb dL_law_979 ?_
        refine va_sld hx hb hX hbl hbA hI.2.2.2.2.2.2.1 hv3 dL_law_980 ?_
        refine lv_aload_n hx hb dL_law_981 rfl (lv_at hl 0 rfl) ?_
        refine lv_iload_n hx hb dL_law_982 rfl (lv_at hl 3 rfl) ?_
        refine lv_iconst (v := 4) hx hb dL_law_983 (by decide) ?_
        refine lv_iadd hx hb dL_law_984 ?_
        refine va_sld hx hb hX hbl hbA hI.2.2.2.2.2.2.1 hv4 dL_law_985 ?_
        refine lv_aload_n hx hb dL_law_986 rfl (lv_at hl 0 rfl) ?_
        refine lv_iload_n hx hb dL_law_987 rfl (lv_at hl 3 rfl) ?_
        refine lv_iconst (v := 5) hx hb dL_law_988 (by decide) ?_
        refine lv_iadd hx hb dL_law_989 ?_
        refine va_sld hx hb hX hbl hbA hI.2.2.2.2.2.2.1 hv5 dL_law_990 ?_
        refine lv_aload_n hx hb dL_law_991 rfl (lv_at hl 0 rfl) ?_
        refine lv_iload_n hx hb dL_law_992 rfl (lv_at hl 3 rfl) ?_
        refine lv_bipush (v := 6) hx hb dL_law_993 (by decide) ?_
        refine lv_iadd hx hb dL_law_995 ?_
        refine va_sld hx hb hX hbl hbA hI.2.2.2.2.2.2.1 hv6 dL_law_996 ?_
        refine lcall_m (As := [.int (xs (nI (7 * j) + 1).toNatClampNeg), .int (xs (nI (7 * j) + 2).toNatClampNeg), .int (xs (nI (7 * j) + 3).toNatClampNeg), .int (xs (nI (7 * j) + 4).toNatClampNeg), .int (xs (nI (7 * j) + 5).toNatClampNeg), .int (xs (nI (7 * j) + 6).toNatClampNeg)]) (rest := [.int x1.2]) (n := 6) ⟨hx, hb, hml, hown, hts⟩ (cm_tried l D hm ad cy (xs (nI (7 * j) + 1).toNatClampNeg) (xs (nI (7 * j) + 2).toNatClampNeg) (xs (nI (7 * j) + 3).toNatClampNeg) (xs (nI (7 * j) + 4).toNatClampNeg) (xs (nI (7 * j) + 5).toNatClampNeg) (xs (nI (7 * j) + 6).toNatClampNeg) mst x2 e2 _) (cwV 6 hts gL_law_X12_tried rfl rfl rfl ⟨rfl, nd_tried⟩ ⟨Nat.le_of_ble_eq_true rfl, Nat.le_of_ble_eq_true rfl⟩) hI rfl hl.1 (Nat.le_of_ble_eq_true rfl) dL_law_997 ⟨(show 137 + 13 * j + 0 ≤ 600000 by omega), (show 60150 + 2709 * j + 0 ≤ 7302250 by omega)⟩ (fun H locs hI => ?_)
        refine lv_icmp_eq (tgt := 1097) hx hb dL_law_1000 (by decide) (fun c2 => ?_) (fun c2 => absurd e3 c2)
        refine W.widen (k := 137 + 13 * (j + 1)) (n := 60150 + 2709 * (j + 1)) (by omega) (by omega) ?_
        exact contI x1.1 x2.1 H locs ls hj2 hR2 hI hl
      by_cases w21 : sw = 21
      · refine lv_tableIn (off := 972) (tgt := 1005) hx hb dL_law_33 (by rw [w21]; decide) (by rw [w21]; decide) (by rw [w21]; rfl) (by decide) ?_
        obtain ⟨x1, x2, e1, e2, e3, hR2⟩ := z_leap hx0 hst mst H.size (xs (nI (7 * j) + 1).toNatClampNeg) hR hI.2.2.2.2.2.2.2.1
        refine lv_aload_n hx hb dL_law_1005 rfl (lv_at hl 1 rfl) ?_
        refine lv_aload_n hx hb dL_law_1006 rfl (lv_at hl 0 rfl) ?_
        refine lv_iload_n hx hb dL_law_1007 rfl (lv_at hl 3 rfl) ?_
        refine lv_iconst (v := 1) hx hb dL_law_1008 (by decide) ?_
        refine lv_iadd hx hb dL_law_1009 ?_
        refine va_sld hx hb hX hbl hbA hI.2.2.2.2.2.2.1 hv1 dL_law_1010 ?_
        refine lcall_h (As := [.int (xs (nI (7 * j) + 1).toNatClampNeg)]) (rest := []) (n := 1) ⟨hx, hb, hml, hown, hts⟩ (hRk _ _ _ hR) (ch_X11_leap l D cy hx0 (xs (nI (7 * j) + 1).toNatClampNeg) (setN hst H.size) x1 e1) (cwV 1 hts gL_law_X11_leap rfl rfl rfl ⟨rfl, nd_X11_leap⟩ ⟨Nat.le_of_ble_eq_true rfl, Nat.le_of_ble_eq_true rfl⟩) hI rfl hl.1 (Nat.le_of_ble_eq_true rfl) dL_law_1011 ⟨(show 137 + 13 * j + 0 ≤ 600000 by omega), (show 60150 + 2709 * j + 0 ≤ 7302250 by omega)⟩ (fun H locs hI => ?_)
        refine lv_aload_n hx hb dL_law_1014 rfl (lv_at hl 2 rfl) ?_
        refine lv_aload_n hx hb dL_law_1015 rfl (lv_at hl 0 rfl) ?_
        refine lv_iload_n hx hb dL_law_1016 rfl (lv_at hl 3 rfl) ?_
        refine lv_iconst (v := 1) hx hb dL_law_1017 (by decide) ?_
        refine lv_iadd hx hb dL_law_1018 ?_
        refine va_sld hx hb hX hbl hbA hI.2.2.2.2.2.2.1 hv1 dL_law_1019 ?_
        refine lcall_m (As := [.int (xs (nI (7 * j) + 1).toNatClampNeg)]) (rest := [.int x1.2]) (n := 1) ⟨hx, hb, hml, hown, hts⟩ (cm_leap l D hm ad cy (xs (nI (7 * j) + 1).toNatClampNeg) mst x2 e2 _) (cwV 1 hts gL_law_X12_leap rfl rfl rfl ⟨rfl, nd_leap⟩ ⟨Nat.le_of_ble_eq_true rfl, Nat.le_of_ble_eq_true rfl⟩) hI rfl hl.1 (Nat.le_of_ble_eq_true rfl) dL_law_1020 ⟨(show 137 + 13 * j + 0 ≤ 600000 by omega), (show 60150 + 2709 * j + 0 ≤ 7302250 by omega)⟩ (fun H locs hI => ?_)
        refine lv_icmp_eq (tgt := 1097) hx hb dL_law_1023 (by decide) (fun c2 => ?_) (fun c2 => absurd e3 c2)
        refine W.widen (k := 137 + 13 * (j + 1)) (n := 60150 + 2709 * (j + 1)) (by omega) (by omega) ?_
        exact contI x1.1 x2.1 H locs ls hj2 hR2 hI hl
      by_cases w22 : sw = 22
      · refine lv_tableIn (off := 995) (tgt := 1028) hx hb dL_law_33 (by rw [w22]; decide) (by rw [w22]; decide) (by rw [w22]; rfl) (by decide) ?_
        obtain ⟨x1, x2, e1, e2, e3, hR2⟩ := z_count hx0 hst mst H.size (xs (nI (7 * j) + 1).toNatClampNeg) hR hI.2.2.2.2.2.2.2.1
        refine lv_aload_n hx hb dL_law_1028 rfl (lv_at hl 1 rfl) ?_
        refine lv_aload_n hx hb dL_law_1029 rfl (lv_at hl 0 rfl) ?_
        refine lv_iload_n hx hb dL_law_1030 rfl (lv_at hl 3 rfl) ?_
        refine lv_iconst (v := 1) hx hb dL_law_1031 (by decide) ?_
        refine lv_iadd hx hb dL_law_1032 ?_
        refine va_sld hx hb hX hbl hbA hI.2.2.2.2.2.2.1 hv1 dL_law_1033 ?_
        refine lcall_h (As := [.int (xs (nI (7 * j) + 1).toNatClampNeg)]) (rest := []) (n := 1) ⟨hx, hb, hml, hown, hts⟩ (hRk _ _ _ hR) (ch_X11_count l D cy hx0 (xs (nI (7 * j) + 1).toNatClampNeg) (setN hst H.size) x1 e1) (cwV 1 hts gL_law_X11_count rfl rfl rfl ⟨rfl, nd_X11_count⟩ ⟨Nat.le_of_ble_eq_true rfl, Nat.le_of_ble_eq_true rfl⟩) hI rfl hl.1 (Nat.le_of_ble_eq_true rfl) dL_law_1034 ⟨(show 137 + 13 * j + 0 ≤ 600000 by omega), (show 60150 + 2709 * j + 0 ≤ 7302250 by omega)⟩ (fun H locs hI => ?_)
        refine lv_aload_n hx hb dL_law_1037 rfl (lv_at hl 2 rfl) ?_
        refine lv_aload_n hx hb dL_law_1038 rfl (lv_at hl 0 rfl) ?_
        refine lv_iload_n hx hb dL_law_1039 rfl (lv_at hl 3 rfl) ?_
        refine lv_iconst (v := 1) hx hb dL_law_1040 (by decide) ?_
        refine lv_iadd hx hb dL_law_1041 ?_
        refine va_sld hx hb hX hbl hbA hI.2.2.2.2.2.2.1 hv1 dL_law_1042 ?_
        refine lcall_m (As := [.int (xs (nI (7 * j) + 1).toNatClampNeg)]) (rest := [.int x1.2]) (n := 1) ⟨hx, hb, hml, hown, hts⟩ (cm_count l D hm ad cy (xs (nI (7 * j) + 1).toNatClampNeg) mst x2 e2 _) (cwV 1 hts gL_law_X12_count rfl rfl rfl ⟨rfl, nd_count⟩ ⟨Nat.le_of_ble_eq_true rfl, Nat.le_of_ble_eq_true rfl⟩) hI rfl hl.1 (Nat.le_of_ble_eq_true rfl) dL_law_1043 ⟨(show 137 + 13 * j + 0 ≤ 600000 by omega), (show 60150 + 2709 * j + 0 ≤ 7302250 by omega)⟩ (fun H locs hI => ?_)
        refine lv_icmp_eq (tgt := 1097) hx hb dL_law_1046 (by decide) (fun c2 => ?_) (fun c2 => absurd e3 c2)
        refine W.widen (k := 137 + 13 * (j + 1)) (n := 60150 + 2709 * (j + 1)) (by omega) (by omega) ?_
        exact contI x1.1 x2.1 H locs ls hj2 hR2 hI hl
      by_cases w23 : sw = 23
      · refine lv_tableIn (off := 1018) (tgt := 1051) hx hb dL_law_33 (by rw [w23]; decide) (by rw [w23]; decide) (by rw [w23]; rfl) (by decide) ?_
        obtain ⟨x1, x2, e1, e2, e3, hR2⟩ := z_image hx0 hst mst H.size (xs (nI (7 * j) + 1).toNatClampNeg) hR hI.2.2.2.2.2.2.2.1
        refine lv_aload_n hx hb dL_law_1051 rfl (lv_at hl 1 rfl) ?_
        refine lv_aload_n hx hb dL_law_1052 rfl (lv_at hl 0 rfl) ?_
        refine lv_iload_n hx hb dL_law_1053 rfl (lv_at hl 3 rfl) ?_
        refine lv_iconst (v := 1) hx hb dL_law_1054 (by decide) ?_
        refine lv_iadd hx hb dL_law_1055 ?_
        refine va_sld hx hb hX hbl hbA hI.2.2.2.2.2.2.1 hv1 dL_law_1056 ?_
        refine lcall_h (As := [.int (xs (nI (7 * j) + 1).toNatClampNeg)]) (rest := []) (n := 1) ⟨hx, hb, hml, hown, hts⟩ (hRk _ _ _ hR) (ch_X11_image l D cy hx0 (xs (nI (7 * j) + 1).toNatClampNeg) (setN hst H.size) x1 e1) (cwV 1 hts gL_law_X11_image rfl rfl rfl ⟨rfl, nd_X11_image⟩ ⟨Nat.le_of_ble_eq_true rfl, Nat.le_of_ble_eq_true rfl⟩) hI rfl hl.1 (Nat.le_of_ble_eq_true rfl) dL_law_1057 ⟨(show 137 + 13 * j + 13 ≤ 600000 by omega), (show 60150 + 2709 * j + 299 ≤ 7302250 by omega)⟩ (fun H locs hI => ?_)
        refine lv_aload_n hx hb dL_law_1060 rfl (lv_at hl 2 rfl) ?_
        refine lv_aload_n hx hb dL_law_1061 rfl (lv_at hl 0 rfl) ?_
        refine lv_iload_n hx hb dL_law_1062 rfl (lv_at hl 3 rfl) ?_
        refine lv_iconst (v := 1) hx hb dL_law_1063 (by decide) ?_
        refine lv_iadd hx hb dL_law_1064 ?_
        refine va_sld hx hb hX hbl hbA hI.2.2.2.2.2.2.1 hv1 dL_law_1065 ?_
        refine lcall_m (As := [.int (xs (nI (7 * j) + 1).toNatClampNeg)]) (rest := [.int x1.2]) (n := 1) ⟨hx, hb, hml, hown, hts⟩ (cm_image l D hm ad cy (xs (nI (7 * j) + 1).toNatClampNeg) mst x2 e2 _) (cwV 1 hts gL_law_X12_image rfl rfl rfl ⟨rfl, nd_image⟩ ⟨Nat.le_of_ble_eq_true rfl, Nat.le_of_ble_eq_true rfl⟩) hI rfl hl.1 (Nat.le_of_ble_eq_true rfl) dL_law_1066 ⟨(show 137 + 13 * j + 13 ≤ 600000 by omega), (show 60150 + 2709 * j + 299 ≤ 7302250 by omega)⟩ (fun H locs hI => ?_)
        refine lv_icmp_eq (tgt := 1097) hx hb dL_law_1069 (by decide) (fun c2 => ?_) (fun c2 => absurd e3 c2)
        refine W.widen (k := 137 + 13 * (j + 1)) (n := 60150 + 2709 * (j + 1)) (by omega) (by omega) ?_
        exact contI x1.1 x2.1 H locs ls hj2 hR2 hI hl
      by_cases w24 : sw = 24
      · refine lv_tableIn (off := 1041) (tgt := 1074) hx hb dL_law_33 (by rw [w24]; decide) (by rw [w24]; decide) (by rw [w24]; rfl) (by decide) ?_
        obtain ⟨x1, x2, e1, e2, e3, hR2⟩ := z_back hx0 hst mst H.size (xs (nI (7 * j) + 1).toNatClampNeg) hR hI.2.2.2.2.2.2.2.1
        refine lv_aload_n hx hb dL_law_1074 rfl (lv_at hl 1 rfl) ?_
        refine lv_aload_n hx hb dL_law_1075 rfl (lv_at hl 0 rfl) ?_
        refine lv_iload_n hx hb dL_law_1076 rfl (lv_at hl 3 rfl) ?_
        refine lv_iconst (v := 1) hx hb dL_law_1077 (by decide) ?_
        refine lv_iadd hx hb dL_law_1078 ?_
        refine va_sld hx hb hX hbl hbA hI.2.2.2.2.2.2.1 hv1 dL_law_1079 ?_
        refine lcall_h (As := [.int (xs (nI (7 * j) + 1).toNatClampNeg)]) (rest := []) (n := 1) ⟨hx, hb, hml, hown, hts⟩ (hRk _ _ _ hR) (ch_X11_back l D cy hx0 (xs (nI (7 * j) + 1).toNatClampNeg) (setN hst H.size) x1 e1) (cwV 1 hts gL_law_X11_back rfl rfl rfl ⟨rfl, nd_X11_back⟩ ⟨Nat.le_of_ble_eq_true rfl, Nat.le_of_ble_eq_true rfl⟩) hI rfl hl.1 (Nat.le_of_ble_eq_true rfl) dL_law_1080 ⟨(show 137 + 13 * j + 0 ≤ 600000 by omega), (show 60150 + 2709 * j + 0 ≤ 7302250 by omega)⟩ (fun H locs hI => ?_)
        refine lv_aload_n hx hb dL_law_1083 rfl (lv_at hl 2 rfl) ?_
        refine lv_aload_n hx hb dL_law_1084 rfl (lv_at hl 0 rfl) ?_
        refine lv_iload_n hx hb dL_law_1085 rfl (lv_at hl 3 rfl) ?_
        refine lv_iconst (v := 1) hx hb dL_law_1086 (by decide) ?_
        refine lv_iadd hx hb dL_law_1087 ?_
        refine va_sld hx hb hX hbl hbA hI.2.2.2.2.2.2.1 hv1 dL_law_1088 ?_
        refine lcall_m (As := [.int (xs (nI (7 * j) + 1).toNatClampNeg)]) (rest := [.int x1.2]) (n := 1) ⟨hx, hb, hml, hown, hts⟩ (cm_back l D hm ad cy (xs (nI (7 * j) + 1).toNatClampNeg) mst x2 e2 _) (cwV 1 hts gL_law_X12_back rfl rfl rfl ⟨rfl, nd_back⟩ ⟨Nat.le_of_ble_eq_true rfl, Nat.le_of_ble_eq_true rfl⟩) hI rfl hl.1 (Nat.le_of_ble_eq_true rfl) dL_law_1089 ⟨(show 137 + 13 * j + 0 ≤ 600000 by omega), (show 60150 + 2709 * j + 0 ≤ 7302250 by omega)⟩ (fun H locs hI => ?_)
        refine lv_icmp_eq (tgt := 1097) hx hb dL_law_1092 (by decide) (fun c2 => ?_) (fun c2 => absurd e3 c2)
        refine W.widen (k := 137 + 13 * (j + 1)) (n := 60150 + 2709 * (j + 1)) (by omega) (by omega) ?_
        exact contI x1.1 x2.1 H locs ls hj2 hR2 hI hl
      refine lv_tableOut (tgt := 1097) hx hb dL_law_33 (tsw_out (fun k k1 k2 => ?_)) (by decide) ?_
      · rcases (show k = 0 ∨ k = 1 ∨ k = 2 ∨ k = 3 ∨ k = 4 ∨ k = 5 ∨ k = 6 ∨ k = 7 ∨ k = 8 ∨ k = 9 ∨ k = 10 ∨ k = 11 ∨ k = 12 ∨ k = 13 ∨ k = 14 ∨ k = 15 ∨ k = 16 ∨ k = 17 ∨ k = 18 ∨ k = 19 ∨ k = 20 ∨ k = 21 ∨ k = 22 ∨ k = 23 ∨ k = 24 by omega) with rfl | rfl | rfl | rfl | rfl | rfl | rfl | rfl | rfl | rfl | rfl | rfl | rfl | rfl | rfl | rfl | rfl | rfl | rfl | rfl | rfl | rfl | rfl | rfl | rfl
        · exact w0
        · exact w1
        · exact w2
        · exact w3
        · exact w4
        · exact w5
        · exact w6
        · exact w7
        · exact w8
        · exact w9
        · exact w10
        · exact w11
        · exact w12
        · exact w13
        · exact w14
        · exact w15
        · exact w16
        · exact w17
        · exact w18
        · exact w19
        · exact w20
        · exact w21
        · exact w22
        · exact w23
        · exact w24
      · refine W.widen (k := 137 + 13 * (j + 1)) (n := 60150 + 2709 * (j + 1)) (by omega) (by omega) ?_
        exact contI hst mst H locs ls hj2 hR hI hl
