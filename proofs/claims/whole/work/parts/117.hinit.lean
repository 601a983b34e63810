/-! a new HalfBridge -/
def allO : List Op := [(0, 12, 0, 0), (0, 21, 400, 0), (1, 1100, 0, 1), (0, 25, 6, 0), (1, 1102, 0, 2), (0, 9, 0, 0)] ++ sitO 3 4 ++ [(1, 1104, 0, 3), (0, 26, 4, 0), (1, 1105, 0, 16), (0, 11, 0, 0)] ++ tokO 17 18 ++ [(1, 1106, 0, 17), (0, 6, 0, 0), (1, 500, 21, 17), (1, 1107, 0, 21), (0, 8, 0, 0)] ++ rrdO 22 23 17 ++ [(1, 1108, 0, 22), (0, 1, 0, 0)] ++ forO 27 28 ++ [(1, 1109, 0, 27)]
theorem hE_N (n : Nat) : gN (hE n) = n := rfl
theorem s_hb (n : Nat) : fh_X11_init n (nO (hE n) 12 0) = some (run n (hE n) allO) := by
  have hN := hE_N n
  have e0 : nO (hE n) 12 0 = run n (hE n) [(0, 12, 0, 0)] := rfl
  rw [e0]
  show fh_X11_init (n + 0) (run n (hE n) [(0, 12, 0, 0)]) = _
  unfold fh_X11_init
  rw [bs_, s_new, s_gN (c := 1) hN (by rfl), s_ref, chk_t (s_isk hN (by rfl)), s_gN (c := 2) hN (by rfl), bs_, s_new, s_ref, chk_t (s_isk hN (by rfl)), s_gN (c := 3) hN (by rfl), bs_, s_new, s_site (j := 3) (c := 4) hN (by rfl) (by rfl), bs_, chk_t (s_isk hN (by rfl)), s_ref, bs_]
  rw [s_gN (c := 16) hN (by rfl), s_new, bs_, s_ref, chk_t (s_isk hN (by rfl)), s_gN (c := 17) hN (by rfl), bs_, s_new, s_tok (j := 17) (c := 18) hN (by rfl) (by rfl), bs_, chk_t (s_isk hN (by rfl)), s_ref, s_gN (c := 21) hN (by rfl), bs_, s_new, chk_t (s_isk hN (by rfl)), s_gR (v := 17) hN (by rfl)]
  unfold fh_X5_init
  rw [chk_t (s_isk hN (by rfl)), s_ref, bs_, chk_t (s_isk hN (by rfl)), s_ref, bs_, s_gN (c := 22) hN (by rfl), s_new, bs_, chk_t (s_isk hN (by rfl)), s_gR (v := 17) hN (by rfl), s_rrd (j := 22) (c := 23) hN (by rfl) (by rfl), bs_, chk_t (s_isk hN (by rfl)), s_ref, s_gN (c := 27) hN (by rfl), bs_, s_new, s_fore (j := 27) (c := 28) hN (by rfl) (by rfl) (by omega) (by rfl), bs_, chk_t (s_isk hN (by rfl)), s_ref]
  rfl
