/-! all methods agree -/
theorem all_sims : Sims Rel := ⟨sim_feed, sim_end, sim_river, sim_rule, sim_yard, sim_tip, sim_err, sim_build, sim_pull, sim_spring, sim_miss, sim_ahead, sim_zigzag, sim_whatever, sim_straight, sim_spite, sim_mend, sim_ruin, sim_erred, sim_seed, sim_tried, sim_leap, sim_count, sim_image, sim_back⟩
