/-! the reference, first calls -/
theorem ex_mm_set_0 : ev_all (ev_met ev_pg 7 61 [.inr (.inl 1), .inr (.inr (.inr (.inl (0, [])))), .inr (.inr (.inr (.inl (1, []))))] ev_hmm 39 [(0, 4294967295), (0, 4294967295)]) sp_set = true := by decide +kernel
theorem ex_mm_feed_0 : ev_all (ev_met ev_pg 7 64 [.inr (.inl 1), .inr (.inr (.inr (.inl (0, [])))), .inr (.inr (.inr (.inl (1, [])))), .inr (.inr (.inr (.inl (2, [])))), .inr (.inr (.inr (.inl (3, [])))), .inr (.inr (.inr (.inl (4, []))))] ev_hmm 39 [(0, 4294967295), (0, 4294967295), (0, 4294967295), (0, 4294967295), (0, 4294967295)]) sp_feed = true := by decide +kernel
theorem ex_mm_end_0 : ev_all (ev_met ev_pg 7 66 [.inr (.inl 1), .inr (.inr (.inr (.inl (0, []))))] ev_hmm 39 [(0, 4294967295)]) sp_end = true := by decide +kernel
theorem ex_mm_code_0 : ev_all (ev_met ev_pg 7 71 [.inr (.inl 1)] ev_hmm 39 []) sp_code = true := by decide +kernel
theorem ex_mm_fault_0 : ev_all (ev_met ev_pg 7 76 [.inr (.inl 1), .inr (.inr (.inr (.inl (0, []))))] ev_hmm 39 [(0, 4294967295)]) sp_fault = true := by decide +kernel
theorem ex_mm_input_0 : ev_all (ev_met ev_pg 7 78 [.inr (.inl 1), .inr (.inr (.inr (.inl (0, [])))), .inr (.inr (.inr (.inl (1, []))))] ev_hmm 39 [(0, 4294967295), (2147483648, 2147483649)]) sp_input = true := by decide +kernel
theorem ex_mm_step_0 : ev_all (ev_met ev_pg 7 102 [.inr (.inl 1), .inr (.inr (.inr (.inl (0, [])))), .inr (.inr (.inr (.inl (1, [])))), .inr (.inr (.inr (.inl (2, []))))] ev_hmm 39 [(0, 4294967295), (2147483648, 2147483649), (0, 4294967295)]) sp_step = true := by decide +kernel
theorem ex_mm_live_0 : ev_all (ev_met ev_pg 7 104 [.inr (.inl 1), .inr (.inr (.inr (.inl (0, [])))), .inr (.inr (.inr (.inl (1, []))))] ev_hmm 39 [(0, 4294967295), (0, 4294967295)]) sp_live = true := by decide +kernel
theorem ex_mm_colour_0 : ev_all (ev_met ev_pg 7 110 [.inr (.inl 1), .inr (.inr (.inr (.inl (0, [])))), .inr (.inr (.inr (.inl (1, []))))] ev_hmm 39 [(0, 4294967295), (0, 4294967295)]) sp_colour = true := by decide +kernel
theorem ex_mm_left_0 : ev_all (ev_met ev_pg 7 112 [.inr (.inl 1), .inr (.inr (.inr (.inl (0, []))))] ev_hmm 39 [(0, 4294967295)]) sp_left = true := by decide +kernel
theorem ex_mm_run_0 : ev_all (ev_met ev_pg 7 115 [.inr (.inl 1), .inr (.inr (.inr (.inl (0, [])))), .inr (.inr (.inr (.inl (1, []))))] ev_hmm 39 [(0, 4294967295), (0, 4294967295)]) sp_run = true := by decide +kernel
theorem ex_mm_proved_0 : ev_all (ev_met ev_pg 7 117 [.inr (.inl 1)] ev_hmm 39 []) sp_proved = true := by decide +kernel
theorem ex_mm_paint_0 : ev_all (ev_met ev_pg 7 125 [.inr (.inl 1), .inr (.inr (.inr (.inl (0, [])))), .inr (.inr (.inr (.inl (1, []))))] ev_hmm 39 [(0, 4294967295), (0, 4294967295)]) sp_paint = true := by decide +kernel
theorem ex_mm_allocate_0 : ev_all (ev_met ev_pg 7 94 [.inr (.inl 1)] ev_hmm 39 []) sp_allocate = true := by decide +kernel
theorem ex_mm_image_0 : ev_all (ev_met ev_pg 7 128 [.inr (.inl 1), .inr (.inr (.inr (.inl (0, []))))] ev_hmm 39 [(2147483648, 2147483649)]) sp_image = true := by decide +kernel
