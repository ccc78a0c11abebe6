/-! the class, first calls -/
theorem ex_xx_set_0 : ev_all (ev_met ev_pg 7 60 [.inr (.inl 1), .inr (.inr (.inr (.inl (0, [])))), .inr (.inr (.inr (.inl (1, []))))] ev_hxx 50 [(0, 4294967295), (0, 4294967295)]) sp_set = true := by decide +kernel
theorem ex_xx_feed_0 : ev_all (ev_met ev_pg 7 63 [.inr (.inl 1), .inr (.inr (.inr (.inl (0, [])))), .inr (.inr (.inr (.inl (1, [])))), .inr (.inr (.inr (.inl (2, [])))), .inr (.inr (.inr (.inl (3, [])))), .inr (.inr (.inr (.inl (4, []))))] ev_hxx 50 [(0, 4294967295), (0, 4294967295), (0, 4294967295), (0, 4294967295), (0, 4294967295)]) sp_feed = true := by decide +kernel
theorem ex_xx_end_0 : ev_all (ev_met ev_pg 7 65 [.inr (.inl 1), .inr (.inr (.inr (.inl (0, []))))] ev_hxx 50 [(0, 4294967295)]) sp_end = true := by decide +kernel
theorem ex_xx_code_0 : ev_all (ev_met ev_pg 7 67 [.inr (.inl 1)] ev_hxx 50 []) sp_code = true := by decide +kernel
theorem ex_xx_fault_0 : ev_all (ev_met ev_pg 7 75 [.inr (.inl 1), .inr (.inr (.inr (.inl (0, []))))] ev_hxx 50 [(0, 4294967295)]) sp_fault = true := by decide +kernel
theorem ex_xx_input_0 : ev_all (ev_met ev_pg 7 77 [.inr (.inl 1), .inr (.inr (.inr (.inl (0, [])))), .inr (.inr (.inr (.inl (1, []))))] ev_hxx 50 [(0, 4294967295), (2147483648, 2147483649)]) sp_input = true := by decide +kernel
theorem ex_xx_allocate_0 : ev_all (ev_met ev_pg 7 79 [.inr (.inl 1)] ev_hxx 50 []) sp_allocate = true := by decide +kernel
theorem ex_xx_step_0 : ev_all (ev_met ev_pg 7 101 [.inr (.inl 1), .inr (.inr (.inr (.inl (0, [])))), .inr (.inr (.inr (.inl (1, [])))), .inr (.inr (.inr (.inl (2, []))))] ev_hxx 50 [(0, 4294967295), (2147483648, 2147483649), (0, 4294967295)]) sp_step = true := by decide +kernel
theorem ex_xx_live_0 : ev_all (ev_met ev_pg 7 103 [.inr (.inl 1), .inr (.inr (.inr (.inl (0, [])))), .inr (.inr (.inr (.inl (1, []))))] ev_hxx 50 [(0, 4294967295), (0, 4294967295)]) sp_live = true := by decide +kernel
theorem ex_xx_value_0 : ev_all (ev_met ev_pg 7 105 [.inr (.inl 1), .inr (.inr (.inr (.inl (0, [])))), .inr (.inr (.inr (.inl (1, []))))] ev_hxx 50 [(0, 4294967295), (0, 4294967295)]) sp_value = true := by decide +kernel
theorem ex_xx_edge_0 : ev_all (ev_met ev_pg 7 107 [.inr (.inl 1), .inr (.inr (.inr (.inl (0, [])))), .inr (.inr (.inr (.inl (1, []))))] ev_hxx 50 [(0, 4294967295), (0, 4294967295)]) sp_edge = true := by decide +kernel
theorem ex_xx_colour_0 : ev_all (ev_met ev_pg 7 109 [.inr (.inl 1), .inr (.inr (.inr (.inl (0, [])))), .inr (.inr (.inr (.inl (1, []))))] ev_hxx 50 [(0, 4294967295), (0, 4294967295)]) sp_colour = true := by decide +kernel
theorem ex_xx_left_0 : ev_all (ev_met ev_pg 7 111 [.inr (.inl 1), .inr (.inr (.inr (.inl (0, []))))] ev_hxx 50 [(0, 4294967295)]) sp_left = true := by decide +kernel
theorem ex_xx_run_0 : ev_all (ev_met ev_pg 7 113 [.inr (.inl 1), .inr (.inr (.inr (.inl (0, [])))), .inr (.inr (.inr (.inl (1, []))))] ev_hxx 50 [(0, 4294967295), (0, 4294967295)]) sp_run = true := by decide +kernel
theorem ex_xx_proved_0 : ev_all (ev_met ev_pg 7 116 [.inr (.inl 1)] ev_hxx 50 []) sp_proved = true := by decide +kernel
theorem ex_xx_graph_0 : ev_all (ev_met ev_pg 7 118 [.inr (.inl 1), .inr (.inr (.inr (.inl (0, []))))] ev_hxx 50 [(0, 4294967295)]) sp_graph = true := by decide +kernel
theorem ex_xx_paint_0 : ev_all (ev_met ev_pg 7 124 [.inr (.inl 1), .inr (.inr (.inr (.inl (0, [])))), .inr (.inr (.inr (.inl (1, []))))] ev_hxx 50 [(0, 4294967295), (0, 4294967295)]) sp_paint = true := by decide +kernel
theorem ex_xx_image_0 : ev_all (ev_met ev_pg 7 126 [.inr (.inl 1), .inr (.inr (.inr (.inl (0, []))))] ev_hxx 50 [(2147483648, 2147483649)]) sp_image = true := by decide +kernel
theorem ex_xx_look_0 : ev_all (ev_met ev_pg 7 130 [.inr (.inl 1), .inr (.inr (.inr (.inl (0, []))))] ev_hxx 50 [(0, 4294967295)]) sp_look = true := by decide +kernel
