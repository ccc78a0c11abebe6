/-! the reference, first calls -/
theorem ex_mm_edge_0 : ev_all (ev_met ev_pg 7 108 [.inr (.inl 1), .inr (.inr (.inr (.inl (0, [])))), .inr (.inr (.inr (.inl (1, []))))] ev_hmm 39 [(0, 2147483648), (0, 4294967295)]) sp_edge = true := by decide +kernel
theorem ex_mm_edge_1 : ev_all (ev_met ev_pg 7 108 [.inr (.inl 1), .inr (.inr (.inr (.inl (0, [])))), .inr (.inr (.inr (.inl (1, []))))] ev_hmm 39 [(2147483649, 2147483651), (0, 4294967295)]) sp_edge = true := by decide +kernel
