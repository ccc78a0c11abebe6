/-! the reference, first calls -/
theorem ex_mm_edge_10 : ev_all (ev_met ev_pg 7 108 [.inr (.inl 1), .inr (.inr (.inr (.inl (0, [])))), .inr (.inr (.inr (.inl (1, []))))] ev_hmm 39 [(2147483688, 2147483689), (0, 4294967295)]) sp_edge = true := by decide +kernel
theorem ex_mm_edge_11 : ev_all (ev_met ev_pg 7 108 [.inr (.inl 1), .inr (.inr (.inr (.inl (0, [])))), .inr (.inr (.inr (.inl (1, []))))] ev_hmm 39 [(2147483690, 2147483691), (0, 4294967295)]) sp_edge = true := by decide +kernel
