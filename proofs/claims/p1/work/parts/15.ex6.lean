/-! the reference, first calls -/
theorem ex_mm_edge_4 : ev_all (ev_met ev_pg 7 108 [.inr (.inl 1), .inr (.inr (.inr (.inl (0, [])))), .inr (.inr (.inr (.inl (1, []))))] ev_hmm 39 [(2147483674, 2147483683), (0, 4294967295)]) sp_edge = true := by decide +kernel
theorem ex_mm_edge_5 : ev_all (ev_met ev_pg 7 108 [.inr (.inl 1), .inr (.inr (.inr (.inl (0, [])))), .inr (.inr (.inr (.inl (1, []))))] ev_hmm 39 [(2147483684, 2147483690), (0, 4294967295)]) sp_edge = true := by decide +kernel
