/-! the reference, first calls -/
theorem ex_mm_edge_8 : ev_all (ev_met ev_pg 7 108 [.inr (.inl 1), .inr (.inr (.inr (.inl (0, [])))), .inr (.inr (.inr (.inl (1, []))))] ev_hmm 39 [(2147483684, 2147483685), (0, 4294967295)]) sp_edge = true := by decide +kernel
theorem ex_mm_edge_9 : ev_all (ev_met ev_pg 7 108 [.inr (.inl 1), .inr (.inr (.inr (.inl (0, [])))), .inr (.inr (.inr (.inl (1, []))))] ev_hmm 39 [(2147483686, 2147483687), (0, 4294967295)]) sp_edge = true := by decide +kernel
