/-! the reference, first calls -/
theorem ex_mm_graph_0 : ev_all (ev_met ev_pg 7 121 [.inr (.inl 1), .inr (.inr (.inr (.inl (0, []))))] ev_hmm 39 [(0, 4294967295)]) sp_graph = true := by decide +kernel
