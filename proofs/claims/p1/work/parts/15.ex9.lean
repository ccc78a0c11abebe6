/-! the reference, first calls -/
theorem ex_mm_look_0 : ev_all (ev_met ev_pg 7 135 [.inr (.inl 1), .inr (.inr (.inr (.inl (0, []))))] ev_hmm 39 [(0, 4294967295)]) sp_look = true := by decide +kernel
