/-! ===== all the tables; what a first call answers ===== -/
set_option maxRecDepth 20000 in
theorem ev_sys : ev_Sys ev_cl ev_pg ev_gw ev_nw := by
  refine ⟨?_, ev_gw_ok, ev_nw_ok, ?_⟩
  · intro ci q h
    match ci, h with
    | 0, h => cases h; exact ck_k0
    | 1, h => cases h; exact ck_k1
    | 2, h => cases h; exact ck_k2
    | 3, h => cases h; exact ck_k3
    | 4, h => cases h; exact ck_k4
    | 5, h => cases h; exact ck_k5
    | 6, h => cases h; exact ck_k6
    | 7, h => cases h; exact ck_k7
    | 8, h => cases h; exact ck_k8
    | 9, h => cases h; exact ck_k9
    | 10, h => cases h; exact ck_k10
    | 11, h => cases h; exact ck_k11
    | _ + 12, h => simp [ev_cl] at h
  · unfold ev_pg
    exact List.forall_mem_cons.mpr ⟨ck_m0, List.forall_mem_cons.mpr ⟨ck_m1, List.forall_mem_cons.mpr ⟨ck_m2, List.forall_mem_cons.mpr ⟨ck_m3, List.forall_mem_cons.mpr ⟨ck_m4, List.forall_mem_cons.mpr ⟨ck_m5, List.forall_mem_cons.mpr ⟨ck_m6, List.forall_mem_cons.mpr ⟨ck_m7, List.forall_mem_cons.mpr ⟨ck_m8, List.forall_mem_cons.mpr ⟨ck_m9, List.forall_mem_cons.mpr ⟨ck_m10, List.forall_mem_cons.mpr ⟨ck_m11, List.forall_mem_cons.mpr ⟨ck_m12, List.forall_mem_cons.mpr ⟨ck_m13, List.forall_mem_cons.mpr ⟨ck_m14, List.forall_mem_cons.mpr ⟨ck_m15, List.forall_mem_cons.mpr ⟨ck_m16, List.forall_mem_cons.mpr ⟨ck_m17, List.forall_mem_cons.mpr ⟨ck_m18, List.forall_mem_cons.mpr ⟨ck_m19, List.forall_mem_cons.mpr ⟨ck_m20, List.forall_mem_cons.mpr ⟨ck_m21, List.forall_mem_cons.mpr ⟨ck_m22, List.forall_mem_cons.mpr ⟨ck_m23, List.forall_mem_cons.mpr ⟨ck_m24, List.forall_mem_cons.mpr ⟨ck_m25, List.forall_mem_cons.mpr ⟨ck_m26, List.forall_mem_cons.mpr ⟨ck_m27, List.forall_mem_cons.mpr ⟨ck_m28, List.forall_mem_cons.mpr ⟨ck_m29, List.forall_mem_cons.mpr ⟨ck_m30, List.forall_mem_cons.mpr ⟨ck_m31, List.forall_mem_cons.mpr ⟨ck_m32, List.forall_mem_cons.mpr ⟨ck_m33, List.forall_mem_cons.mpr ⟨ck_m34, List.forall_mem_cons.mpr ⟨ck_m35, List.forall_mem_cons.mpr ⟨ck_m36, List.forall_mem_cons.mpr ⟨ck_m37, List.forall_mem_cons.mpr ⟨ck_m38, List.forall_mem_cons.mpr ⟨ck_m39, List.forall_mem_cons.mpr ⟨ck_m40, List.forall_mem_cons.mpr ⟨ck_m41, List.forall_mem_cons.mpr ⟨ck_m42, List.forall_mem_cons.mpr ⟨ck_m43, List.forall_mem_cons.mpr ⟨ck_m44, List.forall_mem_cons.mpr ⟨ck_m45, List.forall_mem_cons.mpr ⟨ck_m46, List.forall_mem_cons.mpr ⟨ck_m47, List.forall_mem_cons.mpr ⟨ck_m48, List.forall_mem_cons.mpr ⟨ck_m49, List.forall_mem_cons.mpr ⟨ck_m50, List.forall_mem_cons.mpr ⟨ck_m51, List.forall_mem_cons.mpr ⟨ck_m52, List.forall_mem_cons.mpr ⟨ck_m53, List.forall_mem_cons.mpr ⟨ck_m54, List.forall_mem_cons.mpr ⟨ck_m55, List.forall_mem_cons.mpr ⟨ck_m56, List.forall_mem_cons.mpr ⟨ck_m57, List.forall_mem_cons.mpr ⟨ck_m58, List.forall_mem_cons.mpr ⟨ck_m59, List.forall_mem_cons.mpr ⟨ck_m60, List.forall_mem_cons.mpr ⟨ck_m61, List.forall_mem_cons.mpr ⟨ck_m62, List.forall_mem_cons.mpr ⟨ck_m63, List.forall_mem_cons.mpr ⟨ck_m64, List.forall_mem_cons.mpr ⟨ck_m65, List.forall_mem_cons.mpr ⟨ck_m66, List.forall_mem_cons.mpr ⟨ck_m67, List.forall_mem_cons.mpr ⟨ck_m68, List.forall_mem_cons.mpr ⟨ck_m69, List.forall_mem_cons.mpr ⟨ck_m70, List.forall_mem_cons.mpr ⟨ck_m71, List.forall_mem_cons.mpr ⟨ck_m72, List.forall_mem_cons.mpr ⟨ck_m73, List.forall_mem_cons.mpr ⟨ck_m74, List.forall_mem_cons.mpr ⟨ck_m75, List.forall_mem_cons.mpr ⟨ck_m76, List.forall_mem_cons.mpr ⟨ck_m77, List.forall_mem_cons.mpr ⟨ck_m78, List.forall_mem_cons.mpr ⟨ck_m79, List.forall_mem_cons.mpr ⟨ck_m80, List.forall_mem_cons.mpr ⟨ck_m81, List.forall_mem_cons.mpr ⟨ck_m82, List.forall_mem_cons.mpr ⟨ck_m83, List.forall_mem_cons.mpr ⟨ck_m84, List.forall_mem_cons.mpr ⟨ck_m85, List.forall_mem_cons.mpr ⟨ck_m86, List.forall_mem_cons.mpr ⟨ck_m87, List.forall_mem_cons.mpr ⟨ck_m88, List.forall_mem_cons.mpr ⟨ck_m89, List.forall_mem_cons.mpr ⟨ck_m90, List.forall_mem_cons.mpr ⟨ck_m91, List.forall_mem_cons.mpr ⟨ck_m92, List.forall_mem_cons.mpr ⟨ck_m93, List.forall_mem_cons.mpr ⟨ck_m94, List.forall_mem_cons.mpr ⟨ck_m95, List.forall_mem_cons.mpr ⟨ck_m96, List.forall_mem_cons.mpr ⟨ck_m97, List.forall_mem_cons.mpr ⟨ck_m98, List.forall_mem_cons.mpr ⟨ck_m99, List.forall_mem_cons.mpr ⟨ck_m100, List.forall_mem_cons.mpr ⟨ck_m101, List.forall_mem_cons.mpr ⟨ck_m102, List.forall_mem_cons.mpr ⟨ck_m103, List.forall_mem_cons.mpr ⟨ck_m104, List.forall_mem_cons.mpr ⟨ck_m105, List.forall_mem_cons.mpr ⟨ck_m106, List.forall_mem_cons.mpr ⟨ck_m107, List.forall_mem_cons.mpr ⟨ck_m108, List.forall_mem_cons.mpr ⟨ck_m109, List.forall_mem_cons.mpr ⟨ck_m110, List.forall_mem_cons.mpr ⟨ck_m111, List.forall_mem_cons.mpr ⟨ck_m112, List.forall_mem_cons.mpr ⟨ck_m113, List.forall_mem_cons.mpr ⟨ck_m114, List.forall_mem_cons.mpr ⟨ck_m115, List.forall_mem_cons.mpr ⟨ck_m116, List.forall_mem_cons.mpr ⟨ck_m117, List.forall_mem_cons.mpr ⟨ck_m118, List.forall_mem_cons.mpr ⟨ck_m119, List.forall_mem_cons.mpr ⟨ck_m120, List.forall_mem_cons.mpr ⟨ck_m121, List.forall_mem_cons.mpr ⟨ck_m122, List.forall_mem_cons.mpr ⟨ck_m123, List.forall_mem_cons.mpr ⟨ck_m124, List.forall_mem_cons.mpr ⟨ck_m125, List.forall_mem_cons.mpr ⟨ck_m126, List.forall_mem_cons.mpr ⟨ck_m127, List.forall_mem_cons.mpr ⟨ck_m128, List.forall_mem_cons.mpr ⟨ck_m129, List.forall_mem_cons.mpr ⟨ck_m130, List.forall_mem_cons.mpr ⟨ck_m131, List.forall_mem_cons.mpr ⟨ck_m132, List.forall_mem_cons.mpr ⟨ck_m133, List.forall_mem_cons.mpr ⟨ck_m134, List.forall_mem_cons.mpr ⟨ck_m135, List.forall_mem_cons.mpr ⟨ck_m136, List.forall_mem_cons.mpr ⟨ck_m137, List.forall_mem_cons.mpr ⟨ck_m138, List.forall_mem_cons.mpr ⟨ck_m139, fun _ h => absurd h List.not_mem_nil⟩⟩⟩⟩⟩⟩⟩⟩⟩⟩⟩⟩⟩⟩⟩⟩⟩⟩⟩⟩⟩⟩⟩⟩⟩⟩⟩⟩⟩⟩⟩⟩⟩⟩⟩⟩⟩⟩⟩⟩⟩⟩⟩⟩⟩⟩⟩⟩⟩⟩⟩⟩⟩⟩⟩⟩⟩⟩⟩⟩⟩⟩⟩⟩⟩⟩⟩⟩⟩⟩⟩⟩⟩⟩⟩⟩⟩⟩⟩⟩⟩⟩⟩⟩⟩⟩⟩⟩⟩⟩⟩⟩⟩⟩⟩⟩⟩⟩⟩⟩⟩⟩⟩⟩⟩⟩⟩⟩⟩⟩⟩⟩⟩⟩⟩⟩⟩⟩⟩⟩⟩⟩⟩⟩⟩⟩⟩⟩⟩⟩⟩⟩⟩⟩⟩⟩⟩⟩⟩⟩
theorem pb_xx_set (σ : Nat → Int32) : ∃ env, ev_sat σ env ∧ ev_all (ev_met ev_pg 7 60 [.inr (.inl 1), .inr (.inr (.inr (.inl (0, [])))), .inr (.inr (.inr (.inl (1, []))))] ev_hxx 50 env) sp_set = true := by
  have t0 := ev_bi_top (σ 0)
  have t1 := ev_bi_top (σ 1)
  exact ⟨_, ev_sat_cons.mpr ⟨⟨by show _ ≤ ev_bi (σ 0); omega, by show ev_bi (σ 0) ≤ _; omega⟩, ev_sat_cons.mpr ⟨⟨by show _ ≤ ev_bi (σ 1); omega, by show ev_bi (σ 1) ≤ _; omega⟩, ev_sat_nil⟩⟩, ex_xx_set_0⟩
theorem pb_mm_set (σ : Nat → Int32) : ∃ env, ev_sat σ env ∧ ev_all (ev_met ev_pg 7 61 [.inr (.inl 1), .inr (.inr (.inr (.inl (0, [])))), .inr (.inr (.inr (.inl (1, []))))] ev_hmm 39 env) sp_set = true := by
  have t0 := ev_bi_top (σ 0)
  have t1 := ev_bi_top (σ 1)
  exact ⟨_, ev_sat_cons.mpr ⟨⟨by show _ ≤ ev_bi (σ 0); omega, by show ev_bi (σ 0) ≤ _; omega⟩, ev_sat_cons.mpr ⟨⟨by show _ ≤ ev_bi (σ 1); omega, by show ev_bi (σ 1) ≤ _; omega⟩, ev_sat_nil⟩⟩, ex_mm_set_0⟩
theorem pb_xx_feed (σ : Nat → Int32) : ∃ env, ev_sat σ env ∧ ev_all (ev_met ev_pg 7 63 [.inr (.inl 1), .inr (.inr (.inr (.inl (0, [])))), .inr (.inr (.inr (.inl (1, [])))), .inr (.inr (.inr (.inl (2, [])))), .inr (.inr (.inr (.inl (3, [])))), .inr (.inr (.inr (.inl (4, []))))] ev_hxx 50 env) sp_feed = true := by
  have t0 := ev_bi_top (σ 0)
  have t1 := ev_bi_top (σ 1)
  have t2 := ev_bi_top (σ 2)
  have t3 := ev_bi_top (σ 3)
  have t4 := ev_bi_top (σ 4)
  exact ⟨_, ev_sat_cons.mpr ⟨⟨by show _ ≤ ev_bi (σ 0); omega, by show ev_bi (σ 0) ≤ _; omega⟩, ev_sat_cons.mpr ⟨⟨by show _ ≤ ev_bi (σ 1); omega, by show ev_bi (σ 1) ≤ _; omega⟩, ev_sat_cons.mpr ⟨⟨by show _ ≤ ev_bi (σ 2); omega, by show ev_bi (σ 2) ≤ _; omega⟩, ev_sat_cons.mpr ⟨⟨by show _ ≤ ev_bi (σ 3); omega, by show ev_bi (σ 3) ≤ _; omega⟩, ev_sat_cons.mpr ⟨⟨by show _ ≤ ev_bi (σ 4); omega, by show ev_bi (σ 4) ≤ _; omega⟩, ev_sat_nil⟩⟩⟩⟩⟩, ex_xx_feed_0⟩
theorem pb_mm_feed (σ : Nat → Int32) : ∃ env, ev_sat σ env ∧ ev_all (ev_met ev_pg 7 64 [.inr (.inl 1), .inr (.inr (.inr (.inl (0, [])))), .inr (.inr (.inr (.inl (1, [])))), .inr (.inr (.inr (.inl (2, [])))), .inr (.inr (.inr (.inl (3, [])))), .inr (.inr (.inr (.inl (4, []))))] ev_hmm 39 env) sp_feed = true := by
  have t0 := ev_bi_top (σ 0)
  have t1 := ev_bi_top (σ 1)
  have t2 := ev_bi_top (σ 2)
  have t3 := ev_bi_top (σ 3)
  have t4 := ev_bi_top (σ 4)
  exact ⟨_, ev_sat_cons.mpr ⟨⟨by show _ ≤ ev_bi (σ 0); omega, by show ev_bi (σ 0) ≤ _; omega⟩, ev_sat_cons.mpr ⟨⟨by show _ ≤ ev_bi (σ 1); omega, by show ev_bi (σ 1) ≤ _; omega⟩, ev_sat_cons.mpr ⟨⟨by show _ ≤ ev_bi (σ 2); omega, by show ev_bi (σ 2) ≤ _; omega⟩, ev_sat_cons.mpr ⟨⟨by show _ ≤ ev_bi (σ 3); omega, by show ev_bi (σ 3) ≤ _; omega⟩, ev_sat_cons.mpr ⟨⟨by show _ ≤ ev_bi (σ 4); omega, by show ev_bi (σ 4) ≤ _; omega⟩, ev_sat_nil⟩⟩⟩⟩⟩, ex_mm_feed_0⟩
theorem pb_xx_end (σ : Nat → Int32) : ∃ env, ev_sat σ env ∧ ev_all (ev_met ev_pg 7 65 [.inr (.inl 1), .inr (.inr (.inr (.inl (0, []))))] ev_hxx 50 env) sp_end = true := by
  have t0 := ev_bi_top (σ 0)
  exact ⟨_, ev_sat_cons.mpr ⟨⟨by show _ ≤ ev_bi (σ 0); omega, by show ev_bi (σ 0) ≤ _; omega⟩, ev_sat_nil⟩, ex_xx_end_0⟩
theorem pb_mm_end (σ : Nat → Int32) : ∃ env, ev_sat σ env ∧ ev_all (ev_met ev_pg 7 66 [.inr (.inl 1), .inr (.inr (.inr (.inl (0, []))))] ev_hmm 39 env) sp_end = true := by
  have t0 := ev_bi_top (σ 0)
  exact ⟨_, ev_sat_cons.mpr ⟨⟨by show _ ≤ ev_bi (σ 0); omega, by show ev_bi (σ 0) ≤ _; omega⟩, ev_sat_nil⟩, ex_mm_end_0⟩
theorem pb_xx_code (σ : Nat → Int32) : ∃ env, ev_sat σ env ∧ ev_all (ev_met ev_pg 7 67 [.inr (.inl 1)] ev_hxx 50 env) sp_code = true := by
  exact ⟨_, ev_sat_nil, ex_xx_code_0⟩
theorem pb_mm_code (σ : Nat → Int32) : ∃ env, ev_sat σ env ∧ ev_all (ev_met ev_pg 7 71 [.inr (.inl 1)] ev_hmm 39 env) sp_code = true := by
  exact ⟨_, ev_sat_nil, ex_mm_code_0⟩
theorem pb_xx_fault (σ : Nat → Int32) : ∃ env, ev_sat σ env ∧ ev_all (ev_met ev_pg 7 75 [.inr (.inl 1), .inr (.inr (.inr (.inl (0, []))))] ev_hxx 50 env) sp_fault = true := by
  have t0 := ev_bi_top (σ 0)
  exact ⟨_, ev_sat_cons.mpr ⟨⟨by show _ ≤ ev_bi (σ 0); omega, by show ev_bi (σ 0) ≤ _; omega⟩, ev_sat_nil⟩, ex_xx_fault_0⟩
theorem pb_mm_fault (σ : Nat → Int32) : ∃ env, ev_sat σ env ∧ ev_all (ev_met ev_pg 7 76 [.inr (.inl 1), .inr (.inr (.inr (.inl (0, []))))] ev_hmm 39 env) sp_fault = true := by
  have t0 := ev_bi_top (σ 0)
  exact ⟨_, ev_sat_cons.mpr ⟨⟨by show _ ≤ ev_bi (σ 0); omega, by show ev_bi (σ 0) ≤ _; omega⟩, ev_sat_nil⟩, ex_mm_fault_0⟩
theorem pb_xx_input (σ : Nat → Int32) (h1 : σ 1 = 0 ∨ σ 1 = 1) : ∃ env, ev_sat σ env ∧ ev_all (ev_met ev_pg 7 77 [.inr (.inl 1), .inr (.inr (.inr (.inl (0, [])))), .inr (.inr (.inr (.inl (1, []))))] ev_hxx 50 env) sp_input = true := by
  have t0 := ev_bi_top (σ 0)
  have t1 := ev_bi_top (σ 1)
  have z1 : 2147483648 ≤ ev_bi (σ 1) ∧ ev_bi (σ 1) ≤ 2147483649 := by
    rcases h1 with h | h <;> rw [h] <;> decide +kernel
  exact ⟨_, ev_sat_cons.mpr ⟨⟨by show _ ≤ ev_bi (σ 0); omega, by show ev_bi (σ 0) ≤ _; omega⟩, ev_sat_cons.mpr ⟨⟨by show _ ≤ ev_bi (σ 1); omega, by show ev_bi (σ 1) ≤ _; omega⟩, ev_sat_nil⟩⟩, ex_xx_input_0⟩
theorem pb_mm_input (σ : Nat → Int32) (h1 : σ 1 = 0 ∨ σ 1 = 1) : ∃ env, ev_sat σ env ∧ ev_all (ev_met ev_pg 7 78 [.inr (.inl 1), .inr (.inr (.inr (.inl (0, [])))), .inr (.inr (.inr (.inl (1, []))))] ev_hmm 39 env) sp_input = true := by
  have t0 := ev_bi_top (σ 0)
  have t1 := ev_bi_top (σ 1)
  have z1 : 2147483648 ≤ ev_bi (σ 1) ∧ ev_bi (σ 1) ≤ 2147483649 := by
    rcases h1 with h | h <;> rw [h] <;> decide +kernel
  exact ⟨_, ev_sat_cons.mpr ⟨⟨by show _ ≤ ev_bi (σ 0); omega, by show ev_bi (σ 0) ≤ _; omega⟩, ev_sat_cons.mpr ⟨⟨by show _ ≤ ev_bi (σ 1); omega, by show ev_bi (σ 1) ≤ _; omega⟩, ev_sat_nil⟩⟩, ex_mm_input_0⟩
theorem pb_xx_allocate (σ : Nat → Int32) : ∃ env, ev_sat σ env ∧ ev_all (ev_met ev_pg 7 79 [.inr (.inl 1)] ev_hxx 50 env) sp_allocate = true := by
  exact ⟨_, ev_sat_nil, ex_xx_allocate_0⟩
theorem pb_mm_allocate (σ : Nat → Int32) : ∃ env, ev_sat σ env ∧ ev_all (ev_met ev_pg 7 94 [.inr (.inl 1)] ev_hmm 39 env) sp_allocate = true := by
  exact ⟨_, ev_sat_nil, ex_mm_allocate_0⟩
theorem pb_xx_step (σ : Nat → Int32) (h1 : σ 1 = 0 ∨ σ 1 = 1) : ∃ env, ev_sat σ env ∧ ev_all (ev_met ev_pg 7 101 [.inr (.inl 1), .inr (.inr (.inr (.inl (0, [])))), .inr (.inr (.inr (.inl (1, [])))), .inr (.inr (.inr (.inl (2, []))))] ev_hxx 50 env) sp_step = true := by
  have t0 := ev_bi_top (σ 0)
  have t1 := ev_bi_top (σ 1)
  have z1 : 2147483648 ≤ ev_bi (σ 1) ∧ ev_bi (σ 1) ≤ 2147483649 := by
    rcases h1 with h | h <;> rw [h] <;> decide +kernel
  have t2 := ev_bi_top (σ 2)
  exact ⟨_, ev_sat_cons.mpr ⟨⟨by show _ ≤ ev_bi (σ 0); omega, by show ev_bi (σ 0) ≤ _; omega⟩, ev_sat_cons.mpr ⟨⟨by show _ ≤ ev_bi (σ 1); omega, by show ev_bi (σ 1) ≤ _; omega⟩, ev_sat_cons.mpr ⟨⟨by show _ ≤ ev_bi (σ 2); omega, by show ev_bi (σ 2) ≤ _; omega⟩, ev_sat_nil⟩⟩⟩, ex_xx_step_0⟩
theorem pb_mm_step (σ : Nat → Int32) (h1 : σ 1 = 0 ∨ σ 1 = 1) : ∃ env, ev_sat σ env ∧ ev_all (ev_met ev_pg 7 102 [.inr (.inl 1), .inr (.inr (.inr (.inl (0, [])))), .inr (.inr (.inr (.inl (1, [])))), .inr (.inr (.inr (.inl (2, []))))] ev_hmm 39 env) sp_step = true := by
  have t0 := ev_bi_top (σ 0)
  have t1 := ev_bi_top (σ 1)
  have z1 : 2147483648 ≤ ev_bi (σ 1) ∧ ev_bi (σ 1) ≤ 2147483649 := by
    rcases h1 with h | h <;> rw [h] <;> decide +kernel
  have t2 := ev_bi_top (σ 2)
  exact ⟨_, ev_sat_cons.mpr ⟨⟨by show _ ≤ ev_bi (σ 0); omega, by show ev_bi (σ 0) ≤ _; omega⟩, ev_sat_cons.mpr ⟨⟨by show _ ≤ ev_bi (σ 1); omega, by show ev_bi (σ 1) ≤ _; omega⟩, ev_sat_cons.mpr ⟨⟨by show _ ≤ ev_bi (σ 2); omega, by show ev_bi (σ 2) ≤ _; omega⟩, ev_sat_nil⟩⟩⟩, ex_mm_step_0⟩
theorem pb_xx_live (σ : Nat → Int32) : ∃ env, ev_sat σ env ∧ ev_all (ev_met ev_pg 7 103 [.inr (.inl 1), .inr (.inr (.inr (.inl (0, [])))), .inr (.inr (.inr (.inl (1, []))))] ev_hxx 50 env) sp_live = true := by
  have t0 := ev_bi_top (σ 0)
  have t1 := ev_bi_top (σ 1)
  exact ⟨_, ev_sat_cons.mpr ⟨⟨by show _ ≤ ev_bi (σ 0); omega, by show ev_bi (σ 0) ≤ _; omega⟩, ev_sat_cons.mpr ⟨⟨by show _ ≤ ev_bi (σ 1); omega, by show ev_bi (σ 1) ≤ _; omega⟩, ev_sat_nil⟩⟩, ex_xx_live_0⟩
theorem pb_mm_live (σ : Nat → Int32) : ∃ env, ev_sat σ env ∧ ev_all (ev_met ev_pg 7 104 [.inr (.inl 1), .inr (.inr (.inr (.inl (0, [])))), .inr (.inr (.inr (.inl (1, []))))] ev_hmm 39 env) sp_live = true := by
  have t0 := ev_bi_top (σ 0)
  have t1 := ev_bi_top (σ 1)
  exact ⟨_, ev_sat_cons.mpr ⟨⟨by show _ ≤ ev_bi (σ 0); omega, by show ev_bi (σ 0) ≤ _; omega⟩, ev_sat_cons.mpr ⟨⟨by show _ ≤ ev_bi (σ 1); omega, by show ev_bi (σ 1) ≤ _; omega⟩, ev_sat_nil⟩⟩, ex_mm_live_0⟩
theorem pb_xx_value (σ : Nat → Int32) : ∃ env, ev_sat σ env ∧ ev_all (ev_met ev_pg 7 105 [.inr (.inl 1), .inr (.inr (.inr (.inl (0, [])))), .inr (.inr (.inr (.inl (1, []))))] ev_hxx 50 env) sp_value = true := by
  have t0 := ev_bi_top (σ 0)
  have t1 := ev_bi_top (σ 1)
  exact ⟨_, ev_sat_cons.mpr ⟨⟨by show _ ≤ ev_bi (σ 0); omega, by show ev_bi (σ 0) ≤ _; omega⟩, ev_sat_cons.mpr ⟨⟨by show _ ≤ ev_bi (σ 1); omega, by show ev_bi (σ 1) ≤ _; omega⟩, ev_sat_nil⟩⟩, ex_xx_value_0⟩
theorem pb_mm_value (σ : Nat → Int32) : ∃ env, ev_sat σ env ∧ ev_all (ev_met ev_pg 7 106 [.inr (.inl 1), .inr (.inr (.inr (.inl (0, [])))), .inr (.inr (.inr (.inl (1, []))))] ev_hmm 39 env) sp_value = true := by
  have t0 := ev_bi_top (σ 0)
  have t1 := ev_bi_top (σ 1)
  by_cases g0 : ev_bi (σ 1) ≤ 2147483648
  · exact ⟨_, ev_sat_cons.mpr ⟨⟨by show _ ≤ ev_bi (σ 0); omega, by show ev_bi (σ 0) ≤ _; omega⟩, ev_sat_cons.mpr ⟨⟨by show _ ≤ ev_bi (σ 1); omega, by show ev_bi (σ 1) ≤ _; omega⟩, ev_sat_nil⟩⟩, ex_mm_value_0⟩
  by_cases g1 : ev_bi (σ 1) ≤ 2147483649
  · exact ⟨_, ev_sat_cons.mpr ⟨⟨by show _ ≤ ev_bi (σ 0); omega, by show ev_bi (σ 0) ≤ _; omega⟩, ev_sat_cons.mpr ⟨⟨by show _ ≤ ev_bi (σ 1); omega, by show ev_bi (σ 1) ≤ _; omega⟩, ev_sat_nil⟩⟩, ex_mm_value_1⟩
  by_cases g2 : ev_bi (σ 1) ≤ 2147483650
  · by_cases c2 : ev_bi (σ 0) ≤ 2147483651
    · exact ⟨_, ev_sat_cons.mpr ⟨⟨by show _ ≤ ev_bi (σ 0); omega, by show ev_bi (σ 0) ≤ _; omega⟩, ev_sat_cons.mpr ⟨⟨by show _ ≤ ev_bi (σ 1); omega, by show ev_bi (σ 1) ≤ _; omega⟩, ev_sat_nil⟩⟩, ex_mm_value_2⟩
    by_cases c3 : ev_bi (σ 0) ≤ 2147483659
    · exact ⟨_, ev_sat_cons.mpr ⟨⟨by show _ ≤ ev_bi (σ 0); omega, by show ev_bi (σ 0) ≤ _; omega⟩, ev_sat_cons.mpr ⟨⟨by show _ ≤ ev_bi (σ 1); omega, by show ev_bi (σ 1) ≤ _; omega⟩, ev_sat_nil⟩⟩, ex_mm_value_3⟩
    by_cases c4 : ev_bi (σ 0) ≤ 2147483667
    · exact ⟨_, ev_sat_cons.mpr ⟨⟨by show _ ≤ ev_bi (σ 0); omega, by show ev_bi (σ 0) ≤ _; omega⟩, ev_sat_cons.mpr ⟨⟨by show _ ≤ ev_bi (σ 1); omega, by show ev_bi (σ 1) ≤ _; omega⟩, ev_sat_nil⟩⟩, ex_mm_value_4⟩
    by_cases c5 : ev_bi (σ 0) ≤ 2147483673
    · exact ⟨_, ev_sat_cons.mpr ⟨⟨by show _ ≤ ev_bi (σ 0); omega, by show ev_bi (σ 0) ≤ _; omega⟩, ev_sat_cons.mpr ⟨⟨by show _ ≤ ev_bi (σ 1); omega, by show ev_bi (σ 1) ≤ _; omega⟩, ev_sat_nil⟩⟩, ex_mm_value_5⟩
    by_cases c6 : ev_bi (σ 0) ≤ 2147483679
    · exact ⟨_, ev_sat_cons.mpr ⟨⟨by show _ ≤ ev_bi (σ 0); omega, by show ev_bi (σ 0) ≤ _; omega⟩, ev_sat_cons.mpr ⟨⟨by show _ ≤ ev_bi (σ 1); omega, by show ev_bi (σ 1) ≤ _; omega⟩, ev_sat_nil⟩⟩, ex_mm_value_6⟩
    by_cases c7 : ev_bi (σ 0) ≤ 2147483685
    · exact ⟨_, ev_sat_cons.mpr ⟨⟨by show _ ≤ ev_bi (σ 0); omega, by show ev_bi (σ 0) ≤ _; omega⟩, ev_sat_cons.mpr ⟨⟨by show _ ≤ ev_bi (σ 1); omega, by show ev_bi (σ 1) ≤ _; omega⟩, ev_sat_nil⟩⟩, ex_mm_value_7⟩
    by_cases c8 : ev_bi (σ 0) ≤ 2147483691
    · exact ⟨_, ev_sat_cons.mpr ⟨⟨by show _ ≤ ev_bi (σ 0); omega, by show ev_bi (σ 0) ≤ _; omega⟩, ev_sat_cons.mpr ⟨⟨by show _ ≤ ev_bi (σ 1); omega, by show ev_bi (σ 1) ≤ _; omega⟩, ev_sat_nil⟩⟩, ex_mm_value_8⟩
    exact ⟨_, ev_sat_cons.mpr ⟨⟨by show _ ≤ ev_bi (σ 0); omega, by show ev_bi (σ 0) ≤ _; omega⟩, ev_sat_cons.mpr ⟨⟨by show _ ≤ ev_bi (σ 1); omega, by show ev_bi (σ 1) ≤ _; omega⟩, ev_sat_nil⟩⟩, ex_mm_value_9⟩
  by_cases g3 : ev_bi (σ 1) ≤ 2147483651
  · by_cases c10 : ev_bi (σ 0) ≤ 2147483667
    · exact ⟨_, ev_sat_cons.mpr ⟨⟨by show _ ≤ ev_bi (σ 0); omega, by show ev_bi (σ 0) ≤ _; omega⟩, ev_sat_cons.mpr ⟨⟨by show _ ≤ ev_bi (σ 1); omega, by show ev_bi (σ 1) ≤ _; omega⟩, ev_sat_nil⟩⟩, ex_mm_value_10⟩
    exact ⟨_, ev_sat_cons.mpr ⟨⟨by show _ ≤ ev_bi (σ 0); omega, by show ev_bi (σ 0) ≤ _; omega⟩, ev_sat_cons.mpr ⟨⟨by show _ ≤ ev_bi (σ 1); omega, by show ev_bi (σ 1) ≤ _; omega⟩, ev_sat_nil⟩⟩, ex_mm_value_11⟩
  by_cases c12 : ev_bi (σ 0) ≤ 2147483667
  · exact ⟨_, ev_sat_cons.mpr ⟨⟨by show _ ≤ ev_bi (σ 0); omega, by show ev_bi (σ 0) ≤ _; omega⟩, ev_sat_cons.mpr ⟨⟨by show _ ≤ ev_bi (σ 1); omega, by show ev_bi (σ 1) ≤ _; omega⟩, ev_sat_nil⟩⟩, ex_mm_value_12⟩
  by_cases c13 : ev_bi (σ 0) ≤ 2147483679
  · exact ⟨_, ev_sat_cons.mpr ⟨⟨by show _ ≤ ev_bi (σ 0); omega, by show ev_bi (σ 0) ≤ _; omega⟩, ev_sat_cons.mpr ⟨⟨by show _ ≤ ev_bi (σ 1); omega, by show ev_bi (σ 1) ≤ _; omega⟩, ev_sat_nil⟩⟩, ex_mm_value_13⟩
  exact ⟨_, ev_sat_cons.mpr ⟨⟨by show _ ≤ ev_bi (σ 0); omega, by show ev_bi (σ 0) ≤ _; omega⟩, ev_sat_cons.mpr ⟨⟨by show _ ≤ ev_bi (σ 1); omega, by show ev_bi (σ 1) ≤ _; omega⟩, ev_sat_nil⟩⟩, ex_mm_value_14⟩
theorem pb_xx_edge (σ : Nat → Int32) : ∃ env, ev_sat σ env ∧ ev_all (ev_met ev_pg 7 107 [.inr (.inl 1), .inr (.inr (.inr (.inl (0, [])))), .inr (.inr (.inr (.inl (1, []))))] ev_hxx 50 env) sp_edge = true := by
  have t0 := ev_bi_top (σ 0)
  have t1 := ev_bi_top (σ 1)
  exact ⟨_, ev_sat_cons.mpr ⟨⟨by show _ ≤ ev_bi (σ 0); omega, by show ev_bi (σ 0) ≤ _; omega⟩, ev_sat_cons.mpr ⟨⟨by show _ ≤ ev_bi (σ 1); omega, by show ev_bi (σ 1) ≤ _; omega⟩, ev_sat_nil⟩⟩, ex_xx_edge_0⟩
theorem pb_mm_edge (σ : Nat → Int32) : ∃ env, ev_sat σ env ∧ ev_all (ev_met ev_pg 7 108 [.inr (.inl 1), .inr (.inr (.inr (.inl (0, [])))), .inr (.inr (.inr (.inl (1, []))))] ev_hmm 39 env) sp_edge = true := by
  have t0 := ev_bi_top (σ 0)
  have t1 := ev_bi_top (σ 1)
  by_cases c0 : ev_bi (σ 0) ≤ 2147483648
  · exact ⟨_, ev_sat_cons.mpr ⟨⟨by show _ ≤ ev_bi (σ 0); omega, by show ev_bi (σ 0) ≤ _; omega⟩, ev_sat_cons.mpr ⟨⟨by show _ ≤ ev_bi (σ 1); omega, by show ev_bi (σ 1) ≤ _; omega⟩, ev_sat_nil⟩⟩, ex_mm_edge_0⟩
  by_cases c1 : ev_bi (σ 0) ≤ 2147483651
  · exact ⟨_, ev_sat_cons.mpr ⟨⟨by show _ ≤ ev_bi (σ 0); omega, by show ev_bi (σ 0) ≤ _; omega⟩, ev_sat_cons.mpr ⟨⟨by show _ ≤ ev_bi (σ 1); omega, by show ev_bi (σ 1) ≤ _; omega⟩, ev_sat_nil⟩⟩, ex_mm_edge_1⟩
  by_cases c2 : ev_bi (σ 0) ≤ 2147483663
  · exact ⟨_, ev_sat_cons.mpr ⟨⟨by show _ ≤ ev_bi (σ 0); omega, by show ev_bi (σ 0) ≤ _; omega⟩, ev_sat_cons.mpr ⟨⟨by show _ ≤ ev_bi (σ 1); omega, by show ev_bi (σ 1) ≤ _; omega⟩, ev_sat_nil⟩⟩, ex_mm_edge_2⟩
  by_cases c3 : ev_bi (σ 0) ≤ 2147483673
  · exact ⟨_, ev_sat_cons.mpr ⟨⟨by show _ ≤ ev_bi (σ 0); omega, by show ev_bi (σ 0) ≤ _; omega⟩, ev_sat_cons.mpr ⟨⟨by show _ ≤ ev_bi (σ 1); omega, by show ev_bi (σ 1) ≤ _; omega⟩, ev_sat_nil⟩⟩, ex_mm_edge_3⟩
  by_cases c4 : ev_bi (σ 0) ≤ 2147483683
  · exact ⟨_, ev_sat_cons.mpr ⟨⟨by show _ ≤ ev_bi (σ 0); omega, by show ev_bi (σ 0) ≤ _; omega⟩, ev_sat_cons.mpr ⟨⟨by show _ ≤ ev_bi (σ 1); omega, by show ev_bi (σ 1) ≤ _; omega⟩, ev_sat_nil⟩⟩, ex_mm_edge_4⟩
  by_cases c5 : ev_bi (σ 0) ≤ 2147483690
  · exact ⟨_, ev_sat_cons.mpr ⟨⟨by show _ ≤ ev_bi (σ 0); omega, by show ev_bi (σ 0) ≤ _; omega⟩, ev_sat_cons.mpr ⟨⟨by show _ ≤ ev_bi (σ 1); omega, by show ev_bi (σ 1) ≤ _; omega⟩, ev_sat_nil⟩⟩, ex_mm_edge_5⟩
  by_cases c6 : ev_bi (σ 0) ≤ 2147483691
  · exact ⟨_, ev_sat_cons.mpr ⟨⟨by show _ ≤ ev_bi (σ 0); omega, by show ev_bi (σ 0) ≤ _; omega⟩, ev_sat_cons.mpr ⟨⟨by show _ ≤ ev_bi (σ 1); omega, by show ev_bi (σ 1) ≤ _; omega⟩, ev_sat_nil⟩⟩, ex_mm_edge_6⟩
  exact ⟨_, ev_sat_cons.mpr ⟨⟨by show _ ≤ ev_bi (σ 0); omega, by show ev_bi (σ 0) ≤ _; omega⟩, ev_sat_cons.mpr ⟨⟨by show _ ≤ ev_bi (σ 1); omega, by show ev_bi (σ 1) ≤ _; omega⟩, ev_sat_nil⟩⟩, ex_mm_edge_7⟩
theorem pb_xx_colour (σ : Nat → Int32) : ∃ env, ev_sat σ env ∧ ev_all (ev_met ev_pg 7 109 [.inr (.inl 1), .inr (.inr (.inr (.inl (0, [])))), .inr (.inr (.inr (.inl (1, []))))] ev_hxx 50 env) sp_colour = true := by
  have t0 := ev_bi_top (σ 0)
  have t1 := ev_bi_top (σ 1)
  exact ⟨_, ev_sat_cons.mpr ⟨⟨by show _ ≤ ev_bi (σ 0); omega, by show ev_bi (σ 0) ≤ _; omega⟩, ev_sat_cons.mpr ⟨⟨by show _ ≤ ev_bi (σ 1); omega, by show ev_bi (σ 1) ≤ _; omega⟩, ev_sat_nil⟩⟩, ex_xx_colour_0⟩
theorem pb_mm_colour (σ : Nat → Int32) : ∃ env, ev_sat σ env ∧ ev_all (ev_met ev_pg 7 110 [.inr (.inl 1), .inr (.inr (.inr (.inl (0, [])))), .inr (.inr (.inr (.inl (1, []))))] ev_hmm 39 env) sp_colour = true := by
  have t0 := ev_bi_top (σ 0)
  have t1 := ev_bi_top (σ 1)
  exact ⟨_, ev_sat_cons.mpr ⟨⟨by show _ ≤ ev_bi (σ 0); omega, by show ev_bi (σ 0) ≤ _; omega⟩, ev_sat_cons.mpr ⟨⟨by show _ ≤ ev_bi (σ 1); omega, by show ev_bi (σ 1) ≤ _; omega⟩, ev_sat_nil⟩⟩, ex_mm_colour_0⟩
theorem pb_xx_left (σ : Nat → Int32) : ∃ env, ev_sat σ env ∧ ev_all (ev_met ev_pg 7 111 [.inr (.inl 1), .inr (.inr (.inr (.inl (0, []))))] ev_hxx 50 env) sp_left = true := by
  have t0 := ev_bi_top (σ 0)
  exact ⟨_, ev_sat_cons.mpr ⟨⟨by show _ ≤ ev_bi (σ 0); omega, by show ev_bi (σ 0) ≤ _; omega⟩, ev_sat_nil⟩, ex_xx_left_0⟩
theorem pb_mm_left (σ : Nat → Int32) : ∃ env, ev_sat σ env ∧ ev_all (ev_met ev_pg 7 112 [.inr (.inl 1), .inr (.inr (.inr (.inl (0, []))))] ev_hmm 39 env) sp_left = true := by
  have t0 := ev_bi_top (σ 0)
  exact ⟨_, ev_sat_cons.mpr ⟨⟨by show _ ≤ ev_bi (σ 0); omega, by show ev_bi (σ 0) ≤ _; omega⟩, ev_sat_nil⟩, ex_mm_left_0⟩
theorem pb_xx_run (σ : Nat → Int32) : ∃ env, ev_sat σ env ∧ ev_all (ev_met ev_pg 7 113 [.inr (.inl 1), .inr (.inr (.inr (.inl (0, [])))), .inr (.inr (.inr (.inl (1, []))))] ev_hxx 50 env) sp_run = true := by
  have t0 := ev_bi_top (σ 0)
  have t1 := ev_bi_top (σ 1)
  exact ⟨_, ev_sat_cons.mpr ⟨⟨by show _ ≤ ev_bi (σ 0); omega, by show ev_bi (σ 0) ≤ _; omega⟩, ev_sat_cons.mpr ⟨⟨by show _ ≤ ev_bi (σ 1); omega, by show ev_bi (σ 1) ≤ _; omega⟩, ev_sat_nil⟩⟩, ex_xx_run_0⟩
theorem pb_mm_run (σ : Nat → Int32) : ∃ env, ev_sat σ env ∧ ev_all (ev_met ev_pg 7 115 [.inr (.inl 1), .inr (.inr (.inr (.inl (0, [])))), .inr (.inr (.inr (.inl (1, []))))] ev_hmm 39 env) sp_run = true := by
  have t0 := ev_bi_top (σ 0)
  have t1 := ev_bi_top (σ 1)
  exact ⟨_, ev_sat_cons.mpr ⟨⟨by show _ ≤ ev_bi (σ 0); omega, by show ev_bi (σ 0) ≤ _; omega⟩, ev_sat_cons.mpr ⟨⟨by show _ ≤ ev_bi (σ 1); omega, by show ev_bi (σ 1) ≤ _; omega⟩, ev_sat_nil⟩⟩, ex_mm_run_0⟩
theorem pb_xx_proved (σ : Nat → Int32) : ∃ env, ev_sat σ env ∧ ev_all (ev_met ev_pg 7 116 [.inr (.inl 1)] ev_hxx 50 env) sp_proved = true := by
  exact ⟨_, ev_sat_nil, ex_xx_proved_0⟩
theorem pb_mm_proved (σ : Nat → Int32) : ∃ env, ev_sat σ env ∧ ev_all (ev_met ev_pg 7 117 [.inr (.inl 1)] ev_hmm 39 env) sp_proved = true := by
  exact ⟨_, ev_sat_nil, ex_mm_proved_0⟩
theorem pb_xx_graph (σ : Nat → Int32) : ∃ env, ev_sat σ env ∧ ev_all (ev_met ev_pg 7 118 [.inr (.inl 1), .inr (.inr (.inr (.inl (0, []))))] ev_hxx 50 env) sp_graph = true := by
  have t0 := ev_bi_top (σ 0)
  exact ⟨_, ev_sat_cons.mpr ⟨⟨by show _ ≤ ev_bi (σ 0); omega, by show ev_bi (σ 0) ≤ _; omega⟩, ev_sat_nil⟩, ex_xx_graph_0⟩
theorem pb_mm_graph (σ : Nat → Int32) : ∃ env, ev_sat σ env ∧ ev_all (ev_met ev_pg 7 121 [.inr (.inl 1), .inr (.inr (.inr (.inl (0, []))))] ev_hmm 39 env) sp_graph = true := by
  have t0 := ev_bi_top (σ 0)
  exact ⟨_, ev_sat_cons.mpr ⟨⟨by show _ ≤ ev_bi (σ 0); omega, by show ev_bi (σ 0) ≤ _; omega⟩, ev_sat_nil⟩, ex_mm_graph_0⟩
theorem pb_xx_paint (σ : Nat → Int32) : ∃ env, ev_sat σ env ∧ ev_all (ev_met ev_pg 7 124 [.inr (.inl 1), .inr (.inr (.inr (.inl (0, [])))), .inr (.inr (.inr (.inl (1, []))))] ev_hxx 50 env) sp_paint = true := by
  have t0 := ev_bi_top (σ 0)
  have t1 := ev_bi_top (σ 1)
  exact ⟨_, ev_sat_cons.mpr ⟨⟨by show _ ≤ ev_bi (σ 0); omega, by show ev_bi (σ 0) ≤ _; omega⟩, ev_sat_cons.mpr ⟨⟨by show _ ≤ ev_bi (σ 1); omega, by show ev_bi (σ 1) ≤ _; omega⟩, ev_sat_nil⟩⟩, ex_xx_paint_0⟩
theorem pb_mm_paint (σ : Nat → Int32) : ∃ env, ev_sat σ env ∧ ev_all (ev_met ev_pg 7 125 [.inr (.inl 1), .inr (.inr (.inr (.inl (0, [])))), .inr (.inr (.inr (.inl (1, []))))] ev_hmm 39 env) sp_paint = true := by
  have t0 := ev_bi_top (σ 0)
  have t1 := ev_bi_top (σ 1)
  exact ⟨_, ev_sat_cons.mpr ⟨⟨by show _ ≤ ev_bi (σ 0); omega, by show ev_bi (σ 0) ≤ _; omega⟩, ev_sat_cons.mpr ⟨⟨by show _ ≤ ev_bi (σ 1); omega, by show ev_bi (σ 1) ≤ _; omega⟩, ev_sat_nil⟩⟩, ex_mm_paint_0⟩
theorem pb_xx_image (σ : Nat → Int32) (h0 : σ 0 = 0 ∨ σ 0 = 1) : ∃ env, ev_sat σ env ∧ ev_all (ev_met ev_pg 7 126 [.inr (.inl 1), .inr (.inr (.inr (.inl (0, []))))] ev_hxx 50 env) sp_image = true := by
  have t0 := ev_bi_top (σ 0)
  have z0 : 2147483648 ≤ ev_bi (σ 0) ∧ ev_bi (σ 0) ≤ 2147483649 := by
    rcases h0 with h | h <;> rw [h] <;> decide +kernel
  exact ⟨_, ev_sat_cons.mpr ⟨⟨by show _ ≤ ev_bi (σ 0); omega, by show ev_bi (σ 0) ≤ _; omega⟩, ev_sat_nil⟩, ex_xx_image_0⟩
theorem pb_mm_image (σ : Nat → Int32) (h0 : σ 0 = 0 ∨ σ 0 = 1) : ∃ env, ev_sat σ env ∧ ev_all (ev_met ev_pg 7 128 [.inr (.inl 1), .inr (.inr (.inr (.inl (0, []))))] ev_hmm 39 env) sp_image = true := by
  have t0 := ev_bi_top (σ 0)
  have z0 : 2147483648 ≤ ev_bi (σ 0) ∧ ev_bi (σ 0) ≤ 2147483649 := by
    rcases h0 with h | h <;> rw [h] <;> decide +kernel
  exact ⟨_, ev_sat_cons.mpr ⟨⟨by show _ ≤ ev_bi (σ 0); omega, by show ev_bi (σ 0) ≤ _; omega⟩, ev_sat_nil⟩, ex_mm_image_0⟩
theorem pb_xx_look (σ : Nat → Int32) : ∃ env, ev_sat σ env ∧ ev_all (ev_met ev_pg 7 130 [.inr (.inl 1), .inr (.inr (.inr (.inl (0, []))))] ev_hxx 50 env) sp_look = true := by
  have t0 := ev_bi_top (σ 0)
  exact ⟨_, ev_sat_cons.mpr ⟨⟨by show _ ≤ ev_bi (σ 0); omega, by show ev_bi (σ 0) ≤ _; omega⟩, ev_sat_nil⟩, ex_xx_look_0⟩
theorem pb_mm_look (σ : Nat → Int32) : ∃ env, ev_sat σ env ∧ ev_all (ev_met ev_pg 7 135 [.inr (.inl 1), .inr (.inr (.inr (.inl (0, []))))] ev_hmm 39 env) sp_look = true := by
  have t0 := ev_bi_top (σ 0)
  exact ⟨_, ev_sat_cons.mpr ⟨⟨by show _ ≤ ev_bi (σ 0); omega, by show ev_bi (σ 0) ≤ _; omega⟩, ev_sat_nil⟩, ex_mm_look_0⟩
/-! ===== worlds side by side ===== -/
theorem ev_ap2 {A : Nat → Prop} {w0 w1 : va_W} (hD : va_D A (w0 ++ w1)) : (va_D A w0 ∧ va_D A w1) ∧ ∀ (i j : Nat) (p q : Nat × va_E), w0[i]? = some p → w1[j]? = some q → p.1 ≠ q.1 := by
  have l0 : ∀ (i : Nat) (p : Nat × va_E), w0[i]? = some p → (w0 ++ w1)[i]? = some p := fun i p h => by
    rw [List.getElem?_append_left (List.getElem?_eq_some_iff.mp h).1]; exact h
  have l1 : ∀ (i : Nat) (p : Nat × va_E), w1[i]? = some p → (w0 ++ w1)[w0.length + i]? = some p := fun i p h => by
    rw [List.getElem?_append_right (by omega), Nat.add_sub_cancel_left]; exact h
  refine ⟨⟨⟨fun i j p q hi hj e => hD.1 i j p q (l0 i p hi) (l0 j q hj) e, fun k q hk => hD.2 k q (l0 k q hk)⟩, ⟨fun i j p q hi hj e => ?_, fun k q hk => hD.2 _ q (l1 k q hk)⟩⟩, fun i j p q hi hj e => ?_⟩
  · have := hD.1 _ _ p q (l1 i p hi) (l1 j q hj) e
    omega
  · have h1 := hD.1 _ _ p q (l0 i p hi) (l1 j q hj) e
    have h2 := (List.getElem?_eq_some_iff.mp hi).1
    omega
theorem ev_Pl {D : va_G} {cl : List vw_C} {w0 w1 : va_W} {H : Heap} (hP : va_P D cl (w0 ++ w1) H) : va_P D cl w0 H ∧ va_P D cl w1 H := by
  refine ⟨fun k q h => hP k q ?_, fun k q h => hP (w0.length + k) q ?_⟩
  · rw [List.getElem?_append_left (List.getElem?_eq_some_iff.mp h).1]; exact h
  · rw [List.getElem?_append_right (by omega), Nat.add_sub_cancel_left]; exact h
/-- what lies apart from a callee's cells stays -/
theorem ev_stay {D : va_G} {cl : List vw_C} {wr wc : va_W} {H H1 : Heap} (hP : va_P D cl wr H) (hap : ∀ (i j : Nat) (p q : Nat × va_E), wr[i]? = some p → wc[j]? = some q → p.1 ≠ q.1) (hk : ∀ q : Nat, q < H.size → ¬ va_A wc H.size q → H1[q]? = H[q]?) : va_P D cl wr H1 ∧ ∀ (i : Nat) (p : Nat × va_E), wr[i]? = some p → ¬ va_A wc H.size p.1 := by
  have key : ∀ (i : Nat) (p : Nat × va_E), wr[i]? = some p → p.1 < H.size ∧ ¬ va_A wc H.size p.1 := by
    intro i p hp
    have hl := (hP i p hp).lt
    refine ⟨hl, ?_⟩
    rintro (⟨j, ee, hj⟩ | hj)
    · exact hap i j p (p.1, ee) hp hj rfl
    · omega
  exact ⟨fun i p hp => (hP i p hp).kept (hk p.1 (key i p hp).1 (key i p hp).2), fun i p hp => (key i p hp).2⟩
section LWC
variable {p : Program} {l : Launch} {e : Env} {R : Room} {s : State} {mm : MethodId} {args : Array Value} {below : List Frame} {meth : Method} {c : Code} {H : Heap} {locs : List Loc} {cells slots : Nat} {Q : State → Prop}
variable {dC : Nat → ClassId} {dI : Nat → Nat → Nat} {ca : Nat → ClassId} {cl : List vw_C} {A : Nat → Prop} {σ : Nat → Int32} {ρ : Nat → Nat} {pc : Nat} {la : Array Slot} {cc : ByteArray}
theorem ev_callP {os' : List ev_O} {n1 mc ms : Nat} {A1 : Nat → Prop} {free : Addr → Prop} {av : Array Value} {rest st0 : List Value} (hr : va_Run p l e R s mm args below meth c H locs cells slots mc ms (F0 mm pc la st0) rest (ev_Po dC dI ca cl σ ρ n1 os' A1 av) free) (hS : va_S A s.heap H locs) (hA : ∀ q, A1 q → A q) (hf : ∀ q, free q → A q)
    (kk : ∀ o ∈ os', ∀ (ρ' : Nat → Nat) (H1 : Heap) (locs1 : List Loc), (n1 ≤ o.2.2.1 ∧ o.2.2.1 ≤ 128 ∧ (∀ i, i < n1 → ρ' i = ρ i) ∧ (o.2.2.1 = n1 → ρ' = ρ)) → ev_sat σ o.2.2.2 → va_P (dC, dI) cl (ev_wl σ ρ' ca o.2.1 o.2.2.1) H1 → va_D A1 (ev_wl σ ρ' ca o.2.1 o.2.2.1) → (∀ q : Nat, q < H.size → ¬ A1 q → H1[q]? = H[q]?) → va_S A s.heap H1 locs1 → W p l e R s mm args below meth c H1 locs1 (cells + mc) (slots + ms) Q (F0 mm (pc + 3) la ((ev_ro σ ρ' o.1).toList ++ rest))) : W p l e R s mm args below meth c H locs cells slots Q (F0 mm pc la st0) := by
  intro T hT X
  obtain ⟨v, st₀, t, T', L, h0, X', hL, e1, e2, ⟨⟨o, ho, ρ', h1, h2, hv, h3, h4⟩, hz, hkp⟩, stp⟩ := hr T hT X
  cases hv
  rw [h0] at hz hkp
  rw [← e1] at h3
  obtain ⟨t2, a1, b1⟩ := kk o ho ρ' T'.heap (locs ++ L) h1 h2 h3 h4 (fun q k1 k2 => by rw [e1]; exact hkp q k1 k2)
    ⟨Nat.le_trans hS.1 (by rw [e1]; exact hz), fun q k1 k2 => by rw [e1, hkp q (Nat.lt_of_lt_of_le k1 hS.1) (fun z => k2 (hA q z))]; exact hS.2.1 q k1 k2, fun q hq => by
      rcases List.mem_append.mp hq with k | k
      · exact hS.2.2 q k
      · exact hf _ (hL q k)⟩ T' rfl X'
  exact ⟨t2, stp t2 a1, b1⟩
theorem lw_good {m1 : ev_M} (h : ev_mok ev_cl ev_pg ev_gw ev_nw m1) : GoodIn lw_tbl (ev_ws ev_gw m1) := by
  intro w hw
  have h1 : w ∈ ev_gw := by
    rcases List.mem_cons.mp hw with rfl | hw
    · exact h.2.2.2.1
    · exact hw
  exact ⟨(List.mem_filter.mp h1).1, ev_gw_ok w h1⟩
theorem lw_nw (hts : ∀ w ∈ lw_tbl, w.before args s = true) : ∀ w ∈ ev_nw, va_Nw w s := fun w hw => va_Nw.of (ev_nok_on ev_nw_ok hw) (hts w (List.mem_filter.mp hw).1)
theorem lw_fr {wc : va_W} (hD : va_D A wc) (hS : va_S A s.heap H locs) (hA : ∀ q, s.heap.size ≤ q → A q) : ∀ q, va_A wc H.size q → A q := by
  rintro q (⟨j, ee, hj⟩ | hj)
  · exact hD.2 j _ hj
  · exact hA q (Nat.le_trans hS.1 hj)
theorem lw_room {m1 : ev_M} (h : m1.2.2.2.2.1 ≤ 21) : (ev_rm 7 m1).frames + 1 ≤ room_1.frames ∧ 8 + (m1.2.2.2.2.1 + 11) + (ev_rm 7 m1).locals ≤ room_1.locals := by
  refine ⟨Nat.le_of_ble_eq_true rfl, ?_⟩
  show 8 + (m1.2.2.2.2.1 + 11) + 280 ≤ 486
  omega
/-- a call of the law's: an answer by a list of boxes -/
theorem lw_pub {own : String} {nL idx x n ci : Nat} {m1 : ev_M} {as' fs : List ev_V} {hh : ev_H} {env : ev_E} {L : List (ev_E × Nat)} {wr : va_W} {rest : List Value} (hm1 : ev_pg[x]? = some m1) (hall : ev_all (ev_met ev_pg 7 x (.inr (.inl 1) :: as') hh n env) L = true) (hsat : ev_sat σ env) (hn : n ≤ 128) (h0n : 0 < n) (hc0 : ev_tg 7 hh 0 = .inl (ci, fs)) (hci : (ev_kd ev_cl ci).1 = m1.2.2.2.2.2.1.cls) (hcs : (ev_cl[ci]?).isSome = true)
    (hx : p.tables.exec = Jvm.exec) (hb : c.code = cc) (hml : c.maxLocals = nL) (hown : s.vm.findClass own = some mm.cls) (hts : ∀ w ∈ lw_tbl, w.before args s = true) (hK : va_K (dC, dI) ev_cl (ev_ty ca) s) (hA : ∀ q, s.heap.size ≤ q → A q)
    (hP : va_P (dC, dI) ev_cl (ev_wl σ ρ ca hh n ++ wr) H) (hD : va_D A (ev_wl σ ρ ca hh n ++ wr)) (hS : va_S A s.heap H locs)
    (hw : Jvm.Cond.methodLink own idx m1.2.2.2.2.2.1 ∈ lw_tbl ∧ Jvm.Cond.instanceMethod m1.2.2.2.2.2.1 ∈ lw_tbl ∧ Jvm.Cond.selects m1.2.2.2.2.2.1.cls m1.2.2.2.2.2.1 m1.2.2.2.2.2.1 ∈ lw_tbl ∧ Jvm.Cond.initialized m1.2.2.2.2.2.1.cls ∈ lw_tbl)
    (hd0 : m1.2.2.2.2.2.1.cls ≠ "java/lang/invoke/MethodHandle" ∧ m1.2.2.2.2.2.1.cls ≠ "java/lang/invoke/VarHandle" ∧ (parseMethodDescriptor m1.2.2.2.2.2.1.desc).map (fun d => d.parameters.length) = some as'.length)
    (hsz : la.size = nL) (hcat : (rest.map fun v => v.category).sum ≤ 8) (hd : decode cc pc = .ok (.invokevirtual idx, 3)) (hf : cells + m1.2.2.1 ≤ room_1.cells ∧ slots + m1.2.2.2.1 ≤ room_1.slots)
    (kk : ∀ (H1 : Heap) (locs1 : List Loc), va_P (dC, dI) ev_cl wr H1 → va_D A wr → va_S A s.heap H1 locs1 → W p l e room_1 s mm args below meth c H1 locs1 (cells + m1.2.2.1) (slots + m1.2.2.2.1) Q (F0 mm (pc + 3) la (.int (ev_spc L σ) :: rest))) : W p l e room_1 s mm args below meth c H locs cells slots Q (F0 mm pc la ((as'.map (ev_cv σ ρ)).reverse ++ .ref (ρ 0) :: rest)) := by
  obtain ⟨os, ho, hos⟩ := ev_all_ok hall
  obtain ⟨m2, hm2, hCt⟩ := ev_sound ev_sys 7 x _ _ _ _ _ ho
  cases hm1.symm.trans hm2
  have hmok := ev_sys.2.2.2 m1 (List.mem_of_getElem? hm1)
  have hM := hCt l dC dI ca σ ρ H.size hsat hn
  obtain ⟨⟨hDc, hDr⟩, hap⟩ := ev_ap2 hD
  obtain ⟨hPc, hPr⟩ := ev_Pl hP
  have hfr := lw_fr hDc hS hA
  have he : (ev_wl σ ρ ca hh n)[0]? = some (ρ 0, .inr (ci, fs.map (ev_cv σ ρ))) := by
    rw [ev_wl_get h0n, hc0]
    rfl
  have hrec := va_recv hK hPc (ev_kd_some hcs) he
  rw [hci] at hrec
  have hN := lw_nw hts
  have hcb : CallB room_1 s args own idx m1.2.2.2.2.2.1 m1.2.2.2.2.2.2.1 m1.2.2.2.2.1 m1.2.2.2.2.2.2.2 (ev_ws ev_gw m1) (ev_rm 7 m1) m1.2.2.1 m1.2.2.2.1 as'.length := callB_of as'.length hts (lw_good hmok) rfl rfl rfl (hts _ hw.2.2.2) (hts _ hw.1) hd0 (lw_room hmok.2.2.2.2)
  have hrun := va_runV (e := e) (locs := locs) (cells := cells) (slots := slots) (below := below) (meth := meth) (g := F0 mm pc la ((as'.map (ev_cv σ ρ)).reverse ++ .ref (ρ 0) :: rest)) (As := as'.map (ev_cv σ ρ)) (b := ρ 0) (C := m1.2.2.2.2.2.1.cls) ⟨hx, hb, hml, hown, hts⟩ hM ⟨hcb, hts _ hw.2.1, hts _ hw.2.2.1⟩ ⟨ev_Pr_blind ev_nw_ok, hrec, fun U hU hW => ⟨rfl, by rw [hU], by rw [hU]; exact hPc, va_K.moved hW.alike hK, hDc.weaken (fun _ _ _ _ => trivial), ev_nok_warm ev_nw_ok hW hN⟩⟩ rfl (by rw [List.length_map]) hsz rfl (lv_room hcat) hd hf
  refine ev_callP hrun hS hfr hfr ?_
  intro o hoo ρ' H1 locs1 k1 k2 k3 k4 k5 k6
  rw [hos o hoo σ ρ' k2]
  exact kk H1 locs1 (ev_stay hPr (fun i j p q hi hj z => hap j i q p hj hi z.symm) k5).1 hDr k6
/-- a new object of the law's -/
theorem lw_new {own : String} {nL idx x q ci n' : Nat} {m1 : ev_M} {fs : List ev_V} {hh : ev_H} {hh' : ev_H} {w0 : va_W} {rest : List Value} (hm1 : ev_pg[x]? = some m1) (hone : ∃ o, ev_met ev_pg 7 x [.inr (.inl 1)] hh 1 [] = some [o] ∧ o.2.1 = hh' ∧ o.2.2.1 = n') (hro : m1.2.2.2.2.2.2.2 = none) (hnu : ∀ o, ev_met ev_pg 7 x [.inr (.inl 1)] hh 1 [] = some [o] → o.1 = ev_U) (hc0 : ev_tg 7 hh 0 = .inl (ci, fs))
    (hx : p.tables.exec = Jvm.exec) (hb : c.code = cc) (hml : c.maxLocals = nL) (hown : s.vm.findClass own = some mm.cls) (hts : ∀ w ∈ lw_tbl, w.before args s = true) (hK : va_K (dC, dI) ev_cl (ev_ty ca) s) (hA : ∀ q, s.heap.size ≤ q → A q)
    (hP : va_P (dC, dI) ev_cl (w0 ++ [(q, .inr (ci, fs.map (ev_cv σ (fun _ => q))))]) H) (hD : va_D A (w0 ++ [(q, .inr (ci, fs.map (ev_cv σ (fun _ => q))))])) (hS : va_S A s.heap H locs)
    (hw : Jvm.Cond.methodLink own idx m1.2.2.2.2.2.1 ∈ lw_tbl ∧ Jvm.Cond.instanceMethod m1.2.2.2.2.2.1 ∈ lw_tbl ∧ Jvm.Cond.initialized m1.2.2.2.2.2.1.cls ∈ lw_tbl) (hin : m1.2.2.2.2.2.1.name = "<init>")
    (hd0 : m1.2.2.2.2.2.1.cls ≠ "java/lang/invoke/MethodHandle" ∧ m1.2.2.2.2.2.1.cls ≠ "java/lang/invoke/VarHandle" ∧ (parseMethodDescriptor m1.2.2.2.2.2.1.desc).map (fun d => d.parameters.length) = some 0)
    (hsz : la.size = nL) (hcat : (rest.map fun v => v.category).sum ≤ 8) (hd : decode cc pc = .ok (.invokespecial idx, 3)) (hf : cells + m1.2.2.1 ≤ room_1.cells ∧ slots + m1.2.2.2.1 ≤ room_1.slots)
    (kk : ∀ (ρ' : Nat → Nat) (H1 : Heap) (locs1 : List Loc), ρ' 0 = q → va_P (dC, dI) ev_cl (w0 ++ ev_wl σ ρ' ca hh' n') H1 → va_D A (w0 ++ ev_wl σ ρ' ca hh' n') → va_S A s.heap H1 locs1 → W p l e room_1 s mm args below meth c H1 locs1 (cells + m1.2.2.1) (slots + m1.2.2.2.1) Q (F0 mm (pc + 3) la rest)) : W p l e room_1 s mm args below meth c H locs cells slots Q (F0 mm pc la (.ref q :: rest)) := by
  obtain ⟨o, ho, ho1, ho2⟩ := hone
  obtain ⟨m2, hm2, hCt⟩ := ev_sound ev_sys 7 x _ _ _ _ _ ho
  cases hm1.symm.trans hm2
  have hmok := ev_sys.2.2.2 m1 (List.mem_of_getElem? hm1)
  have hM := hCt l dC dI ca σ (fun _ => q) H.size ev_sat_nil (by decide)
  have ew : ev_wl σ (fun _ => q) ca hh 1 = [(q, .inr (ci, fs.map (ev_cv σ (fun _ => q))))] := by
    show [(q, ev_ce σ (fun _ => q) ca (ev_tg 7 hh 0))] = _
    rw [hc0]
    rfl
  rw [← ew] at hP hD
  obtain ⟨⟨hDr, hDc⟩, hap⟩ := ev_ap2 hD
  obtain ⟨hPr, hPc⟩ := ev_Pl hP
  have hfr := lw_fr hDc hS hA
  have hN := lw_nw hts
  have hcb : CallB room_1 s args own idx m1.2.2.2.2.2.1 m1.2.2.2.2.2.2.1 m1.2.2.2.2.1 none (ev_ws ev_gw m1) (ev_rm 7 m1) m1.2.2.1 m1.2.2.2.1 0 := callB_of 0 hts (lw_good hmok) (by unfold ev_ws ev_cw; rw [hro]) rfl rfl (hts _ hw.2.2) (hts _ hw.1) hd0 (lw_room hmok.2.2.2.2)
  have hrun := va_runI (e := e) (locs := locs) (cells := cells) (slots := slots) (below := below) (meth := meth) (g := F0 mm pc la (.ref q :: rest)) (rest := rest) (As := []) (b := q) ⟨hx, hb, hml, hown, hts⟩ hM ⟨hcb, hin, hts _ hw.2.1⟩ ⟨ev_Pr_blind ev_nw_ok, fun U hU hW => ⟨rfl, by rw [hU], by rw [hU]; exact hPc, va_K.moved hW.alike hK, hDc.weaken (fun _ _ _ _ => trivial), ev_nok_warm ev_nw_ok hW hN⟩⟩ rfl rfl hsz rfl (lv_room hcat) hd hf
  refine ev_callP hrun hS hfr hfr ?_
  intro o2 hoo ρ' H1 locs1 k1 k2 k3 k4 k5 k6
  cases List.mem_singleton.mp hoo
  rw [hnu o ho]
  rw [ho1, ho2] at k3 k4
  obtain ⟨r1, r2⟩ := ev_stay hPr hap k5
  exact kk ρ' H1 locs1 (k1.2.2.1 0 (by decide)) (r1.app k3) (va_D.app hDr (k4.weaken (fun _ z _ hz => hfr z.1 hz)) (fun i j p z hp hz ee => r2 i p hp (by rw [ee]; exact k4.2 j z hz))) k6
end LWC
