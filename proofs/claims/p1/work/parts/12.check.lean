/-! ===== the program's tables are right: bytes, words, fields ===== -/
def ev_tb (k : Nat) : List Jvm.Cond := match k with
  | 0 => k2_sels lw_privs
  | 1 => tables_1_1
  | 2 => tables_1_2
  | 3 => tables_1_3
  | 4 => tables_1_4
  | 5 => tables_1_5
  | 6 => tables_1_6
  | 7 => tables_1_7
  | 8 => tables_1_8
  | 9 => tables_1_9
  | _ => []
theorem ev_tb_in (k : Nat) {w : Jvm.Cond} (h : w ∈ ev_tb k) : w ∈ lw_tbl := by
  have T : ∀ {x}, x ∈ tables_1 → x ∈ lw_tbl := fun h => List.mem_append_right _ h
  match k, h with
  | 0, h => exact List.mem_append_left _ h
  | 1, h => exact T (List.mem_append_left _ h)
  | 2, h => exact T (List.mem_append_right _ (List.mem_append_left _ h))
  | 3, h => exact T (List.mem_append_right _ (List.mem_append_right _ (List.mem_append_left _ h)))
  | 4, h => exact T (List.mem_append_right _ (List.mem_append_right _ (List.mem_append_right _ (List.mem_append_left _ h))))
  | 5, h => exact T (List.mem_append_right _ (List.mem_append_right _ (List.mem_append_right _ (List.mem_append_right _ (List.mem_append_left _ h)))))
  | 6, h => exact T (List.mem_append_right _ (List.mem_append_right _ (List.mem_append_right _ (List.mem_append_right _ (List.mem_append_right _ (List.mem_append_left _ h))))))
  | 7, h => exact T (List.mem_append_right _ (List.mem_append_right _ (List.mem_append_right _ (List.mem_append_right _ (List.mem_append_right _ (List.mem_append_right _ (List.mem_append_left _ h)))))))
  | 8, h => exact T (List.mem_append_right _ (List.mem_append_right _ (List.mem_append_right _ (List.mem_append_right _ (List.mem_append_right _ (List.mem_append_right _ (List.mem_append_right _ (List.mem_append_left _ h))))))))
  | 9, h => exact T (List.mem_append_right _ (List.mem_append_right _ (List.mem_append_right _ (List.mem_append_right _ (List.mem_append_right _ (List.mem_append_right _ (List.mem_append_right _ (List.mem_append_right _ h))))))))
  | _ + 10, h => cases h
def ev_gw : List Jvm.Cond := lw_tbl.filter goodWord
def ev_isn (w : Jvm.Cond) : Bool := match w with
  | .fieldLinkNest _ _ _ _ _ _ => true
  | .methodLinkNest _ _ _ _ => true
  | _ => false
def ev_nw : List Jvm.Cond := lw_tbl.filter ev_isn
theorem ev_gw_ok : ev_gok ev_gw := fun w h => good_of_word (List.mem_filter.mp h).2
theorem ev_nw_ok : ev_nok ev_nw := by
  intro w h
  have h1 := (List.mem_filter.mp h).2
  match w, h1 with
  | .fieldLinkNest a i b n d h, _ => exact Or.inl ⟨a, i, b, n, d, h, rfl⟩
  | .methodLinkNest a i x h, _ => exact Or.inr ⟨a, i, x, h, rfl⟩
theorem ev_pl {ws : List Jvm.Cond} {pl : List (Nat × Nat)} {f : Jvm.Cond → Bool} (h1 : ws.map some = pl.map (fun q => (ev_tb q.1)[q.2]?)) (h2 : ws.all f = true) : ∀ w ∈ ws, w ∈ lw_tbl.filter f := by
  intro w hw
  have h3 : some w ∈ ws.map some := List.mem_map.mpr ⟨w, hw, rfl⟩
  rw [h1] at h3
  obtain ⟨q, -, hq⟩ := List.mem_map.mp h3
  exact List.mem_filter.mpr ⟨ev_tb_in q.1 (List.mem_of_getElem? hq), List.all_eq_true.mp h2 w hw⟩
noncomputable def ev_dkb (cl : List vw_C) (pg : List ev_M) (m : ev_M) : Nat → List ev_I → Bool
  | _, [] => true
  | pc, i :: r => match ev_fal i with
    | some t => decide (ev_pc m.1 t = pc)
    | none => decide (decode m.2.2.2.2.2.2.1 pc = .ok (ev_xi m pc i)) && ev_si cl pg m i && ev_dkb cl pg m (pc + (ev_xi m pc i).2) r
noncomputable def ev_wm (cl : List vw_C) (pg : List ev_M) (m : ev_M) : List Jvm.Cond := m.1.flatMap (fun b => b.2.flatMap (ev_wi cl pg m))
noncomputable def ev_nlm (cl : List vw_C) (pg : List ev_M) (m : ev_M) : List Jvm.Cond := m.1.flatMap (fun b => b.2.flatMap (ev_ni cl pg m))
theorem ev_dkb_ok {cl : List vw_C} {pg : List ev_M} {m : ev_M} {gw nw : List Jvm.Cond} : ∀ (r : List ev_I) (pc : Nat), ev_dkb cl pg m pc r = true → (∀ w ∈ r.flatMap (ev_wi cl pg m), w ∈ gw) → (∀ w ∈ r.flatMap (ev_ni cl pg m), w ∈ nw) → ev_okc cl pg gw nw m pc r
  | [], _, _, _, _ => trivial
  | i :: r, pc, h, h1, h2 => by
    unfold ev_dkb at h
    unfold ev_okc
    cases hf : ev_fal i with
    | some t =>
      rw [hf] at h
      exact of_decide_eq_true h
    | none =>
      rw [hf] at h
      obtain ⟨h, h5⟩ := ev_band (show Bool.and _ _ = true from h)
      obtain ⟨h3, h4⟩ := ev_band (show Bool.and _ _ = true from h)
      rw [List.flatMap_cons] at h1 h2
      exact ⟨of_decide_eq_true h3, fun w hw => h1 w (List.mem_append_left _ hw), fun w hw => h2 w (List.mem_append_left _ hw), h4, ev_dkb_ok r _ h5 (fun w hw => h1 w (List.mem_append_right _ hw)) (fun w hw => h2 w (List.mem_append_right _ hw))⟩
theorem ev_ckm {cl : List vw_C} {pg : List ev_M} {m : ev_M} {pl pn : List (Nat × Nat)} (h1 : m.1.all (fun b => ev_dkb cl pg m b.1 b.2) = true) (h2 : (ev_cw m :: ev_wm cl pg m).map some = pl.map (fun q => (ev_tb q.1)[q.2]?)) (h3 : (ev_cw m :: ev_wm cl pg m).all goodWord = true) (h4 : (ev_nlm cl pg m).map some = pn.map (fun q => (ev_tb q.1)[q.2]?)) (h5 : (ev_nlm cl pg m).all ev_isn = true) (h6 : ev_pc m.1 m.2.1 = 0 ∧ plainName (ev_own m) = true ∧ m.2.2.2.2.1 ≤ 21) : ev_mok cl pg ev_gw ev_nw m := by
  have k1 := ev_pl h2 h3
  have k2 := ev_pl h4 h5
  refine ⟨fun b hb => ev_dkb_ok b.2 b.1 (List.all_eq_true.mp h1 b hb) (fun w hw => k1 w (List.mem_cons_of_mem _ (List.mem_flatMap.mpr ⟨b, hb, hw⟩))) (fun w hw => k2 w (List.mem_flatMap.mpr ⟨b, hb, hw⟩)), h6.1, h6.2.1, k1 _ List.mem_cons_self, h6.2.2⟩
theorem ev_ckk {q : vw_C} {pl : List (Nat × Nat)} (h1 : (u_ws q.1 q.2.1 q.2.2).map some = pl.map (fun q => (ev_tb q.1)[q.2]?)) (h2 : (u_ws q.1 q.2.1 q.2.2).all goodWord = true) (h3 : (List.range q.2.2).all (fun k => (parseFieldDescriptor (q.2.1 k).2.2.1).isSome) = true) (h4 : ∀ a, a < q.2.2 → ∀ b, b < q.2.2 → a ≠ b → (q.2.1 a).2.1 ≠ (q.2.1 b).2.1) : (∀ w ∈ u_ws q.1 q.2.1 q.2.2, w ∈ ev_gw) ∧ ∃ ty0 : Nat → FieldType, (∀ k, k < q.2.2 → parseFieldDescriptor (q.2.1 k).2.2.1 = some (ty0 k)) ∧ (∀ a, a < q.2.2 → ∀ b, b < q.2.2 → a ≠ b → (q.2.1 a).2.1 ≠ (q.2.1 b).2.1) := by
  refine ⟨ev_pl h1 h2, fun k => (parseFieldDescriptor (q.2.1 k).2.2.1).getD .int, fun k hk => ?_, h4⟩
  have h := List.all_eq_true.mp h3 k (List.mem_range.mpr hk)
  dsimp only at h ⊢
  cases hp : parseFieldDescriptor (q.2.1 k).2.2.1 with
  | none => rw [hp] at h; cases h
  | some ty => rfl
theorem ck_k0 : (∀ w ∈ u_ws "RegisterColours" kd_0 12, w ∈ ev_gw) ∧ ∃ ty0 : Nat → FieldType, (∀ k, k < 12 → parseFieldDescriptor (kd_0 k).2.2.1 = some (ty0 k)) ∧ (∀ a, a < 12 → ∀ b, b < 12 → a ≠ b → (kd_0 a).2.1 ≠ (kd_0 b).2.1) := ev_ckk (q := ("RegisterColours", kd_0, 12)) (pl := [(2, 189), (2, 193), (2, 199), (2, 197), (2, 187), (2, 203), (2, 191), (2, 201), (2, 195), (2, 205), (2, 209), (2, 207)]) (by decide +kernel) (by decide +kernel) (by decide +kernel) (by decide +kernel)
theorem ck_k1 : (∀ w ∈ u_ws "RegisterColours$Allocator" kd_1 5, w ∈ ev_gw) ∧ ∃ ty0 : Nat → FieldType, (∀ k, k < 5 → parseFieldDescriptor (kd_1 k).2.2.1 = some (ty0 k)) ∧ (∀ a, a < 5 → ∀ b, b < 5 → a ≠ b → (kd_1 a).2.1 ≠ (kd_1 b).2.1) := ev_ckk (q := ("RegisterColours$Allocator", kd_1, 5)) (pl := [(4, 55), (4, 59), (4, 61), (4, 57), (4, 63)]) (by decide +kernel) (by decide +kernel) (by decide +kernel) (by decide +kernel)
theorem ck_k2 : (∀ w ∈ u_ws "RegisterColours$Colourer" kd_2 10, w ∈ ev_gw) ∧ ∃ ty0 : Nat → FieldType, (∀ k, k < 10 → parseFieldDescriptor (kd_2 k).2.2.1 = some (ty0 k)) ∧ (∀ a, a < 10 → ∀ b, b < 10 → a ≠ b → (kd_2 a).2.1 ≠ (kd_2 b).2.1) := ev_ckk (q := ("RegisterColours$Colourer", kd_2, 10)) (pl := [(4, 16), (3, 238), (4, 0), (4, 12), (4, 2), (4, 4), (4, 10), (4, 6), (4, 8), (4, 14)]) (by decide +kernel) (by decide +kernel) (by decide +kernel) (by decide +kernel)
theorem ck_k3 : (∀ w ∈ u_ws "RegisterColours$Graph" kd_3 18, w ∈ ev_gw) ∧ ∃ ty0 : Nat → FieldType, (∀ k, k < 18 → parseFieldDescriptor (kd_3 k).2.2.1 = some (ty0 k)) ∧ (∀ a, a < 18 → ∀ b, b < 18 → a ≠ b → (kd_3 a).2.1 ≠ (kd_3 b).2.1) := ev_ckk (q := ("RegisterColours$Graph", kd_3, 18)) (pl := [(2, 84), (2, 88), (2, 108), (2, 106), (2, 82), (2, 110), (2, 100), (2, 94), (2, 96), (2, 80), (2, 112), (2, 104), (2, 86), (2, 114), (2, 90), (2, 92), (2, 98), (2, 102)]) (by decide +kernel) (by decide +kernel) (by decide +kernel) (by decide +kernel)
theorem ck_k4 : (∀ w ∈ u_ws "RegisterColours$Left" kd_4 13, w ∈ ev_gw) ∧ ∃ ty0 : Nat → FieldType, (∀ k, k < 13 → parseFieldDescriptor (kd_4 k).2.2.1 = some (ty0 k)) ∧ (∀ a, a < 13 → ∀ b, b < 13 → a ≠ b → (kd_4 a).2.1 ≠ (kd_4 b).2.1) := ev_ckk (q := ("RegisterColours$Left", kd_4, 13)) (pl := [(1, 206), (1, 210), (1, 202), (1, 226), (1, 204), (1, 212), (1, 214), (1, 222), (1, 208), (1, 216), (1, 218), (1, 220), (1, 224)]) (by decide +kernel) (by decide +kernel) (by decide +kernel) (by decide +kernel)
theorem ck_k5 : (∀ w ∈ u_ws "RegisterColours$Merger" kd_5 6, w ∈ ev_gw) ∧ ∃ ty0 : Nat → FieldType, (∀ k, k < 6 → parseFieldDescriptor (kd_5 k).2.2.1 = some (ty0 k)) ∧ (∀ a, a < 6 → ∀ b, b < 6 → a ≠ b → (kd_5 a).2.1 ≠ (kd_5 b).2.1) := ev_ckk (q := ("RegisterColours$Merger", kd_5, 6)) (pl := [(3, 205), (3, 215), (3, 213), (3, 207), (3, 211), (3, 209)]) (by decide +kernel) (by decide +kernel) (by decide +kernel) (by decide +kernel)
theorem ck_k6 : (∀ w ∈ u_ws "RegisterColours$Reader" kd_6 11, w ∈ ev_gw) ∧ ∃ ty0 : Nat → FieldType, (∀ k, k < 11 → parseFieldDescriptor (kd_6 k).2.2.1 = some (ty0 k)) ∧ (∀ a, a < 11 → ∀ b, b < 11 → a ≠ b → (kd_6 a).2.1 ≠ (kd_6 b).2.1) := ev_ckk (q := ("RegisterColours$Reader", kd_6, 11)) (pl := [(1, 119), (1, 121), (1, 117), (1, 123), (1, 127), (1, 137), (1, 129), (1, 133), (1, 125), (1, 131), (1, 135)]) (by decide +kernel) (by decide +kernel) (by decide +kernel) (by decide +kernel)
theorem ck_k7 : (∀ w ∈ u_ws "RegisterColours$Runner" kd_7 13, w ∈ ev_gw) ∧ ∃ ty0 : Nat → FieldType, (∀ k, k < 13 → parseFieldDescriptor (kd_7 k).2.2.1 = some (ty0 k)) ∧ (∀ a, a < 13 → ∀ b, b < 13 → a ≠ b → (kd_7 a).2.1 ≠ (kd_7 b).2.1) := ev_ckk (q := ("RegisterColours$Runner", kd_7, 13)) (pl := [(2, 164), (2, 142), (2, 144), (2, 146), (2, 148), (2, 150), (2, 152), (2, 154), (2, 156), (2, 158), (2, 160), (2, 162), (2, 166)]) (by decide +kernel) (by decide +kernel) (by decide +kernel) (by decide +kernel)
theorem ck_k8 : (∀ w ∈ u_ws "RegisterColours$Spiller" kd_8 7, w ∈ ev_gw) ∧ ∃ ty0 : Nat → FieldType, (∀ k, k < 7 → parseFieldDescriptor (kd_8 k).2.2.1 = some (ty0 k)) ∧ (∀ a, a < 7 → ∀ b, b < 7 → a ≠ b → (kd_8 a).2.1 ≠ (kd_8 b).2.1) := ev_ckk (q := ("RegisterColours$Spiller", kd_8, 7)) (pl := [(4, 34), (4, 36), (4, 38), (4, 40), (4, 42), (4, 44), (4, 46)]) (by decide +kernel) (by decide +kernel) (by decide +kernel) (by decide +kernel)
theorem ck_k9 : (∀ w ∈ u_ws "RegisterColours$Steps" kd_9 6, w ∈ ev_gw) ∧ ∃ ty0 : Nat → FieldType, (∀ k, k < 6 → parseFieldDescriptor (kd_9 k).2.2.1 = some (ty0 k)) ∧ (∀ a, a < 6 → ∀ b, b < 6 → a ≠ b → (kd_9 a).2.1 ≠ (kd_9 b).2.1) := ev_ckk (q := ("RegisterColours$Steps", kd_9, 6)) (pl := [(1, 97), (1, 87), (1, 89), (1, 91), (1, 93), (1, 95)]) (by decide +kernel) (by decide +kernel) (by decide +kernel) (by decide +kernel)
theorem ck_k10 : (∀ w ∈ u_ws "RegisterColours$Told" kd_10 10, w ∈ ev_gw) ∧ ∃ ty0 : Nat → FieldType, (∀ k, k < 10 → parseFieldDescriptor (kd_10 k).2.2.1 = some (ty0 k)) ∧ (∀ a, a < 10 → ∀ b, b < 10 → a ≠ b → (kd_10 a).2.1 ≠ (kd_10 b).2.1) := ev_ckk (q := ("RegisterColours$Told", kd_10, 10)) (pl := [(2, 37), (2, 25), (2, 21), (2, 31), (2, 23), (2, 33), (2, 29), (2, 27), (2, 35), (2, 39)]) (by decide +kernel) (by decide +kernel) (by decide +kernel) (by decide +kernel)
theorem ck_k11 : (∀ w ∈ u_ws "RegisterColoursModel" kd_11 73, w ∈ ev_gw) ∧ ∃ ty0 : Nat → FieldType, (∀ k, k < 73 → parseFieldDescriptor (kd_11 k).2.2.1 = some (ty0 k)) ∧ (∀ a, a < 73 → ∀ b, b < 73 → a ≠ b → (kd_11 a).2.1 ≠ (kd_11 b).2.1) := ev_ckk (q := ("RegisterColoursModel", kd_11, 73)) (pl := [(6, 213), (7, 87), (6, 209), (6, 205), (6, 187), (7, 85), (7, 89), (6, 211), (6, 207), (6, 235), (7, 79), (6, 197), (6, 227), (6, 199), (7, 13), (7, 15), (7, 17), (7, 57), (7, 63), (6, 195), (7, 23), (7, 21), (6, 185), (6, 201), (6, 189), (7, 11), (7, 19), (6, 191), (7, 53), (7, 59), (7, 43), (7, 25), (7, 61), (7, 29), (7, 41), (7, 45), (7, 55), (7, 81), (6, 193), (6, 215), (6, 219), (6, 221), (6, 229), (6, 237), (6, 239), (7, 1), (7, 3), (7, 39), (7, 47), (7, 51), (7, 67), (7, 69), (7, 71), (7, 83), (6, 203), (6, 217), (6, 223), (6, 225), (6, 231), (6, 233), (7, 5), (7, 7), (7, 27), (7, 33), (7, 49), (7, 65), (7, 73), (7, 75), (7, 77), (7, 9), (7, 31), (7, 35), (7, 37)]) (by decide +kernel) (by decide +kernel) (by decide +kernel) (by decide +kernel)
