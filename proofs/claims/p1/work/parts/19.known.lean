theorem lw_inst : ∀ (k : Nat) (q : vw_C), ev_cl[k]? = some q → Jvm.Cond.instantiable q.1 q.2.2 ∈ lw_tbl := by
  intro k q h
  match k, h with
  | 0, h => cases h; exact ev_tb_in 1 (List.mem_of_getElem? (i := 24) (by decide +kernel))
  | 1, h => cases h; exact ev_tb_in 3 (List.mem_of_getElem? (i := 182) (by decide +kernel))
  | 2, h => cases h; exact ev_tb_in 3 (List.mem_of_getElem? (i := 219) (by decide +kernel))
  | 3, h => cases h; exact ev_tb_in 2 (List.mem_of_getElem? (i := 43) (by decide +kernel))
  | 4, h => cases h; exact ev_tb_in 1 (List.mem_of_getElem? (i := 149) (by decide +kernel))
  | 5, h => cases h; exact ev_tb_in 3 (List.mem_of_getElem? (i := 192) (by decide +kernel))
  | 6, h => cases h; exact ev_tb_in 1 (List.mem_of_getElem? (i := 32) (by decide +kernel))
  | 7, h => cases h; exact ev_tb_in 2 (List.mem_of_getElem? (i := 120) (by decide +kernel))
  | 8, h => cases h; exact ev_tb_in 4 (List.mem_of_getElem? (i := 20) (by decide +kernel))
  | 9, h => cases h; exact ev_tb_in 1 (List.mem_of_getElem? (i := 38) (by decide +kernel))
  | 10, h => cases h; exact ev_tb_in 1 (List.mem_of_getElem? (i := 141) (by decide +kernel))
  | 11, h => cases h; exact ev_tb_in 6 (List.mem_of_getElem? (i := 106) (by decide +kernel))
  | _ + 12, h => simp [ev_cl] at h
theorem lw_known {s : State} {args : Array Value} (hts : ∀ w ∈ lw_tbl, w.before args s = true) : ∃ (dC : Nat → ClassId) (dI : Nat → Nat → Nat) (ca : Nat → ClassId), va_K (dC, dI) ev_cl (ev_ty ca) s := by
  have h : ∀ k : Nat, ∃ (cC : ClassId) (iS : Nat → Nat), ∀ q : vw_C, ev_cl[k]? = some q → u_Kn s q.1 q.2.1 q.2.2 cC iS := by
    intro k
    cases hq : ev_cl[k]? with
    | none => exact ⟨0, fun _ => 0, fun q h => by cases h⟩
    | some q =>
      obtain ⟨cC, iS, hk⟩ := u_known (C := q.1) (T := q.2.1) (N := q.2.2) (n := q.2.2) hts (fun w hw => (List.mem_filter.mp ((ev_sys.1 k q hq).1 w hw)).1) (hts _ (lw_inst k q hq))
      exact ⟨cC, iS, fun q' h => by cases h; exact hk⟩
  have ha : ∀ ty : FieldType, Jvm.Cond.arrayClass ty ∈ lw_tbl → (∀ C, ty ≠ .object C) → ∃ cA : ClassId, ArrOfT s cA ty ∧ va_RA s cA ty := by
    intro ty hw hne
    obtain ⟨cA, kA, comp, h1, h2, h3⟩ := Cond.arrayClass_spec (hts _ hw)
    refine ⟨cA, fun n z => ⟨fun k h => (by cases h), kA, h2, comp, h3⟩, ?_⟩
    cases ty with
    | object C => exact absurd rfl (hne C)
    | _ => exact h1
  obtain ⟨c0, k0⟩ := ha .int (ev_tb_in 1 (List.mem_of_getElem? (i := 101) (by decide +kernel))) (fun _ h => by cases h)
  obtain ⟨c1, k1⟩ := ha .long (ev_tb_in 2 (List.mem_of_getElem? (i := 117) (by decide +kernel))) (fun _ h => by cases h)
  obtain ⟨c2, k2⟩ := ha .boolean (ev_tb_in 2 (List.mem_of_getElem? (i := 118) (by decide +kernel))) (fun _ h => by cases h)
  obtain ⟨c3, k3⟩ := ha .byte (ev_tb_in 1 (List.mem_of_getElem? (i := 100) (by decide +kernel))) (fun _ h => by cases h)
  refine ⟨fun k => (h k).choose, fun k => (h k).choose_spec.choose, fun k => match k with
    | 0 => c0
    | 1 => c1
    | 2 => c2
    | _ => c3, fun k q hq => (h k).choose_spec.choose_spec q hq, fun k q hq => ?_⟩
  match k, hq with
  | 0, hq => cases hq; exact k0
  | 1, hq => cases hq; exact k1
  | 2, hq => cases hq; exact k2
  | 3, hq => cases hq; exact k3
  | _ + 4, hq => simp [ev_ty] at hq
theorem lw_dflt {q : vw_C} {fs : List ev_V} {ty0 : Nat → FieldType} (hs : ev_snw q fs = true) (hty : ∀ k, k < q.2.2 → parseFieldDescriptor (q.2.1 k).2.2.1 = some (ty0 k)) (σ : Nat → Int32) (ρ : Nat → Nat) : ∀ j, j < q.2.2 → defaultValue (ty0 j) = vp_V (fs.map (ev_cv σ ρ)) j := by
  obtain ⟨-, hs2⟩ := ev_band (show Bool.and _ _ = true from hs)
  intro j hj
  have h1 := List.all_eq_true.mp hs2 j (List.mem_range.mpr hj)
  rw [hty j hj] at h1
  have h1 : ev_dvt (ty0 j) fs[j]? = true := h1
  unfold vp_V
  rw [List.getD_eq_getElem?_getD, List.getElem?_map]
  match ty0 j, fs[j]?, h1 with
  | .long, some (.inr (.inr (.inl 0))), _ => rfl
  | .object _, some (.inr (.inl 0)), _ => rfl
  | .array _, some (.inr (.inl 0)), _ => rfl
  | .int, some (.inl 0), _ => rfl
  | .boolean, some (.inl 0), _ => rfl
  | .byte, some (.inl 0), _ => rfl
noncomputable def ev_isu (r : ev_R) : Bool := match r with
  | some [o] => Bool.not (ev_nu o.1)
  | _ => false
theorem ev_isu_ok {r : ev_R} (h : ev_isu r = true) : ∀ o, r = some [o] → o.1 = ev_U := by
  intro o ho
  subst ho
  have h : Bool.not (ev_nu o.1) = true := h
  match hv : o.1 with
  | .inl _ => rw [hv] at h; cases h
  | .inr (.inl _) => rw [hv] at h; cases h
  | .inr (.inr (.inl _)) => rw [hv] at h; cases h
  | .inr (.inr (.inr (.inl _))) => rw [hv] at h; cases h
  | .inr (.inr (.inr (.inr ()))) => rfl
theorem ev_uxx : ev_isu ev_oxx = true := by decide +kernel
theorem ev_umm : ev_isu ev_omm = true := by decide +kernel
theorem ev_oxx_ok2 : ∃ o, ev_met ev_pg 7 56 [.inr (.inl 1)] ev_nxx 1 [] = some [o] ∧ o.2.1 = ev_hxx ∧ o.2.2.1 = 50 := by
  have h := ev_oxx_ok
  unfold ev_oxx at h
  exact h
theorem ev_omm_ok2 : ∃ o, ev_met ev_pg 7 59 [.inr (.inl 1)] ev_nmm 1 [] = some [o] ∧ o.2.1 = ev_hmm ∧ o.2.2.1 = 39 := by
  have h := ev_omm_ok
  unfold ev_omm at h
  exact h
theorem ev_uxx2 : ∀ o, ev_met ev_pg 7 56 [.inr (.inl 1)] ev_nxx 1 [] = some [o] → o.1 = ev_U := by
  have h := ev_isu_ok ev_uxx
  unfold ev_oxx at h
  exact h
theorem ev_umm2 : ∀ o, ev_met ev_pg 7 59 [.inr (.inl 1)] ev_nmm 1 [] = some [o] → o.1 = ev_U := by
  have h := ev_isu_ok ev_umm
  unfold ev_omm at h
  exact h
theorem ev_nxx_0 : ev_tg 7 ev_nxx 0 = .inl (0, ev_fxx) := (ev_tg_ts _ 7 ev_h0 0 0 (by decide) (by decide)).trans (if_pos rfl)
theorem ev_nmm_0 : ev_tg 7 ev_nmm 0 = .inl (11, ev_fmm) := (ev_tg_ts _ 7 ev_h0 0 0 (by decide) (by decide)).trans (if_pos rfl)
