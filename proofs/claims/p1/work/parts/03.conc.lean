/-! ===== what the evaluator's data stand for: σ the tokens' ints, ρ the cells' addresses, ca the array kinds' numbers ===== -/
def ev_ap (o : Nat × Nat) (x : Int32) : Int32 := match o.1 with
  | 2 => x >>> (Int32.ofNat o.2 &&& 31)
  | 3 => x &&& Int32.ofNat o.2
  | 7 => (x.toUInt32 >>> ((Int32.ofNat o.2).toUInt32 &&& Int32.toUInt32 31)).toInt32
  | _ => x.toInt8.toInt32
def ev_ct (σ : Nat → Int32) (t : ev_T) : Int32 := t.2.foldr ev_ap (σ t.1)
theorem ev_ct_cons (σ : Nat → Int32) (k : Nat) (o : Nat × Nat) (l : List (Nat × Nat)) : ev_ct σ (k, o :: l) = ev_ap o (ev_ct σ (k, l)) := rfl
theorem ev_ct_nil (σ : Nat → Int32) (k : Nat) : ev_ct σ (k, []) = σ k := rfl
/-- a value as an int -/
def ev_ci (σ : Nat → Int32) (v : ev_V) : Int32 := match v with
  | .inl n => Int32.ofNat n
  | .inr (.inr (.inr (.inl t))) => ev_ct σ t
  | _ => 0
def ev_cr (ρ : Nat → Nat) (r : Nat) : Value := match r with
  | 0 => .null
  | k + 1 => .ref (ρ k)
def ev_cv (σ : Nat → Int32) (ρ : Nat → Nat) (v : ev_V) : Value := match v with
  | .inl n => .int (Int32.ofNat n)
  | .inr (.inl r) => ev_cr ρ r
  | .inr (.inr (.inl n)) => .long (Int64.ofNat n)
  | .inr (.inr (.inr (.inl t))) => .int (ev_ct σ t)
  | .inr (.inr (.inr (.inr _))) => .null
noncomputable def ev_cf (σ : Nat → Int32) (M : Nat) (ov : List (Nat × ev_V)) (j : Nat) : Int32 := match ov.find? (fun q => q.1 == j) with
  | some q => ev_ci σ q.2
  | none => Int32.ofNat (ev_gm 32 M j)
noncomputable def ev_ca (σ : Nat → Int32) (q M : Nat) (ov : List (Nat × ev_V)) : (Nat → Int32) ⊕ (Nat → Int64) ⊕ (Nat → UInt32) ⊕ (Nat → UInt64) ⊕ (Nat → Option Nat) := match q with
  | 1 => .inr (.inl (fun j => Int64.ofNat (ev_gm 64 M j)))
  | _ => .inl (ev_cf σ M ov)
noncomputable def ev_ce (σ : Nat → Int32) (ρ : Nat → Nat) (ca : Nat → ClassId) (c : ev_C) : va_E := match c with
  | .inl o => .inr (o.1, o.2.map (ev_cv σ ρ))
  | .inr a => .inl (ca a.1, a.2.1, ev_ca σ a.1 a.2.2.1 a.2.2.2)
noncomputable def ev_wl (σ : Nat → Int32) (ρ : Nat → Nat) (ca : Nat → ClassId) (h : ev_H) (n : Nat) : va_W := (List.range n).map (fun i => (ρ i, ev_ce σ ρ ca (ev_tg 7 h i)))
theorem ev_wl_get {σ : Nat → Int32} {ρ : Nat → Nat} {ca : Nat → ClassId} {h : ev_H} {n i : Nat} (hi : i < n) : (ev_wl σ ρ ca h n)[i]? = some (ρ i, ev_ce σ ρ ca (ev_tg 7 h i)) := by
  simp [ev_wl, hi]
theorem ev_wl_none {σ : Nat → Int32} {ρ : Nat → Nat} {ca : Nat → ClassId} {h : ev_H} {n i : Nat} (hi : ¬ i < n) : (ev_wl σ ρ ca h n)[i]? = none := by
  simp [ev_wl]
  omega
theorem ev_wl_set {σ : Nat → Int32} {ρ : Nat → Nat} {ca : Nat → ClassId} {h : ev_H} {n i : Nat} {c : ev_C} (hi : i < n) (hn : n ≤ 128) : ev_wl σ ρ ca (ev_ts 7 h i c) n = (ev_wl σ ρ ca h n).set i (ρ i, ev_ce σ ρ ca c) := by
  refine List.ext_getElem? fun j => ?_
  by_cases hj : j < n
  · rw [ev_wl_get hj, List.getElem?_set, ev_wl_get hj, ev_tg_ts c 7 h i j (by show i < 128; omega) (by show j < 128; omega)]
    by_cases e : j = i
    · subst e
      rw [if_pos rfl, if_pos rfl, if_pos (by simp [ev_wl]; exact hi)]
    · rw [if_neg e, if_neg (Ne.symm e)]
  · rw [ev_wl_none hj, List.getElem?_set_ne (by omega), ev_wl_none hj]
/-- references below n stay when only later addresses change -/
theorem ev_cv_cl {σ : Nat → Int32} {ρ ρ' : Nat → Nat} {n : Nat} (hr : ∀ i, i < n → ρ' i = ρ i) {v : ev_V} (hv : ev_clV n v = true) : ev_cv σ ρ' v = ev_cv σ ρ v := by
  match v, hv with
  | .inl _, _ => rfl
  | .inr (.inl 0), _ => rfl
  | .inr (.inl (k + 1)), h =>
    have hk : k + 1 ≤ n := Nat.le_of_ble_eq_true h
    show Value.ref (ρ' k) = Value.ref (ρ k)
    rw [hr k (by omega)]
  | .inr (.inr (.inl _)), _ => rfl
  | .inr (.inr (.inr (.inl _))), _ => rfl
  | .inr (.inr (.inr (.inr _))), _ => rfl
theorem ev_cvs_cl {σ : Nat → Int32} {ρ ρ' : Nat → Nat} {n : Nat} (hr : ∀ i, i < n → ρ' i = ρ i) {l : List ev_V} (hv : l.all (ev_clV n) = true) : l.map (ev_cv σ ρ') = l.map (ev_cv σ ρ) :=
  List.map_congr_left fun v h => ev_cv_cl hr (List.all_eq_true.mp hv v h)
theorem ev_ce_cl {σ : Nat → Int32} {ρ ρ' : Nat → Nat} {ca : Nat → ClassId} {n : Nat} (hr : ∀ i, i < n → ρ' i = ρ i) {c : ev_C} (hv : ev_clC n c = true) : ev_ce σ ρ' ca c = ev_ce σ ρ ca c := by
  cases c with
  | inl o =>
    obtain ⟨i, fs⟩ := o
    show (Sum.inr (i, fs.map (ev_cv σ ρ')) : va_E) = Sum.inr (i, fs.map (ev_cv σ ρ))
    rw [ev_cvs_cl hr hv]
  | inr a => rfl
theorem ev_wl_push {σ : Nat → Int32} {ρ ρ' : Nat → Nat} {ca : Nat → ClassId} {h : ev_H} {n : Nat} {c : ev_C} (hn : n ≤ 127) (hr : ∀ i, i < n → ρ' i = ρ i) (hh : ev_clH n h = true) : ev_wl σ ρ' ca (ev_ts 7 h n c) (n + 1) = ev_wl σ ρ ca h n ++ [(ρ' n, ev_ce σ ρ' ca c)] := by
  have hl : (ev_wl σ ρ ca h n).length = n := by simp [ev_wl]
  refine List.ext_getElem? fun j => ?_
  by_cases hj : j < n
  · rw [ev_wl_get (by omega), List.getElem?_append_left (by omega), ev_wl_get hj, ev_tg_ts c 7 h n j (by show n < 128; omega) (by show j < 128; omega), if_neg (by omega), hr j hj, ev_ce_cl hr (List.all_eq_true.mp hh j (List.mem_range.mpr hj))]
  · by_cases e : j = n
    · subst e
      rw [ev_wl_get (by omega), List.getElem?_append_right (by omega), hl, ev_tg_ts c 7 h j j (by show j < 128; omega) (by show j < 128; omega), if_pos rfl]
      simp
    · rw [ev_wl_none (by omega), List.getElem?_append_right (by omega), hl, show j - n = (j - n - 1) + 1 by omega]
      rfl
/-! the places for values -/
def ev_pr (σ : Nat → Int32) (ρ : Nat → Nat) : Nat → List ev_V → List (Nat × Value)
  | _, [] => []
  | k, v :: r => match v with
    | .inr (.inr (.inr (.inr _))) => ev_pr σ ρ (k + 1) r
    | u => (k, ev_cv σ ρ u) :: ev_pr σ ρ (k + 1) r
theorem ev_pr_cons (σ : Nat → Int32) (ρ : Nat → Nat) (k : Nat) (v : ev_V) (r : List ev_V) (hv : v ≠ ev_U) : ev_pr σ ρ k (v :: r) = (k, ev_cv σ ρ v) :: ev_pr σ ρ (k + 1) r := by
  match v, hv with
  | .inl _, _ => rfl
  | .inr (.inl _), _ => rfl
  | .inr (.inr (.inl _)), _ => rfl
  | .inr (.inr (.inr (.inl _))), _ => rfl
  | .inr (.inr (.inr (.inr ()))), h => exact absurd rfl h
theorem ev_pr_mem {σ : Nat → Int32} {ρ : Nat → Nat} (l : List ev_V) : ∀ (k : Nat) (q : Nat × Value), q ∈ ev_pr σ ρ k l ↔ ∃ (j : Nat) (v : ev_V), l[j]? = some v ∧ v ≠ ev_U ∧ q = (k + j, ev_cv σ ρ v) := by
  induction l with
  | nil =>
    intro k q
    constructor
    · intro h
      cases h
    · rintro ⟨j, v, h, -⟩
      simp at h
  | cons a r ih =>
    intro k q
    by_cases ha : a = ev_U
    · subst ha
      show q ∈ ev_pr σ ρ (k + 1) r ↔ _
      rw [ih (k + 1) q]
      constructor
      · rintro ⟨j, v, h1, h2, rfl⟩
        exact ⟨j + 1, v, by simpa using h1, h2, by rw [show k + 1 + j = k + (j + 1) by omega]⟩
      · rintro ⟨j, v, h1, h2, rfl⟩
        cases j with
        | zero =>
          simp at h1
          exact absurd h1.symm h2
        | succ j => exact ⟨j, v, by simpa using h1, h2, by rw [show k + 1 + j = k + (j + 1) by omega]⟩
    · rw [ev_pr_cons σ ρ k a r ha, List.mem_cons, ih (k + 1) q]
      constructor
      · rintro (rfl | ⟨j, v, h1, h2, rfl⟩)
        · exact ⟨0, a, rfl, ha, rfl⟩
        · exact ⟨j + 1, v, by simpa using h1, h2, by rw [show k + 1 + j = k + (j + 1) by omega]⟩
      · rintro ⟨j, v, h1, h2, rfl⟩
        cases j with
        | zero =>
          simp at h1
          subst h1
          exact Or.inl rfl
        | succ j => exact Or.inr ⟨j, v, by simpa using h1, h2, by rw [show k + 1 + j = k + (j + 1) by omega]⟩
theorem ev_has_sub {ls : Array Slot} {nL : Nat} {l l' : List (Nat × Value)} (h : lv_has ls nL l) (hs : ∀ q ∈ l', q ∈ l) : lv_has ls nL l' := ⟨h.1, h.2.1, fun q hq => h.2.2 q (hs q hq)⟩
theorem ev_has_at {σ : Nat → Int32} {ρ : Nat → Nat} {la : Array Slot} {nL : Nat} {ls : List ev_V} (h : lv_has la nL (ev_pr σ ρ 0 ls)) {j : Nat} {v : ev_V} (hj : ev_ln ls j = v) (hv : v ≠ ev_U) : la[j]? = some (.val (ev_cv σ ρ v)) := by
  have := h.2.2 (0 + j, ev_cv σ ρ v) ((ev_pr_mem ls 0 _).mpr ⟨j, v, ev_ln_some hj hv, hv, rfl⟩)
  rwa [Nat.zero_add] at this
theorem ev_isl_cat {σ : Nat → Int32} {ρ : Nat → Nat} {v : ev_V} (h : ev_isl v = false) : (ev_cv σ ρ v).category = 1 := by
  match v, h with
  | .inl _, _ => rfl
  | .inr (.inl 0), _ => rfl
  | .inr (.inl (k + 1)), _ => rfl
  | .inr (.inr (.inr (.inl _))), _ => rfl
  | .inr (.inr (.inr (.inr _))), _ => rfl
theorem ev_nl_at {ls : List ev_V} {i : Nat} {u : ev_V} (h : ev_nl ls (i + 1) = true) (hu : ls[i]? = some u) : ev_isl u = false := by
  have h1 : Bool.not (ev_isl (ev_ln ls i)) = true := h
  rw [ev_ln_eq, List.getD_eq_getElem?_getD, hu] at h1
  simpa using h1
/-- what a store of one place leaves -/
theorem ev_has_set {σ : Nat → Int32} {ρ : Nat → Nat} {la : Array Slot} {nL : Nat} {ls : List ev_V} {j : Nat} {v : ev_V} (hn : ev_nl ls j = true) (h : lv_has la nL ((j, ev_cv σ ρ v) :: (ev_pr σ ρ 0 ls).filter (fun q => !(q.1 == j) && !(q.1 + 1 == j && q.2.category == 2)))) : lv_has la nL (ev_pr σ ρ 0 (ev_lp ls j v)) := by
  refine ev_has_sub h fun q hq => ?_
  rw [ev_lp_eq] at hq
  obtain ⟨i, u, h1, h2, rfl⟩ := (ev_pr_mem _ 0 q).mp hq
  rw [Nat.zero_add]
  by_cases e : i = j
  · subst e
    rw [List.getElem?_set] at h1
    simp at h1
    rw [← h1.2]
    exact List.mem_cons_self
  · rw [List.getElem?_set_ne (Ne.symm e)] at h1
    refine List.mem_cons_of_mem _ (List.mem_filter.mpr ⟨(ev_pr_mem _ 0 _).mpr ⟨i, u, h1, h2, by rw [Nat.zero_add]⟩, ?_⟩)
    simp only [Bool.and_eq_true, Bool.not_eq_true', beq_eq_false_iff_ne, ne_eq, Bool.and_eq_false_iff]
    refine ⟨e, ?_⟩
    by_cases e2 : i + 1 = j
    · subst e2
      right
      rw [ev_isl_cat (ev_nl_at hn h1)]
      decide
    · exact Or.inl e2
theorem ev_has_set2 {σ : Nat → Int32} {ρ : Nat → Nat} {la : Array Slot} {nL : Nat} {ls : List ev_V} {j : Nat} {v : ev_V} (hn : ev_nl ls j = true) (h : lv_has la nL ((j, ev_cv σ ρ v) :: (ev_pr σ ρ 0 ls).filter (fun q => !(q.1 == j) && (!(q.1 == j + 1) && !(q.1 + 1 == j && q.2.category == 2))))) : lv_has la nL (ev_pr σ ρ 0 (ev_lp (ev_lp ls (j + 1) ev_U) j v)) := by
  refine ev_has_sub h fun q hq => ?_
  rw [ev_lp_eq, ev_lp_eq] at hq
  obtain ⟨i, u, h1, h2, rfl⟩ := (ev_pr_mem _ 0 q).mp hq
  rw [Nat.zero_add]
  by_cases e : i = j
  · subst e
    rw [List.getElem?_set] at h1
    simp at h1
    rw [← h1.2]
    exact List.mem_cons_self
  · rw [List.getElem?_set_ne (Ne.symm e)] at h1
    by_cases e1 : i = j + 1
    · subst e1
      rw [List.getElem?_set] at h1
      simp at h1
      exact absurd h1.2.symm h2
    · rw [List.getElem?_set_ne (Ne.symm e1)] at h1
      refine List.mem_cons_of_mem _ (List.mem_filter.mpr ⟨(ev_pr_mem _ 0 _).mpr ⟨i, u, h1, h2, by rw [Nat.zero_add]⟩, ?_⟩)
      simp only [Bool.and_eq_true, Bool.not_eq_true', beq_eq_false_iff_ne, ne_eq, Bool.and_eq_false_iff]
      refine ⟨e, e1, ?_⟩
      by_cases e2 : i + 1 = j
      · subst e2
        right
        rw [ev_isl_cat (ev_nl_at hn h1)]
        decide
      · exact Or.inl e2
