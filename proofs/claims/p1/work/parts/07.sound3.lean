/-! ===== switches, fields, arrays, new cells, ends ===== -/
def ev_kok (cl : List vw_C) (gw : List Jvm.Cond) : Prop := ∀ (ci : Nat) (q : vw_C), cl[ci]? = some q → (∀ w ∈ u_ws q.1 q.2.1 q.2.2, w ∈ gw) ∧ ∃ ty0 : Nat → FieldType, (∀ k, k < q.2.2 → parseFieldDescriptor (q.2.1 k).2.2.1 = some (ty0 k)) ∧ (∀ a, a < q.2.2 → ∀ b, b < q.2.2 → a ≠ b → (q.2.1 a).2.1 ≠ (q.2.1 b).2.1)
theorem ev_kd_some {cl : List vw_C} {ci : Nat} (h : (cl[ci]?).isSome = true) : cl[ci]? = some (ev_kd cl ci) := by
  unfold ev_kd
  rw [List.getD_eq_getElem?_getD]
  cases hc : cl[ci]? with
  | none => rw [hc] at h; cases h
  | some q => rfl
theorem ev_band {x y : Bool} (h : Bool.and x y = true) : x = true ∧ y = true := by
  cases x <;> cases y <;> first | exact ⟨rfl, rfl⟩ | cases h
theorem ev_ite {b : Bool} {x : ev_R} {outs : List ev_O} (h : Bool.rec (motive := fun _ => ev_R) none x b = some outs) : b = true ∧ x = some outs := by
  cases b with
  | true => exact ⟨rfl, h⟩
  | false => cases h
theorem ev_nu_ne {v : ev_V} (h : ev_nu v = true) : v ≠ ev_U := by
  rintro rfl
  cases h
theorem ev_cell_some {v : ev_V} {f : Nat → ev_R} {outs : List ev_O} (h : ev_cell v f = some outs) : ∃ i, v = .inr (.inl (i + 1)) ∧ f i = some outs := by
  match v, h with
  | .inr (.inl (i + 1)), h => exact ⟨i, rfl, h⟩
theorem ev_tyq {ca : Nat → ClassId} {q : Nat} (h : q < 4) : (ev_ty ca)[q]? = some (ca q, ev_aty q) := by
  match q, h with
  | 0, _ => rfl
  | 1, _ => rfl
  | 2, _ => rfl
  | 3, _ => rfl
theorem ev_in {j n : Nat} (h1 : j < n) (h2 : j ≤ 2147483647) : vp_in (Int32.ofNat j) n := by
  have e : (Int32.ofNat j).toNatClampNeg = j := nI_clamp (by omega)
  rintro (q | q)
  · exact nI_pos (n := j) (by omega) q
  · omega
theorem ev_clamp {j : Nat} (h2 : j ≤ 2147483647) : (Int32.ofNat j).toNatClampNeg = j := nI_clamp (by omega)
theorem ev_cat_ok (σ : Nat → Int32) (ρ : Nat → Nat) (l : List ev_V) : ((l.map (ev_cv σ ρ)).map (fun v => v.category)).sum = ev_cat l := by
  induction l with
  | nil => rfl
  | cons v r ih =>
    rw [List.map_cons, List.map_cons, List.sum_cons, ih]
    show _ = Bool.rec (motive := fun _ => Nat) (Nat.succ (ev_cat r)) (Nat.succ (Nat.succ (ev_cat r))) (ev_isl v)
    cases hv : ev_isl v with
    | false => rw [ev_isl_cat hv]; exact Nat.add_comm 1 _
    | true =>
      match v, hv with
      | .inr (.inr (.inl n)), _ => exact Nat.add_comm 2 _
theorem ev_pr_cl {σ : Nat → Int32} {ρ ρ' : Nat → Nat} {n : Nat} (hr : ∀ i, i < n → ρ' i = ρ i) {l : List ev_V} (hv : l.all (ev_clV n) = true) : ∀ k, ev_pr σ ρ' k l = ev_pr σ ρ k l := by
  induction l with
  | nil => intro k; rfl
  | cons v r ih =>
    intro k
    rw [List.all_cons, Bool.and_eq_true] at hv
    by_cases hu : v = ev_U
    · subst hu
      exact ih hv.2 (k + 1)
    · rw [ev_pr_cons _ _ _ _ _ hu, ev_pr_cons _ _ _ _ _ hu, ih hv.2 (k + 1), ev_cv_cl hr hv.1]
theorem ev_b0 : narrow .boolean (.int (Int32.ofNat 0)) = .int (Int32.ofNat 0) ∧ fits .boolean (.int (Int32.ofNat 0)) = true := by decide +kernel
theorem ev_b1 : narrow .boolean (.int (Int32.ofNat 1)) = .int (Int32.ofNat 1) ∧ fits .boolean (.int (Int32.ofNat 1)) = true := by decide +kernel
theorem ev_fit_ok {σ : Nat → Int32} {ρ : Nat → Nat} {ty : FieldType} {q : Nat} {v : ev_V} (h1 : ev_fk ty = q) (h2 : ev_fit q v = true) : narrow ty (ev_cv σ ρ v) = ev_cv σ ρ v ∧ fits ty (ev_cv σ ρ v) = true := by
  subst h1
  match ty, v, h2 with
  | .int, .inl n, _ => exact ⟨rfl, rfl⟩
  | .int, .inr (.inr (.inr (.inl t))), _ => exact ⟨rfl, rfl⟩
  | .boolean, .inl 0, _ => exact ev_b0
  | .boolean, .inl 1, _ => exact ev_b1
  | .long, .inr (.inr (.inl n)), _ => exact ⟨rfl, rfl⟩
  | .object _, .inr (.inl 0), _ => exact ⟨rfl, rfl⟩
  | .object _, .inr (.inl (_ + 1)), _ => exact ⟨rfl, rfl⟩
  | .array _, .inr (.inl 0), _ => exact ⟨rfl, rfl⟩
  | .array _, .inr (.inl (_ + 1)), _ => exact ⟨rfl, rfl⟩
theorem ev_cf_set (σ : Nat → Int32) (M j v : Nat) : ev_cf σ (ev_sm 32 M j v) [] = upd (ev_cf σ M []) j (Int32.ofNat v) := by
  funext i
  show Int32.ofNat (ev_gm 32 (ev_sm 32 M j v) i) = if i = j then Int32.ofNat v else Int32.ofNat (ev_gm 32 M i)
  rw [ev_gm_sm]
  by_cases h : i = j
  · rw [if_pos h, if_pos h]
    exact ev_md v
  · rw [if_neg h, if_neg h]
theorem ev_cf_ov (σ : Nat → Int32) (M j : Nat) (v : ev_V) (ov : List (Nat × ev_V)) : ev_cf σ M ((j, v) :: ov) = upd (ev_cf σ M ov) j (ev_ci σ v) := by
  funext i
  unfold ev_cf upd
  by_cases h : i = j
  · subst h
    rw [if_pos rfl, List.find?_cons_of_pos (by simp)]
  · rw [if_neg h, List.find?_cons_of_neg (by simpa using Ne.symm h)]
theorem ev_cl_set (M j v : Nat) : (fun i => Int64.ofNat (ev_gm 64 (ev_sm 64 M j v) i)) = vp_updL (fun i => Int64.ofNat (ev_gm 64 M i)) j (Int64.ofNat v) := by
  funext i
  show Int64.ofNat (ev_gm 64 (ev_sm 64 M j v) i) = if i = j then Int64.ofNat v else Int64.ofNat (ev_gm 64 M i)
  rw [ev_gm_sm]
  by_cases h : i = j
  · rw [if_pos h, if_pos h]
    exact ev_mdl v
  · rw [if_neg h, if_neg h]
theorem ev_fo_eq (M : Nat) (f : Nat → ev_R) : ev_fo M f = f M := by
  cases M <;> rfl
/-- what an array of a kind keeps -/
def ev_keep (q : Nat) (x : Int32) : Int32 := match q with
  | 0 => x
  | 2 => vp_nar .boolean x
  | _ => vp_nar .byte x
theorem ev_nar_ok {q : Nat} (hq : q < 4) (v : Nat) : ev_keep q (Int32.ofNat v) = Int32.ofNat (ev_nar q v) := by
  match q, hq with
  | 0, _ => rfl
  | 2, _ => exact ev_and v 1
  | 1, _ => exact (vp_nar_byte _).trans (ev_i2b_ok v)
  | 3, _ => exact (vp_nar_byte _).trans (ev_i2b_ok v)
theorem ev_nat_ok {q : Nat} (hq : q < 4) (σ : Nat → Int32) (t : ev_T) : ev_keep q (ev_ct σ t) = ev_ct σ (ev_nat q t) := by
  match q, hq with
  | 0, _ => rfl
  | 2, _ => rfl
  | 1, _ => rfl
  | 3, _ => rfl
theorem ev_lt_eq (l : List Nat) : ∀ (dd j : Nat), ev_lt l dd j = l.getD j dd := by
  induction l with
  | nil => intro dd j; rfl
  | cons a r ih =>
    intro dd j
    cases j with
    | zero => rfl
    | succ j => exact (ih dd j).trans (by simp)
theorem ev_tk_ok {σ : Nat → Int32} {t : ev_T} {f : Nat → ev_E → ev_R} (dd : Nat) (l : List Nat) : ∀ (e : ev_E) (y : Nat) (outs : List ev_O), ev_sat σ e → ev_tk l dd t e f y = some outs → ∃ e' u, ev_sat σ e' ∧ (∀ o ∈ u, o ∈ outs) ∧ f (if ev_bi (ev_ct σ t) < y then dd else l.getD (ev_bi (ev_ct σ t) - y) dd) e' = some u := by
  induction l with
  | nil =>
    intro e y outs hs h
    refine ⟨e, outs, hs, fun o ho => ho, ?_⟩
    rw [show (if ev_bi (ev_ct σ t) < y then dd else ([] : List Nat).getD (ev_bi (ev_ct σ t) - y) dd) = dd by split <;> rfl]
    exact h
  | cons b r ih =>
    intro e y outs hs h
    obtain ⟨e', u, h1, h2, h3⟩ := ev_sp_ok hs (show ev_sp t y e (fun e' => f dd e') (fun e' => f b e') (fun e' => ev_tk r dd t e' f (y + 1)) = some outs from h)
    rcases h3 with ⟨h4, h5⟩ | ⟨h4, h5⟩ | ⟨h4, h5⟩
    · exact ⟨e', u, h1, h2, by rw [if_pos h4]; exact h5⟩
    · refine ⟨e', u, h1, h2, ?_⟩
      rw [if_neg (by omega), h4, Nat.sub_self]
      exact h5
    · obtain ⟨e2, u2, g1, g2, g3⟩ := ih e' (y + 1) u h1 h5
      refine ⟨e2, u2, g1, fun o ho => h2 o (g2 o ho), ?_⟩
      rw [if_neg (by omega)] at g3 ⊢
      rw [show ev_bi (ev_ct σ t) - y = (ev_bi (ev_ct σ t) - (y + 1)) + 1 by omega]
      exact g3
section EVC
variable {p : Program} {l : Launch} {e : Env} {R : Room} {s : State} {mm : MethodId} {args : Array Value} {below : List Frame} {meth : Method} {c : Code}
variable {m : ev_M} {d n0 : Nat} {dC : Nat → ClassId} {dI : Nat → Nat → Nat} {ca : Nat → ClassId} {cl : List vw_C} {pg : List ev_M} {gw nw : List Jvm.Cond} {A : Nat → Prop} {σ : Nat → Int32} {ρ0 : Nat → Nat} {Q : State → Prop} {os outs : List ev_O}
variable {call : ev_Q} {k : ev_K} {r : List ev_I} {ls st : List ev_V} {w : ev_Wd} {pc : Nat} {la : Array Slot} {ρ : Nat → Nat} {H : Heap} {locs : List Loc}
theorem ev_twx {cc : ByteArray} {rest : List Value} {cells slots len x1 dd : Nat} {tg : List Nat} {x : Int32} (hx : p.tables.exec = Jvm.exec) (hb : c.code = cc) (hd : decode cc pc = .ok (.tableswitch (ev_off m pc dd) ((x1 : Int) - 2147483648) ((x1 : Int) - 2147483648 + (tg.length : Int) - 1) (tg.map (ev_off m pc)).toArray, len)) (kk : W p l e R s mm args below meth c H locs cells slots Q (F0 mm (ev_pc m.1 (if ev_bi x < x1 then dd else tg.getD (ev_bi x - x1) dd)) la rest)) : W p l e R s mm args below meth c H locs cells slots Q (F0 mm pc la (.int x :: rest)) := by
  have hb1 := Int32.le_toInt x
  have e1 : (ev_bi x : Int) = x.toInt + 2147483648 := by unfold ev_bi; omega
  have ht : ∀ t, (pc : Int) + ev_off m pc t = (ev_pc m.1 t : Int) := fun t => by unfold ev_off; omega
  by_cases h1 : ev_bi x < x1
  · rw [if_pos h1] at kk
    exact lv_tableOut hx hb hd (Or.inl (by omega)) (ht dd) kk
  · rw [if_neg h1] at kk
    by_cases h2 : ev_bi x - x1 < tg.length
    · have e2 : (x.toInt - ((x1 : Int) - 2147483648)).toNat = ev_bi x - x1 := by omega
      refine lv_tableIn (off := ev_off m pc (tg.getD (ev_bi x - x1) dd)) hx hb hd (by omega) (by omega) ?_ (ht _) kk
      rw [e2]
      simp [List.getD_eq_getElem?_getD, h2]
    · have e3 : tg.getD (ev_bi x - x1) dd = dd := by
        rw [List.getD_eq_getElem?_getD, List.getElem?_eq_none (by omega)]
        rfl
      rw [e3] at kk
      exact lv_tableOut hx hb hd (Or.inr (by omega)) (ht dd) kk
theorem es_tw {x : Nat × Nat × List Nat × Nat} (C : ev_Cx p l e R s mm args below meth c m d dC dI ca cl gw nw A) (hm : ev_mok cl pg gw nw m) (hk : ev_Sn p l e R s mm args below meth c m dC dI ca cl pg gw nw A σ ρ0 n0 Q os k) (G : ev_G s m dC dI ca cl A σ ρ0 n0 ρ ls la w H locs) (hok : ev_okc cl pg gw nw m pc (ei_tw x :: r)) (h : ea_tw x call k m r ls st w = some outs) (hos : ∀ o ∈ outs, o ∈ os) : W p l e R s mm args below meth c H locs w.2.2.2.1 w.2.2.2.2 Q (F0 mm pc la (st.map (ev_cv σ ρ))) := by
  obtain ⟨hd, -, -, hs, hr⟩ := hok
  obtain ⟨hx, hb, -⟩ := C
  unfold ea_tw at h
  match st, h with
  | .inl v :: s', h =>
    refine ev_twx hx hb hd ?_
    rw [ev_bi_of]
    have h : Bool.rec (motive := fun _ => ev_R) (k (ev_lb m.1 x.2.1) ls s' w) (k (ev_lb m.1 (ev_lt x.2.2.1 x.2.1 (Nat.sub (ev_bs v) x.1))) ls s' w) (Nat.ble x.1 (ev_bs v)) = some outs := h
    cases hq : Nat.ble x.1 (ev_bs v) with
    | false =>
      rw [hq] at h
      rw [if_pos (ev_blef.mp hq)]
      exact hk _ _ _ _ _ _ _ _ _ _ G (ev_okc_to hm _) h hos
    | true =>
      rw [hq] at h
      have := Nat.le_of_ble_eq_true hq
      rw [if_neg (by omega), ← ev_lt_eq]
      exact hk _ _ _ _ _ _ _ _ _ _ G (ev_okc_to hm _) h hos
  | .inr (.inr (.inr (.inl t))) :: s', h =>
    obtain ⟨e', u, h1, h2, h3⟩ := ev_tk_ok x.2.1 x.2.2.1 _ _ _ G.2.1 h
    exact ev_twx hx hb hd (hk _ _ _ (ev_we w e') _ _ _ _ _ _ (G.env h1) (ev_okc_to hm _) h3 (fun o ho => hos o (h2 o ho)))
theorem es_gf {x : Nat × Nat × Nat × Nat} (hkk : ev_kok cl gw) (C : ev_Cx p l e R s mm args below meth c m d dC dI ca cl gw nw A) (hm : ev_mok cl pg gw nw m) (hk : ev_Sn p l e R s mm args below meth c m dC dI ca cl pg gw nw A σ ρ0 n0 Q os k) (G : ev_G s m dC dI ca cl A σ ρ0 n0 ρ ls la w H locs) (hok : ev_okc cl pg gw nw m pc (ei_gf x :: r)) (h : ea_gf x call k m r ls st w = some outs) (hos : ∀ o ∈ outs, o ∈ os) : W p l e R s mm args below meth c H locs w.2.2.2.1 w.2.2.2.2 Q (F0 mm pc la (st.map (ev_cv σ ρ))) := by
  obtain ⟨hd, hw, hn, hs, hr⟩ := hok
  obtain ⟨hs1, hs2⟩ := ev_band (show Bool.and (decide (x.2.1 < (ev_kd cl x.1).2.2)) (cl[x.1]?).isSome = true from hs)
  have hs1 : x.2.1 < (ev_kd cl x.1).2.2 := of_decide_eq_true hs1
  have hc := ev_kd_some hs2
  obtain ⟨hx, hb, -, -, -, hown, -, hts, hK, hN, -⟩ := C
  obtain ⟨hki, -⟩ := hkk _ _ hc
  have hin : ∀ w ∈ u_ws (ev_kd cl x.1).1 (ev_kd cl x.1).2.1 (ev_kd cl x.1).2.2, w ∈ ev_ws gw m := fun w h => List.mem_cons_of_mem _ (hki w h)
  cases st with
  | nil => cases h
  | cons v s' =>
    obtain ⟨i, rfl, h'⟩ := ev_cell_some (show ev_cell v (ea_gf2 x k r ls s' w) = some outs from h)
    unfold ea_gf2 at h'
    match ho : ev_tg 7 w.1 i, h' with
    | .inl o, h =>
      obtain ⟨hc2, h⟩ := ev_ite (show Bool.rec (motive := fun _ => ev_R) none _ _ = some outs from h)
      obtain ⟨c1, c2⟩ := ev_band hc2
      obtain ⟨c2, c3⟩ := ev_band c2
      have c2 : o.1 = x.1 := ev_beq.mp c2
      have c3 : i < w.2.1 := Nat.le_of_ble_eq_true c3
      have he : (ev_wl σ ρ ca w.1 w.2.1)[i]? = some (ρ i, .inr (x.1, o.2.map (ev_cv σ ρ))) := by
        rw [ev_wl_get c3, ho, ← c2]
        rfl
      have hv : (o.2.map (ev_cv σ ρ))[x.2.1]? = some (ev_cv σ ρ (ev_ln o.2 x.2.1)) := by
        rw [List.getElem?_map, ev_ln_some rfl (ev_nu_ne c1)]
        rfl
      have K := hk _ _ _ _ _ _ _ _ _ _ G hr h hos
      by_cases h0 : x.2.2.2 = 0
      · have hw : ∀ w ∈ (if x.2.2.2 = 0 then [ev_fl (ev_own m) x.2.2.1 (ev_kd cl x.1) x.2.1] else []), w ∈ gw := hw
        rw [if_pos h0] at hw
        exact va_get hx hb hts hin hown hK G.2.2.2.1 i he hc x.2.1 hs1 (hts _ (List.mem_cons_of_mem _ (hw _ List.mem_cons_self))) (fun _ z => z) hv hd K
      · have hn : ∀ w ∈ (if x.2.2.2 = 0 then [] else [Jvm.Cond.fieldLinkNest (ev_own m) x.2.2.1 ((ev_kd cl x.1).2.1 x.2.1).1 ((ev_kd cl x.1).2.1 x.2.1).2.1 ((ev_kd cl x.1).2.1 x.2.1).2.2.1 "RegisterColours"]), w ∈ nw := hn
        rw [if_neg h0] at hn
        exact va_getN hx hb hts hin hown hK G.2.2.2.1 i he hc x.2.1 hs1 (va_Nw.use rfl (hN _ (hn _ List.mem_cons_self))) (fun _ z => z) hv hd K
    | .inr _, h => cases h
theorem ev_G.put (G : ev_G s m dC dI ca cl A σ ρ0 n0 ρ ls la w H locs) {H1 : Heap} {locs1 : List Loc} {i : Nat} {cc : ev_C} (hi : i < w.2.1) (h1 : va_P (dC, dI) cl ((ev_wl σ ρ ca w.1 w.2.1).set i (ρ i, ev_ce σ ρ ca cc)) H1) (h2 : va_D A ((ev_wl σ ρ ca w.1 w.2.1).set i (ρ i, ev_ce σ ρ ca cc))) (h3 : va_S A s.heap H1 locs1) : ev_G s m dC dI ca cl A σ ρ0 n0 ρ ls la (ev_ts 7 w.1 i cc, w.2) H1 locs1 := by
  rw [← ev_wl_set hi G.2.2.1.2.1] at h1 h2
  exact ⟨G.1, G.2.1, G.2.2.1, h1, h2, h3⟩
theorem es_pf {x : Nat × Nat × Nat × Nat × Nat} (hkk : ev_kok cl gw) (C : ev_Cx p l e R s mm args below meth c m d dC dI ca cl gw nw A) (hm : ev_mok cl pg gw nw m) (hk : ev_Sn p l e R s mm args below meth c m dC dI ca cl pg gw nw A σ ρ0 n0 Q os k) (G : ev_G s m dC dI ca cl A σ ρ0 n0 ρ ls la w H locs) (hok : ev_okc cl pg gw nw m pc (ei_pf x :: r)) (h : ea_pf x call k m r ls st w = some outs) (hos : ∀ o ∈ outs, o ∈ os) : W p l e R s mm args below meth c H locs w.2.2.2.1 w.2.2.2.2 Q (F0 mm pc la (st.map (ev_cv σ ρ))) := by
  have hok0 := hok
  obtain ⟨hd, hw, -, hs, hr⟩ := hok
  obtain ⟨hs, hs3⟩ := ev_band (show Bool.and (Bool.and (ev_spf m (ev_kd cl x.1) x.2.1 x.2.2.1) (decide (x.2.2.2.2 = 0))) (cl[x.1]?).isSome = true from hs)
  obtain ⟨hs, -⟩ := ev_band hs
  obtain ⟨hs, hsf⟩ := ev_band (show Bool.and (Bool.and _ _) _ = true from hs)
  obtain ⟨hs1, hs2⟩ := ev_band (show Bool.and _ _ = true from hs)
  have hs1 : x.2.1 < (ev_kd cl x.1).2.2 := of_decide_eq_true hs1
  have hc := ev_kd_some hs3
  obtain ⟨hx, hb, -, -, -, hown, hname, hts, hK, -⟩ := C
  obtain ⟨hki, ty0, hty, hnm⟩ := hkk _ _ hc
  have hin : ∀ w ∈ u_ws (ev_kd cl x.1).1 (ev_kd cl x.1).2.1 (ev_kd cl x.1).2.2, w ∈ ev_ws gw m := fun w h => List.mem_cons_of_mem _ (hki w h)
  have hlink : (ev_fl (ev_own m) x.2.2.2.1 (ev_kd cl x.1) x.2.1).before args s = true := hts _ (List.mem_cons_of_mem _ (hw _ List.mem_cons_self))
  have hfk : ev_fk (ty0 x.2.1) = x.2.2.1 := by
    rw [hty _ hs1] at hs2
    exact of_decide_eq_true hs2
  unfold ea_pf at h
  match st, h with
  | v :: u :: s', h =>
    obtain ⟨i, rfl, h'⟩ := ev_cell_some (show ev_cell u (ea_pf2 x k r ls s' w v) = some outs from h)
    unfold ea_pf2 at h'
    match ho : ev_tg 7 w.1 i, h' with
    | .inr _, h => cases h
    | .inl o, h =>
      have h : Bool.rec (motive := fun _ => ev_R) (ea_pf4 x k r ls s' w v i) (k r ls s' (ev_ts 7 w.1 i (.inl (o.1, ev_lp o.2 x.2.1 v)), w.2)) (Bool.and (ev_nu (ev_ln o.2 x.2.1)) (Bool.and (Nat.beq o.1 x.1) (Bool.and (Nat.ble (Nat.succ i) w.2.1) (ev_fit x.2.2.1 v)))) = some outs := h
      cases hq : Bool.and (ev_nu (ev_ln o.2 x.2.1)) (Bool.and (Nat.beq o.1 x.1) (Bool.and (Nat.ble (Nat.succ i) w.2.1) (ev_fit x.2.2.1 v))) with
      | false =>
        rw [hq] at h
        unfold ea_pf4 at h
        match v, h with
        | .inr (.inr (.inr (.inl t))), h =>
          obtain ⟨-, h⟩ := ev_ite h
          obtain ⟨v', e', u, h1, h2, h3, h4⟩ := ev_rs_ok G.2.1 h
          have K := hk _ _ _ (ev_we w e') _ _ _ _ _ _ (G.env h4) hok0 h1 (fun o ho => hos o (h2 o ho))
          show W p l e R s mm args below meth c H locs w.2.2.2.1 w.2.2.2.2 Q (F0 mm pc la (.int (ev_ct σ t) :: .ref (ρ i) :: s'.map (ev_cv σ ρ)))
          rw [← h3]
          exact K
      | true =>
        rw [hq] at h
        obtain ⟨c1, c2⟩ := ev_band hq
        obtain ⟨c2, c3⟩ := ev_band c2
        obtain ⟨c3, c4⟩ := ev_band c3
        have c2 : o.1 = x.1 := ev_beq.mp c2
        have c3 : i < w.2.1 := Nat.le_of_ble_eq_true c3
        have he : (ev_wl σ ρ ca w.1 w.2.1)[i]? = some (ρ i, .inr (x.1, o.2.map (ev_cv σ ρ))) := by
          rw [ev_wl_get c3, ho, ← c2]
          rfl
        have hl : x.2.1 < (o.2.map (ev_cv σ ρ)).length := by
          rw [List.length_map]
          exact (List.getElem?_eq_some_iff.mp (ev_ln_some rfl (ev_nu_ne c1))).1
        obtain ⟨f1, f2⟩ := ev_fit_ok (σ := σ) (ρ := ρ) hfk c4
        have ec : (Sum.inr (x.1, (o.2.map (ev_cv σ ρ)).set x.2.1 (ev_cv σ ρ v)) : va_E) = ev_ce σ ρ ca (.inl (o.1, ev_lp o.2 x.2.1 v)) := by
          show _ = (Sum.inr (o.1, (ev_lp o.2 x.2.1 v).map (ev_cv σ ρ)) : va_E)
          rw [ev_lp_eq, List.map_set, c2]
        have K : ∀ (H1 : Heap) (locs1 : List Loc), va_P (dC, dI) cl ((ev_wl σ ρ ca w.1 w.2.1).set i (ρ i, .inr (x.1, (o.2.map (ev_cv σ ρ)).set x.2.1 (ev_cv σ ρ v)))) H1 → va_D A ((ev_wl σ ρ ca w.1 w.2.1).set i (ρ i, .inr (x.1, (o.2.map (ev_cv σ ρ)).set x.2.1 (ev_cv σ ρ v)))) → va_S A s.heap H1 locs1 → W p l e R s mm args below meth c H1 locs1 w.2.2.2.1 w.2.2.2.2 Q (F0 mm (pc + 3) la (s'.map (ev_cv σ ρ))) := by
          intro H1 locs1 k1 k2 k3
          rw [ec] at k1 k2
          exact hk _ _ _ (ev_ts 7 w.1 i (.inl (o.1, ev_lp o.2 x.2.1 v)), w.2) _ _ _ _ _ _ (G.put c3 k1 k2 k3) hr h hos
        cases hf : ((ev_kd cl x.1).2.1 x.2.1).2.2.2 with
        | false => exact va_put hx hb hts hin ty0 hty hnm hown hK G.2.2.2.1 G.2.2.2.2.1 G.2.2.2.2.2 i he hc x.2.1 hs1 hlink (fun _ z => z) hf (hty _ hs1) f1 f2 hl hd K
        | true =>
          rw [hf] at hsf
          obtain ⟨g1, g2⟩ := ev_band (show Bool.and _ _ = true from hsf)
          exact va_putF hx hb hts hin ty0 hty hnm hown hK G.2.2.2.1 G.2.2.2.2.1 G.2.2.2.2.2 i he hc x.2.1 hs1 hlink (fun _ z => z) hf (hname.trans (of_decide_eq_true g1)) (of_decide_eq_true g2) (hty _ hs1) f1 f2 hl hd K
end EVC
