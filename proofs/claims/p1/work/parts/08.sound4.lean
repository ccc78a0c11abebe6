/-! ===== arrays, new cells, copies, ends ===== -/
theorem ev_ix_ok {q i j : Nat} {w : ev_Wd} {a : Nat × Nat × Nat × List (Nat × ev_V)} (h : ev_ix q i j w a = true) : j < a.2.1 ∧ a.1 = q ∧ i < w.2.1 ∧ j ≤ 2147483647 := by
  obtain ⟨h1, h2⟩ := ev_band h
  obtain ⟨h2, h3⟩ := ev_band h2
  obtain ⟨h3, h4⟩ := ev_band h3
  exact ⟨Nat.le_of_ble_eq_true h1, ev_beq.mp h2, Nat.le_of_ble_eq_true h3, Nat.le_of_ble_eq_true h4⟩
theorem ev_nil_ok {l : List (Nat × ev_V)} (h : ev_nil l = true) : l = [] := by
  cases l with
  | nil => rfl
  | cons _ _ => cases h
theorem ev_ca_i (σ : Nat → Int32) {q : Nat} (hq : q ≠ 1) (M : Nat) (ov : List (Nat × ev_V)) : ev_ca σ q M ov = .inl (ev_cf σ M ov) := by
  match q, hq with
  | 0, _ => rfl
  | 1, h => exact absurd rfl h
  | _ + 2, _ => rfl
theorem ev_notb {b : Bool} (h : Bool.not b = true) : b = false := by
  cases b with
  | false => rfl
  | true => cases h
section EVD
variable {p : Program} {l : Launch} {e : Env} {R : Room} {s : State} {mm : MethodId} {args : Array Value} {below : List Frame} {meth : Method} {c : Code}
variable {m : ev_M} {d n0 : Nat} {dC : Nat → ClassId} {dI : Nat → Nat → Nat} {ca : Nat → ClassId} {cl : List vw_C} {pg : List ev_M} {gw nw : List Jvm.Cond} {A : Nat → Prop} {σ : Nat → Int32} {ρ0 : Nat → Nat} {Q : State → Prop} {os outs : List ev_O}
variable {call : ev_Q} {k : ev_K} {r : List ev_I} {ls st : List ev_V} {w : ev_Wd} {pc : Nat} {la : Array Slot} {ρ : Nat → Nat} {H : Heap} {locs : List Loc}
section
variable {cc : ByteArray} {rest : List Value} {cells slots : Nat}
theorem ev_alx {q i j n M : Nat} (hq : q < 4) (hx : p.tables.exec = Jvm.exec) (hb : c.code = cc) (hK : va_K (dC, dI) cl (ev_ty ca) s) (hP : va_P (dC, dI) cl (ev_wl σ ρ ca w.1 w.2.1) H) (hi : i < w.2.1) (hc : ev_tg 7 w.1 i = .inr (q, n, M, [])) (h1 : j < n) (h2 : j ≤ 2147483647) (hd : decode cc pc = .ok (ev_xal q, 1)) (kk : W p l e R s mm args below meth c H locs cells slots Q (F0 mm (pc + 1) la (ev_cv σ ρ (Bool.rec (motive := fun _ => ev_V) (.inl (ev_gm 32 M j)) (.inr (.inr (.inl (ev_gm 64 M j)))) (Nat.beq q 1)) :: rest))) : W p l e R s mm args below meth c H locs cells slots Q (F0 mm pc la (.int (Int32.ofNat j) :: .ref (ρ i) :: rest)) := by
  have he : (ev_wl σ ρ ca w.1 w.2.1)[i]? = some (ρ i, .inl (ca q, n, ev_ca σ q M [])) := by
    rw [ev_wl_get hi, hc]
    rfl
  have hin := ev_in h1 h2
  have ec := ev_clamp h2
  match q, hq, he, hd, kk with
  | 0, _, he, hd, kk =>
    refine va_iald hx hb hK hP i 0 he rfl hin hd ?_
    rw [ec]
    exact kk
  | 1, _, he, hd, kk =>
    refine va_lald hx hb hK hP i 1 he rfl hin hd ?_
    rw [ec]
    exact kk
  | 2, _, he, hd, kk =>
    refine va_zald hx hb hK hP i 2 he rfl hin hd ?_
    rw [ec]
    exact kk
  | 3, _, he, hd, kk =>
    refine va_bald hx hb hK hP i 3 he rfl hin hd ?_
    rw [ec]
    exact kk
theorem ev_asx {q i j n : Nat} {x : Int32} {f f' : Nat → Int32} (hq : q < 4) (hq1 : q ≠ 1) (hx : p.tables.exec = Jvm.exec) (hb : c.code = cc) (hK : va_K (dC, dI) cl (ev_ty ca) s) (hP : va_P (dC, dI) cl (ev_wl σ ρ ca w.1 w.2.1) H) (hD : va_D A (ev_wl σ ρ ca w.1 w.2.1)) (hS : va_S A s.heap H locs) (he : (ev_wl σ ρ ca w.1 w.2.1)[i]? = some (ρ i, .inl (ca q, n, .inl f))) (h1 : j < n) (h2 : j ≤ 2147483647) (hf : f' = upd f j (ev_keep q x)) (hd : decode cc pc = .ok (ev_xas q, 1))
    (kk : ∀ (H1 : Heap) (locs1 : List Loc), va_P (dC, dI) cl ((ev_wl σ ρ ca w.1 w.2.1).set i (ρ i, .inl (ca q, n, .inl f'))) H1 → va_D A ((ev_wl σ ρ ca w.1 w.2.1).set i (ρ i, .inl (ca q, n, .inl f'))) → va_S A s.heap H1 locs1 → W p l e R s mm args below meth c H1 locs1 cells slots Q (F0 mm (pc + 1) la rest)) : W p l e R s mm args below meth c H locs cells slots Q (F0 mm pc la (.int x :: .int (Int32.ofNat j) :: .ref (ρ i) :: rest)) := by
  have hin := ev_in h1 h2
  have ec := ev_clamp h2
  rw [← ec] at hf
  subst hf
  match q, hq, hq1, he, hd, kk with
  | 0, _, _, he, hd, kk => exact va_iast hx hb hK hP hD hS i 0 he rfl hin hd kk
  | 1, _, h, _, _, _ => exact absurd rfl h
  | 2, _, _, he, hd, kk => exact va_zast hx hb hK hP hD hS i 2 he rfl hin hd kk
  | 3, _, _, he, hd, kk => exact va_bast hx hb hK hP hD hS i 3 he rfl hin hd kk
end
theorem es_al {x : Nat} (C : ev_Cx p l e R s mm args below meth c m d dC dI ca cl gw nw A) (hm : ev_mok cl pg gw nw m) (hk : ev_Sn p l e R s mm args below meth c m dC dI ca cl pg gw nw A σ ρ0 n0 Q os k) (G : ev_G s m dC dI ca cl A σ ρ0 n0 ρ ls la w H locs) (hok : ev_okc cl pg gw nw m pc (ei_al x :: r)) (h : ea_al x call k m r ls st w = some outs) (hos : ∀ o ∈ outs, o ∈ os) : W p l e R s mm args below meth c H locs w.2.2.2.1 w.2.2.2.2 Q (F0 mm pc la (st.map (ev_cv σ ρ))) := by
  have hok0 := hok
  obtain ⟨hd, -, -, hs, hr⟩ := hok
  have hs : x < 4 := of_decide_eq_true hs
  obtain ⟨hx, hb, -, -, -, -, -, -, hK, -⟩ := C
  match st, h with
  | .inr (.inr (.inr (.inl t))) :: s', h =>
    obtain ⟨v', e', u, h1, h2, h3, h4⟩ := ev_rs_ok G.2.1 (show ev_rs t w.2.2.1 (fun v e => k (ei_al x :: r) ls (.inl v :: s') (ev_we w e)) = some outs from h)
    have K := hk _ _ _ (ev_we w e') _ _ _ _ _ _ (G.env h4) hok0 h1 (fun o ho => hos o (h2 o ho))
    show W p l e R s mm args below meth c H locs w.2.2.2.1 w.2.2.2.2 Q (F0 mm pc la (.int (ev_ct σ t) :: s'.map (ev_cv σ ρ)))
    rw [← h3]
    exact K
  | .inl j :: v :: s', h =>
    obtain ⟨i, rfl, h'⟩ := ev_cell_some (show ev_cell v (ea_al2 x k r ls s' w j) = some outs from h)
    unfold ea_al2 at h'
    match ho : ev_tg 7 w.1 i, h' with
    | .inl _, h => cases h
    | .inr (q', n, M, ov), h =>
      obtain ⟨hc, h⟩ := ev_ite (show Bool.rec (motive := fun _ => ev_R) none _ _ = some outs from h)
      obtain ⟨c1, c2⟩ := ev_band hc
      obtain ⟨d1, d2, d3, d4⟩ := ev_ix_ok c1
      have d2 : q' = x := d2
      have d5 : ov = [] := ev_nil_ok c2
      subst d2; subst d5
      exact ev_alx hs hx hb hK G.2.2.2.1 d3 ho d1 d4 hd (hk _ _ _ _ _ _ _ _ _ _ G hr h hos)
theorem es_as {x : Nat} (C : ev_Cx p l e R s mm args below meth c m d dC dI ca cl gw nw A) (hm : ev_mok cl pg gw nw m) (hk : ev_Sn p l e R s mm args below meth c m dC dI ca cl pg gw nw A σ ρ0 n0 Q os k) (G : ev_G s m dC dI ca cl A σ ρ0 n0 ρ ls la w H locs) (hok : ev_okc cl pg gw nw m pc (ei_as x :: r)) (h : ea_as x call k m r ls st w = some outs) (hos : ∀ o ∈ outs, o ∈ os) : W p l e R s mm args below meth c H locs w.2.2.2.1 w.2.2.2.2 Q (F0 mm pc la (st.map (ev_cv σ ρ))) := by
  have hok0 := hok
  obtain ⟨hd, -, -, hs, hr⟩ := hok
  have hs : x < 4 := of_decide_eq_true hs
  obtain ⟨hx, hb, -, -, -, -, -, -, hK, -⟩ := C
  match st, h with
  | v :: .inr (.inr (.inr (.inl t))) :: s', h =>
    obtain ⟨v', e', u, h1, h2, h3, h4⟩ := ev_rs_ok G.2.1 (show ev_rs t w.2.2.1 (fun j e => k (ei_as x :: r) ls (v :: .inl j :: s') (ev_we w e)) = some outs from h)
    have K := hk _ _ _ (ev_we w e') _ _ _ _ _ _ (G.env h4) hok0 h1 (fun o ho => hos o (h2 o ho))
    show W p l e R s mm args below meth c H locs w.2.2.2.1 w.2.2.2.2 Q (F0 mm pc la (ev_cv σ ρ v :: .int (ev_ct σ t) :: s'.map (ev_cv σ ρ)))
    rw [← h3]
    exact K
  | v :: .inl j :: u :: s', h =>
    obtain ⟨i, rfl, h'⟩ := ev_cell_some (show ev_cell u (ea_as3 x k r ls s' w v j) = some outs from h)
    unfold ea_as3 at h'
    match ho : ev_tg 7 w.1 i, h' with
    | .inl _, h => cases h
    | .inr (q', n, M, ov), h =>
      have h : ea_as4 x k r ls s' w v j i (q', n, M, ov) = some outs := h
      have S5 : ∀ (v0 : ev_V) (y : Int32) (v2 : ev_V), ev_cv σ ρ v0 = .int y → ev_keep x y = ev_ci σ v2 → ev_ix x i j w (q', n, M, ov) = true → x ≠ 1 → k r ls s' (ev_ts 7 w.1 i (.inr (q', n, M, (j, v2) :: ov)), w.2) = some outs → W p l e R s mm args below meth c H locs w.2.2.2.1 w.2.2.2.2 Q (F0 mm pc la (ev_cv σ ρ v0 :: .int (Int32.ofNat j) :: .ref (ρ i) :: s'.map (ev_cv σ ρ))) := by
        intro v0 y v2 e1 e2 e3 e4 e5
        obtain ⟨d1, d2, d3, d4⟩ := ev_ix_ok e3
        have d1 : j < n := d1
        have d2 : q' = x := d2
        subst d2
        rw [e1]
        have he : (ev_wl σ ρ ca w.1 w.2.1)[i]? = some (ρ i, .inl (ca q', n, .inl (ev_cf σ M ov))) := by
          rw [ev_wl_get d3, ho, ← ev_ca_i σ e4]
          rfl
        refine ev_asx hs e4 hx hb hK G.2.2.2.1 G.2.2.2.2.1 G.2.2.2.2.2 he d1 d4 (f' := ev_cf σ M ((j, v2) :: ov)) (by rw [ev_cf_ov, e2]) hd ?_
        intro H1 locs1 k1 k2 k3
        have ec : (Sum.inl (ca q', n, Sum.inl (ev_cf σ M ((j, v2) :: ov))) : va_E) = ev_ce σ ρ ca (.inr (q', n, M, (j, v2) :: ov)) := by
          rw [← ev_ca_i σ e4]
          rfl
        rw [ec] at k1 k2
        exact hk _ _ _ (ev_ts 7 w.1 i (.inr (q', n, M, (j, v2) :: ov)), w.2) _ _ _ _ _ _ (G.put d3 k1 k2 k3) hr e5 hos
      match v, h with
      | .inl b, h =>
        have h : Bool.rec (motive := fun _ => ev_R) (ea_as5 x k r ls s' w (.inl b) j i (q', n, M, ov)) (ev_fo (ev_sm 32 M j (ev_nar x b)) (fun M' => k r ls s' (ev_ts 7 w.1 i (.inr (q', n, M', [])), w.2))) (Bool.and (ev_ix x i j w (q', n, M, ov)) (Bool.and (ev_nil ov) (Bool.not (Nat.beq x 1)))) = some outs := h
        cases hq : Bool.and (ev_ix x i j w (q', n, M, ov)) (Bool.and (ev_nil ov) (Bool.not (Nat.beq x 1))) with
        | false =>
          rw [hq] at h
          obtain ⟨hc, h⟩ := ev_ite (show Bool.rec (motive := fun _ => ev_R) none _ _ = some outs from h)
          obtain ⟨c1, c2⟩ := ev_band hc
          exact S5 (.inl b) (Int32.ofNat b) (.inl (ev_nar x b)) rfl (ev_nar_ok hs b) c1 (ev_beqf.mp (ev_notb c2)) h
        | true =>
          rw [hq] at h
          obtain ⟨c1, c2⟩ := ev_band hq
          obtain ⟨c2, c3⟩ := ev_band c2
          have e4 : x ≠ 1 := ev_beqf.mp (ev_notb c3)
          have e5 : ov = [] := ev_nil_ok c2
          obtain ⟨d1, d2, d3, d4⟩ := ev_ix_ok c1
          have d1 : j < n := d1
          have d2 : q' = x := d2
          subst d2; subst e5
          have h : ev_fo (ev_sm 32 M j (ev_nar q' b)) (fun M' => k r ls s' (ev_ts 7 w.1 i (.inr (q', n, M', [])), w.2)) = some outs := h
          rw [ev_fo_eq] at h
          have he : (ev_wl σ ρ ca w.1 w.2.1)[i]? = some (ρ i, .inl (ca q', n, .inl (ev_cf σ M []))) := by
            rw [ev_wl_get d3, ho, ← ev_ca_i σ e4]
            rfl
          refine ev_asx hs e4 hx hb hK G.2.2.2.1 G.2.2.2.2.1 G.2.2.2.2.2 he d1 d4 (f' := ev_cf σ (ev_sm 32 M j (ev_nar q' b)) []) (by rw [ev_cf_set, ev_nar_ok hs]) hd ?_
          intro H1 locs1 k1 k2 k3
          have ec : (Sum.inl (ca q', n, Sum.inl (ev_cf σ (ev_sm 32 M j (ev_nar q' b)) [])) : va_E) = ev_ce σ ρ ca (.inr (q', n, ev_sm 32 M j (ev_nar q' b), [])) := by
            rw [← ev_ca_i σ e4]
            rfl
          rw [ec] at k1 k2
          exact hk _ _ _ (ev_ts 7 w.1 i (.inr (q', n, ev_sm 32 M j (ev_nar q' b), [])), w.2) _ _ _ _ _ _ (G.put d3 k1 k2 k3) hr h hos
      | .inr (.inr (.inl b)), h =>
        obtain ⟨hc, h5⟩ := ev_ite (show Bool.rec (motive := fun _ => ev_R) none _ _ = some outs from h)
        obtain ⟨c1, c2⟩ := ev_band hc
        have e4 : x = 1 := ev_beq.mp c2
        obtain ⟨d1, d2, d3, d4⟩ := ev_ix_ok c1
        have d1 : j < n := d1
        have d2 : q' = x := d2
        subst d2; subst e4
        have h : ev_fo (ev_sm 64 M j b) (fun M' => k r ls s' (ev_ts 7 w.1 i (.inr (1, n, M', ov)), w.2)) = some outs := h5
        rw [ev_fo_eq] at h
        have he : (ev_wl σ ρ ca w.1 w.2.1)[i]? = some (ρ i, .inl (ca 1, n, .inr (.inl (fun i => Int64.ofNat (ev_gm 64 M i))))) := by
          rw [ev_wl_get d3, ho]
          rfl
        refine va_last hx hb hK G.2.2.2.1 G.2.2.2.2.1 G.2.2.2.2.2 i 1 he rfl (ev_in d1 d4) hd ?_
        rw [ev_clamp d4, ← ev_cl_set]
        intro H1 locs1 k1 k2 k3
        exact hk _ _ _ (ev_ts 7 w.1 i (.inr (1, n, ev_sm 64 M j b, ov)), w.2) _ _ _ _ _ _ (G.put (cc := .inr (1, n, ev_sm 64 M j b, ov)) d3 k1 k2 k3) hr h hos
      | .inr (.inr (.inr (.inl t))), h =>
        obtain ⟨hc, h⟩ := ev_ite (show Bool.rec (motive := fun _ => ev_R) none _ _ = some outs from h)
        obtain ⟨c1, c2⟩ := ev_band hc
        exact S5 (.inr (.inr (.inr (.inl t)))) (ev_ct σ t) (.inr (.inr (.inr (.inl (ev_nat x t))))) rfl (ev_nat_ok hs σ t) c1 (ev_beqf.mp (ev_notb c2)) h
      | .inr (.inl _), h => cases h
      | .inr (.inr (.inr (.inr _))), h =>
        obtain ⟨hc, h⟩ := ev_ite (show Bool.rec (motive := fun _ => ev_R) none _ _ = some outs from h)
        cases h
theorem es_an (C : ev_Cx p l e R s mm args below meth c m d dC dI ca cl gw nw A) (hm : ev_mok cl pg gw nw m) (hk : ev_Sn p l e R s mm args below meth c m dC dI ca cl pg gw nw A σ ρ0 n0 Q os k) (G : ev_G s m dC dI ca cl A σ ρ0 n0 ρ ls la w H locs) (hok : ev_okc cl pg gw nw m pc (ei_an :: r)) (h : ea_an call k m r ls st w = some outs) (hos : ∀ o ∈ outs, o ∈ os) : W p l e R s mm args below meth c H locs w.2.2.2.1 w.2.2.2.2 Q (F0 mm pc la (st.map (ev_cv σ ρ))) := by
  obtain ⟨hd, -, -, hs, hr⟩ := hok
  obtain ⟨hx, hb, -, -, -, -, -, -, hK, -⟩ := C
  unfold ea_an at h
  match st, h with
  | .inr (.inl (i + 1)) :: s', h =>
    dsimp only at h
    match ho : ev_tg 7 w.1 i, h with
    | .inr (q, n, M, ov), h =>
      obtain ⟨hc, h⟩ := ev_ite (show Bool.rec (motive := fun _ => ev_R) none _ _ = some outs from h)
      obtain ⟨c1, c2⟩ := ev_band hc
      have c1 : i < w.2.1 := Nat.le_of_ble_eq_true c1
      have c2 : q ≤ 3 := Nat.le_of_ble_eq_true c2
      have he : (ev_wl σ ρ ca w.1 w.2.1)[i]? = some (ρ i, .inl (ca q, n, ev_ca σ q M ov)) := by
        rw [ev_wl_get c1, ho]
        rfl
      exact va_alen hx hb hK G.2.2.2.1 i q he (ev_tyq (by omega)) rfl hd (hk _ _ _ _ _ _ _ _ _ _ G hr h hos)
theorem ev_G.push (G : ev_G s m dC dI ca cl A σ ρ0 n0 ρ ls la w H locs) {H1 : Heap} {q : Nat} {cc : ev_C} {mc ms : Nat} (hn : w.2.1 ≤ 127) (hl : ls.all (ev_clV w.2.1) = true) (hh : ev_clH w.2.1 w.1 = true) (hcc : ev_ce σ (fun i => if i = w.2.1 then q else ρ i) ca cc = ev_ce σ ρ ca cc) (h1 : va_P (dC, dI) cl (ev_wl σ ρ ca w.1 w.2.1 ++ [(q, ev_ce σ ρ ca cc)]) H1) (h2 : va_D A (ev_wl σ ρ ca w.1 w.2.1 ++ [(q, ev_ce σ ρ ca cc)])) (h3 : va_S A s.heap H1 locs) : ev_G s m dC dI ca cl A σ ρ0 n0 (fun i => if i = w.2.1 then q else ρ i) ls la (ev_ts 7 w.1 w.2.1 cc, w.2.1 + 1, w.2.2.1, mc, ms) H1 locs := by
  have hr : ∀ i, i < w.2.1 → (fun i => if i = w.2.1 then q else ρ i) i = ρ i := fun i h => if_neg (by omega)
  have e := ev_wl_push (σ := σ) (ca := ca) (c := cc) hn hr hh
  rw [hcc, if_pos rfl] at e
  rw [← e] at h1 h2
  obtain ⟨g1, g2, ⟨g3, g4, g5, g6⟩, g7⟩ := G
  refine ⟨?_, g2, ⟨Nat.le_succ_of_le g3, ?_, fun i hi => (hr i (by omega)).trans (g5 i hi), fun h => ?_⟩, h1, h2, h3⟩
  · rw [ev_pr_cl hr hl]
    exact g1
  · show w.2.1 + 1 ≤ 128
    omega
  · have h : w.2.1 + 1 = n0 := h
    omega
theorem ev_ca0 (σ : Nat → Int32) {q n : Nat} (hq : q < 4) (cA : ClassId) : vp_cell cA (n, ev_ca σ q 0 []) = arrV cA n (fun _ => defaultValue (ev_aty q)) := by
  have h32 : ∀ j, ev_cf σ 0 [] j = 0 := fun j => by
    show Int32.ofNat (ev_gm 32 0 j) = 0
    rw [ev_gm_0]
    rfl
  have h64 : ∀ j, Int64.ofNat (ev_gm 64 0 j) = 0 := fun j => by
    rw [ev_gm_0]
    rfl
  match q, hq with
  | 0, _ => show arrV cA n (fun j => .int (ev_cf σ 0 [] j)) = _; simp only [h32]; rfl
  | 1, _ => show arrV cA n (fun j => .long (Int64.ofNat (ev_gm 64 0 j))) = _; simp only [h64]; rfl
  | 2, _ => show arrV cA n (fun j => .int (ev_cf σ 0 [] j)) = _; simp only [h32]; rfl
  | 3, _ => show arrV cA n (fun j => .int (ev_cf σ 0 [] j)) = _; simp only [h32]; rfl
theorem es_na {x : Nat} (C : ev_Cx p l e R s mm args below meth c m d dC dI ca cl gw nw A) (hm : ev_mok cl pg gw nw m) (hk : ev_Sn p l e R s mm args below meth c m dC dI ca cl pg gw nw A σ ρ0 n0 Q os k) (G : ev_G s m dC dI ca cl A σ ρ0 n0 ρ ls la w H locs) (hok : ev_okc cl pg gw nw m pc (ei_na x :: r)) (h : ea_na x call k m r ls st w = some outs) (hos : ∀ o ∈ outs, o ∈ os) : W p l e R s mm args below meth c H locs w.2.2.2.1 w.2.2.2.2 Q (F0 mm pc la (st.map (ev_cv σ ρ))) := by
  obtain ⟨hd, hw, -, hs, hr⟩ := hok
  have hs : x < 4 := of_decide_eq_true hs
  obtain ⟨hx, hb, -, -, -, -, -, hts, hK, -, hR, hA⟩ := C
  unfold ea_na at h
  match st, h with
  | .inl n :: s', h =>
    obtain ⟨hc, h⟩ := ev_ite (show Bool.rec (motive := fun _ => ev_R) none _ _ = some outs from h)
    obtain ⟨c1, hc⟩ := ev_band hc
    obtain ⟨c2, hc⟩ := ev_band hc
    obtain ⟨c3, hc⟩ := ev_band hc
    obtain ⟨c4, hc⟩ := ev_band hc
    obtain ⟨c5, hc⟩ := ev_band hc
    obtain ⟨c6, c7⟩ := ev_band hc
    have c1 : n ≤ 1000000 := Nat.le_of_ble_eq_true c1
    have c2 : w.2.2.2.1 + 1 ≤ m.2.2.1 := Nat.le_of_ble_eq_true c2
    have c3 : w.2.2.2.2 + n ≤ m.2.2.2.1 := Nat.le_of_ble_eq_true c3
    have c4 : w.2.1 ≤ 127 := Nat.le_of_ble_eq_true c4
    have harr : (Jvm.Cond.arrayClass (ev_aty x)).before args s = true := hts _ (List.mem_cons_of_mem _ (hw _ List.mem_cons_self))
    have hty : newarray.typeOf (ev_xna x) = ev_aty x := by
      match x, hs with
      | 0, _ => rfl
      | 1, _ => rfl
      | 2, _ => rfl
      | 3, _ => rfl
    have hby : n * componentBytes (ev_aty x) ≤ 536870912 := by
      have : componentBytes (ev_aty x) ≤ 8 := by
        match x, hs with
        | 0, _ => decide
        | 1, _ => decide
        | 2, _ => decide
        | 3, _ => decide
      have := Nat.mul_le_mul c1 this
      omega
    subst hR
    refine va_newa (atype := ev_xna x) (ty := ev_aty x) (a0 := (n, ev_ca σ x 0 [])) hx hb (by rw [hty]; exact harr) hty hK G.2.2.2.1 G.2.2.2.2.1 G.2.2.2.2.2 hA (ev_ca0 σ hs) (nI_pos (n := n) (by omega)) (nI_clamp (by omega)) hby c2 c3 hd ?_
    intro q cA H1 k0 k1 k2 k3
    have ecA : cA = ca x := by
      have r1 := (k0.2 (ev_ty ca).length (cA, ev_aty x) (by simp)).2
      have r2 := (hK.2 x (ca x, ev_aty x) (ev_tyq hs)).2
      match x, hs, r1, r2 with
      | 0, _, r1, r2 => exact Option.some.inj (Eq.trans (Eq.symm r1) r2)
      | 1, _, r1, r2 => exact Option.some.inj (Eq.trans (Eq.symm r1) r2)
      | 2, _, r1, r2 => exact Option.some.inj (Eq.trans (Eq.symm r1) r2)
      | 3, _, r1, r2 => exact Option.some.inj (Eq.trans (Eq.symm r1) r2)
    subst ecA
    have G2 := G.push (cc := .inr (x, n, 0, [])) (mc := w.2.2.2.1 + 1) (ms := w.2.2.2.2 + n) c4 c6 c7 rfl k1 k2 k3
    have K := hk _ _ _ _ _ _ _ _ _ _ G2 hr h hos
    have e1 : (Sum.inr (Sum.inl (Nat.succ w.2.1)) :: s').map (ev_cv σ (fun i => if i = w.2.1 then q else ρ i)) = .ref q :: s'.map (ev_cv σ ρ) := by
      rw [List.map_cons, ev_cvs_cl (fun i hi => if_neg (by omega)) c5]
      show Value.ref (if w.2.1 = w.2.1 then q else ρ w.2.1) :: _ = _
      rw [if_pos rfl]
    rw [e1] at K
    exact K
theorem es_nw {x : Nat × Nat × List ev_V} (hkk : ev_kok cl gw) (C : ev_Cx p l e R s mm args below meth c m d dC dI ca cl gw nw A) (hm : ev_mok cl pg gw nw m) (hk : ev_Sn p l e R s mm args below meth c m dC dI ca cl pg gw nw A σ ρ0 n0 Q os k) (G : ev_G s m dC dI ca cl A σ ρ0 n0 ρ ls la w H locs) (hok : ev_okc cl pg gw nw m pc (ei_nw x :: r)) (h : ea_nw x call k m r ls st w = some outs) (hos : ∀ o ∈ outs, o ∈ os) : W p l e R s mm args below meth c H locs w.2.2.2.1 w.2.2.2.2 Q (F0 mm pc la (st.map (ev_cv σ ρ))) := by
  obtain ⟨hd, hw, -, hs, hr⟩ := hok
  obtain ⟨hs, hs3⟩ := ev_band (show Bool.and (ev_snw (ev_kd cl x.1) x.2.2) (cl[x.1]?).isSome = true from hs)
  obtain ⟨hs1, hs2⟩ := ev_band (show Bool.and _ _ = true from hs)
  have hs1 : x.2.2.length = (ev_kd cl x.1).2.2 := of_decide_eq_true hs1
  have hc0 := ev_kd_some hs3
  obtain ⟨hx, hb, -, -, -, hown, -, hts, hK, -, hR, hA⟩ := C
  obtain ⟨hki, ty0, hty, -⟩ := hkk _ _ hc0
  have hin : ∀ w ∈ u_ws (ev_kd cl x.1).1 (ev_kd cl x.1).2.1 (ev_kd cl x.1).2.2, w ∈ ev_ws gw m := fun w h => List.mem_cons_of_mem _ (hki w h)
  have hw' : ∀ w ∈ ([.classLink (ev_own m) x.2.1 (ev_kd cl x.1).1, .instantiable (ev_kd cl x.1).1 (ev_kd cl x.1).2.2, .initialized (ev_kd cl x.1).1] : List Jvm.Cond), w.before args s = true := fun w h => hts w (List.mem_cons_of_mem _ (hw w h))
  obtain ⟨hc, h⟩ := ev_ite (show Bool.rec (motive := fun _ => ev_R) none _ _ = some outs from h)
  obtain ⟨c2, hc⟩ := ev_band hc
  obtain ⟨c3, hc⟩ := ev_band hc
  obtain ⟨c4, hc⟩ := ev_band hc
  obtain ⟨c5, hc⟩ := ev_band hc
  obtain ⟨c6, hc⟩ := ev_band hc
  obtain ⟨c8, c7⟩ := ev_band hc
  have c2 : w.2.2.2.1 + 1 ≤ m.2.2.1 := Nat.le_of_ble_eq_true c2
  have c3 : w.2.2.2.2 + x.2.2.length ≤ m.2.2.2.1 := Nat.le_of_ble_eq_true c3
  have c4 : w.2.1 ≤ 127 := Nat.le_of_ble_eq_true c4
  have hfs : ∀ j, j < (ev_kd cl x.1).2.2 → defaultValue (ty0 j) = vp_V (x.2.2.map (ev_cv σ ρ)) j := by
    intro j hj
    have h1 := List.all_eq_true.mp hs2 j (List.mem_range.mpr hj)
    rw [hty j hj] at h1
    have h1 : ev_dvt (ty0 j) x.2.2[j]? = true := h1
    unfold vp_V
    rw [List.getD_eq_getElem?_getD, List.getElem?_map]
    match ty0 j, x.2.2[j]?, h1 with
    | .long, some (.inr (.inr (.inl 0))), _ => rfl
    | .object _, some (.inr (.inl 0)), _ => rfl
    | .array _, some (.inr (.inl 0)), _ => rfl
    | .int, some (.inl 0), _ => rfl
    | .boolean, some (.inl 0), _ => rfl
    | .byte, some (.inl 0), _ => rfl
  rw [hs1] at c3
  subst hR
  refine va_new hx hb hts hin ty0 hty hown (hw' _ List.mem_cons_self) (hw' _ (List.mem_cons_of_mem _ List.mem_cons_self)) (hw' _ (List.mem_cons_of_mem _ (List.mem_cons_of_mem _ List.mem_cons_self))) hK G.2.2.2.1 G.2.2.2.2.1 G.2.2.2.2.2 hA hc0 hfs c2 c3 hd ?_
  intro q H1 k1 k2 k3
  have hrr : ∀ i, i < w.2.1 → (fun i => if i = w.2.1 then q else ρ i) i = ρ i := fun i h => if_neg (by omega)
  have G2 := G.push (cc := .inl (x.1, x.2.2)) (mc := w.2.2.2.1 + 1) (ms := w.2.2.2.2 + x.2.2.length) c4 c6 c7 (ev_ce_cl (n := w.2.1) hrr c8) k1 k2 k3
  have K := hk _ _ _ _ _ _ _ _ _ _ G2 hr h hos
  have e1 : (Sum.inr (Sum.inl (Nat.succ w.2.1)) :: st).map (ev_cv σ (fun i => if i = w.2.1 then q else ρ i)) = .ref q :: st.map (ev_cv σ ρ) := by
    rw [List.map_cons, ev_cvs_cl (fun i hi => if_neg (by omega)) c5]
    show Value.ref (if w.2.1 = w.2.1 then q else ρ w.2.1) :: _ = _
    rw [if_pos rfl]
  rw [e1] at K
  rw [← hs1]
  exact K
theorem es_oi {x : Nat} (C : ev_Cx p l e R s mm args below meth c m d dC dI ca cl gw nw A) (hm : ev_mok cl pg gw nw m) (hk : ev_Sn p l e R s mm args below meth c m dC dI ca cl pg gw nw A σ ρ0 n0 Q os k) (G : ev_G s m dC dI ca cl A σ ρ0 n0 ρ ls la w H locs) (hok : ev_okc cl pg gw nw m pc (ei_oi x :: r)) (h : ea_oi x call k m r ls st w = some outs) (hos : ∀ o ∈ outs, o ∈ os) : W p l e R s mm args below meth c H locs w.2.2.2.1 w.2.2.2.2 Q (F0 mm pc la (st.map (ev_cv σ ρ))) := by
  obtain ⟨hd, hw, -, hs, hr⟩ := hok
  obtain ⟨hx, hb, -, -, hml, hown, -, hts, -, -, hR, -⟩ := C
  have hw' : ∀ w ∈ ([.methodLink (ev_own m) x Lib.objectInit, .instanceMethod Lib.objectInit, .code Lib.objectInit ⟨#[0xb1]⟩ 1 none] : List Jvm.Cond), w.before args s = true := fun w h => hts w (List.mem_cons_of_mem _ (hw w h))
  unfold ea_oi at h
  match st, h with
  | .inr (.inl (i + 1)) :: s', h =>
    obtain ⟨hc, h⟩ := ev_ite h
    have hc : ev_cat s' ≤ 8 := Nat.le_of_ble_eq_true hc
    subst hR
    refine W.objInit hx hb hown (hw' _ List.mem_cons_self) (hw' _ (List.mem_cons_of_mem _ List.mem_cons_self)) (hw' _ (List.mem_cons_of_mem _ (List.mem_cons_of_mem _ List.mem_cons_self))) (a := ρ i) (rest := s'.map (ev_cv σ ρ)) rfl (G.1.1.trans hml.symm) rfl hd (by show 1 ≤ d + 1; omega) ?_ (hk _ _ _ _ _ _ _ _ _ _ G hr h hos)
    rw [ev_cat_ok]
    show 2 * 0 + ev_cat s' + 12 ≤ 40 * (d + 1)
    omega
theorem ev_cf_cp (σ : Nat → Int32) (Md Ms sp dp n : Nat) : ev_cf σ (ev_cp 32 Md Ms sp dp n) [] = va_cpy (ev_cf σ Ms []) (ev_cf σ Md []) sp dp n := by
  funext j
  show Int32.ofNat (ev_gm 32 (ev_cp 32 Md Ms sp dp n) j) = if dp ≤ j ∧ j < dp + n then Int32.ofNat (ev_gm 32 Ms (sp + (j - dp))) else Int32.ofNat (ev_gm 32 Md j)
  rw [ev_gm_cp]
  split <;> rfl
theorem ev_cl_cp (Md Ms sp dp n : Nat) : (fun i => Int64.ofNat (ev_gm 64 (ev_cp 64 Md Ms sp dp n) i)) = va_cpy (fun i => Int64.ofNat (ev_gm 64 Ms i)) (fun i => Int64.ofNat (ev_gm 64 Md i)) sp dp n := by
  funext j
  show Int64.ofNat (ev_gm 64 (ev_cp 64 Md Ms sp dp n) j) = if dp ≤ j ∧ j < dp + n then Int64.ofNat (ev_gm 64 Ms (sp + (j - dp))) else Int64.ofNat (ev_gm 64 Md j)
  rw [ev_gm_cp]
  split <;> rfl
theorem es_cy {x : Nat} (C : ev_Cx p l e R s mm args below meth c m d dC dI ca cl gw nw A) (hm : ev_mok cl pg gw nw m) (hk : ev_Sn p l e R s mm args below meth c m dC dI ca cl pg gw nw A σ ρ0 n0 Q os k) (G : ev_G s m dC dI ca cl A σ ρ0 n0 ρ ls la w H locs) (hok : ev_okc cl pg gw nw m pc (ei_cy x :: r)) (h : ea_cy x call k m r ls st w = some outs) (hos : ∀ o ∈ outs, o ∈ os) : W p l e R s mm args below meth c H locs w.2.2.2.1 w.2.2.2.2 Q (F0 mm pc la (st.map (ev_cv σ ρ))) := by
  obtain ⟨hd, hw, -, hs, hr⟩ := hok
  obtain ⟨hx, hb, -, -, hml, hown, -, hts, hK, -, hR, -⟩ := C
  have hw' : ∀ w ∈ ([.methodLink (ev_own m) x arraycopyName, .native arraycopyName, .static arraycopyName, .initialized "java/lang/System"] : List Jvm.Cond), w.before args s = true := fun w h => hts w (List.mem_cons_of_mem _ (hw w h))
  have w1 := hw' _ List.mem_cons_self
  have w2 := hw' _ (List.mem_cons_of_mem _ List.mem_cons_self)
  have w3 := hw' _ (List.mem_cons_of_mem _ (List.mem_cons_of_mem _ List.mem_cons_self))
  have w4 := hw' _ (List.mem_cons_of_mem _ (List.mem_cons_of_mem _ (List.mem_cons_of_mem _ List.mem_cons_self)))
  unfold ea_cy at h
  match st, h with
  | .inl n :: .inl dp :: .inr (.inl (i + 1)) :: .inl sp :: .inr (.inl (i' + 1)) :: s', h =>
    dsimp only at h
    match ho : ev_tg 7 w.1 i, ho' : ev_tg 7 w.1 i', h with
    | .inr (q, n1, M1, []), .inr (q', n0', M0, []), h =>
      obtain ⟨hc, h5⟩ := ev_ite (show Bool.rec (motive := fun _ => ev_R) none _ _ = some outs from h)
      obtain ⟨c1, hc⟩ := ev_band hc
      obtain ⟨c2, hc⟩ := ev_band hc
      obtain ⟨c3, hc⟩ := ev_band hc
      obtain ⟨c4, hc⟩ := ev_band hc
      obtain ⟨c5, hc⟩ := ev_band hc
      obtain ⟨c6, hc⟩ := ev_band hc
      obtain ⟨c7, hc⟩ := ev_band hc
      obtain ⟨c8, c9⟩ := ev_band hc
      have c1 : q = q' := ev_beq.mp c1
      have c2 : q ≤ 1 := Nat.le_of_ble_eq_true c2
      have c3 : i < w.2.1 := Nat.le_of_ble_eq_true c3
      have c4 : i' < w.2.1 := Nat.le_of_ble_eq_true c4
      have c5 : sp + n ≤ n0' := Nat.le_of_ble_eq_true c5
      have c6 : dp + n ≤ n1 := Nat.le_of_ble_eq_true c6
      have c7 : sp + n ≤ 2147483647 := Nat.le_of_ble_eq_true c7
      have c8 : dp + n ≤ 2147483647 := Nat.le_of_ble_eq_true c8
      have c9 : ev_cat s' ≤ 8 := Nat.le_of_ble_eq_true c9
      rw [ev_fo_eq] at h5
      clear h
      subst c1
      subst hR
      have e1 := ev_clamp (j := sp) (by omega)
      have e2 := ev_clamp (j := dp) (by omega)
      have e3 := ev_clamp (j := n) (by omega)
      have hlo : ((s'.map (ev_cv σ ρ)).map (fun v => v.category)).sum + (nativeFrameWords "java/lang/System" "arraycopy" 5 + 11) ≤ (ev_rm (d + 1) m).locals := by
        rw [ev_cat_ok]
        have : nativeFrameWords "java/lang/System" "arraycopy" 5 = 7 := by decide +kernel
        rw [this]
        show _ ≤ 40 * (d + 1)
        omega
      have p1 := nI_pos (n := sp) (by omega)
      have p2 := nI_pos (n := dp) (by omega)
      have p3 := nI_pos (n := n) (by omega)
      match q, c2, ho, ho', h5 with
      | 0, _, ho, ho', h =>
        have he : (ev_wl σ ρ ca w.1 w.2.1)[i]? = some (ρ i, .inl (ca 0, n1, .inl (ev_cf σ M1 []))) := by
          rw [ev_wl_get c3, ho]
          rfl
        have he' : (ev_wl σ ρ ca w.1 w.2.1)[i']? = some (ρ i', .inl (ca 0, n0', .inl (ev_cf σ M0 []))) := by
          rw [ev_wl_get c4, ho']
          rfl
        refine va_copyi (ty := .int) hx hb (hml.trans G.1.1.symm) hown w1 w2 w3 w4 hK G.2.2.2.1 G.2.2.2.2.1 G.2.2.2.2.2 i' i 0 0 he' he rfl rfl rfl p1 p2 p3 (by rw [show (Int32.ofNat sp).toNatClampNeg = sp from e1, show (Int32.ofNat n).toNatClampNeg = n from e3]; exact c5) (by rw [show (Int32.ofNat dp).toNatClampNeg = dp from e2, show (Int32.ofNat n).toNatClampNeg = n from e3]; exact c6) (fun _ _ => rfl) (by show 1 ≤ d + 1; omega) hlo hd ?_
        rw [e1, e2, e3, ← ev_cf_cp]
        intro H1 locs1 k1 k2 k3
        exact hk _ _ _ (ev_ts 7 w.1 i (.inr (0, n1, ev_cp 32 M1 M0 sp dp n, [])), w.2) _ _ _ _ _ _ (G.put (cc := .inr (0, n1, ev_cp 32 M1 M0 sp dp n, [])) c3 k1 k2 k3) hr h hos
      | 1, _, ho, ho', h =>
        have he : (ev_wl σ ρ ca w.1 w.2.1)[i]? = some (ρ i, .inl (ca 1, n1, .inr (.inl (fun i => Int64.ofNat (ev_gm 64 M1 i))))) := by
          rw [ev_wl_get c3, ho]
          rfl
        have he' : (ev_wl σ ρ ca w.1 w.2.1)[i']? = some (ρ i', .inl (ca 1, n0', .inr (.inl (fun i => Int64.ofNat (ev_gm 64 M0 i))))) := by
          rw [ev_wl_get c4, ho']
          rfl
        refine va_copyl (ty := .long) hx hb (hml.trans G.1.1.symm) hown w1 w2 w3 w4 hK G.2.2.2.1 G.2.2.2.2.1 G.2.2.2.2.2 i' i 1 1 he' he rfl rfl rfl p1 p2 p3 (by rw [show (Int32.ofNat sp).toNatClampNeg = sp from e1, show (Int32.ofNat n).toNatClampNeg = n from e3]; exact c5) (by rw [show (Int32.ofNat dp).toNatClampNeg = dp from e2, show (Int32.ofNat n).toNatClampNeg = n from e3]; exact c6) (fun _ _ => rfl) (by show 1 ≤ d + 1; omega) hlo hd ?_
        rw [e1, e2, e3, ← ev_cl_cp]
        intro H1 locs1 k1 k2 k3
        exact hk _ _ _ (ev_ts 7 w.1 i (.inr (1, n1, ev_cp 64 M1 M0 sp dp n, [])), w.2) _ _ _ _ _ _ (G.put (cc := .inr (1, n1, ev_cp 64 M1 M0 sp dp n, [])) c3 k1 k2 k3) hr h hos
end EVD
