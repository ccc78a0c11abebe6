/-! ===== tokens: each of few values, or less, equal, greater ===== -/
theorem ev_jn_some {x y : ev_R} {outs : List ev_O} (h : ev_jn x y = some outs) : ∃ u v, x = some u ∧ y = some v ∧ (∀ o ∈ u, o ∈ outs) ∧ (∀ o ∈ v, o ∈ outs) := by
  cases x with
  | none => cases h
  | some u =>
    cases y with
    | none => cases h
    | some v =>
      have h : u ++ v = outs := Option.some.inj h
      subst h
      exact ⟨u, v, rfl, rfl, fun o ho => List.mem_append_left _ ho, fun o ho => List.mem_append_right _ ho⟩
theorem ev_en_some {f : Nat → ev_R} : ∀ (c lo : Nat) (outs : List ev_O), ev_en c lo f = some outs → ∀ v, lo ≤ v → v < lo + c → ∃ u, f v = some u ∧ ∀ o ∈ u, o ∈ outs
  | 0, lo, outs, _, v, h1, h2 => by omega
  | c + 1, lo, outs, h, v, h1, h2 => by
    obtain ⟨x, y, e1, e2, k1, k2⟩ := ev_jn_some (show ev_jn (f lo) (ev_en c (lo + 1) f) = some outs from h)
    by_cases hv : v = lo
    · subst hv
      exact ⟨x, e1, k1⟩
    · obtain ⟨u, e3, k3⟩ := ev_en_some c (lo + 1) y e2 v (by omega) (by omega)
      exact ⟨u, e3, fun o ho => k2 o (k3 o ho)⟩
theorem ev_sat_set {σ : Nat → Int32} {e : ev_E} {k a b : Nat} (hs : ev_sat σ e) (h1 : a ≤ ev_bi (σ k)) (h2 : ev_bi (σ k) ≤ b) : ev_sat σ (e.set k (a, b)) := by
  intro j lo hi hj
  by_cases hjk : k = j
  · subst hjk
    rw [List.getElem?_set] at hj
    simp at hj
    obtain ⟨-, rfl, rfl⟩ := hj
    exact ⟨h1, h2⟩
  · rw [List.getElem?_set_ne hjk] at hj
    exact hs j lo hi hj
theorem ev_rs_ok {σ : Nat → Int32} {t : ev_T} {e : ev_E} {f : Nat → ev_E → ev_R} {outs : List ev_O} (hs : ev_sat σ e) (h : ev_rs t e f = some outs) : ∃ v e' u, f v e' = some u ∧ (∀ o ∈ u, o ∈ outs) ∧ Int32.ofNat v = ev_ct σ t ∧ ev_sat σ e' := by
  obtain ⟨k, l⟩ := t
  cases l with
  | cons _ _ => cases h
  | nil =>
    unfold ev_rs at h
    dsimp only at h
    cases hk : e[k]? with
    | none => rw [hk] at h; cases h
    | some b =>
      obtain ⟨lo, hi⟩ := b
      rw [hk] at h
      dsimp only at h
      obtain ⟨b1, b2⟩ := hs k lo hi hk
      cases hq : Nat.beq lo hi with
      | true =>
        rw [hq] at h
        have e1 := ev_beq.mp hq
        have e2 : ev_bi (σ k) = lo := by omega
        exact ⟨ev_bs lo, e, outs, h, fun o ho => ho, by rw [ev_ct_nil, ← e2]; exact ev_bs_bi (σ k), hs⟩
      | false =>
        rw [hq] at h
        cases hq2 : Nat.ble (Nat.sub hi lo) 64 with
        | false => rw [hq2] at h; cases h
        | true =>
          rw [hq2] at h
          obtain ⟨u, h1, h2⟩ := ev_en_some _ _ _ h (ev_bi (σ k)) b1 (by show ev_bi (σ k) < lo + (hi - lo + 1); omega)
          exact ⟨_, _, u, h1, h2, by rw [ev_ct_nil]; exact ev_bs_bi (σ k), ev_sat_set hs (Nat.le_refl _) (Nat.le_refl _)⟩
theorem ev_sp_ok {σ : Nat → Int32} {t : ev_T} {y : Nat} {e : ev_E} {f g h : ev_E → ev_R} {outs : List ev_O} (hs : ev_sat σ e) (hh : ev_sp t y e f g h = some outs) : ∃ e' u, ev_sat σ e' ∧ (∀ o ∈ u, o ∈ outs) ∧ ((ev_bi (ev_ct σ t) < y ∧ f e' = some u) ∨ (ev_bi (ev_ct σ t) = y ∧ g e' = some u) ∨ (y < ev_bi (ev_ct σ t) ∧ h e' = some u)) := by
  obtain ⟨k, l⟩ := t
  cases l with
  | cons _ _ => cases hh
  | nil =>
    unfold ev_sp at hh
    dsimp only at hh
    cases hk : e[k]? with
    | none => rw [hk] at hh; cases hh
    | some b =>
      obtain ⟨lo, hi⟩ := b
      rw [hk] at hh
      dsimp only at hh
      obtain ⟨b1, b2⟩ := hs k lo hi hk
      obtain ⟨x1, x23, e1, e23, k1, k23⟩ := ev_jn_some hh
      obtain ⟨x2, x3, e2, e3, k2, k3⟩ := ev_jn_some e23
      rw [ev_ct_nil]
      rcases Nat.lt_trichotomy (ev_bi (σ k)) y with hc | hc | hc
      · rw [Nat.ble_eq_true_of_le (show Nat.succ lo ≤ y by omega)] at e1
        refine ⟨_, x1, ev_sat_set (k := k) hs b1 ?_, k1, Or.inl ⟨hc, e1⟩⟩
        show ev_bi (σ k) ≤ min hi (y - 1)
        omega
      · rw [Nat.ble_eq_true_of_le (show lo ≤ y by omega), Nat.ble_eq_true_of_le (show y ≤ hi by omega)] at e2
        exact ⟨_, x2, ev_sat_set (k := k) hs (by omega) (by omega), fun o ho => k23 o (k2 o ho), Or.inr (Or.inl ⟨hc, e2⟩)⟩
      · rw [Nat.ble_eq_true_of_le (show Nat.succ y ≤ hi by omega)] at e3
        refine ⟨_, x3, ev_sat_set (k := k) hs ?_ b2, fun o ho => k23 o (k3 o ho), Or.inr (Or.inr ⟨hc, e3⟩)⟩
        show max lo (y + 1) ≤ ev_bi (σ k)
        omega
/-! ===== arithmetic ===== -/
def ev_sem (op : Nat) (x y : Int32) : Int32 := match op with
  | 0 => x + y
  | 1 => x * y
  | 2 => x >>> (y &&& 31)
  | 3 => x &&& y
  | 4 => x - y
  | 5 => x ||| y
  | 6 => x <<< (y &&& 31)
  | _ => (x.toUInt32 >>> (y.toUInt32 &&& Int32.toUInt32 31)).toInt32
theorem ev_bin_ok (op a b : Nat) : ev_sem op (Int32.ofNat a) (Int32.ofNat b) = Int32.ofNat (ev_bin op a b) := by
  match op with
  | 0 => exact (ev_add a b).trans (ev_md _).symm
  | 1 => exact (ev_mul a b).trans (ev_md _).symm
  | 2 => exact ev_shr a b
  | 3 => exact ev_and a b
  | 4 => exact (ev_sub a b).trans (ev_md _).symm
  | 5 => exact ev_or a b
  | 6 => exact (ev_shl a b).trans (ev_md _).symm
  | _ + 7 => exact ev_ush a b
def ev_seml (op : Nat) (x y : Int64) : Int64 := match op with
  | 0 => x &&& y
  | 1 => x + y
  | 2 => x - y
  | _ => x ||| y
theorem ev_lbn_ok (op a b : Nat) : ev_seml op (Int64.ofNat a) (Int64.ofNat b) = Int64.ofNat (ev_lbn op a b) := by
  match op with
  | 0 => exact ev_land a b
  | 1 => exact (ev_ladd a b).trans (ev_mdl _).symm
  | 2 => exact (ev_lsub a b).trans (ev_mdl _).symm
  | _ + 3 => exact ev_lor a b
theorem ev_i3a {x y : Nat} {u v : Bool} (h : x ≤ y) : (if x < y then u else if x = y then u else v) = u := by
  by_cases h1 : x < y
  · rw [if_pos h1]
  · rw [if_neg h1, if_pos (by omega)]
section EVB
variable {p : Program} {l : Launch} {e : Env} {R : Room} {s : State} {mm : MethodId} {args : Array Value} {below : List Frame} {meth : Method} {c : Code}
variable {m : ev_M} {d n0 : Nat} {dC : Nat → ClassId} {dI : Nat → Nat → Nat} {ca : Nat → ClassId} {cl : List vw_C} {pg : List ev_M} {gw nw : List Jvm.Cond} {A : Nat → Prop} {σ : Nat → Int32} {ρ0 : Nat → Nat} {Q : State → Prop} {os outs : List ev_O}
variable {call : ev_Q} {k : ev_K} {r : List ev_I} {ls st : List ev_V} {w : ev_Wd} {pc : Nat} {la : Array Slot} {ρ : Nat → Nat} {H : Heap} {locs : List Loc}
section
variable {cc : ByteArray} {rest : List Value} {cells slots op : Nat}
theorem ev_bex {x y : Int32} (hx : p.tables.exec = Jvm.exec) (hb : c.code = cc) (hop : op < 8) (hd : decode cc pc = .ok (ev_xib op, 1)) (kk : W p l e R s mm args below meth c H locs cells slots Q (F0 mm (pc + 1) la (.int (ev_sem op x y) :: rest))) : W p l e R s mm args below meth c H locs cells slots Q (F0 mm pc la (.int y :: .int x :: rest)) := by
  match op, hop, hd, kk with
  | 0, _, hd, kk => exact lv_iadd hx hb hd kk
  | 1, _, hd, kk => exact lv_imul hx hb hd kk
  | 2, _, hd, kk => exact lv_ishr hx hb hd kk
  | 3, _, hd, kk => exact lv_iand hx hb hd kk
  | 4, _, hd, kk => exact lv_isub hx hb hd kk
  | 5, _, hd, kk => exact lv_ior hx hb hd kk
  | 6, _, hd, kk => exact lv_ishl hx hb hd kk
  | 7, _, hd, kk => exact lv_iushr hx hb hd rfl kk
theorem ev_bexl {x y : Int64} (hx : p.tables.exec = Jvm.exec) (hb : c.code = cc) (hop : op < 4) (hd : decode cc pc = .ok (ev_xlb op, 1)) (kk : W p l e R s mm args below meth c H locs cells slots Q (F0 mm (pc + 1) la (.long (ev_seml op x y) :: rest))) : W p l e R s mm args below meth c H locs cells slots Q (F0 mm pc la (.long y :: .long x :: rest)) := by
  match op, hop, hd, kk with
  | 0, _, hd, kk => exact lv_land hx hb hd kk
  | 1, _, hd, kk => exact lv_ladd hx hb hd kk
  | 2, _, hd, kk => exact lv_lsub hx hb hd kk
  | 3, _, hd, kk => exact lv_lor hx hb hd kk
theorem ev_cex {q : Bool × Bool × Bool} {x y : Int32} {off : Int} {tgt : Nat} (hx : p.tables.exec = Jvm.exec) (hb : c.code = cc) (hq : ev_sq q = true) (hd : decode cc pc = .ok (.if_icmp (ev_cq q) off, 3)) (ht : (pc : Int) + off = (tgt : Int)) (kt : ev_3w q (ev_bi x) (ev_bi y) = true → W p l e R s mm args below meth c H locs cells slots Q (F0 mm tgt la rest)) (kf : ev_3w q (ev_bi x) (ev_bi y) = false → W p l e R s mm args below meth c H locs cells slots Q (F0 mm (pc + 3) la rest)) : W p l e R s mm args below meth c H locs cells slots Q (F0 mm pc la (.int y :: .int x :: rest)) := by
  rw [ev_c3r] at kt kf
  have a1 := ev_bi_lt x y
  have a2 := ev_bi_le x y
  have a3 := ev_bi_eq x y
  have a4 := ev_bi_lt y x
  have a5 := ev_bi_le y x
  match q, hq, hd, kt, kf with
  | (true, false, false), _, hd, kt, kf => exact lv_icmp_lt hx hb hd ht (fun h => kt (by rw [if_pos (a1.mp h)])) (fun h => kf (by rw [if_neg (fun z => h (a1.mpr z))]; split <;> rfl))
  | (true, true, false), _, hd, kt, kf => exact lv_icmp_le hx hb hd ht (fun h => kt (ev_i3a (a2.mp h))) (fun h => kf (by have : ¬ ev_bi x ≤ ev_bi y := fun z => h (a2.mpr z); rw [if_neg (by omega), if_neg (by omega)]))
  | (false, true, false), _, hd, kt, kf => exact lv_icmp_eq hx hb hd ht (fun h => kt (by have := a3.mp h; rw [if_neg (by omega), if_pos (by omega)])) (fun h => kf (by have : ¬ ev_bi x = ev_bi y := fun z => h (a3.mpr z); rw [if_neg this]; split <;> rfl))
  | (true, false, true), _, hd, kt, kf => exact lv_icmp_ne hx hb hd ht (fun h => kt (by have : ¬ ev_bi x = ev_bi y := fun z => h (a3.mpr z); rw [if_neg this]; split <;> rfl)) (fun h => kf (by have : ev_bi x = ev_bi y := a3.mp h; rw [if_neg (by omega), if_pos (by omega)]))
  | (false, false, true), _, hd, kt, kf => exact lv_icmp_gt hx hb hd ht (fun h => kt (by have := a4.mp h; rw [if_neg (by omega), if_neg (by omega)])) (fun h => kf (ev_i3a (Nat.not_lt.mp (fun z => h (a4.mpr z)))))
  | (false, true, true), _, hd, kt, kf => exact lv_icmp_ge hx hb hd ht (fun h => kt (by have := a5.mp h; rw [if_neg (by omega)]; split <;> rfl)) (fun h => kf (by have : ¬ ev_bi y ≤ ev_bi x := fun z => h (a5.mpr z); rw [if_pos (by omega)]))
theorem ev_cex0 {q : Bool × Bool × Bool} {x : Int32} {off : Int} {tgt : Nat} (hx : p.tables.exec = Jvm.exec) (hb : c.code = cc) (hq : ev_sq q = true) (hd : decode cc pc = .ok (.ifCond (ev_cq q) off, 3)) (ht : (pc : Int) + off = (tgt : Int)) (kt : ev_3w q (ev_bi x) (ev_bi 0) = true → W p l e R s mm args below meth c H locs cells slots Q (F0 mm tgt la rest)) (kf : ev_3w q (ev_bi x) (ev_bi 0) = false → W p l e R s mm args below meth c H locs cells slots Q (F0 mm (pc + 3) la rest)) : W p l e R s mm args below meth c H locs cells slots Q (F0 mm pc la (.int x :: rest)) := by
  rw [ev_c3r] at kt kf
  have a1 := ev_bi_lt x 0
  have a2 := ev_bi_le x 0
  have a3 := ev_bi_eq x 0
  have a4 := ev_bi_lt 0 x
  have a5 := ev_bi_le 0 x
  generalize ev_bi 0 = z0 at *
  match q, hq, hd, kt, kf with
  | (true, false, false), _, hd, kt, kf => exact lv_if_lt hx hb hd ht (fun h => kt (by rw [if_pos (a1.mp h)])) (fun h => kf (by rw [if_neg (fun z => h (a1.mpr z))]; split <;> rfl))
  | (true, true, false), _, hd, kt, kf => exact lv_if_le hx hb hd ht (fun h => kt (ev_i3a (a2.mp h))) (fun h => kf (by have : ¬ ev_bi x ≤ z0 := fun z => h (a2.mpr z); rw [if_neg (by omega), if_neg (by omega)]))
  | (false, true, false), _, hd, kt, kf => exact lv_if_eq hx hb hd ht (fun h => kt (by have := a3.mp h; rw [if_neg (by omega), if_pos (by omega)])) (fun h => kf (by have : ¬ ev_bi x = z0 := fun z => h (a3.mpr z); rw [if_neg this]; split <;> rfl))
  | (true, false, true), _, hd, kt, kf => exact lv_if_ne hx hb hd ht (fun h => kt (by have : ¬ ev_bi x = z0 := fun z => h (a3.mpr z); rw [if_neg this]; split <;> rfl)) (fun h => kf (by have : ev_bi x = z0 := a3.mp h; rw [if_neg (by omega), if_pos (by omega)]))
  | (false, false, true), _, hd, kt, kf => exact lv_if_gt hx hb hd ht (fun h => kt (by have := a4.mp h; rw [if_neg (by omega), if_neg (by omega)])) (fun h => kf (ev_i3a (Nat.not_lt.mp (fun z => h (a4.mpr z)))))
  | (false, true, true), _, hd, kt, kf => exact lv_if_ge hx hb hd ht (fun h => kt (by have := a5.mp h; rw [if_neg (by omega)]; split <;> rfl)) (fun h => kf (by have : ¬ z0 ≤ ev_bi x := fun z => h (a5.mpr z); rw [if_pos (by omega)]))
end
theorem es_ib {x : Nat} (C : ev_Cx p l e R s mm args below meth c m d dC dI ca cl gw nw A) (hm : ev_mok cl pg gw nw m) (hk : ev_Sn p l e R s mm args below meth c m dC dI ca cl pg gw nw A σ ρ0 n0 Q os k) (G : ev_G s m dC dI ca cl A σ ρ0 n0 ρ ls la w H locs) (hok : ev_okc cl pg gw nw m pc (ei_ib x :: r)) (h : ea_ib x call k m r ls st w = some outs) (hos : ∀ o ∈ outs, o ∈ os) : W p l e R s mm args below meth c H locs w.2.2.2.1 w.2.2.2.2 Q (F0 mm pc la (st.map (ev_cv σ ρ))) := by
  have hok0 := hok
  obtain ⟨hd, -, -, hs, hr⟩ := hok
  have hs : x < 8 := of_decide_eq_true hs
  obtain ⟨hx, hb, -⟩ := C
  match st, h with
  | .inl b :: .inl a :: s', h =>
    refine ev_bex hx hb hs hd ?_
    rw [ev_bin_ok]
    exact hk _ _ _ _ _ _ _ _ _ _ G hr h hos
  | .inr (.inr (.inr (.inl t))) :: s', h =>
    obtain ⟨v, e', u, h1, h2, h3, h4⟩ := ev_rs_ok G.2.1 (show ev_rs t w.2.2.1 (fun v e => k (ei_ib x :: r) ls (.inl v :: s') (ev_we w e)) = some outs from h)
    have K := hk _ _ _ _ _ _ _ _ _ _ (G.env h4) hok0 h1 (fun o ho => hos o (h2 o ho))
    show W p l e R s mm args below meth c H locs w.2.2.2.1 w.2.2.2.2 Q (F0 mm pc la (.int (ev_ct σ t) :: s'.map (ev_cv σ ρ)))
    rw [← h3]
    exact K
  | .inl b :: .inr (.inr (.inr (.inl t))) :: s', h =>
    have h : Bool.rec (motive := fun _ => ev_R) (ev_rs t w.2.2.1 (fun v e => k (ei_ib x :: r) ls (.inl b :: .inl v :: s') (ev_we w e))) (k r ls (.inr (.inr (.inr (.inl (t.1, (x, b) :: t.2)))) :: s') w) (Bool.and (ev_wide t w.2.2.1) (Bool.or (Nat.beq x 2) (Bool.or (Nat.beq x 3) (Nat.beq x 7)))) = some outs := h
    cases hq : Bool.and (ev_wide t w.2.2.1) (Bool.or (Nat.beq x 2) (Bool.or (Nat.beq x 3) (Nat.beq x 7))) with
    | false =>
      rw [hq] at h
      obtain ⟨v, e', u, h1, h2, h3, h4⟩ := ev_rs_ok G.2.1 (show ev_rs t w.2.2.1 _ = some outs from h)
      have K := hk _ _ _ _ _ _ _ _ _ _ (G.env h4) hok0 h1 (fun o ho => hos o (h2 o ho))
      show W p l e R s mm args below meth c H locs w.2.2.2.1 w.2.2.2.2 Q (F0 mm pc la (.int (Int32.ofNat b) :: .int (ev_ct σ t) :: s'.map (ev_cv σ ρ)))
      rw [← h3]
      exact K
    | true =>
      rw [hq] at h
      refine ev_bex hx hb hs hd ?_
      have e1 : ev_sem x (ev_ct σ t) (Int32.ofNat b) = ev_ct σ (t.1, (x, b) :: t.2) := by
        rw [ev_ct_cons]
        have hq2 : (Bool.or (Nat.beq x 2) (Bool.or (Nat.beq x 3) (Nat.beq x 7))) = true := by
          cases hz : (Bool.or (Nat.beq x 2) (Bool.or (Nat.beq x 3) (Nat.beq x 7))) with
          | true => rfl
          | false => rw [hz] at hq; cases hw : ev_wide t w.2.2.1 <;> rw [hw] at hq <;> cases hq
        match x, hq2 with
        | 2, _ => rfl
        | 3, _ => rfl
        | 7, _ => rfl
      rw [e1]
      exact hk _ _ _ _ _ _ _ _ _ _ G hr h hos
theorem ev_cat_ok2 (σ : Nat → Int32) (ρ : Nat → Nat) (l : List ev_V) : ((l.map (ev_cv σ ρ)).map (fun v => v.category)).sum = ev_cat l := by
  induction l with
  | nil => rfl
  | cons v r ih =>
    rw [List.map_cons, List.map_cons, List.sum_cons, ih]
    show _ = Bool.rec (motive := fun _ => Nat) (Nat.succ (ev_cat r)) (Nat.succ (Nat.succ (ev_cat r))) (ev_isl v)
    cases hv : ev_isl v with
    | false => rw [ev_isl_cat hv]; exact Nat.add_comm 1 _
    | true =>
      match v, hv with
      | .inr (.inr (.inl n)), _ => exact Nat.add_comm 2 _
theorem es_dv {x : Nat} (C : ev_Cx p l e R s mm args below meth c m d dC dI ca cl gw nw A) (hm : ev_mok cl pg gw nw m) (hk : ev_Sn p l e R s mm args below meth c m dC dI ca cl pg gw nw A σ ρ0 n0 Q os k) (G : ev_G s m dC dI ca cl A σ ρ0 n0 ρ ls la w H locs) (hok : ev_okc cl pg gw nw m pc (ei_dv x :: r)) (h : ea_dv x call k m r ls st w = some outs) (hos : ∀ o ∈ outs, o ∈ os) : W p l e R s mm args below meth c H locs w.2.2.2.1 w.2.2.2.2 Q (F0 mm pc la (st.map (ev_cv σ ρ))) := by
  have hok0 := hok
  obtain ⟨hd, hw, -, hs, hr⟩ := hok
  obtain ⟨hx, hb, -, -, hml, hown, -, hts, -, -, hR, -⟩ := C
  unfold ea_dv at h
  match x, st, h, hd, hw, hr, hok0 with
  | 0, .inl b :: .inl a :: s', h, hd, _, hr, _ =>
    have h : Bool.rec (motive := fun _ => ev_R) none (k r ls (.inl (Nat.div a b) :: s') w) (Bool.and (Nat.ble a 2147483647) (Bool.and (Nat.ble b 2147483647) (Nat.ble 1 b))) = some outs := h
    cases h1 : Nat.ble a 2147483647 with
    | false => rw [h1] at h; cases h
    | true =>
      cases h2 : Nat.ble b 2147483647 with
      | false => rw [h1, h2] at h; cases h
      | true =>
        cases h3 : Nat.ble 1 b with
        | false => rw [h1, h2, h3] at h; cases h
        | true =>
          rw [h1, h2, h3] at h
          have g1 := Nat.le_of_ble_eq_true h1
          have g2 := Nat.le_of_ble_eq_true h2
          have g3 := Nat.le_of_ble_eq_true h3
          refine lv_idiv hx hb hd (nI_ne0 (by omega) (by omega)) ?_
          rw [ev_div a b g1 g2 g3]
          exact hk _ _ _ _ _ _ _ _ _ _ G hr h hos
  | i + 1, .inl b :: .inl a :: s', h, hd, hw, hr, _ =>
    have h : Bool.rec (motive := fun _ => ev_R) none (k r ls (.inl (Bool.rec (motive := fun _ => Nat) a b (ev_c3 (true, false, false) b a)) :: s') w) (Bool.and (Nat.ble (ev_cat s') 8) (Bool.and (Nat.ble w.2.2.2.1 m.2.2.1) (Nat.ble w.2.2.2.2 m.2.2.2.1))) = some outs := h
    cases h1 : Nat.ble (ev_cat s') 8 with
    | false => rw [h1] at h; cases h
    | true =>
      cases h2 : Nat.ble w.2.2.2.1 m.2.2.1 with
      | false => rw [h1, h2] at h; cases h
      | true =>
        cases h3 : Nat.ble w.2.2.2.2 m.2.2.2.1 with
        | false => rw [h1, h2, h3] at h; cases h
        | true =>
          rw [h1, h2, h3] at h
          have g1 := Nat.le_of_ble_eq_true h1
          have hw' : ∀ w ∈ ev_wdv m (i + 1), w.before args s = true := fun w h => hts w (List.mem_cons_of_mem _ (hw w h))
          have K := hk _ _ _ _ _ _ _ _ _ _ G hr h hos
          subst hR
          refine va_mmin hx hb (hml.trans G.1.1.symm) hown (hw' _ List.mem_cons_self) (hw' _ (List.mem_cons_of_mem _ List.mem_cons_self)) (hw' _ (List.mem_cons_of_mem _ (List.mem_cons_of_mem _ List.mem_cons_self))) (hw' _ (List.mem_cons_of_mem _ (List.mem_cons_of_mem _ (List.mem_cons_of_mem _ List.mem_cons_self)))) (by show 1 ≤ d + 1; omega) ?_ (Nat.le_of_ble_eq_true h2) (Nat.le_of_ble_eq_true h3) hd ?_
          · rw [ev_cat_ok2]
            show ev_cat s' + 13 ≤ 40 * (d + 1)
            omega
          · have e1 : (if Int32.ofNat b < Int32.ofNat a then Int32.ofNat b else Int32.ofNat a) = Int32.ofNat (Bool.rec (motive := fun _ => Nat) a b (ev_c3 (true, false, false) b a)) := by
              have hlt := ev_bi_lt (Int32.ofNat b) (Int32.ofNat a)
              rw [ev_bi_of, ev_bi_of] at hlt
              rw [ev_c3_ok]
              by_cases hc : ev_bs b < ev_bs a
              · rw [if_pos (hlt.mpr hc), if_pos hc]
              · rw [if_neg (fun z => hc (hlt.mp z)), if_neg hc]
                split <;> rfl
            rw [e1]
            exact K
  | i + 1, .inr (.inr (.inr (.inl t))) :: s', h, hd, hw, hr, hok0 =>
    obtain ⟨v, e', u, h1, h2, h3, h4⟩ := ev_rs_ok G.2.1 h
    have K := hk _ _ _ (ev_we w e') _ _ _ _ _ _ (G.env h4) hok0 h1 (fun o ho => hos o (h2 o ho))
    show W p l e R s mm args below meth c H locs w.2.2.2.1 w.2.2.2.2 Q (F0 mm pc la (.int (ev_ct σ t) :: s'.map (ev_cv σ ρ)))
    rw [← h3]
    exact K
  | i + 1, .inl b :: .inr (.inr (.inr (.inl t))) :: s', h, hd, hw, hr, hok0 =>
    obtain ⟨v, e', u, h1, h2, h3, h4⟩ := ev_rs_ok G.2.1 h
    have K := hk _ _ _ (ev_we w e') _ _ _ _ _ _ (G.env h4) hok0 h1 (fun o ho => hos o (h2 o ho))
    show W p l e R s mm args below meth c H locs w.2.2.2.1 w.2.2.2.2 Q (F0 mm pc la (.int (Int32.ofNat b) :: .int (ev_ct σ t) :: s'.map (ev_cv σ ρ)))
    rw [← h3]
    exact K
theorem es_lb {x : Nat} (C : ev_Cx p l e R s mm args below meth c m d dC dI ca cl gw nw A) (hm : ev_mok cl pg gw nw m) (hk : ev_Sn p l e R s mm args below meth c m dC dI ca cl pg gw nw A σ ρ0 n0 Q os k) (G : ev_G s m dC dI ca cl A σ ρ0 n0 ρ ls la w H locs) (hok : ev_okc cl pg gw nw m pc (ei_lb x :: r)) (h : ea_lb x call k m r ls st w = some outs) (hos : ∀ o ∈ outs, o ∈ os) : W p l e R s mm args below meth c H locs w.2.2.2.1 w.2.2.2.2 Q (F0 mm pc la (st.map (ev_cv σ ρ))) := by
  obtain ⟨hd, -, -, hs, hr⟩ := hok
  have hs : x < 4 := of_decide_eq_true hs
  obtain ⟨hx, hb, -⟩ := C
  unfold ea_lb at h
  match st, h with
  | .inr (.inr (.inl b)) :: .inr (.inr (.inl a)) :: s', h =>
    refine ev_bexl hx hb hs hd ?_
    rw [ev_lbn_ok]
    exact hk _ _ _ _ _ _ _ _ _ _ G hr h hos
theorem es_ls {x : Nat} (C : ev_Cx p l e R s mm args below meth c m d dC dI ca cl gw nw A) (hm : ev_mok cl pg gw nw m) (hk : ev_Sn p l e R s mm args below meth c m dC dI ca cl pg gw nw A σ ρ0 n0 Q os k) (G : ev_G s m dC dI ca cl A σ ρ0 n0 ρ ls la w H locs) (hok : ev_okc cl pg gw nw m pc (ei_ls x :: r)) (h : ea_ls x call k m r ls st w = some outs) (hos : ∀ o ∈ outs, o ∈ os) : W p l e R s mm args below meth c H locs w.2.2.2.1 w.2.2.2.2 Q (F0 mm pc la (st.map (ev_cv σ ρ))) := by
  have hok0 := hok
  obtain ⟨hd, -, -, hs, hr⟩ := hok
  have hs : x < 2 := of_decide_eq_true hs
  obtain ⟨hx, hb, -⟩ := C
  unfold ea_ls at h
  match st, h with
  | .inl b :: .inr (.inr (.inl a)) :: s', h =>
    have K := hk _ _ _ _ _ _ _ _ _ _ G hr h hos
    match x, hs, hd, K with
    | 0, _, hd, K => exact lv_lushr hx hb hd (ev_lush a b) K
    | 1, _, hd, K => exact lv_lshl hx hb hd ((ev_lshl a b).trans (ev_mdl _).symm) K
  | .inr (.inr (.inr (.inl t))) :: s', h =>
    obtain ⟨v, e', u, h1, h2, h3, h4⟩ := ev_rs_ok G.2.1 h
    have K := hk _ _ _ _ _ _ _ _ _ _ (G.env h4) hok0 h1 (fun o ho => hos o (h2 o ho))
    show W p l e R s mm args below meth c H locs w.2.2.2.1 w.2.2.2.2 Q (F0 mm pc la (.int (ev_ct σ t) :: s'.map (ev_cv σ ρ)))
    rw [← h3]
    exact K
theorem es_lc (C : ev_Cx p l e R s mm args below meth c m d dC dI ca cl gw nw A) (hm : ev_mok cl pg gw nw m) (hk : ev_Sn p l e R s mm args below meth c m dC dI ca cl pg gw nw A σ ρ0 n0 Q os k) (G : ev_G s m dC dI ca cl A σ ρ0 n0 ρ ls la w H locs) (hok : ev_okc cl pg gw nw m pc (ei_lc :: r)) (h : ea_lc call k m r ls st w = some outs) (hos : ∀ o ∈ outs, o ∈ os) : W p l e R s mm args below meth c H locs w.2.2.2.1 w.2.2.2.2 Q (F0 mm pc la (st.map (ev_cv σ ρ))) := by
  obtain ⟨hd, -, -, hs, hr⟩ := hok
  obtain ⟨hx, hb, -⟩ := C
  unfold ea_lc at h
  match st, h with
  | .inr (.inr (.inl b)) :: .inr (.inr (.inl a)) :: s', h =>
    refine W.lcmp hx hb hd ?_
    rw [ev_lcm_ok]
    exact hk _ _ _ _ _ _ _ _ _ _ G hr h hos
theorem es_un {x : Nat} (C : ev_Cx p l e R s mm args below meth c m d dC dI ca cl gw nw A) (hm : ev_mok cl pg gw nw m) (hk : ev_Sn p l e R s mm args below meth c m dC dI ca cl pg gw nw A σ ρ0 n0 Q os k) (G : ev_G s m dC dI ca cl A σ ρ0 n0 ρ ls la w H locs) (hok : ev_okc cl pg gw nw m pc (ei_un x :: r)) (h : ea_un x call k m r ls st w = some outs) (hos : ∀ o ∈ outs, o ∈ os) : W p l e R s mm args below meth c H locs w.2.2.2.1 w.2.2.2.2 Q (F0 mm pc la (st.map (ev_cv σ ρ))) := by
  obtain ⟨hd, -, -, hs, hr⟩ := hok
  have hs : x < 2 := of_decide_eq_true hs
  obtain ⟨hx, hb, -⟩ := C
  unfold ea_un at h
  match st, h with
  | .inr (.inr (.inl a)) :: s', h =>
    match x, hs, hd, hr, h with
    | 0, _, hd, hr, h => exact lv_l2i hx hb hd (ev_l2i a) (hk _ _ _ _ _ _ _ _ _ _ G hr h hos)
    | 1, _, _, _, h => cases h
  | .inl a :: s', h =>
    match x, hs, hd, hr, h with
    | 1, _, hd, hr, h => exact lv_i2b hx hb hd (ev_i2b_ok a) (hk _ _ _ _ _ _ _ _ _ _ G hr h hos)
    | 0, _, _, _, h => cases h
  | .inr (.inr (.inr (.inl t))) :: s', h =>
    match x, hs, hd, hr, h with
    | 1, _, hd, hr, h => exact lv_i2b hx hb hd rfl (hk _ _ _ _ _ _ _ _ _ _ G hr h hos)
    | 0, _, _, _, h => cases h
theorem es_st {x : Nat} (C : ev_Cx p l e R s mm args below meth c m d dC dI ca cl gw nw A) (hm : ev_mok cl pg gw nw m) (hk : ev_Sn p l e R s mm args below meth c m dC dI ca cl pg gw nw A σ ρ0 n0 Q os k) (G : ev_G s m dC dI ca cl A σ ρ0 n0 ρ ls la w H locs) (hok : ev_okc cl pg gw nw m pc (ei_st x :: r)) (h : ea_st x call k m r ls st w = some outs) (hos : ∀ o ∈ outs, o ∈ os) : W p l e R s mm args below meth c H locs w.2.2.2.1 w.2.2.2.2 Q (F0 mm pc la (st.map (ev_cv σ ρ))) := by
  obtain ⟨hd, -, -, hs, hr⟩ := hok
  have hs : x < 3 := of_decide_eq_true hs
  obtain ⟨hx, hb, -⟩ := C
  unfold ea_st at h
  match x, st, hs, hd, hr, h with
  | 0, v :: s', _, hd, hr, h =>
    cases hv : ev_isl v with
    | true => simp only [hv] at h; cases h
    | false =>
      simp only [hv] at h
      exact lv_dup hx hb hd (ev_isl_cat hv) (hk _ _ _ _ _ _ _ _ _ _ G hr h hos)
  | 1, v :: u :: s', _, hd, hr, h =>
    cases hv : ev_isl v with
    | true => simp only [hv] at h; cases h
    | false =>
      cases hu : ev_isl u with
      | true => simp only [hv, hu] at h; cases h
      | false =>
        simp only [hv, hu] at h
        exact lv_dup2_11 hx hb hd (ev_isl_cat hv) (ev_isl_cat hu) (hk _ _ _ _ _ _ _ _ _ _ G hr h hos)
  | 2, v :: s', _, hd, hr, h =>
    cases hv : ev_isl v with
    | true => simp only [hv] at h; cases h
    | false =>
      simp only [hv] at h
      exact lv_pop hx hb hd (ev_isl_cat hv) (hk _ _ _ _ _ _ _ _ _ _ G hr h hos)
theorem ev_to_ok (C : ev_Cx p l e R s mm args below meth c m d dC dI ca cl gw nw A) (hm : ev_mok cl pg gw nw m) (hk : ev_Sn p l e R s mm args below meth c m dC dI ca cl pg gw nw A σ ρ0 n0 Q os k) (G : ev_G s m dC dI ca cl A σ ρ0 n0 ρ ls la w H locs) {t : Nat} (hr : ev_okc cl pg gw nw m (pc + 3) r) {b : Bool} {e' : ev_E} (he : ev_sat σ e') (h : ev_to b k m t r ls st w e' = some outs) (hos : ∀ o ∈ outs, o ∈ os) : (b = true → W p l e R s mm args below meth c H locs w.2.2.2.1 w.2.2.2.2 Q (F0 mm (ev_pc m.1 t) la (st.map (ev_cv σ ρ)))) ∧ (b = false → W p l e R s mm args below meth c H locs w.2.2.2.1 w.2.2.2.2 Q (F0 mm (pc + 3) la (st.map (ev_cv σ ρ)))) := by
  constructor
  · rintro rfl
    exact hk _ _ _ (ev_we w e') _ _ _ _ _ _ (G.env he) (ev_okc_to hm t) h hos
  · rintro rfl
    exact hk _ _ _ (ev_we w e') _ _ _ _ _ _ (G.env he) hr h hos
theorem ev_3tri (q : Bool × Bool × Bool) (x y : Nat) : (x < y → ev_3w q x y = q.1) ∧ (x = y → ev_3w q x y = q.2.1) ∧ (y < x → ev_3w q x y = q.2.2) := by
  rw [ev_c3r]
  refine ⟨fun h => by rw [if_pos h], fun h => by rw [if_neg (by omega), if_pos h], fun h => by rw [if_neg (by omega), if_neg (by omega)]⟩
theorem es_ic {x : (Bool × Bool × Bool) × Nat} (C : ev_Cx p l e R s mm args below meth c m d dC dI ca cl gw nw A) (hm : ev_mok cl pg gw nw m) (hk : ev_Sn p l e R s mm args below meth c m dC dI ca cl pg gw nw A σ ρ0 n0 Q os k) (G : ev_G s m dC dI ca cl A σ ρ0 n0 ρ ls la w H locs) (hok : ev_okc cl pg gw nw m pc (ei_ic x :: r)) (h : ea_ic x call k m r ls st w = some outs) (hos : ∀ o ∈ outs, o ∈ os) : W p l e R s mm args below meth c H locs w.2.2.2.1 w.2.2.2.2 Q (F0 mm pc la (st.map (ev_cv σ ρ))) := by
  obtain ⟨hd, -, -, hs, hr⟩ := hok
  have hC := C
  obtain ⟨hx, hb, -⟩ := C
  have ht : (pc : Int) + ev_off m pc x.2 = (ev_pc m.1 x.2 : Int) := by unfold ev_off; omega
  match st, h with
  | .inl b :: .inl a :: s', h =>
    have h : Bool.rec (motive := fun _ => ev_R) (k r ls s' w) (k (ev_lb m.1 x.2) ls s' w) (ev_c3 x.1 a b) = some outs := h
    refine ev_cex hx hb hs hd ht (fun q => ?_) (fun q => ?_)
    · rw [ev_bi_of, ev_bi_of] at q
      rw [show ev_c3 x.1 a b = true from q] at h
      exact hk _ _ _ _ _ _ _ _ _ _ G (ev_okc_to hm x.2) h hos
    · rw [ev_bi_of, ev_bi_of] at q
      rw [show ev_c3 x.1 a b = false from q] at h
      exact hk _ _ _ _ _ _ _ _ _ _ G hr h hos
  | .inl b :: .inr (.inr (.inr (.inl t))) :: s', h =>
    obtain ⟨e', u, h1, h2, h3⟩ := ev_sp_ok G.2.1 (show ev_sp t (ev_bs b) w.2.2.1 (ev_to x.1.1 k m x.2 r ls s' w) (ev_to x.1.2.1 k m x.2 r ls s' w) (ev_to x.1.2.2 k m x.2 r ls s' w) = some outs from h)
    have T := ev_3tri x.1 (ev_bi (ev_ct σ t)) (ev_bs b)
    have hos' : ∀ o ∈ u, o ∈ os := fun o ho => hos o (h2 o ho)
    refine ev_cex hx hb hs hd ht (fun q => ?_) (fun q => ?_)
    · rw [ev_bi_of] at q
      rcases h3 with ⟨h4, h5⟩ | ⟨h4, h5⟩ | ⟨h4, h5⟩
      · exact (ev_to_ok hC hm hk G hr h1 h5 hos').1 ((T.1 h4).symm.trans q)
      · exact (ev_to_ok hC hm hk G hr h1 h5 hos').1 ((T.2.1 h4).symm.trans q)
      · exact (ev_to_ok hC hm hk G hr h1 h5 hos').1 ((T.2.2 h4).symm.trans q)
    · rw [ev_bi_of] at q
      rcases h3 with ⟨h4, h5⟩ | ⟨h4, h5⟩ | ⟨h4, h5⟩
      · exact (ev_to_ok hC hm hk G hr h1 h5 hos').2 ((T.1 h4).symm.trans q)
      · exact (ev_to_ok hC hm hk G hr h1 h5 hos').2 ((T.2.1 h4).symm.trans q)
      · exact (ev_to_ok hC hm hk G hr h1 h5 hos').2 ((T.2.2 h4).symm.trans q)
  | .inr (.inr (.inr (.inl t))) :: .inl a :: s', h =>
    obtain ⟨e', u, h1, h2, h3⟩ := ev_sp_ok G.2.1 (show ev_sp t (ev_bs a) w.2.2.1 (ev_to x.1.2.2 k m x.2 r ls s' w) (ev_to x.1.2.1 k m x.2 r ls s' w) (ev_to x.1.1 k m x.2 r ls s' w) = some outs from h)
    have T := ev_3tri x.1 (ev_bs a) (ev_bi (ev_ct σ t))
    have hos' : ∀ o ∈ u, o ∈ os := fun o ho => hos o (h2 o ho)
    refine ev_cex hx hb hs hd ht (fun q => ?_) (fun q => ?_)
    · rw [ev_bi_of] at q
      rcases h3 with ⟨h4, h5⟩ | ⟨h4, h5⟩ | ⟨h4, h5⟩
      · exact (ev_to_ok hC hm hk G hr h1 h5 hos').1 ((T.2.2 h4).symm.trans q)
      · exact (ev_to_ok hC hm hk G hr h1 h5 hos').1 ((T.2.1 h4.symm).symm.trans q)
      · exact (ev_to_ok hC hm hk G hr h1 h5 hos').1 ((T.1 h4).symm.trans q)
    · rw [ev_bi_of] at q
      rcases h3 with ⟨h4, h5⟩ | ⟨h4, h5⟩ | ⟨h4, h5⟩
      · exact (ev_to_ok hC hm hk G hr h1 h5 hos').2 ((T.2.2 h4).symm.trans q)
      · exact (ev_to_ok hC hm hk G hr h1 h5 hos').2 ((T.2.1 h4.symm).symm.trans q)
      · exact (ev_to_ok hC hm hk G hr h1 h5 hos').2 ((T.1 h4).symm.trans q)
theorem es_if {x : (Bool × Bool × Bool) × Nat} (C : ev_Cx p l e R s mm args below meth c m d dC dI ca cl gw nw A) (hm : ev_mok cl pg gw nw m) (hk : ev_Sn p l e R s mm args below meth c m dC dI ca cl pg gw nw A σ ρ0 n0 Q os k) (G : ev_G s m dC dI ca cl A σ ρ0 n0 ρ ls la w H locs) (hok : ev_okc cl pg gw nw m pc (ei_if x :: r)) (h : ea_if x call k m r ls st w = some outs) (hos : ∀ o ∈ outs, o ∈ os) : W p l e R s mm args below meth c H locs w.2.2.2.1 w.2.2.2.2 Q (F0 mm pc la (st.map (ev_cv σ ρ))) := by
  obtain ⟨hd, -, -, hs, hr⟩ := hok
  have hC := C
  obtain ⟨hx, hb, -⟩ := C
  have ht : (pc : Int) + ev_off m pc x.2 = (ev_pc m.1 x.2 : Int) := by unfold ev_off; omega
  have h0 : ev_bi 0 = ev_bs 0 := ev_bi_of 0
  match st, h with
  | .inl a :: s', h =>
    have h : Bool.rec (motive := fun _ => ev_R) (k r ls s' w) (k (ev_lb m.1 x.2) ls s' w) (ev_c3 x.1 a 0) = some outs := h
    refine ev_cex0 hx hb hs hd ht (fun q => ?_) (fun q => ?_)
    · rw [ev_bi_of, h0] at q
      rw [show ev_c3 x.1 a 0 = true from q] at h
      exact hk _ _ _ _ _ _ _ _ _ _ G (ev_okc_to hm x.2) h hos
    · rw [ev_bi_of, h0] at q
      rw [show ev_c3 x.1 a 0 = false from q] at h
      exact hk _ _ _ _ _ _ _ _ _ _ G hr h hos
  | .inr (.inr (.inr (.inl t))) :: s', h =>
    obtain ⟨e', u, h1, h2, h3⟩ := ev_sp_ok G.2.1 (show ev_sp t (ev_bs 0) w.2.2.1 (ev_to x.1.1 k m x.2 r ls s' w) (ev_to x.1.2.1 k m x.2 r ls s' w) (ev_to x.1.2.2 k m x.2 r ls s' w) = some outs from h)
    have T := ev_3tri x.1 (ev_bi (ev_ct σ t)) (ev_bs 0)
    have hos' : ∀ o ∈ u, o ∈ os := fun o ho => hos o (h2 o ho)
    refine ev_cex0 hx hb hs hd ht (fun q => ?_) (fun q => ?_)
    · rw [h0] at q
      rcases h3 with ⟨h4, h5⟩ | ⟨h4, h5⟩ | ⟨h4, h5⟩
      · exact (ev_to_ok hC hm hk G hr h1 h5 hos').1 ((T.1 h4).symm.trans q)
      · exact (ev_to_ok hC hm hk G hr h1 h5 hos').1 ((T.2.1 h4).symm.trans q)
      · exact (ev_to_ok hC hm hk G hr h1 h5 hos').1 ((T.2.2 h4).symm.trans q)
    · rw [h0] at q
      rcases h3 with ⟨h4, h5⟩ | ⟨h4, h5⟩ | ⟨h4, h5⟩
      · exact (ev_to_ok hC hm hk G hr h1 h5 hos').2 ((T.1 h4).symm.trans q)
      · exact (ev_to_ok hC hm hk G hr h1 h5 hos').2 ((T.2.1 h4).symm.trans q)
      · exact (ev_to_ok hC hm hk G hr h1 h5 hos').2 ((T.2.2 h4).symm.trans q)
theorem es_nn {x : Nat} (C : ev_Cx p l e R s mm args below meth c m d dC dI ca cl gw nw A) (hm : ev_mok cl pg gw nw m) (hk : ev_Sn p l e R s mm args below meth c m dC dI ca cl pg gw nw A σ ρ0 n0 Q os k) (G : ev_G s m dC dI ca cl A σ ρ0 n0 ρ ls la w H locs) (hok : ev_okc cl pg gw nw m pc (ei_nn x :: r)) (h : ea_nn x call k m r ls st w = some outs) (hos : ∀ o ∈ outs, o ∈ os) : W p l e R s mm args below meth c H locs w.2.2.2.1 w.2.2.2.2 Q (F0 mm pc la (st.map (ev_cv σ ρ))) := by
  obtain ⟨hd, -, -, hs, hr⟩ := hok
  obtain ⟨hx, hb, -⟩ := C
  have ht : (pc : Int) + ev_off m pc x = (ev_pc m.1 x : Int) := by unfold ev_off; omega
  unfold ea_nn at h
  match st, h with
  | .inr (.inl 0) :: s', h => exact lv_ifnonnullN hx hb hd (hk _ _ _ _ _ _ _ _ _ _ G hr h hos)
  | .inr (.inl (i + 1)) :: s', h => exact lv_ifnonnull hx hb hd ht (hk _ _ _ _ _ _ _ _ _ _ G (ev_okc_to hm x) h hos)
end EVB
