/-! ===== the evaluator is right: what it runs, the machine runs ===== -/
def ev_sat (σ : Nat → Int32) (e : ev_E) : Prop := ∀ (k lo hi : Nat), e[k]? = some (lo, hi) → lo ≤ ev_bi (σ k) ∧ ev_bi (σ k) ≤ hi
def ev_ty (ca : Nat → ClassId) : List (ClassId × FieldType) := [(ca 0, .int), (ca 1, .long), (ca 2, .boolean), (ca 3, .byte)]
def ev_ws (gw : List Jvm.Cond) (m : ev_M) : List Jvm.Cond := ev_cw m :: gw
def ev_rm (d : Nat) (m : ev_M) : Room := { frames := d, cells := m.2.2.1, slots := m.2.2.2.1, locals := 40 * d }
/-- what holds in a method's body -/
def ev_Cx (p : Program) (l : Launch) (e : Env) (R : Room) (s : State) (mm : MethodId) (args : Array Value) (below : List Frame) (meth : Method) (c : Code) (m : ev_M) (d : Nat) (dC : Nat → ClassId) (dI : Nat → Nat → Nat) (ca : Nat → ClassId) (cl : List vw_C) (gw nw : List Jvm.Cond) (A : Nat → Prop) : Prop :=
  p.tables.exec = Jvm.exec ∧ c.code = m.2.2.2.2.2.2.1 ∧ meth.sig.returnType = m.2.2.2.2.2.2.2 ∧ meth.locks = false ∧ c.maxLocals = m.2.2.2.2.1 ∧ s.vm.findClass (ev_own m) = some mm.cls ∧ meth.name = m.2.2.2.2.2.1.name ∧ (∀ w ∈ ev_ws gw m, w.before args s = true) ∧ va_K (dC, dI) cl (ev_ty ca) s ∧ (∀ w ∈ nw, va_Nw w s) ∧ R = ev_rm (d + 1) m ∧ ∀ q, s.heap.size ≤ q → A q
/-- what holds at a place of it -/
def ev_G (s : State) (m : ev_M) (dC : Nat → ClassId) (dI : Nat → Nat → Nat) (ca : Nat → ClassId) (cl : List vw_C) (A : Nat → Prop) (σ : Nat → Int32) (ρ0 : Nat → Nat) (n0 : Nat) (ρ : Nat → Nat) (ls : List ev_V) (la : Array Slot) (w : ev_Wd) (H : Heap) (locs : List Loc) : Prop :=
  lv_has la m.2.2.2.2.1 (ev_pr σ ρ 0 ls) ∧ ev_sat σ w.2.2.1 ∧ (n0 ≤ w.2.1 ∧ w.2.1 ≤ 128 ∧ (∀ i, i < n0 → ρ i = ρ0 i) ∧ (w.2.1 = n0 → ρ = ρ0)) ∧ va_P (dC, dI) cl (ev_wl σ ρ ca w.1 w.2.1) H ∧ va_D A (ev_wl σ ρ ca w.1 w.2.1) ∧ va_S A s.heap H locs
def ev_Sn (p : Program) (l : Launch) (e : Env) (R : Room) (s : State) (mm : MethodId) (args : Array Value) (below : List Frame) (meth : Method) (c : Code) (m : ev_M) (dC : Nat → ClassId) (dI : Nat → Nat → Nat) (ca : Nat → ClassId) (cl : List vw_C) (pg : List ev_M) (gw nw : List Jvm.Cond) (A : Nat → Prop) (σ : Nat → Int32) (ρ0 : Nat → Nat) (n0 : Nat) (Q : State → Prop) (os : List ev_O) (k : ev_K) : Prop :=
  ∀ (r : List ev_I) (ls st : List ev_V) (w : ev_Wd) (outs : List ev_O) (pc : Nat) (la : Array Slot) (ρ : Nat → Nat) (H : Heap) (locs : List Loc), ev_G s m dC dI ca cl A σ ρ0 n0 ρ ls la w H locs → ev_okc cl pg gw nw m pc r → k r ls st w = some outs → (∀ o ∈ outs, o ∈ os) → W p l e R s mm args below meth c H locs w.2.2.2.1 w.2.2.2.2 Q (F0 mm pc la (st.map (ev_cv σ ρ)))

section EVA
variable {p : Program} {l : Launch} {e : Env} {R : Room} {s : State} {mm : MethodId} {args : Array Value} {below : List Frame} {meth : Method} {c : Code}
variable {m : ev_M} {d n0 : Nat} {dC : Nat → ClassId} {dI : Nat → Nat → Nat} {ca : Nat → ClassId} {cl : List vw_C} {pg : List ev_M} {gw nw : List Jvm.Cond} {A : Nat → Prop} {σ : Nat → Int32} {ρ0 : Nat → Nat} {Q : State → Prop} {os outs : List ev_O}
variable {call : ev_Q} {k : ev_K} {r : List ev_I} {ls st : List ev_V} {w : ev_Wd} {pc : Nat} {la : Array Slot} {ρ : Nat → Nat} {H : Heap} {locs : List Loc}
/-! loads and stores, short and long -/
theorem ev_f4v {j : Nat} (h : j < 4) : ((ev_f4 j : Fin 4) : Nat) = j := Nat.mod_eq_of_lt h
section
variable {cc : ByteArray} {rest : List Value} {cells slots j : Nat}
theorem ev_ldi {x : Int32} (hx : p.tables.exec = Jvm.exec) (hb : c.code = cc) (hd : decode cc pc = .ok (if j < 4 then (.iload_n (ev_f4 j), 1) else (.iload j, 2))) (hl : la[j]? = some (.val (.int x))) (kk : W p l e R s mm args below meth c H locs cells slots Q (F0 mm (pc + (if j < 4 then ((.iload_n (ev_f4 j), 1) : Instr × Nat) else (.iload j, 2)).2) la (.int x :: rest))) : W p l e R s mm args below meth c H locs cells slots Q (F0 mm pc la rest) := by
  by_cases hj : j < 4
  · rw [if_pos hj] at hd kk
    exact lv_iload_n hx hb hd (ev_f4v hj) hl kk
  · rw [if_neg hj] at hd kk
    exact lv_iload hx hb hd hl kk
theorem ev_ldl {x : Int64} (hx : p.tables.exec = Jvm.exec) (hb : c.code = cc) (hd : decode cc pc = .ok (if j < 4 then (.lload_n (ev_f4 j), 1) else (.lload j, 2))) (hl : la[j]? = some (.val (.long x))) (kk : W p l e R s mm args below meth c H locs cells slots Q (F0 mm (pc + (if j < 4 then ((.lload_n (ev_f4 j), 1) : Instr × Nat) else (.lload j, 2)).2) la (.long x :: rest))) : W p l e R s mm args below meth c H locs cells slots Q (F0 mm pc la rest) := by
  by_cases hj : j < 4
  · rw [if_pos hj] at hd kk
    exact lv_lload_n hx hb hd (ev_f4v hj) hl kk
  · rw [if_neg hj] at hd kk
    exact lv_lload hx hb hd hl kk
theorem ev_lda {x : Nat} (hx : p.tables.exec = Jvm.exec) (hb : c.code = cc) (hd : decode cc pc = .ok (if j < 4 then (.aload_n (ev_f4 j), 1) else (.aload j, 2))) (hl : la[j]? = some (.val (ev_cr ρ x))) (kk : W p l e R s mm args below meth c H locs cells slots Q (F0 mm (pc + (if j < 4 then ((.aload_n (ev_f4 j), 1) : Instr × Nat) else (.aload j, 2)).2) la (ev_cr ρ x :: rest))) : W p l e R s mm args below meth c H locs cells slots Q (F0 mm pc la rest) := by
  cases x with
  | zero =>
    by_cases hj : j < 4
    · rw [if_pos hj] at hd kk
      exact lv_aload_nN hx hb hd (ev_f4v hj) hl kk
    · rw [if_neg hj] at hd kk
      exact lv_aloadN hx hb hd hl kk
  | succ x =>
    by_cases hj : j < 4
    · rw [if_pos hj] at hd kk
      exact lv_aload_n hx hb hd (ev_f4v hj) hl kk
    · rw [if_neg hj] at hd kk
      exact lv_aload hx hb hd hl kk
theorem ev_sti {x : Int32} {nL : Nat} {lv : List (Nat × Value)} (hx : p.tables.exec = Jvm.exec) (hb : c.code = cc) (hd : decode cc pc = .ok (if j < 4 then (.istore_n (ev_f4 j), 1) else (.istore j, 2))) (hh : lv_has la nL lv) (hn : j < nL) (kk : ∀ la' : Array Slot, lv_has la' nL ((j, Value.int x) :: lv.filter (fun q => !(q.1 == j) && !(q.1 + 1 == j && q.2.category == 2))) → W p l e R s mm args below meth c H locs cells slots Q (F0 mm (pc + (if j < 4 then ((.istore_n (ev_f4 j), 1) : Instr × Nat) else (.istore j, 2)).2) la' rest)) : W p l e R s mm args below meth c H locs cells slots Q (F0 mm pc la (.int x :: rest)) := by
  by_cases hj : j < 4
  · rw [if_pos hj] at hd kk
    exact lv_istore_n hx hb hd (ev_f4v hj) hh hn rfl kk
  · rw [if_neg hj] at hd kk
    exact lv_istore hx hb hd hh hn rfl kk
theorem ev_stl {x : Int64} {nL : Nat} {lv : List (Nat × Value)} (hx : p.tables.exec = Jvm.exec) (hb : c.code = cc) (hd : decode cc pc = .ok (if j < 4 then (.lstore_n (ev_f4 j), 1) else (.lstore j, 2))) (hh : lv_has la nL lv) (hn : j + 1 < nL) (kk : ∀ la' : Array Slot, lv_has la' nL ((j, Value.long x) :: lv.filter (fun q => !(q.1 == j) && (!(q.1 == j + 1) && !(q.1 + 1 == j && q.2.category == 2)))) → W p l e R s mm args below meth c H locs cells slots Q (F0 mm (pc + (if j < 4 then ((.lstore_n (ev_f4 j), 1) : Instr × Nat) else (.lstore j, 2)).2) la' rest)) : W p l e R s mm args below meth c H locs cells slots Q (F0 mm pc la (.long x :: rest)) := by
  by_cases hj : j < 4
  · rw [if_pos hj] at hd kk
    exact lv_lstore_n hx hb hd (ev_f4v hj) hh hn rfl kk
  · rw [if_neg hj] at hd kk
    exact lv_lstore hx hb hd hh hn rfl kk
theorem ev_sta {x : Nat} {nL : Nat} {lv : List (Nat × Value)} (hx : p.tables.exec = Jvm.exec) (hb : c.code = cc) (hd : decode cc pc = .ok (if j < 4 then (.astore_n (ev_f4 j), 1) else (.astore j, 2))) (hh : lv_has la nL lv) (hn : j < nL) (kk : ∀ la' : Array Slot, lv_has la' nL ((j, ev_cr ρ x) :: lv.filter (fun q => !(q.1 == j) && !(q.1 + 1 == j && q.2.category == 2))) → W p l e R s mm args below meth c H locs cells slots Q (F0 mm (pc + (if j < 4 then ((.astore_n (ev_f4 j), 1) : Instr × Nat) else (.astore j, 2)).2) la' rest)) : W p l e R s mm args below meth c H locs cells slots Q (F0 mm pc la (ev_cr ρ x :: rest)) := by
  cases x with
  | zero =>
    by_cases hj : j < 4
    · rw [if_pos hj] at hd kk
      exact lv_astore_nN hx hb hd (ev_f4v hj) hh hn rfl kk
    · rw [if_neg hj] at hd kk
      exact lv_astoreN hx hb hd hh hn rfl kk
  | succ x =>
    by_cases hj : j < 4
    · rw [if_pos hj] at hd kk
      exact lv_astore_n hx hb hd (ev_f4v hj) hh hn rfl kk
    · rw [if_neg hj] at hd kk
      exact lv_astore hx hb hd hh hn rfl kk
end
theorem es_li {x : Nat} (C : ev_Cx p l e R s mm args below meth c m d dC dI ca cl gw nw A) (hm : ev_mok cl pg gw nw m) (hk : ev_Sn p l e R s mm args below meth c m dC dI ca cl pg gw nw A σ ρ0 n0 Q os k) (G : ev_G s m dC dI ca cl A σ ρ0 n0 ρ ls la w H locs) (hok : ev_okc cl pg gw nw m pc (ei_li x :: r)) (h : ea_li x call k m r ls st w = some outs) (hos : ∀ o ∈ outs, o ∈ os) : W p l e R s mm args below meth c H locs w.2.2.2.1 w.2.2.2.2 Q (F0 mm pc la (st.map (ev_cv σ ρ))) := by
  obtain ⟨hd, -, -, -, hr⟩ := hok
  obtain ⟨hx, hb, -⟩ := C
  unfold ea_li at h
  match hv : ev_ln ls x, h with
  | .inl n, h => exact ev_ldi hx hb hd (ev_has_at G.1 hv (fun q => by cases q)) (hk _ _ _ _ _ _ _ _ _ _ G hr h hos)
  | .inr (.inr (.inr (.inl t))), h => exact ev_ldi hx hb hd (ev_has_at G.1 hv (fun q => by cases q)) (hk _ _ _ _ _ _ _ _ _ _ G hr h hos)
  | .inr (.inl _), h => cases h
  | .inr (.inr (.inl _)), h => cases h
  | .inr (.inr (.inr (.inr _))), h => cases h
theorem es_la {x : Nat} (C : ev_Cx p l e R s mm args below meth c m d dC dI ca cl gw nw A) (hm : ev_mok cl pg gw nw m) (hk : ev_Sn p l e R s mm args below meth c m dC dI ca cl pg gw nw A σ ρ0 n0 Q os k) (G : ev_G s m dC dI ca cl A σ ρ0 n0 ρ ls la w H locs) (hok : ev_okc cl pg gw nw m pc (ei_la x :: r)) (h : ea_la x call k m r ls st w = some outs) (hos : ∀ o ∈ outs, o ∈ os) : W p l e R s mm args below meth c H locs w.2.2.2.1 w.2.2.2.2 Q (F0 mm pc la (st.map (ev_cv σ ρ))) := by
  obtain ⟨hd, -, -, -, hr⟩ := hok
  obtain ⟨hx, hb, -⟩ := C
  unfold ea_la at h
  match hv : ev_ln ls x, h with
  | .inr (.inl y), h => exact ev_lda (ρ := ρ) (x := y) hx hb hd (ev_has_at G.1 hv (fun q => by cases q)) (hk _ _ _ _ _ _ _ _ _ _ G hr h hos)
  | .inl n, h => cases h
  | .inr (.inr _), h => cases h
theorem es_ll {x : Nat} (C : ev_Cx p l e R s mm args below meth c m d dC dI ca cl gw nw A) (hm : ev_mok cl pg gw nw m) (hk : ev_Sn p l e R s mm args below meth c m dC dI ca cl pg gw nw A σ ρ0 n0 Q os k) (G : ev_G s m dC dI ca cl A σ ρ0 n0 ρ ls la w H locs) (hok : ev_okc cl pg gw nw m pc (ei_ll x :: r)) (h : ea_ll x call k m r ls st w = some outs) (hos : ∀ o ∈ outs, o ∈ os) : W p l e R s mm args below meth c H locs w.2.2.2.1 w.2.2.2.2 Q (F0 mm pc la (st.map (ev_cv σ ρ))) := by
  obtain ⟨hd, -, -, -, hr⟩ := hok
  obtain ⟨hx, hb, -⟩ := C
  unfold ea_ll at h
  match hv : ev_ln ls x, h with
  | .inr (.inr (.inl y)), h => exact ev_ldl hx hb hd (ev_has_at G.1 hv (fun q => by cases q)) (hk _ _ _ _ _ _ _ _ _ _ G hr h hos)
  | .inl n, h => cases h
  | .inr (.inl _), h => cases h
  | .inr (.inr (.inr (.inl _))), h => cases h
  | .inr (.inr (.inr (.inr _))), h => cases h
theorem ev_G.loc (G : ev_G s m dC dI ca cl A σ ρ0 n0 ρ ls la w H locs) {ls' : List ev_V} {la' : Array Slot} (hl : lv_has la' m.2.2.2.2.1 (ev_pr σ ρ 0 ls')) : ev_G s m dC dI ca cl A σ ρ0 n0 ρ ls' la' w H locs := ⟨hl, G.2⟩
theorem ev_G.env (G : ev_G s m dC dI ca cl A σ ρ0 n0 ρ ls la w H locs) {e' : ev_E} (he : ev_sat σ e') : ev_G s m dC dI ca cl A σ ρ0 n0 ρ ls la (ev_we w e') H locs := ⟨G.1, he, G.2.2⟩
theorem es_si {x : Nat} (C : ev_Cx p l e R s mm args below meth c m d dC dI ca cl gw nw A) (hm : ev_mok cl pg gw nw m) (hk : ev_Sn p l e R s mm args below meth c m dC dI ca cl pg gw nw A σ ρ0 n0 Q os k) (G : ev_G s m dC dI ca cl A σ ρ0 n0 ρ ls la w H locs) (hok : ev_okc cl pg gw nw m pc (ei_si x :: r)) (h : ea_si x call k m r ls st w = some outs) (hos : ∀ o ∈ outs, o ∈ os) : W p l e R s mm args below meth c H locs w.2.2.2.1 w.2.2.2.2 Q (F0 mm pc la (st.map (ev_cv σ ρ))) := by
  obtain ⟨hd, -, -, hs, hr⟩ := hok
  have hs : x < m.2.2.2.2.1 := of_decide_eq_true hs
  obtain ⟨hx, hb, -⟩ := C
  unfold ea_si at h
  match st, h with
  | .inl n :: st', h =>
    cases hn : ev_nl ls x with
    | false => rw [hn] at h; cases h
    | true =>
      rw [hn] at h
      exact ev_sti hx hb hd G.1 hs (fun la' hl => hk _ _ _ _ _ _ _ _ _ _ (G.loc (ev_has_set (v := .inl n) hn hl)) hr h hos)
  | .inr (.inr (.inr (.inl t))) :: st', h =>
    cases hn : ev_nl ls x with
    | false => rw [hn] at h; cases h
    | true =>
      rw [hn] at h
      exact ev_sti hx hb hd G.1 hs (fun la' hl => hk _ _ _ _ _ _ _ _ _ _ (G.loc (ev_has_set (v := .inr (.inr (.inr (.inl t)))) hn hl)) hr h hos)
  | [], h => cases h
  | .inr (.inl _) :: _, h => cases h
  | .inr (.inr (.inl _)) :: _, h => cases h
  | .inr (.inr (.inr (.inr _))) :: _, h => cases h
theorem es_sa {x : Nat} (C : ev_Cx p l e R s mm args below meth c m d dC dI ca cl gw nw A) (hm : ev_mok cl pg gw nw m) (hk : ev_Sn p l e R s mm args below meth c m dC dI ca cl pg gw nw A σ ρ0 n0 Q os k) (G : ev_G s m dC dI ca cl A σ ρ0 n0 ρ ls la w H locs) (hok : ev_okc cl pg gw nw m pc (ei_sa x :: r)) (h : ea_sa x call k m r ls st w = some outs) (hos : ∀ o ∈ outs, o ∈ os) : W p l e R s mm args below meth c H locs w.2.2.2.1 w.2.2.2.2 Q (F0 mm pc la (st.map (ev_cv σ ρ))) := by
  obtain ⟨hd, -, -, hs, hr⟩ := hok
  have hs : x < m.2.2.2.2.1 := of_decide_eq_true hs
  obtain ⟨hx, hb, -⟩ := C
  unfold ea_sa at h
  match st, h with
  | .inr (.inl y) :: st', h =>
    cases hn : ev_nl ls x with
    | false => rw [hn] at h; cases h
    | true =>
      rw [hn] at h
      exact ev_sta (ρ := ρ) (x := y) hx hb hd G.1 hs (fun la' hl => hk _ _ _ _ _ _ _ _ _ _ (G.loc (ev_has_set (v := .inr (.inl y)) hn hl)) hr h hos)
  | [], h => cases h
  | .inl _ :: _, h => cases h
  | .inr (.inr _) :: _, h => cases h
theorem es_sl {x : Nat} (C : ev_Cx p l e R s mm args below meth c m d dC dI ca cl gw nw A) (hm : ev_mok cl pg gw nw m) (hk : ev_Sn p l e R s mm args below meth c m dC dI ca cl pg gw nw A σ ρ0 n0 Q os k) (G : ev_G s m dC dI ca cl A σ ρ0 n0 ρ ls la w H locs) (hok : ev_okc cl pg gw nw m pc (ei_sl x :: r)) (h : ea_sl x call k m r ls st w = some outs) (hos : ∀ o ∈ outs, o ∈ os) : W p l e R s mm args below meth c H locs w.2.2.2.1 w.2.2.2.2 Q (F0 mm pc la (st.map (ev_cv σ ρ))) := by
  obtain ⟨hd, -, -, hs, hr⟩ := hok
  have hs : x + 1 < m.2.2.2.2.1 := of_decide_eq_true hs
  obtain ⟨hx, hb, -⟩ := C
  unfold ea_sl at h
  match st, h with
  | .inr (.inr (.inl y)) :: st', h =>
    cases hn : ev_nl ls x with
    | false => rw [hn] at h; cases h
    | true =>
      rw [hn] at h
      exact ev_stl hx hb hd G.1 hs (fun la' hl => hk _ _ _ _ _ _ _ _ _ _ (G.loc (ev_has_set2 (v := .inr (.inr (.inl y))) hn hl)) hr h hos)
  | [], h => cases h
  | .inl _ :: _, h => cases h
  | .inr (.inl _) :: _, h => cases h
  | .inr (.inr (.inr (.inl _))) :: _, h => cases h
  | .inr (.inr (.inr (.inr _))) :: _, h => cases h
theorem es_ii {x : Nat × Nat} (C : ev_Cx p l e R s mm args below meth c m d dC dI ca cl gw nw A) (hm : ev_mok cl pg gw nw m) (hk : ev_Sn p l e R s mm args below meth c m dC dI ca cl pg gw nw A σ ρ0 n0 Q os k) (G : ev_G s m dC dI ca cl A σ ρ0 n0 ρ ls la w H locs) (hok : ev_okc cl pg gw nw m pc (ei_ii x :: r)) (h : ea_ii x call k m r ls st w = some outs) (hos : ∀ o ∈ outs, o ∈ os) : W p l e R s mm args below meth c H locs w.2.2.2.1 w.2.2.2.2 Q (F0 mm pc la (st.map (ev_cv σ ρ))) := by
  obtain ⟨hd, -, -, hs, hr⟩ := hok
  have hs : x.1 < m.2.2.2.2.1 := of_decide_eq_true hs
  obtain ⟨hx, hb, -⟩ := C
  unfold ea_ii at h
  match hv : ev_ln ls x.1, h with
  | .inl n, h =>
    have hl : ls[x.1]? = some (.inl n) := ev_ln_some hv (fun q => by cases q)
    have hmem : (x.1, Value.int (Int32.ofNat n)) ∈ ev_pr σ ρ 0 ls := (ev_pr_mem ls 0 _).mpr ⟨x.1, _, hl, fun q => (by cases q), by rw [Nat.zero_add]; rfl⟩
    obtain ⟨kk, hkk⟩ := List.getElem?_of_mem hmem
    have hn : ev_nl ls x.1 = true := by
      cases hj : x.1 with
      | zero => rfl
      | succ j =>
        show Bool.not (ev_isl (ev_ln ls j)) = true
        cases hi : ev_isl (ev_ln ls j) with
        | false => rfl
        | true =>
          exfalso
          match hu : ev_ln ls j, hi with
          | .inr (.inr (.inl y)), _ =>
            have h1 := ev_has_at G.1 hu (fun q => by cases q)
            have h2 := G.1.2.1.1 j _ h1 rfl
            have h3 := ev_has_at G.1 hv (fun q => by cases q)
            rw [hj] at h3
            rw [h3] at h2
            cases h2
    refine lv_iinc hx hb hd G.1 hkk (v := Int32.ofNat ((n + x.2) % 4294967296)) ?_ hs rfl (fun la' hl => hk _ _ _ _ _ _ _ _ _ _ (G.loc (ev_has_set (v := .inl ((n + x.2) % 4294967296)) hn hl)) hr h hos)
    rw [ev_md, ← ev_add]
    congr 1
    unfold ev_sg
    by_cases h2 : x.2 < 2147483648
    · rw [if_pos h2]; rfl
    · rw [if_neg h2]
      refine ev_e32 ?_
      show (BitVec.ofInt 32 ((x.2 : Int) - 4294967296)).toNat = _
      rw [BitVec.toNat_ofInt, ev_on]
      omega
  | .inr (.inl _), h => cases h
  | .inr (.inr _), h => cases h
theorem es_pu {x : ev_V × Nat × Nat} (C : ev_Cx p l e R s mm args below meth c m d dC dI ca cl gw nw A) (hm : ev_mok cl pg gw nw m) (hk : ev_Sn p l e R s mm args below meth c m dC dI ca cl pg gw nw A σ ρ0 n0 Q os k) (G : ev_G s m dC dI ca cl A σ ρ0 n0 ρ ls la w H locs) (hok : ev_okc cl pg gw nw m pc (ei_pu x :: r)) (h : ea_pu x call k m r ls st w = some outs) (hos : ∀ o ∈ outs, o ∈ os) : W p l e R s mm args below meth c H locs w.2.2.2.1 w.2.2.2.2 Q (F0 mm pc la (st.map (ev_cv σ ρ))) := by
  obtain ⟨hd, hw, -, hs, hr⟩ := hok
  have h : k r ls (x.1 :: st) w = some outs := h
  have K := hk _ _ _ _ _ _ _ _ _ _ G hr h hos
  obtain ⟨hx, hb, -, -, -, hown, -, hts, -⟩ := C
  have hw' : ∀ w ∈ ev_wpu m x, w.before args s = true := fun w h => hts w (List.mem_cons_of_mem _ (hw w h))
  obtain ⟨v, q, idx⟩ := x
  match v, q, hs, hd, K, hw' with
  | .inl n, 0, hs, hd, K, _ => exact lv_iconst hx hb hd (of_decide_eq_true hs) K
  | .inl n, 1, hs, hd, K, _ => exact lv_bipush hx hb hd (of_decide_eq_true hs) K
  | .inl n, 2, hs, hd, K, _ => exact lv_sipush hx hb hd (of_decide_eq_true hs) K
  | .inr (.inr (.inl n)), 3, hs, hd, K, _ =>
    have h2 : n < 2 := of_decide_eq_true hs
    refine lv_lconst hx hb hd ?_ K
    show Int64.ofNat (n % 2) = Int64.ofNat n
    rw [Nat.mod_eq_of_lt h2]
  | .inr (.inl 0), 4, hs, hd, K, _ => exact lv_null hx hb hd K
  | .inl n, 5, hs, hd, K, hw' => exact lv_ldc hx hb hown (hw' _ List.mem_cons_self) hd K
  | .inl n, 6, hs, hd, K, hw' => exact lv_ldcw hx hb hown (hw' _ List.mem_cons_self) hd K
  | .inr (.inr (.inl n)), 7, hs, hd, K, hw' => exact lv_ldc2 hx hb hown (hw' _ List.mem_cons_self) hd K
theorem es_go {x : Nat} (C : ev_Cx p l e R s mm args below meth c m d dC dI ca cl gw nw A) (hm : ev_mok cl pg gw nw m) (hk : ev_Sn p l e R s mm args below meth c m dC dI ca cl pg gw nw A σ ρ0 n0 Q os k) (G : ev_G s m dC dI ca cl A σ ρ0 n0 ρ ls la w H locs) (hok : ev_okc cl pg gw nw m pc (ei_go x :: r)) (h : ea_go x call k m r ls st w = some outs) (hos : ∀ o ∈ outs, o ∈ os) : W p l e R s mm args below meth c H locs w.2.2.2.1 w.2.2.2.2 Q (F0 mm pc la (st.map (ev_cv σ ρ))) := by
  obtain ⟨hd, -, -, -, hr⟩ := hok
  obtain ⟨hx, hb, -⟩ := C
  refine lv_goto (tgt := ev_pc m.1 x) hx hb hd ?_ (hk _ _ _ _ _ _ _ _ _ _ G (ev_okc_to hm x) h hos)
  unfold ev_off
  omega
theorem es_fa {x : Nat} (C : ev_Cx p l e R s mm args below meth c m d dC dI ca cl gw nw A) (hm : ev_mok cl pg gw nw m) (hk : ev_Sn p l e R s mm args below meth c m dC dI ca cl pg gw nw A σ ρ0 n0 Q os k) (G : ev_G s m dC dI ca cl A σ ρ0 n0 ρ ls la w H locs) (hok : ev_okc cl pg gw nw m pc (ei_fa x :: r)) (h : ea_go x call k m r ls st w = some outs) (hos : ∀ o ∈ outs, o ∈ os) : W p l e R s mm args below meth c H locs w.2.2.2.1 w.2.2.2.2 Q (F0 mm pc la (st.map (ev_cv σ ρ))) := by
  have hok : ev_pc m.1 x = pc := hok
  subst hok
  exact hk _ _ _ _ _ _ _ _ _ _ G (ev_okc_to hm x) h hos
end EVA
