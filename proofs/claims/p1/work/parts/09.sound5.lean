/-! ===== ends and calls; the whole ===== -/
def ev_ro (σ : Nat → Int32) (ρ : Nat → Nat) (v : ev_V) : Option Value := match v with
  | .inr (.inr (.inr (.inr _))) => none
  | u => some (ev_cv σ ρ u)
/-- a method's start and end -/
def ev_Pr (dC : Nat → ClassId) (dI : Nat → Nat → Nat) (ca : Nat → ClassId) (cl : List vw_C) (nw : List Jvm.Cond) (σ : Nat → Int32) (ρ : Nat → Nat) (as : List ev_V) (h : ev_H) (n sz : Nat) : Array Value → State → Prop := va_Pc (as.map (ev_cv σ ρ)) (fun U => U.heap.size = sz ∧ va_P (dC, dI) cl (ev_wl σ ρ ca h n) U.heap ∧ va_K (dC, dI) cl (ev_ty ca) U ∧ va_D (fun _ => True) (ev_wl σ ρ ca h n) ∧ ∀ w ∈ nw, va_Nw w U)
def ev_Po (dC : Nat → ClassId) (dI : Nat → Nat → Nat) (ca : Nat → ClassId) (cl : List vw_C) (σ : Nat → Int32) (ρ0 : Nat → Nat) (n0 : Nat) (os : List ev_O) (A : Nat → Prop) : Array Value → State → Outcome → State → Prop := fun _ st oc t => (∃ o ∈ os, ∃ ρ : Nat → Nat, (n0 ≤ o.2.2.1 ∧ o.2.2.1 ≤ 128 ∧ (∀ i, i < n0 → ρ i = ρ0 i) ∧ (o.2.2.1 = n0 → ρ = ρ0)) ∧ ev_sat σ o.2.2.2 ∧ oc = .returned (ev_ro σ ρ o.1) ∧ va_P (dC, dI) cl (ev_wl σ ρ ca o.2.1 o.2.2.1) t.heap ∧ va_D A (ev_wl σ ρ ca o.2.1 o.2.2.1)) ∧ va_F A st t
def ev_Ct (cl : List vw_C) (gw nw : List Jvm.Cond) (d : Nat) (m : ev_M) (as : List ev_V) (h : ev_H) (n : Nat) (e : ev_E) (os : List ev_O) : Prop := ∀ (l : Launch) (dC : Nat → ClassId) (dI : Nat → Nat → Nat) (ca : Nat → ClassId) (σ : Nat → Int32) (ρ : Nat → Nat) (sz : Nat), ev_sat σ e → n ≤ 128 → Met l m.2.2.2.2.2.1 (ev_ws gw m) (ev_rm d m) (ev_Pr dC dI ca cl nw σ ρ as h n sz) (ev_Po dC dI ca cl σ ρ n os (va_A (ev_wl σ ρ ca h n) sz)) m.2.2.1 m.2.2.2.1 (va_A (ev_wl σ ρ ca h n) sz)
def ev_gok (gw : List Jvm.Cond) : Prop := ∀ w ∈ gw, (w.onTables && w.keeps) = true ∨ ∃ ty, w = .arrayClass ty
def ev_nok (nw : List Jvm.Cond) : Prop := ∀ w ∈ nw, (∃ a i b n d h, w = .fieldLinkNest a i b n d h) ∨ ∃ a i x h, w = .methodLinkNest a i x h
theorem ev_nok_on {nw : List Jvm.Cond} (hn : ev_nok nw) {w : Jvm.Cond} (h : w ∈ nw) : w.onTables = true := by
  rcases hn w h with ⟨a, i, b, n, d, hh, rfl⟩ | ⟨a, i, x, hh, rfl⟩ <;> rfl
theorem ev_nok_warm {nw : List Jvm.Cond} (hn : ev_nok nw) {s U : State} (hW : s.WarmedH U.vm) (h : ∀ w ∈ nw, va_Nw w s) : ∀ w ∈ nw, va_Nw w U := by
  intro w hw
  have h1 := h w hw
  rcases hn w hw with ⟨a, i, b, n, d, hh, rfl⟩ | ⟨a, i, x, hh, rfl⟩
  · exact va_Nw.warmF hW h1
  · exact va_Nw.warmM hW h1
theorem ev_Pr_blind {dC : Nat → ClassId} {dI : Nat → Nat → Nat} {ca : Nat → ClassId} {cl : List vw_C} {nw : List Jvm.Cond} {σ : Nat → Int32} {ρ : Nat → Nat} {as : List ev_V} {h : ev_H} {n sz : Nat} (hn : ev_nok nw) : FrameBlind (ev_Pr dC dI ca cl nw σ ρ as h n sz) := by
  intro a U g mk q
  obtain ⟨q0, q1, qP, qK, qD, qN⟩ := q
  exact ⟨q0, q1, qP, va_K.moved (u := U) (U := U.calling g mk a) (Vm.Alike.refl U.vm) qK, qD, fun w hw => va_Nw.same (u := U) (U := U.calling g mk a) (ev_nok_on hn hw) rfl (qN w hw)⟩
theorem ev_bo_some {f : ev_O → ev_R} : ∀ (l : List ev_O) (outs : List ev_O), ev_bo l f = some outs → ∀ o ∈ l, ∃ u, f o = some u ∧ ∀ z ∈ u, z ∈ outs
  | [], _, _, o, ho => by cases ho
  | [o1], outs, h, o, ho => by
    rw [List.mem_singleton] at ho
    subst ho
    exact ⟨outs, h, fun z hz => hz⟩
  | o1 :: o2 :: r, outs, h, o, ho => by
    obtain ⟨u, v, e1, e2, k1, k2⟩ := ev_jn_some (show ev_jn (f o1) (ev_bo (o2 :: r) f) = some outs from h)
    rcases List.mem_cons.mp ho with rfl | ho
    · exact ⟨u, e1, k1⟩
    · obtain ⟨u2, e3, k3⟩ := ev_bo_some (o2 :: r) v e2 o ho
      exact ⟨u2, e3, fun z hz => k2 z (k3 z hz)⟩
theorem ev_pop_ok : ∀ (n : Nat) (st acc as s' : List ev_V), ev_pop n st acc = (as, s') → as.length = n + acc.length → ∃ f, as = f ++ acc ∧ st = f.reverse ++ s'
  | 0, st, acc, as, s', h, _ => by
    have h : (acc, st) = (as, s') := by
      cases st <;> exact h
    cases h
    exact ⟨[], rfl, rfl⟩
  | n + 1, [], acc, as, s', h, hl => by
    have h : (([], []) : List ev_V × List ev_V) = (as, s') := h
    cases h
    simp at hl
    omega
  | n + 1, v :: st, acc, as, s', h, hl => by
    obtain ⟨f, e1, e2⟩ := ev_pop_ok n st (v :: acc) as s' h (by rw [hl, List.length_cons]; omega)
    exact ⟨f ++ [v], by rw [e1]; simp, by rw [e2]; simp⟩
theorem ev_bck_ok {σ : Nat → Int32} {ρ : Nat → Nat} (v : ev_V) (s : List ev_V) : (ev_bck v s).map (ev_cv σ ρ) = (ev_ro σ ρ v).toList ++ s.map (ev_cv σ ρ) := by
  match v with
  | .inl _ => rfl
  | .inr (.inl _) => rfl
  | .inr (.inr (.inl _)) => rfl
  | .inr (.inr (.inr (.inl _))) => rfl
  | .inr (.inr (.inr (.inr _))) => rfl
section EVE
variable {p : Program} {l : Launch} {e : Env} {R : Room} {s : State} {mm : MethodId} {args : Array Value} {below : List Frame} {meth : Method} {c : Code}
variable {m : ev_M} {d n0 : Nat} {dC : Nat → ClassId} {dI : Nat → Nat → Nat} {ca : Nat → ClassId} {cl : List vw_C} {pg : List ev_M} {gw nw : List Jvm.Cond} {A : Nat → Prop} {σ : Nat → Int32} {ρ0 : Nat → Nat} {Q : State → Prop} {os outs : List ev_O}
variable {call : ev_Q} {k : ev_K} {r : List ev_I} {ls st : List ev_V} {w : ev_Wd} {pc : Nat} {la : Array Slot} {ρ : Nat → Nat} {H : Heap} {locs : List Loc}
theorem es_re {x : Nat} (hQ : Q = MQ below (ev_Po dC dI ca cl σ ρ0 n0 os A) args s m.2.2.1 m.2.2.2.1 A) (C : ev_Cx p l e R s mm args below meth c m d dC dI ca cl gw nw A) (hm : ev_mok cl pg gw nw m) (hk : ev_Sn p l e R s mm args below meth c m dC dI ca cl pg gw nw A σ ρ0 n0 Q os k) (G : ev_G s m dC dI ca cl A σ ρ0 n0 ρ ls la w H locs) (hok : ev_okc cl pg gw nw m pc (ei_re x :: r)) (h : ea_re x call k m r ls st w = some outs) (hos : ∀ o ∈ outs, o ∈ os) : W p l e R s mm args below meth c H locs w.2.2.2.1 w.2.2.2.2 Q (F0 mm pc la (st.map (ev_cv σ ρ))) := by
  obtain ⟨hd, -, -, hs, -⟩ := hok
  obtain ⟨hx, hb, hret, hlocks, -⟩ := C
  unfold ea_re at h
  obtain ⟨hc, h⟩ := ev_ite h
  obtain ⟨c1, c2⟩ := ev_band hc
  have c1 : w.2.2.2.1 ≤ m.2.2.1 := Nat.le_of_ble_eq_true c1
  have c2 : w.2.2.2.2 ≤ m.2.2.2.1 := Nat.le_of_ble_eq_true c2
  obtain ⟨g1, g2, g3, g4, g5, g6⟩ := G
  have post : ∀ (v : ev_V) (u : Option Value), (v, w.1, w.2.1, w.2.2.1) ∈ os → u = ev_ro σ ρ v → ∀ t : State, t.heap = H → s.WarmedH t.vm → ev_Po dC dI ca cl σ ρ0 n0 os A args s (.returned u) t := by
    intro v u hv hu t ht _
    refine ⟨⟨_, hv, ρ, g3, g2, by rw [hu], ?_, g5⟩, g6.F ht⟩
    rw [ht]
    exact g4
  subst hQ
  match x, st, h with
  | 0, [.inl n], h =>
    cases hm2 : m.2.2.2.2.2.2.2 with
    | none => rw [hm2] at h; cases h
    | some ty =>
      rw [hm2] at h hret
      match ty, h, hret with
      | .int, h, hret =>
        have h : [(.inl n, w.1, w.2.1, w.2.2.1)] = outs := Option.some.inj h
        exact W.widen c1 c2 (W.zret hx hb hret rfl (post (.inl n) _ (hos _ (by rw [← h]; exact List.mem_cons_self)) rfl) (fun q hq => g6.2.2 q hq) hd hlocks)
      | .boolean, h, hret =>
        obtain ⟨hb1, h⟩ := ev_ite h
        have hb1 : n ≤ 1 := Nat.le_of_ble_eq_true hb1
        have h : [(.inl n, w.1, w.2.1, w.2.2.1)] = outs := Option.some.inj h
        have hn : narrow .boolean (.int (Int32.ofNat n)) = .int (Int32.ofNat n) := by
          match n, hb1 with
          | 0, _ => exact ev_b0.1
          | 1, _ => exact ev_b1.1
        exact W.widen c1 c2 (W.zret hx hb hret hn (post (.inl n) _ (hos _ (by rw [← h]; exact List.mem_cons_self)) rfl) (fun q hq => g6.2.2 q hq) hd hlocks)
  | 0, [.inr (.inr (.inr (.inl t)))], h =>
    cases hm2 : m.2.2.2.2.2.2.2 with
    | none => rw [hm2] at h; cases h
    | some ty =>
      rw [hm2] at h hret
      match ty, h, hret with
      | .int, h, hret =>
        have h : [(.inr (.inr (.inr (.inl t))), w.1, w.2.1, w.2.2.1)] = outs := Option.some.inj h
        exact W.widen c1 c2 (W.zret hx hb hret rfl (post (.inr (.inr (.inr (.inl t)))) _ (hos _ (by rw [← h]; exact List.mem_cons_self)) rfl) (fun q hq => g6.2.2 q hq) hd hlocks)
  | 1, [.inr (.inl y)], h =>
    cases hm2 : m.2.2.2.2.2.2.2 with
    | none => rw [hm2] at h; cases h
    | some ty =>
      rw [hm2] at h hret
      match ty, h, hret with
      | .object nm, h, hret =>
        have h : [(.inr (.inl y), w.1, w.2.1, w.2.2.1)] = outs := Option.some.inj h
        have hv : ev_cr ρ y = .null ∨ ∃ a, ev_cr ρ y = .ref a := by
          cases y with
          | zero => exact Or.inl rfl
          | succ y => exact Or.inr ⟨_, rfl⟩
        exact W.widen c1 c2 (W.aret (v := ev_cr ρ y) hx hb hret (Or.inl ⟨nm, rfl⟩) hv (post (.inr (.inl y)) _ (hos _ (by rw [← h]; exact List.mem_cons_self)) rfl) (fun q hq => g6.2.2 q hq) hd hlocks)
  | 2, [], h =>
    cases hm2 : m.2.2.2.2.2.2.2 with
    | some ty => rw [hm2] at h; cases h
    | none =>
      rw [hm2] at h hret
      have h : [(ev_U, w.1, w.2.1, w.2.2.1)] = outs := Option.some.inj h
      exact W.widen c1 c2 (W.vret hx hb hret (post ev_U _ (hos _ (by rw [← h]; exact List.mem_cons_self)) rfl) (fun q hq => g6.2.2 q hq) hd hlocks)
theorem ev_callG {os' : List ev_O} {n1 cells slots mc ms : Nat} {A1 : Nat → Prop} {free : Addr → Prop} {av : Array Value} {rest st0 : List Value} (hr : va_Run p l e R s mm args below meth c H locs cells slots mc ms (F0 mm pc la st0) rest (ev_Po dC dI ca cl σ ρ n1 os' A1 av) free) (hS : va_S A s.heap H locs) (hA : ∀ q, A1 q → A q) (hf : ∀ q, free q → A q)
    (kk : ∀ o ∈ os', ∀ (ρ' : Nat → Nat) (H1 : Heap) (locs1 : List Loc), (n1 ≤ o.2.2.1 ∧ o.2.2.1 ≤ 128 ∧ (∀ i, i < n1 → ρ' i = ρ i) ∧ (o.2.2.1 = n1 → ρ' = ρ)) → ev_sat σ o.2.2.2 → va_P (dC, dI) cl (ev_wl σ ρ' ca o.2.1 o.2.2.1) H1 → va_D A1 (ev_wl σ ρ' ca o.2.1 o.2.2.1) → va_S A s.heap H1 locs1 → W p l e R s mm args below meth c H1 locs1 (cells + mc) (slots + ms) Q (F0 mm (pc + 3) la ((ev_ro σ ρ' o.1).toList ++ rest))) : W p l e R s mm args below meth c H locs cells slots Q (F0 mm pc la st0) := by
  intro T hT X
  obtain ⟨v, st₀, t, T', L, h0, X', hL, e1, e2, ⟨⟨o, ho, ρ', h1, h2, hv, h3, h4⟩, hz, hkp⟩, stp⟩ := hr T hT X
  cases hv
  rw [h0] at hz hkp
  rw [← e1] at h3
  obtain ⟨t2, a1, b1⟩ := kk o ho ρ' T'.heap (locs ++ L) h1 h2 h3 h4
    ⟨Nat.le_trans hS.1 (by rw [e1]; exact hz), fun q k1 k2 => by rw [e1, hkp q (Nat.lt_of_lt_of_le k1 hS.1) (fun z => k2 (hA q z))]; exact hS.2.1 q k1 k2, fun q hq => by
      rcases List.mem_append.mp hq with k | k
      · exact hS.2.2 q k
      · exact hf _ (hL q k)⟩ T' rfl X'
  exact ⟨t2, stp t2 a1, b1⟩
theorem ev_good {gw : List Jvm.Cond} {m m' : ev_M} (hg : ev_gok gw) (h : ev_cw m' ∈ gw) : GoodIn (ev_ws gw m) (ev_ws gw m') := by
  intro w hw
  have h1 : w ∈ gw := by
    rcases List.mem_cons.mp hw with rfl | hw
    · exact h
    · exact hw
  exact ⟨List.mem_cons_of_mem _ h1, hg w h1⟩
theorem ev_mt_some {pg : List ev_M} {x : Nat} {m' : ev_M} (h : pg[x]? = some m') : ev_mt pg x = m' := by
  unfold ev_mt
  rw [List.getD_eq_getElem?_getD, h]
  rfl
theorem ev_room (d : Nat) {m m' : ev_M} (h : m'.2.2.2.2.1 ≤ 21) : (ev_rm d m').frames + 1 ≤ (ev_rm (d + 1) m).frames ∧ 8 + (m'.2.2.2.2.1 + 11) + (ev_rm d m').locals ≤ (ev_rm (d + 1) m).locals := by
  refine ⟨Nat.le_refl _, ?_⟩
  show 8 + (m'.2.2.2.2.1 + 11) + 40 * d ≤ 40 * (d + 1)
  omega
theorem es_ca {x : Nat × Nat × Nat × Nat × Nat × Nat × Nat} (hg : ev_gok gw) (hnk : ev_nok nw) (hpm : ∀ m1 ∈ pg, ev_mok cl pg gw nw m1) (hcall : ∀ x as h n e os1, call x as h n e = some os1 → ∃ m1, pg[x]? = some m1 ∧ ev_Ct cl gw nw d m1 as h n e os1) (C : ev_Cx p l e R s mm args below meth c m d dC dI ca cl gw nw A) (hm : ev_mok cl pg gw nw m) (hk : ev_Sn p l e R s mm args below meth c m dC dI ca cl pg gw nw A σ ρ0 n0 Q os k) (G : ev_G s m dC dI ca cl A σ ρ0 n0 ρ ls la w H locs) (hok : ev_okc cl pg gw nw m pc (ei_ca x :: r)) (h : ea_ca x call k m r ls st w = some outs) (hos : ∀ o ∈ outs, o ∈ os) : W p l e R s mm args below meth c H locs w.2.2.2.1 w.2.2.2.2 Q (F0 mm pc la (st.map (ev_cv σ ρ))) := by
  obtain ⟨hd, hw, hnw, hs, hr⟩ := hok
  obtain ⟨hs, -⟩ := ev_band (show Bool.and (ev_sca cl pg (ev_mt pg x.1) x) (pg[x.1]?).isSome = true from hs)
  obtain ⟨hx, hb, -, -, hml, hown, -, hts, hK, hN, hR, hA⟩ := C
  obtain ⟨G1, G2, G3, hP, hD, hS⟩ := G
  unfold ea_ca at h
  match hp : ev_pop x.2.1 st [], h with
  | (as, s'), h =>
    obtain ⟨hc, h⟩ := ev_ite (show Bool.rec (motive := fun _ => ev_R) none _ _ = some outs from h)
    obtain ⟨c1, hc⟩ := ev_band hc
    obtain ⟨c2, hc⟩ := ev_band hc
    obtain ⟨c3, hc⟩ := ev_band hc
    obtain ⟨c4, c5⟩ := ev_band hc
    have c2 : as.length = x.2.1 := ev_beq.mp c2
    have c3 : ev_cat s' ≤ 8 := Nat.le_of_ble_eq_true c3
    have c4 : w.2.2.2.1 + x.2.2.2.2.2.1 ≤ m.2.2.1 := Nat.le_of_ble_eq_true c4
    have c5 : w.2.2.2.2 + x.2.2.2.2.2.2 ≤ m.2.2.2.1 := Nat.le_of_ble_eq_true c5
    obtain ⟨f, e1, e2⟩ := ev_pop_ok _ _ _ _ _ hp (by simpa using c2)
    rw [List.append_nil] at e1
    subst e1
    cases hq : call x.1 as w.1 w.2.1 w.2.2.1 with
    | none => rw [hq] at h; cases h
    | some os1 =>
      rw [hq] at h
      have h : ev_bo os1 (ea_ca3 k r ls s' w x.2.2.2.2.2.1 x.2.2.2.2.2.2) = some outs := h
      obtain ⟨m1, hm1, hCt⟩ := hcall _ _ _ _ _ _ hq
      rw [ev_mt_some hm1] at hs
      have hw : ∀ w ∈ ev_wca (ev_own m) x.2.2.2.1 x.2.2.2.2.1 m1, w.before args s = true := fun w h => hts w (List.mem_cons_of_mem _ (hw w (by
        show w ∈ ev_wca (ev_own m) x.2.2.2.1 x.2.2.2.2.1 (ev_mt pg x.1)
        rw [ev_mt_some hm1]; exact h)))
      have hnw : ∀ w ∈ (if x.2.2.2.2.1 < 4 then [] else [Jvm.Cond.methodLinkNest (ev_own m) x.2.2.2.1 m1.2.2.2.2.2.1 "RegisterColours"]), va_Nw w s := fun w h => hN w (hnw w (by
        show w ∈ (if x.2.2.2.2.1 < 4 then [] else [Jvm.Cond.methodLinkNest (ev_own m) x.2.2.2.1 (ev_mt pg x.1).2.2.2.2.2.1 "RegisterColours"])
        rw [ev_mt_some hm1]; exact h))
      obtain ⟨hs, t6⟩ := ev_band (show Bool.and _ _ = true from hs)
      obtain ⟨hs, t5⟩ := ev_band (show Bool.and _ _ = true from hs)
      obtain ⟨hs, t4⟩ := ev_band (show Bool.and _ _ = true from hs)
      obtain ⟨hs, t3⟩ := ev_band (show Bool.and _ _ = true from hs)
      obtain ⟨t1, t2⟩ := ev_band (show Bool.and _ _ = true from hs)
      have t1 : m1.2.2.2.2.1 ≤ 21 := of_decide_eq_true t1
      have t2 := of_decide_eq_true t2
      have t3 := of_decide_eq_true t3
      have t4 : m1.2.2.1 = x.2.2.2.2.2.1 := of_decide_eq_true t4
      have t5 : m1.2.2.2.1 = x.2.2.2.2.2.2 := of_decide_eq_true t5
      have hm1' := hpm m1 (List.mem_of_getElem? hm1)
      have hgood : GoodIn (ev_ws gw m) (ev_ws gw m1) := ev_good hg hm1'.2.2.2.1
      have hM := hCt l dC dI ca σ ρ H.size G2 G3.2.1
      have hfree : ∀ q, va_A (ev_wl σ ρ ca w.1 w.2.1) H.size q → A q := by
        rintro q (⟨j, ee, hj⟩ | hj)
        · exact hD.2 j _ hj
        · exact hA q (Nat.le_trans hS.1 hj)
      have hpre : ∀ U : State, U.heap = H → s.WarmedH U.vm → ev_Pr dC dI ca cl nw σ ρ as w.1 w.2.1 H.size (as.map (ev_cv σ ρ)).toArray U := fun U hU hW => ⟨rfl, by rw [hU], by rw [hU]; exact hP, va_K.moved hW.alike hK, hD.weaken (fun _ _ _ _ => trivial), ev_nok_warm hnk hW hN⟩
      have hcat : 2 * (F0 mm pc la (st.map (ev_cv σ ρ))).monitorRoom + ((s'.map (ev_cv σ ρ)).map fun v => v.category).sum ≤ 8 := by
        rw [ev_cat_ok]
        show 2 * 0 + ev_cat s' ≤ 8
        omega
      subst hR
      have hfit : w.2.2.2.1 + m1.2.2.1 ≤ (ev_rm (d + 1) m).cells ∧ w.2.2.2.2 + m1.2.2.2.1 ≤ (ev_rm (d + 1) m).slots := by
        rw [t4, t5]
        exact ⟨c4, c5⟩
      have fin : ∀ av : Array Value, va_Run p l e (ev_rm (d + 1) m) s mm args below meth c H locs w.2.2.2.1 w.2.2.2.2 m1.2.2.1 m1.2.2.2.1 (F0 mm pc la (st.map (ev_cv σ ρ))) (s'.map (ev_cv σ ρ)) (ev_Po dC dI ca cl σ ρ w.2.1 os1 (va_A (ev_wl σ ρ ca w.1 w.2.1) H.size) av) (va_A (ev_wl σ ρ ca w.1 w.2.1) H.size) → W p l e (ev_rm (d + 1) m) s mm args below meth c H locs w.2.2.2.1 w.2.2.2.2 Q (F0 mm pc la (st.map (ev_cv σ ρ))) := by
        intro av hrun
        refine ev_callG hrun hS hfree hfree ?_
        intro o ho ρ' H1 locs1 k1 k2 k3 k4 k5
        obtain ⟨u, h1, h2⟩ := ev_bo_some _ _ h o ho
        obtain ⟨hc3, h1⟩ := ev_ite (show Bool.rec (motive := fun _ => ev_R) none _ _ = some u from h1)
        have hls : ev_pr σ ρ' 0 ls = ev_pr σ ρ 0 ls ∧ s'.map (ev_cv σ ρ') = s'.map (ev_cv σ ρ) := by
          cases hb1 : Nat.beq o.2.2.1 w.2.1 with
          | true =>
            have := k1.2.2.2 (ev_beq.mp hb1)
            rw [this]
            exact ⟨rfl, rfl⟩
          | false =>
            rw [hb1] at hc3
            obtain ⟨q1, q2⟩ := ev_band (show Bool.and _ _ = true from hc3)
            exact ⟨ev_pr_cl k1.2.2.1 q2 0, ev_cvs_cl k1.2.2.1 q1⟩
        have G' : ev_G s m dC dI ca cl A σ ρ0 n0 ρ' ls la (o.2.1, o.2.2.1, o.2.2.2, w.2.2.2.1 + x.2.2.2.2.2.1, w.2.2.2.2 + x.2.2.2.2.2.2) H1 locs1 := by
          refine ⟨by rw [hls.1]; exact G1, k2, ⟨Nat.le_trans G3.1 k1.1, k1.2.1, fun i hi => (k1.2.2.1 i (Nat.lt_of_lt_of_le hi G3.1)).trans (G3.2.2.1 i hi), fun hn => ?_⟩, k3, k4.weaken (fun _ q _ hq => hfree q.1 hq), k5⟩
          have hn : o.2.2.1 = n0 := hn
          have g31 := G3.1
          have k11 := k1.1
          have e3 : w.2.1 = n0 := by omega
          rw [k1.2.2.2 (by omega)]
          exact G3.2.2.2 e3
        have K := hk _ _ _ _ _ _ _ _ _ _ G' hr h1 (fun z hz => hos z (h2 z hz))
        rw [ev_bck_ok, hls.2] at K
        rw [t4, t5]
        exact K
      have hstk : st.map (ev_cv σ ρ) = (as.map (ev_cv σ ρ)).reverse ++ s'.map (ev_cv σ ρ) := by
        rw [e2, List.map_append, List.map_reverse]
      obtain ⟨xm, xn, xr, xi, xh, xc, xs⟩ := x
      dsimp only at *
      match xh, xr, t6, hw, hnw, hd, c1 with
      | 0, q + 1, t6, hw, _, hd, c1 =>
        obtain ⟨t6, t8⟩ := ev_band (show Bool.and _ _ = true from t6)
        obtain ⟨t6, t7⟩ := ev_band (show Bool.and _ _ = true from t6)
        have tp : (parseMethodDescriptor m1.2.2.2.2.2.1.desc).map (fun d => d.parameters.length + 1) = some xn := of_decide_eq_true t6
        have t7 : (ev_kd cl q).1 = m1.2.2.2.2.2.1.cls := of_decide_eq_true t7
        unfold ev_rcv at c1
        match as, c1, hstk, c2, hpre, fin, hM with
        | .inr (.inl (i + 1)) :: as', c1, hstk, c2, hpre, fin, hM =>
          dsimp only at c1
          match ho : ev_tg 7 w.1 i, c1 with
          | .inl (cc, fs), c1 =>
            obtain ⟨r1, r2⟩ := ev_band (show Bool.and _ _ = true from c1)
            have r1 : cc = q := ev_beq.mp r1
            have r2 : i < w.2.1 := Nat.le_of_ble_eq_true r2
            subst r1
            have he : (ev_wl σ ρ ca w.1 w.2.1)[i]? = some (ρ i, .inr (cc, fs.map (ev_cv σ ρ))) := by
              rw [ev_wl_get r2, ho]
              rfl
            have hrec := va_recv hK hP (ev_kd_some t8) he
            rw [t7] at hrec
            have hcb : CallB (ev_rm (d + 1) m) s args (ev_own m) xi m1.2.2.2.2.2.1 m1.2.2.2.2.2.2.1 m1.2.2.2.2.1 m1.2.2.2.2.2.2.2 (ev_ws gw m1) (ev_rm d m1) m1.2.2.1 m1.2.2.2.1 as'.length := callB_of as'.length hts hgood rfl rfl rfl (hw _ (List.mem_cons_of_mem _ (List.mem_cons_of_mem _ (List.mem_cons_of_mem _ List.mem_cons_self)))) (hw _ List.mem_cons_self) ⟨t2, t3, by
              rw [← c2] at tp
              cases hpd : parseMethodDescriptor m1.2.2.2.2.2.1.desc with
              | none => rw [hpd] at tp; cases tp
              | some sg =>
                rw [hpd] at tp
                have tq : sg.parameters.length + 1 = (as').length + 1 := Option.some.inj tp
                show some sg.parameters.length = some as'.length
                rw [Nat.succ.inj tq]⟩ (ev_room d t1)
            refine fin _ (va_runV (As := as'.map (ev_cv σ ρ)) (b := ρ i) (C := m1.2.2.2.2.2.1.cls) ⟨hx, hb, hml, hown, hts⟩ hM ⟨hcb, hw _ (List.mem_cons_of_mem _ List.mem_cons_self), hw _ (List.mem_cons_of_mem _ (List.mem_cons_of_mem _ List.mem_cons_self))⟩ ⟨ev_Pr_blind hnk, hrec, hpre⟩ rfl (by rw [List.length_map]) G1.1 ?_ hcat hd hfit)
            show st.map (ev_cv σ ρ) = _
            rw [hstk]
            simp [ev_cv, ev_cr]
      | 1, 0, t6, hw, _, hd, _ =>
        have t6 := of_decide_eq_true t6
        have hcb : CallB (ev_rm (d + 1) m) s args (ev_own m) xi m1.2.2.2.2.2.1 m1.2.2.2.2.2.2.1 m1.2.2.2.2.1 m1.2.2.2.2.2.2.2 (ev_ws gw m1) (ev_rm d m1) m1.2.2.1 m1.2.2.2.1 as.length := callB_of as.length hts hgood rfl rfl rfl (hw _ (List.mem_cons_of_mem _ (List.mem_cons_of_mem _ List.mem_cons_self))) (hw _ List.mem_cons_self) ⟨t2, t3, by rw [c2]; exact t6⟩ (ev_room d t1)
        exact fin _ (va_runS (As := as.map (ev_cv σ ρ)) ⟨hx, hb, hml, hown, hts⟩ hM ⟨hcb, hw _ (List.mem_cons_of_mem _ List.mem_cons_self)⟩ ⟨ev_Pr_blind hnk, hpre⟩ rfl (by rw [List.length_map]) G1.1 hstk hcat hd hfit)
      | 4, 0, t6, hw, hnw, hd, _ =>
        have t6 := of_decide_eq_true t6
        have hcn := va_cnB (R := ev_rm (d + 1) m) (own := ev_own m) (index := xi) as.length hts hgood rfl (rm := ev_rm d m1) rfl rfl (hnw _ List.mem_cons_self) (hw _ (List.mem_cons_of_mem _ List.mem_cons_self)) ⟨t2, t3, by rw [c2]; exact t6⟩ (ev_room d t1)
        exact fin _ (va_runSN (As := as.map (ev_cv σ ρ)) ⟨hx, hb, hml, hown, hts⟩ hM ⟨hcn, hw _ List.mem_cons_self, trivial⟩ ⟨ev_Pr_blind hnk, hpre⟩ rfl (by rw [List.length_map]) G1.1 hstk hcat hd hfit)
      | 2, q + 1, t6, hw, _, hd, c1 =>
        obtain ⟨t6, t8⟩ := ev_band (show Bool.and _ _ = true from t6)
        obtain ⟨t6, t7⟩ := ev_band (show Bool.and _ _ = true from t6)
        have tp : (parseMethodDescriptor m1.2.2.2.2.2.1.desc).map (fun d => d.parameters.length + 1) = some xn := of_decide_eq_true t6
        have t7 : m1.2.2.2.2.2.1.name = "<init>" := of_decide_eq_true t7
        have t8 : m1.2.2.2.2.2.2.2 = none := of_decide_eq_true t8
        unfold ev_rcv at c1
        match as, c1, hstk, c2, hpre, fin, hM with
        | .inr (.inl (i + 1)) :: as', c1, hstk, c2, hpre, fin, hM =>
          have hcb : CallB (ev_rm (d + 1) m) s args (ev_own m) xi m1.2.2.2.2.2.1 m1.2.2.2.2.2.2.1 m1.2.2.2.2.1 none (ev_ws gw m1) (ev_rm d m1) m1.2.2.1 m1.2.2.2.1 as'.length := callB_of as'.length hts hgood (by unfold ev_ws ev_cw; rw [t8]) rfl rfl (hw _ (List.mem_cons_of_mem _ (List.mem_cons_of_mem _ List.mem_cons_self))) (hw _ List.mem_cons_self) ⟨t2, t3, by
            rw [← c2] at tp
            cases hpd : parseMethodDescriptor m1.2.2.2.2.2.1.desc with
            | none => rw [hpd] at tp; cases tp
            | some sg =>
              rw [hpd] at tp
              have tq : sg.parameters.length + 1 = (as').length + 1 := Option.some.inj tp
              show some sg.parameters.length = some as'.length
              rw [Nat.succ.inj tq]⟩ (ev_room d t1)
          refine fin _ (va_runI (As := as'.map (ev_cv σ ρ)) (b := ρ i) ⟨hx, hb, hml, hown, hts⟩ hM ⟨hcb, t7, hw _ (List.mem_cons_of_mem _ List.mem_cons_self)⟩ ⟨ev_Pr_blind hnk, hpre⟩ rfl (by rw [List.length_map]) G1.1 ?_ hcat hd hfit)
          show st.map (ev_cv σ ρ) = _
          rw [hstk]
          simp [ev_cv, ev_cr]
      | 5, q + 1, t6, hw, hnw, hd, c1 =>
        obtain ⟨t6, t8⟩ := ev_band (show Bool.and _ _ = true from t6)
        obtain ⟨t6, t7⟩ := ev_band (show Bool.and _ _ = true from t6)
        have tp : (parseMethodDescriptor m1.2.2.2.2.2.1.desc).map (fun d => d.parameters.length + 1) = some xn := of_decide_eq_true t6
        have t7 : m1.2.2.2.2.2.1.name = "<init>" := of_decide_eq_true t7
        have t8 : m1.2.2.2.2.2.2.2 = none := of_decide_eq_true t8
        unfold ev_rcv at c1
        match as, c1, hstk, c2, hpre, fin, hM with
        | .inr (.inl (i + 1)) :: as', c1, hstk, c2, hpre, fin, hM =>
          have hcn := va_cnB (R := ev_rm (d + 1) m) (own := ev_own m) (index := xi) (ret := none) as'.length hts hgood (by unfold ev_ws ev_cw; rw [t8]) (rm := ev_rm d m1) rfl rfl (hnw _ List.mem_cons_self) (hw _ (List.mem_cons_of_mem _ List.mem_cons_self)) ⟨t2, t3, by
            rw [← c2] at tp
            cases hpd : parseMethodDescriptor m1.2.2.2.2.2.1.desc with
            | none => rw [hpd] at tp; cases tp
            | some sg =>
              rw [hpd] at tp
              have tq : sg.parameters.length + 1 = (as').length + 1 := Option.some.inj tp
              show some sg.parameters.length = some as'.length
              rw [Nat.succ.inj tq]⟩ (ev_room d t1)
          refine fin _ (va_runIN (As := as'.map (ev_cv σ ρ)) (b := ρ i) ⟨hx, hb, hml, hown, hts⟩ hM ⟨hcn, t7, hw _ List.mem_cons_self⟩ ⟨ev_Pr_blind hnk, hpre⟩ rfl (by rw [List.length_map]) G1.1 ?_ hcat hd hfit)
          show st.map (ev_cv σ ρ) = _
          rw [hstk]
          simp [ev_cv, ev_cr]
/-- all that is asked of the tables -/
def ev_Sys (cl : List vw_C) (pg : List ev_M) (gw nw : List Jvm.Cond) : Prop := ev_kok cl gw ∧ ev_gok gw ∧ ev_nok nw ∧ ∀ m ∈ pg, ev_mok cl pg gw nw m
theorem ev_run_ok (Sy : ev_Sys cl pg gw nw) (hm : ev_mok cl pg gw nw m) (C : ev_Cx p l e R s mm args below meth c m d dC dI ca cl gw nw A) (hQ : Q = MQ below (ev_Po dC dI ca cl σ ρ0 n0 os A) args s m.2.2.1 m.2.2.2.1 A) (hcall : ∀ x as h n e os1, call x as h n e = some os1 → ∃ m1, pg[x]? = some m1 ∧ ev_Ct cl gw nw d m1 as h n e os1) : ∀ fuel, ev_Sn p l e R s mm args below meth c m dC dI ca cl pg gw nw A σ ρ0 n0 Q os (ev_run call m fuel)
  | 0 => fun r ls st w outs pc la ρ H locs G hok h hos => by cases h
  | fuel + 1 => fun r ls st w outs pc la ρ H locs G hok h hos => by
    have hk := ev_run_ok Sy hm C hQ hcall fuel
    have h : ev_step call (ev_run call m fuel) m r ls st w = some outs := h
    match r, h, hok with
    | [], h, _ => cases h
    | .inl (.inl (.inl (.inl (.inl (x))))) :: r, h, hok => exact es_li (call := call) C hm hk G hok h hos
    | .inl (.inl (.inl (.inl (.inr (x))))) :: r, h, hok => exact es_la (call := call) C hm hk G hok h hos
    | .inl (.inl (.inl (.inr (.inl (x))))) :: r, h, hok => exact es_pu (call := call) C hm hk G hok h hos
    | .inl (.inl (.inl (.inr (.inr (x))))) :: r, h, hok => exact es_ic (call := call) C hm hk G hok h hos
    | .inl (.inl (.inr (.inl (.inl (x))))) :: r, h, hok => exact es_gf (call := call) Sy.1 C hm hk G hok h hos
    | .inl (.inl (.inr (.inl (.inr (x))))) :: r, h, hok => exact es_go (call := call) C hm hk G hok h hos
    | .inl (.inl (.inr (.inr (.inl (x))))) :: r, h, hok => exact es_ii (call := call) C hm hk G hok h hos
    | .inl (.inl (.inr (.inr (.inr (x))))) :: r, h, hok => exact es_ib (call := call) C hm hk G hok h hos
    | .inl (.inr (.inl (.inl (.inl (x))))) :: r, h, hok => exact es_al (call := call) C hm hk G hok h hos
    | .inl (.inr (.inl (.inl (.inr (x))))) :: r, h, hok => exact es_as (call := call) C hm hk G hok h hos
    | .inl (.inr (.inl (.inr (.inl (x))))) :: r, h, hok => exact es_if (call := call) C hm hk G hok h hos
    | .inl (.inr (.inl (.inr (.inr (x))))) :: r, h, hok => exact es_re (call := call) hQ C hm hk G hok h hos
    | .inl (.inr (.inr (.inl (.inl (x))))) :: r, h, hok => exact es_ca (call := call) Sy.2.1 Sy.2.2.1 Sy.2.2.2 hcall C hm hk G hok h hos
    | .inl (.inr (.inr (.inl (.inr (x))))) :: r, h, hok => exact es_si (call := call) C hm hk G hok h hos
    | .inl (.inr (.inr (.inr (.inl (x))))) :: r, h, hok => exact es_dv (call := call) C hm hk G hok h hos
    | .inl (.inr (.inr (.inr (.inr (x))))) :: r, h, hok => exact es_ll (call := call) C hm hk G hok h hos
    | .inr (.inl (.inl (.inl (.inl (x))))) :: r, h, hok => exact es_fa (call := call) C hm hk G hok h hos
    | .inr (.inl (.inl (.inl (.inr (x))))) :: r, h, hok => exact es_pf (call := call) Sy.1 C hm hk G hok h hos
    | .inr (.inl (.inl (.inr (.inl (x))))) :: r, h, hok => exact es_lb (call := call) C hm hk G hok h hos
    | .inr (.inl (.inl (.inr (.inr (x))))) :: r, h, hok => exact es_ls (call := call) C hm hk G hok h hos
    | .inr (.inl (.inr (.inl (.inl (()))))) :: r, h, hok => exact es_lc (call := call) C hm hk G hok h hos
    | .inr (.inl (.inr (.inl (.inr (x))))) :: r, h, hok => exact es_sl (call := call) C hm hk G hok h hos
    | .inr (.inl (.inr (.inr (.inl (x))))) :: r, h, hok => exact es_un (call := call) C hm hk G hok h hos
    | .inr (.inl (.inr (.inr (.inr (x))))) :: r, h, hok => exact es_st (call := call) C hm hk G hok h hos
    | .inr (.inr (.inl (.inl (.inl (()))))) :: r, h, hok => exact es_an (call := call) C hm hk G hok h hos
    | .inr (.inr (.inl (.inl (.inr (x))))) :: r, h, hok => exact es_na (call := call) C hm hk G hok h hos
    | .inr (.inr (.inl (.inr (.inl (x))))) :: r, h, hok => exact es_nw (call := call) Sy.1 C hm hk G hok h hos
    | .inr (.inr (.inl (.inr (.inr (x))))) :: r, h, hok => exact es_oi (call := call) C hm hk G hok h hos
    | .inr (.inr (.inr (.inl (.inl (x))))) :: r, h, hok => exact es_cy (call := call) C hm hk G hok h hos
    | .inr (.inr (.inr (.inl (.inr (x))))) :: r, h, hok => exact es_tw (call := call) C hm hk G hok h hos
    | .inr (.inr (.inr (.inr (.inl (x))))) :: r, h, hok => exact es_nn (call := call) C hm hk G hok h hos
    | .inr (.inr (.inr (.inr (.inr (x))))) :: r, h, hok => exact es_sa (call := call) C hm hk G hok h hos
theorem ev_ent_len (σ : Nat → Int32) (ρ : Nat → Nat) (as : List ev_V) : (lg_sl (as.map (ev_cv σ ρ))).length = (ev_ent as).length := by
  induction as with
  | nil => rfl
  | cons v r ih =>
    have e : lg_sl ((v :: r).map (ev_cv σ ρ)) = (if (ev_cv σ ρ v).category = 2 then [.val (ev_cv σ ρ v), .second] else [.val (ev_cv σ ρ v)]) ++ lg_sl (r.map (ev_cv σ ρ)) := by
      simp [lg_sl]
    rw [e, List.length_append, ih]
    show _ = (Bool.rec (motive := fun _ => List ev_V) (v :: ev_ent r) (v :: ev_U :: ev_ent r) (ev_isl v)).length
    cases hv : ev_isl v with
    | false =>
      rw [if_neg (by rw [ev_isl_cat hv]; decide)]
      simp
      omega
    | true =>
      match v, hv with
      | .inr (.inr (.inl n)), _ =>
        rw [if_pos (show (ev_cv σ ρ (.inr (.inr (.inl n)))).category = 2 from rfl)]
        simp
        omega
theorem ev_ent_in (σ : Nat → Int32) (ρ : Nat → Nat) (as : List ev_V) (z : Nat) : ∀ (j : Nat) (q : Nat × Value), q ∈ ev_pr σ ρ j (ev_ent as ++ List.replicate z ev_U) → q ∈ lv_args j (as.map (ev_cv σ ρ)) := by
  induction as with
  | nil =>
    intro j q hq
    obtain ⟨i, v, h1, h2, -⟩ := (ev_pr_mem _ j q).mp hq
    have h1 : (List.replicate z ev_U)[i]? = some v := h1
    exact absurd (List.eq_of_mem_replicate (List.mem_of_getElem? h1)) h2
  | cons v r ih =>
    intro j q hq
    have hq : q ∈ ev_pr σ ρ j ((Bool.rec (motive := fun _ => List ev_V) (v :: ev_ent r) (v :: ev_U :: ev_ent r) (ev_isl v)) ++ List.replicate z ev_U) := hq
    show q ∈ (j, ev_cv σ ρ v) :: lv_args (if (ev_cv σ ρ v).category = 2 then j + 2 else j + 1) (r.map (ev_cv σ ρ))
    cases hv : ev_isl v with
    | false =>
      rw [hv] at hq
      rw [if_neg (by rw [ev_isl_cat hv]; decide)]
      by_cases hu : v = ev_U
      · subst hu
        exact List.mem_cons_of_mem _ (ih (j + 1) q hq)
      · have hq : q ∈ ev_pr σ ρ j (v :: (ev_ent r ++ List.replicate z ev_U)) := hq
        rw [ev_pr_cons _ _ _ _ _ hu] at hq
        rcases List.mem_cons.mp hq with rfl | hq
        · exact List.mem_cons_self
        · exact List.mem_cons_of_mem _ (ih (j + 1) q hq)
    | true =>
      match v, hv, hq with
      | .inr (.inr (.inl n)), _, hq =>
        rw [if_pos (show (ev_cv σ ρ (.inr (.inr (.inl n)))).category = 2 from rfl)]
        have hq : q ∈ ev_pr σ ρ j (.inr (.inr (.inl n)) :: ev_U :: (ev_ent r ++ List.replicate z ev_U)) := hq
        rw [ev_pr_cons _ _ _ _ _ (fun q => by cases q)] at hq
        rcases List.mem_cons.mp hq with rfl | hq
        · exact List.mem_cons_self
        · exact List.mem_cons_of_mem _ (ih (j + 2) q hq)
/-- THE WHOLE: what the evaluator says of a method is a contract of it -/
theorem ev_sound (Sy : ev_Sys cl pg gw nw) : ∀ (d x : Nat) (as : List ev_V) (h : ev_H) (n : Nat) (e : ev_E) (os : List ev_O), ev_met pg d x as h n e = some os → ∃ m1, pg[x]? = some m1 ∧ ev_Ct cl gw nw d m1 as h n e os
  | 0, x, as, h, n, e, os, hh => by cases hh
  | d + 1, x, as, h, n, e, os, hh => by
    have IH := ev_sound Sy d
    have hh : (match ev_lm pg x with
      | none => none
      | some m => ev_beg (ev_met pg d) as h n e m (ev_ent as)) = some os := hh
    rw [ev_lm_eq] at hh
    cases hx : pg[x]? with
    | none => rw [hx] at hh; cases hh
    | some m1 =>
      rw [hx] at hh
      refine ⟨m1, rfl, ?_⟩
      have hmok := Sy.2.2.2 m1 (List.mem_of_getElem? hx)
      obtain ⟨hc, hh⟩ := ev_ite (show Bool.rec (motive := fun _ => ev_R) none (ev_run (ev_met pg d) m1 10000000 (ev_lb m1.1 m1.2.1) (ev_ent as ++ List.replicate (Nat.sub m1.2.2.2.2.1 (ev_ent as).length) ev_U) [] (h, n, e, 0, 0)) (Nat.ble (ev_ent as).length m1.2.2.2.2.1) = some os from hh)
      have hc : (ev_ent as).length ≤ m1.2.2.2.2.1 := Nat.le_of_ble_eq_true hc
      intro l dC dI ca σ ρ sz hsat hn
      refine Met.ofW (cc := m1.2.2.2.2.2.2.1) (maxL := m1.2.2.2.2.1) (ret := m1.2.2.2.2.2.2.2) hmok.2.2.1 rfl ?_
      intro p e' s mm args below meth c s₁ B hml hv
      obtain ⟨rfl, hsz, hP, hK, hD0, hN⟩ := hv
      have hts := atoms_spec (ws := ev_ws gw m1) B.pre
      have hown : s.vm.findClass (ev_own m1) = some mm.cls := findClass_of_methodNamed B.named
      have hname : meth.name = m1.2.2.2.2.2.1.name := (name_of_methodNamed B.named B.method).1
      subst hsz
      have hD := hD0.self (sz := s.heap.size)
      have hA : ∀ q : Nat, s.heap.size ≤ q → va_A (ev_wl σ ρ ca h n) s.heap.size q := fun q hq => Or.inr hq
      have hlen : (lg_sl (as.map (ev_cv σ ρ))).length ≤ m1.2.2.2.2.1 := by
        rw [ev_ent_len]
        exact hc
      have hl := lv_entry (as.map (ev_cv σ ρ)) (n := m1.2.2.2.2.1) hlen
      rw [lg_entry_eq]
      generalize (lg_sl (as.map (ev_cv σ ρ)) ++ List.replicate (m1.2.2.2.2.1 - (lg_sl (as.map (ev_cv σ ρ))).length) Slot.unset).toArray = la at hl ⊢
      have hl2 : lv_has la m1.2.2.2.2.1 (ev_pr σ ρ 0 (ev_ent as ++ List.replicate (Nat.sub m1.2.2.2.2.1 (ev_ent as).length) ev_U)) := ev_has_sub hl (ev_ent_in σ ρ as _ 0)
      have C : ev_Cx p l e' (headSpec (ev_ws gw m1) (ev_rm (d + 1) m1)).room s mm (as.map (ev_cv σ ρ)).toArray below meth c m1 d dC dI ca cl gw nw (va_A (ev_wl σ ρ ca h n) s.heap.size) := ⟨B.exec, B.bytes, B.returns, B.notSynchronized, hml, hown, hname, hts, hK, hN, rfl, hA⟩
      have K := ev_run_ok (Q := MQ below (ev_Po dC dI ca cl σ ρ n os (va_A (ev_wl σ ρ ca h n) s.heap.size)) (as.map (ev_cv σ ρ)).toArray s m1.2.2.1 m1.2.2.2.1 (va_A (ev_wl σ ρ ca h n) s.heap.size)) (os := os) (σ := σ) (ρ0 := ρ) (n0 := n) Sy hmok C rfl (fun x as h n e os1 hq => IH x as h n e os1 hq) 10000000 _ _ _ (h, n, e, 0, 0) _ _ la ρ s.heap [] ⟨hl2, hsat, ⟨Nat.le_refl _, hn, fun _ _ => rfl, fun _ => rfl⟩, hP, hD, va_S.rf⟩ (ev_okc_to hmok m1.2.1) hh (fun o ho => ho)
      rw [hmok.2.1] at K
      exact K
end EVE
