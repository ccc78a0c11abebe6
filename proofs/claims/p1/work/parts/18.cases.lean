/-! THE CLAIM OUT OF ONE WALK OF THE LAW'S BODY. Your part is whole_start (and what it stands on); all else here is the same for every law, but numbers. -/
def R_law : String := "RegisterColoursLaw"
def lw_P (b : Addr) (xs : List Int32) (args : Array Value) (s : State) : Prop := args = #[.ref b] ∧ s.IntsAt b xs ∧ xs.length ≤ 6 ∧ (Jvm.Cond.and given_1 narrow_1).before args s = true
def lw_Q (_ : Array Value) (s : State) (o : Outcome) (t : State) : Prop := o = .returned (some (.int 1)) ∧ Framed s o t [] 600000 7302250
def lw_Z (below : List Frame) (a : Array Value) (s : State) : State → Prop := fun t => ∃ o, t.status = .running ∧ Ended t below o ∧ lw_Q a s o t
/-- the law's own end, with 1 on the stack, nothing written that was there before, its room as the claim has it -/
theorem lw_ret {p : Program} {l : Launch} {e : Env} {s : State} {m : MethodId} {below : List Frame} {meth : Method} {c : Code} {b : Nat} (hx : p.tables.exec = Jvm.exec) (hb : c.code = code) (hr : meth.sig.returnType = ret) (hlocks : meth.locks = false) {pc : Nat} {H : Heap} {ls : Array Slot} (hdg : decode code pc = .ok (.ireturn, 1)) : W p l e room_1 s m #[Value.ref b] below meth c H [] 600000 7302250 (lw_Z below #[Value.ref b] s) (F0 m pc ls [.int 1]) := by
  intro T hT X
  obtain ⟨fs, hret, hrun, hended, hW, hframe⟩ := X.leave (v := some (.int 1)) (hlocks := hlocks) (fun h => by rw [hr] at h; cases h)
  have hmeth' : T.vm.method? m = some meth := X.method'
  refine ⟨T.setFrames fs, ?_, .returned (some (.int 1)), hrun, hended, rfl, ⟨_, rfl⟩, hW, hframe⟩
  jvm_step X.here [X.here.top, hx, hb, hdg, hmeth', hr, ret, narrow_b1]
  (try refine ⟨rfl, ?_⟩); (try refine ⟨rfl, ?_⟩)
  first | (intro acts; rw [hret _ acts rfl rfl rfl]) | rw [hret _ _ rfl rfl rfl]
  exact Steps.refl _
/-- what holds at the law's entry: the machine, the code, the tables' words (any of lw_tbl by 'hts w (by decide +kernel)'), the script of L ints xs at the cell b, what the Statement gives of the start (any of its parts by flat_of_before) -/
def lw_At (p : Program) (s : State) (m : MethodId) (meth : Method) (c : Code) (b L : Nat) (xs : Nat → Int32) : Prop :=
  p.tables.exec = Jvm.exec ∧ c.code = code ∧ meth.sig.returnType = ret ∧ c.maxLocals = 4 ∧ s.vm.findClass R_law = some m.cls ∧ (∀ w ∈ lw_tbl, w.before #[Value.ref b] s = true) ∧ va_X b L xs s s.heap ∧ b < s.heap.size ∧ meth.locks = false ∧ (Jvm.Cond.and given_1 narrow_1).before #[Value.ref b] s = true
/-- the arguments of the one call, by the law's switch -/
def lw_z (x : Int32) : Int32 := if x = 0 then 0 else 1
theorem lw_z01 (x : Int32) : lw_z x = 0 ∨ lw_z x = 1 := by
  unfold lw_z
  split
  · exact Or.inl rfl
  · exact Or.inr rfl
def lw_sg (xs : Nat → Int32) : Nat → Int32 := match (xs 0 &&& 31).toNatClampNeg with
  | 5 => fun k => match k with
    | 0 => xs 1
    | 1 => lw_z (xs 2)
    | _ => 0
  | 7 => fun k => match k with
    | 0 => xs 1
    | 1 => lw_z (xs 2)
    | 2 => xs 3
    | _ => 0
  | 17 => fun k => match k with
    | 0 => lw_z (xs 1)
    | _ => 0
  | _ => fun k => xs (k + 1)
section LAWS
variable {p : Program} {l : Launch} {e : Env} {s : State} {m : MethodId} {below : List Frame} {meth : Method} {c : Code} {b : Nat} {xs : Nat → Int32} {H : Heap} {locs : List Loc} {cells slots pc : Nat} {ls : Array Slot} {rest : List Value} {qx qm : Nat} {Q : State → Prop}
/-- script[i + k], i being 0 -/
theorem lw_arg (C0 : lw_At p s m meth c b 6 xs) (hS : va_S (fun q : Nat => s.heap.size ≤ q) s.heap H locs) (hl : lv_has ls 4 [(0, .ref b), (1, .ref qx), (2, .ref qm), (3, .int 0)]) {k : Nat} (hk : k < 6) (d0 : decode code pc = .ok (.aload_n 0, 1)) (d1 : decode code (pc + 1) = .ok (.iload_n 3, 1)) (d2 : decode code (pc + 2) = .ok (.iconst (k : Int), 1)) (d3 : decode code (pc + 3) = .ok (.iadd, 1)) (d4 : decode code (pc + 4) = .ok (.iaload, 1)) (kk : W p l e room_1 s m #[Value.ref b] below meth c H locs cells slots Q (F0 m (pc + 5) ls (.int (xs k) :: rest))) : W p l e room_1 s m #[Value.ref b] below meth c H locs cells slots Q (F0 m pc ls rest) := by
  obtain ⟨hx, hb, hr, hml, hown, hts, hX, hbl, hlocks, hgv⟩ := C0
  refine lv_aload_n hx hb d0 rfl (lv_at hl 0 rfl) ?_
  refine lv_iload_n hx hb d1 rfl (lv_at hl 3 rfl) ?_
  refine lv_iconst (v := Int32.ofNat k) hx hb d2 rfl ?_
  refine lv_iadd hx hb d3 ?_
  have e0 : (0 : Int32) + Int32.ofNat k = Int32.ofNat k := by
    have : (0 : Int32) = Int32.ofNat 0 := rfl
    rw [this, ev_add, Nat.zero_add]
  rw [e0]
  refine va_sld hx hb hX hbl (Nat.not_le.mpr hbl) hS (ev_in hk (by omega)) d4 ?_
  rw [ev_clamp (by omega)]
  exact kk
theorem lw_argb (C0 : lw_At p s m meth c b 6 xs) (hS : va_S (fun q : Nat => s.heap.size ≤ q) s.heap H locs) (hl : lv_has ls 4 [(0, .ref b), (1, .ref qx), (2, .ref qm), (3, .int 0)]) {k : Nat} (hk : k < 6) (d0 : decode code pc = .ok (.aload_n 0, 1)) (d1 : decode code (pc + 1) = .ok (.iload_n 3, 1)) (d2 : decode code (pc + 2) = .ok (.iconst (k : Int), 1)) (d3 : decode code (pc + 3) = .ok (.iadd, 1)) (d4 : decode code (pc + 4) = .ok (.iaload, 1)) (d5 : decode code (pc + 5) = .ok (.ifCond .eq 7, 3)) (d6 : decode code (pc + 8) = .ok (.iconst 1, 1)) (d7 : decode code (pc + 9) = .ok (.goto 4, 3)) (d8 : decode code (pc + 12) = .ok (.iconst 0, 1)) (kk : W p l e room_1 s m #[Value.ref b] below meth c H locs cells slots Q (F0 m (pc + 13) ls (.int (lw_z (xs k)) :: rest))) : W p l e room_1 s m #[Value.ref b] below meth c H locs cells slots Q (F0 m pc ls rest) := by
  refine lw_arg C0 hS hl hk d0 d1 d2 d3 d4 ?_
  obtain ⟨hx, hb, -⟩ := C0
  refine lv_if_eq (tgt := pc + 12) hx hb d5 (by omega) (fun h => ?_) (fun h => ?_)
  · refine lv_iconst (v := 0) hx hb d8 rfl ?_
    rw [show lw_z (xs k) = 0 from if_pos h] at kk
    exact kk
  · refine lv_iconst (v := 1) hx hb d6 rfl ?_
    refine lv_goto (tgt := pc + 13) hx hb d7 (by omega) ?_
    rw [show lw_z (xs k) = 1 from if_neg h] at kk
    exact kk
/-- the end: 1 -/
theorem lw_end {L : Nat} (C0 : lw_At p s m meth c b L xs) (hS : va_S (fun q : Nat => s.heap.size ≤ q) s.heap H locs) (h1 : cells ≤ 600000) (h2 : slots ≤ 7302250) : W p l e room_1 s m #[Value.ref b] below meth c H locs cells slots (lw_Z below #[Value.ref b] s) (F0 m 725 ls []) := by
  obtain ⟨hx, hb, hr, hml, hown, hts, hX, hbl, hlocks, hgv⟩ := C0
  refine lv_iconst (v := 1) hx hb dl_725 (by decide) ?_
  refine va_forget (fun q hq => hS.2.2 q hq) ?_
  exact W.widen h1 h2 (lw_ret hx hb hr hlocks dl_726)
/-- behind the one call -/
theorem lw_back (C0 : lw_At p s m meth c b 6 xs) (hS : va_S (fun q : Nat => s.heap.size ≤ q) s.heap H locs) (hl : lv_has ls 4 [(0, .ref b), (1, .ref qx), (2, .ref qm), (3, .int 0)]) (h1 : cells ≤ 600000) (h2 : slots ≤ 7302250) : W p l e room_1 s m #[Value.ref b] below meth c H locs cells slots (lw_Z below #[Value.ref b] s) (F0 m 719 ls []) := by
  have C1 := C0
  obtain ⟨hx, hb, hr, hml, hown, hts, hX, hbl, hlocks, hgv⟩ := C0
  refine lv_iinc (v := 6) (lv' := [(3, .int 6), (0, .ref b), (1, .ref qx), (2, .ref qm)]) hx hb dl_719 hl (k := 3) rfl (by decide) (by decide) rfl (fun ls hl => ?_)
  refine lv_goto (tgt := 18) hx hb dl_722 (by decide) ?_
  refine lv_iload_n hx hb dl_18 rfl (lv_at hl 0 rfl) ?_
  refine lv_aload_n hx hb dl_19 rfl (lv_at hl 1 rfl) ?_
  refine va_slen hx hb hX hbl (Nat.not_le.mpr hbl) hS dl_20 ?_
  refine lv_bipush (v := 6) hx hb dl_21 (by decide) ?_
  refine lv_isub hx hb dl_23 ?_
  refine lv_icmp_gt (tgt := 725) hx hb dl_24 (by decide) (fun _ => lw_end C1 hS h1 h2) (fun h => absurd (by decide +kernel) h)
end LAWS
def ev_is (v : ev_C) (ci : Nat) : Bool := match v with
  | .inl o => Nat.beq o.1 ci
  | _ => false
theorem ev_is_ok {v : ev_C} {ci : Nat} (h : ev_is v ci = true) : ∃ fs, v = .inl (ci, fs) := by
  match v, h with
  | .inl o, h => exact ⟨o.2, by rw [← ev_beq.mp h]⟩
theorem ev_hxx_0 : ∃ fs, ev_tg 7 ev_hxx 0 = .inl (0, fs) := ev_is_ok (by decide +kernel)
theorem ev_hmm_0 : ∃ fs, ev_tg 7 ev_hmm 0 = .inl (11, fs) := ev_is_ok (by decide +kernel)
set_option maxHeartbeats 4000000 in
theorem lw_c0 {p : Program} {l : Launch} {e : Env} {s : State} {m : MethodId} {below : List Frame} {meth : Method} {c : Code} {b : Nat} {xs : Nat → Int32} {H : Heap} {locs : List Loc} {ls : Array Slot} {dC : Nat → ClassId} {dI : Nat → Nat → Nat} {ca : Nat → ClassId} {ρx ρm : Nat → Nat} {cells slots : Nat} (C0 : lw_At p s m meth c b 6 xs) (hK : va_K (dC, dI) ev_cl (ev_ty ca) s) (hcl : cells ≤ 1000) (hsl : slots ≤ 1000000) (hj : (xs 0 &&& 31).toNatClampNeg = 0) (hP : va_P (dC, dI) ev_cl (ev_wl (lw_sg xs) ρx ca ev_hxx 50 ++ ev_wl (lw_sg xs) ρm ca ev_hmm 39) H) (hD : va_D (fun q : Nat => s.heap.size ≤ q) (ev_wl (lw_sg xs) ρx ca ev_hxx 50 ++ ev_wl (lw_sg xs) ρm ca ev_hmm 39)) (hS : va_S (fun q : Nat => s.heap.size ≤ q) s.heap H locs) (hl : lv_has ls 4 [(0, .ref b), (1, .ref (ρx 0)), (2, .ref (ρm 0)), (3, .int 0)]) : W p l e room_1 s m #[Value.ref b] below meth c H locs cells slots (lw_Z below #[Value.ref b] s) (F0 m 124 ls []) := by
  have C1 := C0
  obtain ⟨hx, hb, hr, hml, hown, hts, hX, hbl, hlocks, hgv⟩ := C0
  have hA : ∀ q : Nat, s.heap.size ≤ q → (fun q : Nat => s.heap.size ≤ q) q := fun _ h => h
  have sg0 : lw_sg xs 0 = xs 1 := by unfold lw_sg; rw [hj] <;> rfl
  have sg1 : lw_sg xs 1 = xs 2 := by unfold lw_sg; rw [hj] <;> rfl
  obtain ⟨fx, hfx⟩ := ev_hxx_0
  obtain ⟨fm, hfm⟩ := ev_hmm_0
  obtain ⟨env0, hsat0, hall0⟩ := pb_xx_set (lw_sg xs)
  refine lv_aload_n hx hb dl_124 rfl (lv_at hl 1 rfl) ?_
  refine lw_arg C1 hS hl (k := 1) (by decide) dl_125 dl_126 dl_127 dl_128 dl_129 ?_
  refine lw_arg C1 hS hl (k := 2) (by decide) dl_130 dl_131 dl_132 dl_133 dl_134 ?_
  have K0 : ∀ g, g = F0 m 135 ls (.int (xs 2) :: .int (xs 1) :: .ref (ρx 0) :: []) → W p l e room_1 s m #[Value.ref b] below meth c H locs cells slots (lw_Z below #[Value.ref b] s) (F0 m 135 ls ((([.inr (.inr (.inr (.inl (0, [])))), .inr (.inr (.inr (.inl (1, []))))] : List ev_V).map (ev_cv (lw_sg xs) ρx)).reverse ++ .ref (ρx 0) :: [])) → W p l e room_1 s m #[Value.ref b] below meth c H locs cells slots (lw_Z below #[Value.ref b] s) g := by
    intro g hg h
    subst hg
    have es : (([.inr (.inr (.inr (.inl (0, [])))), .inr (.inr (.inr (.inl (1, []))))] : List ev_V).map (ev_cv (lw_sg xs) ρx)).reverse = [.int (xs 2), .int (xs 1)] := by
      rw [show xs 1 = lw_sg xs 0 from sg0.symm, show xs 2 = lw_sg xs 1 from sg1.symm]
      rfl
    rw [es] at h
    exact h
  refine K0 _ rfl ?_
  refine lw_pub (x := 60) (m1 := mt_60) (as' := [.inr (.inr (.inr (.inl (0, [])))), .inr (.inr (.inr (.inl (1, []))))]) (wr := ev_wl (lw_sg xs) ρm ca ev_hmm 39) (fs := fx) (ci := 0) rfl hall0 hsat0 (by decide) (by decide) hfx (by decide +kernel) (by decide +kernel) hx hb hml hown hts hK hA hP hD hS ⟨ev_tb_in 2 (List.mem_of_getElem? (i := 212) (by decide +kernel)), ev_tb_in 2 (List.mem_of_getElem? (i := 213) (by decide +kernel)), ev_tb_in 2 (List.mem_of_getElem? (i := 214) (by decide +kernel)), ev_tb_in 1 (List.mem_of_getElem? (i := 1) (by decide +kernel))⟩ ⟨by decide +kernel, by decide +kernel, by decide +kernel⟩ hl.1 (by simp) dl_135 ⟨by show cells + 0 ≤ 600000; omega, by show slots + 0 ≤ 7302250; omega⟩ (fun H locs hP hD hS => ?_)
  obtain ⟨env1, hsat1, hall1⟩ := pb_mm_set (lw_sg xs)
  refine lv_aload_n hx hb dl_138 rfl (lv_at hl 2 rfl) ?_
  refine lw_arg C1 hS hl (k := 1) (by decide) dl_139 dl_140 dl_141 dl_142 dl_143 ?_
  refine lw_arg C1 hS hl (k := 2) (by decide) dl_144 dl_145 dl_146 dl_147 dl_148 ?_
  have K1 : ∀ g, g = F0 m 149 ls (.int (xs 2) :: .int (xs 1) :: .ref (ρm 0) :: [.int (ev_spc sp_set (lw_sg xs))]) → W p l e room_1 s m #[Value.ref b] below meth c H locs (cells + 0) (slots + 0) (lw_Z below #[Value.ref b] s) (F0 m 149 ls ((([.inr (.inr (.inr (.inl (0, [])))), .inr (.inr (.inr (.inl (1, []))))] : List ev_V).map (ev_cv (lw_sg xs) ρm)).reverse ++ .ref (ρm 0) :: [.int (ev_spc sp_set (lw_sg xs))])) → W p l e room_1 s m #[Value.ref b] below meth c H locs (cells + 0) (slots + 0) (lw_Z below #[Value.ref b] s) g := by
    intro g hg h
    subst hg
    have es : (([.inr (.inr (.inr (.inl (0, [])))), .inr (.inr (.inr (.inl (1, []))))] : List ev_V).map (ev_cv (lw_sg xs) ρm)).reverse = [.int (xs 2), .int (xs 1)] := by
      rw [show xs 1 = lw_sg xs 0 from sg0.symm, show xs 2 = lw_sg xs 1 from sg1.symm]
      rfl
    rw [es] at h
    exact h
  refine K1 _ rfl ?_
  refine lw_pub (x := 61) (m1 := mt_61) (as' := [.inr (.inr (.inr (.inl (0, [])))), .inr (.inr (.inr (.inl (1, []))))]) (wr := []) (fs := fm) (ci := 11) rfl hall1 hsat1 (by decide) (by decide) hfm (by decide +kernel) (by decide +kernel) hx hb hml hown hts hK hA (by rw [List.append_nil]; exact hP) (by rw [List.append_nil]; exact hD) hS ⟨ev_tb_in 7 (List.mem_of_getElem? (i := 92) (by decide +kernel)), ev_tb_in 7 (List.mem_of_getElem? (i := 93) (by decide +kernel)), ev_tb_in 7 (List.mem_of_getElem? (i := 94) (by decide +kernel)), ev_tb_in 1 (List.mem_of_getElem? (i := 9) (by decide +kernel))⟩ ⟨by decide +kernel, by decide +kernel, by decide +kernel⟩ hl.1 (by simp [Value.category]) dl_149 ⟨by show cells + 0 + 0 ≤ 600000; omega, by show slots + 0 + 0 ≤ 7302250; omega⟩ (fun H locs hP hD hS => ?_)
  exact lv_icmp_eq (tgt := 719) hx hb dl_152 (by decide) (fun _ => lw_back C1 hS hl (by show cells + 0 + 0 ≤ 600000; omega) (by show slots + 0 + 0 ≤ 7302250; omega)) (fun h => absurd rfl h)
set_option maxHeartbeats 4000000 in
theorem lw_c1 {p : Program} {l : Launch} {e : Env} {s : State} {m : MethodId} {below : List Frame} {meth : Method} {c : Code} {b : Nat} {xs : Nat → Int32} {H : Heap} {locs : List Loc} {ls : Array Slot} {dC : Nat → ClassId} {dI : Nat → Nat → Nat} {ca : Nat → ClassId} {ρx ρm : Nat → Nat} {cells slots : Nat} (C0 : lw_At p s m meth c b 6 xs) (hK : va_K (dC, dI) ev_cl (ev_ty ca) s) (hcl : cells ≤ 1000) (hsl : slots ≤ 1000000) (hj : (xs 0 &&& 31).toNatClampNeg = 1) (hP : va_P (dC, dI) ev_cl (ev_wl (lw_sg xs) ρx ca ev_hxx 50 ++ ev_wl (lw_sg xs) ρm ca ev_hmm 39) H) (hD : va_D (fun q : Nat => s.heap.size ≤ q) (ev_wl (lw_sg xs) ρx ca ev_hxx 50 ++ ev_wl (lw_sg xs) ρm ca ev_hmm 39)) (hS : va_S (fun q : Nat => s.heap.size ≤ q) s.heap H locs) (hl : lv_has ls 4 [(0, .ref b), (1, .ref (ρx 0)), (2, .ref (ρm 0)), (3, .int 0)]) : W p l e room_1 s m #[Value.ref b] below meth c H locs cells slots (lw_Z below #[Value.ref b] s) (F0 m 157 ls []) := by
  have C1 := C0
  obtain ⟨hx, hb, hr, hml, hown, hts, hX, hbl, hlocks, hgv⟩ := C0
  have hA : ∀ q : Nat, s.heap.size ≤ q → (fun q : Nat => s.heap.size ≤ q) q := fun _ h => h
  have sg0 : lw_sg xs 0 = xs 1 := by unfold lw_sg; rw [hj] <;> rfl
  have sg1 : lw_sg xs 1 = xs 2 := by unfold lw_sg; rw [hj] <;> rfl
  have sg2 : lw_sg xs 2 = xs 3 := by unfold lw_sg; rw [hj] <;> rfl
  have sg3 : lw_sg xs 3 = xs 4 := by unfold lw_sg; rw [hj] <;> rfl
  have sg4 : lw_sg xs 4 = xs 5 := by unfold lw_sg; rw [hj] <;> rfl
  obtain ⟨fx, hfx⟩ := ev_hxx_0
  obtain ⟨fm, hfm⟩ := ev_hmm_0
  obtain ⟨env0, hsat0, hall0⟩ := pb_xx_feed (lw_sg xs)
  refine lv_aload_n hx hb dl_157 rfl (lv_at hl 1 rfl) ?_
  refine lw_arg C1 hS hl (k := 1) (by decide) dl_158 dl_159 dl_160 dl_161 dl_162 ?_
  refine lw_arg C1 hS hl (k := 2) (by decide) dl_163 dl_164 dl_165 dl_166 dl_167 ?_
  refine lw_arg C1 hS hl (k := 3) (by decide) dl_168 dl_169 dl_170 dl_171 dl_172 ?_
  refine lw_arg C1 hS hl (k := 4) (by decide) dl_173 dl_174 dl_175 dl_176 dl_177 ?_
  refine lw_arg C1 hS hl (k := 5) (by decide) dl_178 dl_179 dl_180 dl_181 dl_182 ?_
  have K0 : ∀ g, g = F0 m 183 ls (.int (xs 5) :: .int (xs 4) :: .int (xs 3) :: .int (xs 2) :: .int (xs 1) :: .ref (ρx 0) :: []) → W p l e room_1 s m #[Value.ref b] below meth c H locs cells slots (lw_Z below #[Value.ref b] s) (F0 m 183 ls ((([.inr (.inr (.inr (.inl (0, [])))), .inr (.inr (.inr (.inl (1, [])))), .inr (.inr (.inr (.inl (2, [])))), .inr (.inr (.inr (.inl (3, [])))), .inr (.inr (.inr (.inl (4, []))))] : List ev_V).map (ev_cv (lw_sg xs) ρx)).reverse ++ .ref (ρx 0) :: [])) → W p l e room_1 s m #[Value.ref b] below meth c H locs cells slots (lw_Z below #[Value.ref b] s) g := by
    intro g hg h
    subst hg
    have es : (([.inr (.inr (.inr (.inl (0, [])))), .inr (.inr (.inr (.inl (1, [])))), .inr (.inr (.inr (.inl (2, [])))), .inr (.inr (.inr (.inl (3, [])))), .inr (.inr (.inr (.inl (4, []))))] : List ev_V).map (ev_cv (lw_sg xs) ρx)).reverse = [.int (xs 5), .int (xs 4), .int (xs 3), .int (xs 2), .int (xs 1)] := by
      rw [show xs 1 = lw_sg xs 0 from sg0.symm, show xs 2 = lw_sg xs 1 from sg1.symm, show xs 3 = lw_sg xs 2 from sg2.symm, show xs 4 = lw_sg xs 3 from sg3.symm, show xs 5 = lw_sg xs 4 from sg4.symm]
      rfl
    rw [es] at h
    exact h
  refine K0 _ rfl ?_
  refine lw_pub (x := 63) (m1 := mt_63) (as' := [.inr (.inr (.inr (.inl (0, [])))), .inr (.inr (.inr (.inl (1, [])))), .inr (.inr (.inr (.inl (2, [])))), .inr (.inr (.inr (.inl (3, [])))), .inr (.inr (.inr (.inl (4, []))))]) (wr := ev_wl (lw_sg xs) ρm ca ev_hmm 39) (fs := fx) (ci := 0) rfl hall0 hsat0 (by decide) (by decide) hfx (by decide +kernel) (by decide +kernel) hx hb hml hown hts hK hA hP hD hS ⟨ev_tb_in 2 (List.mem_of_getElem? (i := 223) (by decide +kernel)), ev_tb_in 2 (List.mem_of_getElem? (i := 224) (by decide +kernel)), ev_tb_in 2 (List.mem_of_getElem? (i := 225) (by decide +kernel)), ev_tb_in 1 (List.mem_of_getElem? (i := 1) (by decide +kernel))⟩ ⟨by decide +kernel, by decide +kernel, by decide +kernel⟩ hl.1 (by simp) dl_183 ⟨by show cells + 0 ≤ 600000; omega, by show slots + 0 ≤ 7302250; omega⟩ (fun H locs hP hD hS => ?_)
  obtain ⟨env1, hsat1, hall1⟩ := pb_mm_feed (lw_sg xs)
  refine lv_aload_n hx hb dl_186 rfl (lv_at hl 2 rfl) ?_
  refine lw_arg C1 hS hl (k := 1) (by decide) dl_187 dl_188 dl_189 dl_190 dl_191 ?_
  refine lw_arg C1 hS hl (k := 2) (by decide) dl_192 dl_193 dl_194 dl_195 dl_196 ?_
  refine lw_arg C1 hS hl (k := 3) (by decide) dl_197 dl_198 dl_199 dl_200 dl_201 ?_
  refine lw_arg C1 hS hl (k := 4) (by decide) dl_202 dl_203 dl_204 dl_205 dl_206 ?_
  refine lw_arg C1 hS hl (k := 5) (by decide) dl_207 dl_208 dl_209 dl_210 dl_211 ?_
  have K1 : ∀ g, g = F0 m 212 ls (.int (xs 5) :: .int (xs 4) :: .int (xs 3) :: .int (xs 2) :: .int (xs 1) :: .ref (ρm 0) :: [.int (ev_spc sp_feed (lw_sg xs))]) → W p l e room_1 s m #[Value.ref b] below meth c H locs (cells + 0) (slots + 0) (lw_Z below #[Value.ref b] s) (F0 m 212 ls ((([.inr (.inr (.inr (.inl (0, [])))), .inr (.inr (.inr (.inl (1, [])))), .inr (.inr (.inr (.inl (2, [])))), .inr (.inr (.inr (.inl (3, [])))), .inr (.inr (.inr (.inl (4, []))))] : List ev_V).map (ev_cv (lw_sg xs) ρm)).reverse ++ .ref (ρm 0) :: [.int (ev_spc sp_feed (lw_sg xs))])) → W p l e room_1 s m #[Value.ref b] below meth c H locs (cells + 0) (slots + 0) (lw_Z below #[Value.ref b] s) g := by
    intro g hg h
    subst hg
    have es : (([.inr (.inr (.inr (.inl (0, [])))), .inr (.inr (.inr (.inl (1, [])))), .inr (.inr (.inr (.inl (2, [])))), .inr (.inr (.inr (.inl (3, [])))), .inr (.inr (.inr (.inl (4, []))))] : List ev_V).map (ev_cv (lw_sg xs) ρm)).reverse = [.int (xs 5), .int (xs 4), .int (xs 3), .int (xs 2), .int (xs 1)] := by
      rw [show xs 1 = lw_sg xs 0 from sg0.symm, show xs 2 = lw_sg xs 1 from sg1.symm, show xs 3 = lw_sg xs 2 from sg2.symm, show xs 4 = lw_sg xs 3 from sg3.symm, show xs 5 = lw_sg xs 4 from sg4.symm]
      rfl
    rw [es] at h
    exact h
  refine K1 _ rfl ?_
  refine lw_pub (x := 64) (m1 := mt_64) (as' := [.inr (.inr (.inr (.inl (0, [])))), .inr (.inr (.inr (.inl (1, [])))), .inr (.inr (.inr (.inl (2, [])))), .inr (.inr (.inr (.inl (3, [])))), .inr (.inr (.inr (.inl (4, []))))]) (wr := []) (fs := fm) (ci := 11) rfl hall1 hsat1 (by decide) (by decide) hfm (by decide +kernel) (by decide +kernel) hx hb hml hown hts hK hA (by rw [List.append_nil]; exact hP) (by rw [List.append_nil]; exact hD) hS ⟨ev_tb_in 8 (List.mem_of_getElem? (i := 93) (by decide +kernel)), ev_tb_in 8 (List.mem_of_getElem? (i := 94) (by decide +kernel)), ev_tb_in 8 (List.mem_of_getElem? (i := 95) (by decide +kernel)), ev_tb_in 1 (List.mem_of_getElem? (i := 9) (by decide +kernel))⟩ ⟨by decide +kernel, by decide +kernel, by decide +kernel⟩ hl.1 (by simp [Value.category]) dl_212 ⟨by show cells + 0 + 0 ≤ 600000; omega, by show slots + 0 + 0 ≤ 7302250; omega⟩ (fun H locs hP hD hS => ?_)
  exact lv_icmp_eq (tgt := 719) hx hb dl_215 (by decide) (fun _ => lw_back C1 hS hl (by show cells + 0 + 0 ≤ 600000; omega) (by show slots + 0 + 0 ≤ 7302250; omega)) (fun h => absurd rfl h)
set_option maxHeartbeats 4000000 in
theorem lw_c2 {p : Program} {l : Launch} {e : Env} {s : State} {m : MethodId} {below : List Frame} {meth : Method} {c : Code} {b : Nat} {xs : Nat → Int32} {H : Heap} {locs : List Loc} {ls : Array Slot} {dC : Nat → ClassId} {dI : Nat → Nat → Nat} {ca : Nat → ClassId} {ρx ρm : Nat → Nat} {cells slots : Nat} (C0 : lw_At p s m meth c b 6 xs) (hK : va_K (dC, dI) ev_cl (ev_ty ca) s) (hcl : cells ≤ 1000) (hsl : slots ≤ 1000000) (hj : (xs 0 &&& 31).toNatClampNeg = 2) (hP : va_P (dC, dI) ev_cl (ev_wl (lw_sg xs) ρx ca ev_hxx 50 ++ ev_wl (lw_sg xs) ρm ca ev_hmm 39) H) (hD : va_D (fun q : Nat => s.heap.size ≤ q) (ev_wl (lw_sg xs) ρx ca ev_hxx 50 ++ ev_wl (lw_sg xs) ρm ca ev_hmm 39)) (hS : va_S (fun q : Nat => s.heap.size ≤ q) s.heap H locs) (hl : lv_has ls 4 [(0, .ref b), (1, .ref (ρx 0)), (2, .ref (ρm 0)), (3, .int 0)]) : W p l e room_1 s m #[Value.ref b] below meth c H locs cells slots (lw_Z below #[Value.ref b] s) (F0 m 220 ls []) := by
  have C1 := C0
  obtain ⟨hx, hb, hr, hml, hown, hts, hX, hbl, hlocks, hgv⟩ := C0
  have hA : ∀ q : Nat, s.heap.size ≤ q → (fun q : Nat => s.heap.size ≤ q) q := fun _ h => h
  have sg0 : lw_sg xs 0 = xs 1 := by unfold lw_sg; rw [hj] <;> rfl
  obtain ⟨fx, hfx⟩ := ev_hxx_0
  obtain ⟨fm, hfm⟩ := ev_hmm_0
  obtain ⟨env0, hsat0, hall0⟩ := pb_xx_end (lw_sg xs)
  refine lv_aload_n hx hb dl_220 rfl (lv_at hl 1 rfl) ?_
  refine lw_arg C1 hS hl (k := 1) (by decide) dl_221 dl_222 dl_223 dl_224 dl_225 ?_
  have K0 : ∀ g, g = F0 m 226 ls (.int (xs 1) :: .ref (ρx 0) :: []) → W p l e room_1 s m #[Value.ref b] below meth c H locs cells slots (lw_Z below #[Value.ref b] s) (F0 m 226 ls ((([.inr (.inr (.inr (.inl (0, []))))] : List ev_V).map (ev_cv (lw_sg xs) ρx)).reverse ++ .ref (ρx 0) :: [])) → W p l e room_1 s m #[Value.ref b] below meth c H locs cells slots (lw_Z below #[Value.ref b] s) g := by
    intro g hg h
    subst hg
    have es : (([.inr (.inr (.inr (.inl (0, []))))] : List ev_V).map (ev_cv (lw_sg xs) ρx)).reverse = [.int (xs 1)] := by
      rw [show xs 1 = lw_sg xs 0 from sg0.symm]
      rfl
    rw [es] at h
    exact h
  refine K0 _ rfl ?_
  refine lw_pub (x := 65) (m1 := mt_65) (as' := [.inr (.inr (.inr (.inl (0, []))))]) (wr := ev_wl (lw_sg xs) ρm ca ev_hmm 39) (fs := fx) (ci := 0) rfl hall0 hsat0 (by decide) (by decide) hfx (by decide +kernel) (by decide +kernel) hx hb hml hown hts hK hA hP hD hS ⟨ev_tb_in 2 (List.mem_of_getElem? (i := 231) (by decide +kernel)), ev_tb_in 2 (List.mem_of_getElem? (i := 232) (by decide +kernel)), ev_tb_in 2 (List.mem_of_getElem? (i := 233) (by decide +kernel)), ev_tb_in 1 (List.mem_of_getElem? (i := 1) (by decide +kernel))⟩ ⟨by decide +kernel, by decide +kernel, by decide +kernel⟩ hl.1 (by simp) dl_226 ⟨by show cells + 0 ≤ 600000; omega, by show slots + 0 ≤ 7302250; omega⟩ (fun H locs hP hD hS => ?_)
  obtain ⟨env1, hsat1, hall1⟩ := pb_mm_end (lw_sg xs)
  refine lv_aload_n hx hb dl_229 rfl (lv_at hl 2 rfl) ?_
  refine lw_arg C1 hS hl (k := 1) (by decide) dl_230 dl_231 dl_232 dl_233 dl_234 ?_
  have K1 : ∀ g, g = F0 m 235 ls (.int (xs 1) :: .ref (ρm 0) :: [.int (ev_spc sp_end (lw_sg xs))]) → W p l e room_1 s m #[Value.ref b] below meth c H locs (cells + 0) (slots + 0) (lw_Z below #[Value.ref b] s) (F0 m 235 ls ((([.inr (.inr (.inr (.inl (0, []))))] : List ev_V).map (ev_cv (lw_sg xs) ρm)).reverse ++ .ref (ρm 0) :: [.int (ev_spc sp_end (lw_sg xs))])) → W p l e room_1 s m #[Value.ref b] below meth c H locs (cells + 0) (slots + 0) (lw_Z below #[Value.ref b] s) g := by
    intro g hg h
    subst hg
    have es : (([.inr (.inr (.inr (.inl (0, []))))] : List ev_V).map (ev_cv (lw_sg xs) ρm)).reverse = [.int (xs 1)] := by
      rw [show xs 1 = lw_sg xs 0 from sg0.symm]
      rfl
    rw [es] at h
    exact h
  refine K1 _ rfl ?_
  refine lw_pub (x := 66) (m1 := mt_66) (as' := [.inr (.inr (.inr (.inl (0, []))))]) (wr := []) (fs := fm) (ci := 11) rfl hall1 hsat1 (by decide) (by decide) hfm (by decide +kernel) (by decide +kernel) hx hb hml hown hts hK hA (by rw [List.append_nil]; exact hP) (by rw [List.append_nil]; exact hD) hS ⟨ev_tb_in 8 (List.mem_of_getElem? (i := 101) (by decide +kernel)), ev_tb_in 8 (List.mem_of_getElem? (i := 102) (by decide +kernel)), ev_tb_in 8 (List.mem_of_getElem? (i := 103) (by decide +kernel)), ev_tb_in 1 (List.mem_of_getElem? (i := 9) (by decide +kernel))⟩ ⟨by decide +kernel, by decide +kernel, by decide +kernel⟩ hl.1 (by simp [Value.category]) dl_235 ⟨by show cells + 0 + 0 ≤ 600000; omega, by show slots + 0 + 0 ≤ 7302250; omega⟩ (fun H locs hP hD hS => ?_)
  exact lv_icmp_eq (tgt := 719) hx hb dl_238 (by decide) (fun _ => lw_back C1 hS hl (by show cells + 0 + 0 ≤ 600000; omega) (by show slots + 0 + 0 ≤ 7302250; omega)) (fun h => absurd rfl h)
set_option maxHeartbeats 4000000 in
theorem lw_c3 {p : Program} {l : Launch} {e : Env} {s : State} {m : MethodId} {below : List Frame} {meth : Method} {c : Code} {b : Nat} {xs : Nat → Int32} {H : Heap} {locs : List Loc} {ls : Array Slot} {dC : Nat → ClassId} {dI : Nat → Nat → Nat} {ca : Nat → ClassId} {ρx ρm : Nat → Nat} {cells slots : Nat} (C0 : lw_At p s m meth c b 6 xs) (hK : va_K (dC, dI) ev_cl (ev_ty ca) s) (hcl : cells ≤ 1000) (hsl : slots ≤ 1000000) (hj : (xs 0 &&& 31).toNatClampNeg = 3) (hP : va_P (dC, dI) ev_cl (ev_wl (lw_sg xs) ρx ca ev_hxx 50 ++ ev_wl (lw_sg xs) ρm ca ev_hmm 39) H) (hD : va_D (fun q : Nat => s.heap.size ≤ q) (ev_wl (lw_sg xs) ρx ca ev_hxx 50 ++ ev_wl (lw_sg xs) ρm ca ev_hmm 39)) (hS : va_S (fun q : Nat => s.heap.size ≤ q) s.heap H locs) (hl : lv_has ls 4 [(0, .ref b), (1, .ref (ρx 0)), (2, .ref (ρm 0)), (3, .int 0)]) : W p l e room_1 s m #[Value.ref b] below meth c H locs cells slots (lw_Z below #[Value.ref b] s) (F0 m 243 ls []) := by
  have C1 := C0
  obtain ⟨hx, hb, hr, hml, hown, hts, hX, hbl, hlocks, hgv⟩ := C0
  have hA : ∀ q : Nat, s.heap.size ≤ q → (fun q : Nat => s.heap.size ≤ q) q := fun _ h => h
  obtain ⟨fx, hfx⟩ := ev_hxx_0
  obtain ⟨fm, hfm⟩ := ev_hmm_0
  obtain ⟨env0, hsat0, hall0⟩ := pb_xx_code (lw_sg xs)
  refine lv_aload_n hx hb dl_243 rfl (lv_at hl 1 rfl) ?_
  have K0 : ∀ g, g = F0 m 244 ls (.ref (ρx 0) :: []) → W p l e room_1 s m #[Value.ref b] below meth c H locs cells slots (lw_Z below #[Value.ref b] s) (F0 m 244 ls ((([] : List ev_V).map (ev_cv (lw_sg xs) ρx)).reverse ++ .ref (ρx 0) :: [])) → W p l e room_1 s m #[Value.ref b] below meth c H locs cells slots (lw_Z below #[Value.ref b] s) g := by
    intro g hg h
    subst hg
    have es : (([] : List ev_V).map (ev_cv (lw_sg xs) ρx)).reverse = [] := by
      rfl
    rw [es] at h
    exact h
  refine K0 _ rfl ?_
  refine lw_pub (x := 67) (m1 := mt_67) (as' := []) (wr := ev_wl (lw_sg xs) ρm ca ev_hmm 39) (fs := fx) (ci := 0) rfl hall0 hsat0 (by decide) (by decide) hfx (by decide +kernel) (by decide +kernel) hx hb hml hown hts hK hA hP hD hS ⟨ev_tb_in 2 (List.mem_of_getElem? (i := 235) (by decide +kernel)), ev_tb_in 2 (List.mem_of_getElem? (i := 236) (by decide +kernel)), ev_tb_in 2 (List.mem_of_getElem? (i := 237) (by decide +kernel)), ev_tb_in 1 (List.mem_of_getElem? (i := 1) (by decide +kernel))⟩ ⟨by decide +kernel, by decide +kernel, by decide +kernel⟩ hl.1 (by simp) dl_244 ⟨by show cells + 0 ≤ 600000; omega, by show slots + 0 ≤ 7302250; omega⟩ (fun H locs hP hD hS => ?_)
  obtain ⟨env1, hsat1, hall1⟩ := pb_mm_code (lw_sg xs)
  refine lv_aload_n hx hb dl_247 rfl (lv_at hl 2 rfl) ?_
  have K1 : ∀ g, g = F0 m 248 ls (.ref (ρm 0) :: [.int (ev_spc sp_code (lw_sg xs))]) → W p l e room_1 s m #[Value.ref b] below meth c H locs (cells + 0) (slots + 0) (lw_Z below #[Value.ref b] s) (F0 m 248 ls ((([] : List ev_V).map (ev_cv (lw_sg xs) ρm)).reverse ++ .ref (ρm 0) :: [.int (ev_spc sp_code (lw_sg xs))])) → W p l e room_1 s m #[Value.ref b] below meth c H locs (cells + 0) (slots + 0) (lw_Z below #[Value.ref b] s) g := by
    intro g hg h
    subst hg
    have es : (([] : List ev_V).map (ev_cv (lw_sg xs) ρm)).reverse = [] := by
      rfl
    rw [es] at h
    exact h
  refine K1 _ rfl ?_
  refine lw_pub (x := 71) (m1 := mt_71) (as' := []) (wr := []) (fs := fm) (ci := 11) rfl hall1 hsat1 (by decide) (by decide) hfm (by decide +kernel) (by decide +kernel) hx hb hml hown hts hK hA (by rw [List.append_nil]; exact hP) (by rw [List.append_nil]; exact hD) hS ⟨ev_tb_in 8 (List.mem_of_getElem? (i := 105) (by decide +kernel)), ev_tb_in 8 (List.mem_of_getElem? (i := 106) (by decide +kernel)), ev_tb_in 8 (List.mem_of_getElem? (i := 107) (by decide +kernel)), ev_tb_in 1 (List.mem_of_getElem? (i := 9) (by decide +kernel))⟩ ⟨by decide +kernel, by decide +kernel, by decide +kernel⟩ hl.1 (by simp [Value.category]) dl_248 ⟨by show cells + 0 + 0 ≤ 600000; omega, by show slots + 0 + 0 ≤ 7302250; omega⟩ (fun H locs hP hD hS => ?_)
  exact lv_icmp_eq (tgt := 719) hx hb dl_251 (by decide) (fun _ => lw_back C1 hS hl (by show cells + 0 + 0 ≤ 600000; omega) (by show slots + 0 + 0 ≤ 7302250; omega)) (fun h => absurd rfl h)
set_option maxHeartbeats 4000000 in
theorem lw_c4 {p : Program} {l : Launch} {e : Env} {s : State} {m : MethodId} {below : List Frame} {meth : Method} {c : Code} {b : Nat} {xs : Nat → Int32} {H : Heap} {locs : List Loc} {ls : Array Slot} {dC : Nat → ClassId} {dI : Nat → Nat → Nat} {ca : Nat → ClassId} {ρx ρm : Nat → Nat} {cells slots : Nat} (C0 : lw_At p s m meth c b 6 xs) (hK : va_K (dC, dI) ev_cl (ev_ty ca) s) (hcl : cells ≤ 1000) (hsl : slots ≤ 1000000) (hj : (xs 0 &&& 31).toNatClampNeg = 4) (hP : va_P (dC, dI) ev_cl (ev_wl (lw_sg xs) ρx ca ev_hxx 50 ++ ev_wl (lw_sg xs) ρm ca ev_hmm 39) H) (hD : va_D (fun q : Nat => s.heap.size ≤ q) (ev_wl (lw_sg xs) ρx ca ev_hxx 50 ++ ev_wl (lw_sg xs) ρm ca ev_hmm 39)) (hS : va_S (fun q : Nat => s.heap.size ≤ q) s.heap H locs) (hl : lv_has ls 4 [(0, .ref b), (1, .ref (ρx 0)), (2, .ref (ρm 0)), (3, .int 0)]) : W p l e room_1 s m #[Value.ref b] below meth c H locs cells slots (lw_Z below #[Value.ref b] s) (F0 m 256 ls []) := by
  have C1 := C0
  obtain ⟨hx, hb, hr, hml, hown, hts, hX, hbl, hlocks, hgv⟩ := C0
  have hA : ∀ q : Nat, s.heap.size ≤ q → (fun q : Nat => s.heap.size ≤ q) q := fun _ h => h
  have sg0 : lw_sg xs 0 = xs 1 := by unfold lw_sg; rw [hj] <;> rfl
  obtain ⟨fx, hfx⟩ := ev_hxx_0
  obtain ⟨fm, hfm⟩ := ev_hmm_0
  obtain ⟨env0, hsat0, hall0⟩ := pb_xx_fault (lw_sg xs)
  refine lv_aload_n hx hb dl_256 rfl (lv_at hl 1 rfl) ?_
  refine lw_arg C1 hS hl (k := 1) (by decide) dl_257 dl_258 dl_259 dl_260 dl_261 ?_
  have K0 : ∀ g, g = F0 m 262 ls (.int (xs 1) :: .ref (ρx 0) :: []) → W p l e room_1 s m #[Value.ref b] below meth c H locs cells slots (lw_Z below #[Value.ref b] s) (F0 m 262 ls ((([.inr (.inr (.inr (.inl (0, []))))] : List ev_V).map (ev_cv (lw_sg xs) ρx)).reverse ++ .ref (ρx 0) :: [])) → W p l e room_1 s m #[Value.ref b] below meth c H locs cells slots (lw_Z below #[Value.ref b] s) g := by
    intro g hg h
    subst hg
    have es : (([.inr (.inr (.inr (.inl (0, []))))] : List ev_V).map (ev_cv (lw_sg xs) ρx)).reverse = [.int (xs 1)] := by
      rw [show xs 1 = lw_sg xs 0 from sg0.symm]
      rfl
    rw [es] at h
    exact h
  refine K0 _ rfl ?_
  refine lw_pub (x := 75) (m1 := mt_75) (as' := [.inr (.inr (.inr (.inl (0, []))))]) (wr := ev_wl (lw_sg xs) ρm ca ev_hmm 39) (fs := fx) (ci := 0) rfl hall0 hsat0 (by decide) (by decide) hfx (by decide +kernel) (by decide +kernel) hx hb hml hown hts hK hA hP hD hS ⟨ev_tb_in 3 (List.mem_of_getElem? (i := 169) (by decide +kernel)), ev_tb_in 3 (List.mem_of_getElem? (i := 170) (by decide +kernel)), ev_tb_in 3 (List.mem_of_getElem? (i := 171) (by decide +kernel)), ev_tb_in 1 (List.mem_of_getElem? (i := 1) (by decide +kernel))⟩ ⟨by decide +kernel, by decide +kernel, by decide +kernel⟩ hl.1 (by simp) dl_262 ⟨by show cells + 0 ≤ 600000; omega, by show slots + 0 ≤ 7302250; omega⟩ (fun H locs hP hD hS => ?_)
  obtain ⟨env1, hsat1, hall1⟩ := pb_mm_fault (lw_sg xs)
  refine lv_aload_n hx hb dl_265 rfl (lv_at hl 2 rfl) ?_
  refine lw_arg C1 hS hl (k := 1) (by decide) dl_266 dl_267 dl_268 dl_269 dl_270 ?_
  have K1 : ∀ g, g = F0 m 271 ls (.int (xs 1) :: .ref (ρm 0) :: [.int (ev_spc sp_fault (lw_sg xs))]) → W p l e room_1 s m #[Value.ref b] below meth c H locs (cells + 0) (slots + 0) (lw_Z below #[Value.ref b] s) (F0 m 271 ls ((([.inr (.inr (.inr (.inl (0, []))))] : List ev_V).map (ev_cv (lw_sg xs) ρm)).reverse ++ .ref (ρm 0) :: [.int (ev_spc sp_fault (lw_sg xs))])) → W p l e room_1 s m #[Value.ref b] below meth c H locs (cells + 0) (slots + 0) (lw_Z below #[Value.ref b] s) g := by
    intro g hg h
    subst hg
    have es : (([.inr (.inr (.inr (.inl (0, []))))] : List ev_V).map (ev_cv (lw_sg xs) ρm)).reverse = [.int (xs 1)] := by
      rw [show xs 1 = lw_sg xs 0 from sg0.symm]
      rfl
    rw [es] at h
    exact h
  refine K1 _ rfl ?_
  refine lw_pub (x := 76) (m1 := mt_76) (as' := [.inr (.inr (.inr (.inl (0, []))))]) (wr := []) (fs := fm) (ci := 11) rfl hall1 hsat1 (by decide) (by decide) hfm (by decide +kernel) (by decide +kernel) hx hb hml hown hts hK hA (by rw [List.append_nil]; exact hP) (by rw [List.append_nil]; exact hD) hS ⟨ev_tb_in 8 (List.mem_of_getElem? (i := 189) (by decide +kernel)), ev_tb_in 8 (List.mem_of_getElem? (i := 190) (by decide +kernel)), ev_tb_in 8 (List.mem_of_getElem? (i := 191) (by decide +kernel)), ev_tb_in 1 (List.mem_of_getElem? (i := 9) (by decide +kernel))⟩ ⟨by decide +kernel, by decide +kernel, by decide +kernel⟩ hl.1 (by simp [Value.category]) dl_271 ⟨by show cells + 0 + 0 ≤ 600000; omega, by show slots + 0 + 0 ≤ 7302250; omega⟩ (fun H locs hP hD hS => ?_)
  exact lv_icmp_eq (tgt := 719) hx hb dl_274 (by decide) (fun _ => lw_back C1 hS hl (by show cells + 0 + 0 ≤ 600000; omega) (by show slots + 0 + 0 ≤ 7302250; omega)) (fun h => absurd rfl h)
set_option maxHeartbeats 4000000 in
theorem lw_c5 {p : Program} {l : Launch} {e : Env} {s : State} {m : MethodId} {below : List Frame} {meth : Method} {c : Code} {b : Nat} {xs : Nat → Int32} {H : Heap} {locs : List Loc} {ls : Array Slot} {dC : Nat → ClassId} {dI : Nat → Nat → Nat} {ca : Nat → ClassId} {ρx ρm : Nat → Nat} {cells slots : Nat} (C0 : lw_At p s m meth c b 6 xs) (hK : va_K (dC, dI) ev_cl (ev_ty ca) s) (hcl : cells ≤ 1000) (hsl : slots ≤ 1000000) (hj : (xs 0 &&& 31).toNatClampNeg = 5) (hP : va_P (dC, dI) ev_cl (ev_wl (lw_sg xs) ρx ca ev_hxx 50 ++ ev_wl (lw_sg xs) ρm ca ev_hmm 39) H) (hD : va_D (fun q : Nat => s.heap.size ≤ q) (ev_wl (lw_sg xs) ρx ca ev_hxx 50 ++ ev_wl (lw_sg xs) ρm ca ev_hmm 39)) (hS : va_S (fun q : Nat => s.heap.size ≤ q) s.heap H locs) (hl : lv_has ls 4 [(0, .ref b), (1, .ref (ρx 0)), (2, .ref (ρm 0)), (3, .int 0)]) : W p l e room_1 s m #[Value.ref b] below meth c H locs cells slots (lw_Z below #[Value.ref b] s) (F0 m 279 ls []) := by
  have C1 := C0
  obtain ⟨hx, hb, hr, hml, hown, hts, hX, hbl, hlocks, hgv⟩ := C0
  have hA : ∀ q : Nat, s.heap.size ≤ q → (fun q : Nat => s.heap.size ≤ q) q := fun _ h => h
  have sg0 : lw_sg xs 0 = xs 1 := by unfold lw_sg; rw [hj] <;> rfl
  have sg1 : lw_sg xs 1 = lw_z (xs 2) := by unfold lw_sg; rw [hj] <;> rfl
  obtain ⟨fx, hfx⟩ := ev_hxx_0
  obtain ⟨fm, hfm⟩ := ev_hmm_0
  obtain ⟨env0, hsat0, hall0⟩ := pb_xx_input (lw_sg xs) (by rw [sg1]; exact lw_z01 _)
  refine lv_aload_n hx hb dl_279 rfl (lv_at hl 1 rfl) ?_
  refine lw_arg C1 hS hl (k := 1) (by decide) dl_280 dl_281 dl_282 dl_283 dl_284 ?_
  refine lw_argb C1 hS hl (k := 2) (by decide) dl_285 dl_286 dl_287 dl_288 dl_289 dl_290 dl_293 dl_294 dl_297 ?_
  have K0 : ∀ g, g = F0 m 298 ls (.int (lw_z (xs 2)) :: .int (xs 1) :: .ref (ρx 0) :: []) → W p l e room_1 s m #[Value.ref b] below meth c H locs cells slots (lw_Z below #[Value.ref b] s) (F0 m 298 ls ((([.inr (.inr (.inr (.inl (0, [])))), .inr (.inr (.inr (.inl (1, []))))] : List ev_V).map (ev_cv (lw_sg xs) ρx)).reverse ++ .ref (ρx 0) :: [])) → W p l e room_1 s m #[Value.ref b] below meth c H locs cells slots (lw_Z below #[Value.ref b] s) g := by
    intro g hg h
    subst hg
    have es : (([.inr (.inr (.inr (.inl (0, [])))), .inr (.inr (.inr (.inl (1, []))))] : List ev_V).map (ev_cv (lw_sg xs) ρx)).reverse = [.int (lw_z (xs 2)), .int (xs 1)] := by
      rw [show xs 1 = lw_sg xs 0 from sg0.symm, show lw_z (xs 2) = lw_sg xs 1 from sg1.symm]
      rfl
    rw [es] at h
    exact h
  refine K0 _ rfl ?_
  refine lw_pub (x := 77) (m1 := mt_77) (as' := [.inr (.inr (.inr (.inl (0, [])))), .inr (.inr (.inr (.inl (1, []))))]) (wr := ev_wl (lw_sg xs) ρm ca ev_hmm 39) (fs := fx) (ci := 0) rfl hall0 hsat0 (by decide) (by decide) hfx (by decide +kernel) (by decide +kernel) hx hb hml hown hts hK hA hP hD hS ⟨ev_tb_in 3 (List.mem_of_getElem? (i := 173) (by decide +kernel)), ev_tb_in 3 (List.mem_of_getElem? (i := 174) (by decide +kernel)), ev_tb_in 3 (List.mem_of_getElem? (i := 175) (by decide +kernel)), ev_tb_in 1 (List.mem_of_getElem? (i := 1) (by decide +kernel))⟩ ⟨by decide +kernel, by decide +kernel, by decide +kernel⟩ hl.1 (by simp) dl_298 ⟨by show cells + 0 ≤ 600000; omega, by show slots + 0 ≤ 7302250; omega⟩ (fun H locs hP hD hS => ?_)
  obtain ⟨env1, hsat1, hall1⟩ := pb_mm_input (lw_sg xs) (by rw [sg1]; exact lw_z01 _)
  refine lv_aload_n hx hb dl_301 rfl (lv_at hl 2 rfl) ?_
  refine lw_arg C1 hS hl (k := 1) (by decide) dl_302 dl_303 dl_304 dl_305 dl_306 ?_
  refine lw_argb C1 hS hl (k := 2) (by decide) dl_307 dl_308 dl_309 dl_310 dl_311 dl_312 dl_315 dl_316 dl_319 ?_
  have K1 : ∀ g, g = F0 m 320 ls (.int (lw_z (xs 2)) :: .int (xs 1) :: .ref (ρm 0) :: [.int (ev_spc sp_input (lw_sg xs))]) → W p l e room_1 s m #[Value.ref b] below meth c H locs (cells + 0) (slots + 0) (lw_Z below #[Value.ref b] s) (F0 m 320 ls ((([.inr (.inr (.inr (.inl (0, [])))), .inr (.inr (.inr (.inl (1, []))))] : List ev_V).map (ev_cv (lw_sg xs) ρm)).reverse ++ .ref (ρm 0) :: [.int (ev_spc sp_input (lw_sg xs))])) → W p l e room_1 s m #[Value.ref b] below meth c H locs (cells + 0) (slots + 0) (lw_Z below #[Value.ref b] s) g := by
    intro g hg h
    subst hg
    have es : (([.inr (.inr (.inr (.inl (0, [])))), .inr (.inr (.inr (.inl (1, []))))] : List ev_V).map (ev_cv (lw_sg xs) ρm)).reverse = [.int (lw_z (xs 2)), .int (xs 1)] := by
      rw [show xs 1 = lw_sg xs 0 from sg0.symm, show lw_z (xs 2) = lw_sg xs 1 from sg1.symm]
      rfl
    rw [es] at h
    exact h
  refine K1 _ rfl ?_
  refine lw_pub (x := 78) (m1 := mt_78) (as' := [.inr (.inr (.inr (.inl (0, [])))), .inr (.inr (.inr (.inl (1, []))))]) (wr := []) (fs := fm) (ci := 11) rfl hall1 hsat1 (by decide) (by decide) hfm (by decide +kernel) (by decide +kernel) hx hb hml hown hts hK hA (by rw [List.append_nil]; exact hP) (by rw [List.append_nil]; exact hD) hS ⟨ev_tb_in 8 (List.mem_of_getElem? (i := 193) (by decide +kernel)), ev_tb_in 8 (List.mem_of_getElem? (i := 194) (by decide +kernel)), ev_tb_in 8 (List.mem_of_getElem? (i := 195) (by decide +kernel)), ev_tb_in 1 (List.mem_of_getElem? (i := 9) (by decide +kernel))⟩ ⟨by decide +kernel, by decide +kernel, by decide +kernel⟩ hl.1 (by simp [Value.category]) dl_320 ⟨by show cells + 0 + 0 ≤ 600000; omega, by show slots + 0 + 0 ≤ 7302250; omega⟩ (fun H locs hP hD hS => ?_)
  exact lv_icmp_eq (tgt := 719) hx hb dl_323 (by decide) (fun _ => lw_back C1 hS hl (by show cells + 0 + 0 ≤ 600000; omega) (by show slots + 0 + 0 ≤ 7302250; omega)) (fun h => absurd rfl h)
set_option maxHeartbeats 4000000 in
theorem lw_c6 {p : Program} {l : Launch} {e : Env} {s : State} {m : MethodId} {below : List Frame} {meth : Method} {c : Code} {b : Nat} {xs : Nat → Int32} {H : Heap} {locs : List Loc} {ls : Array Slot} {dC : Nat → ClassId} {dI : Nat → Nat → Nat} {ca : Nat → ClassId} {ρx ρm : Nat → Nat} {cells slots : Nat} (C0 : lw_At p s m meth c b 6 xs) (hK : va_K (dC, dI) ev_cl (ev_ty ca) s) (hcl : cells ≤ 1000) (hsl : slots ≤ 1000000) (hj : (xs 0 &&& 31).toNatClampNeg = 6) (hP : va_P (dC, dI) ev_cl (ev_wl (lw_sg xs) ρx ca ev_hxx 50 ++ ev_wl (lw_sg xs) ρm ca ev_hmm 39) H) (hD : va_D (fun q : Nat => s.heap.size ≤ q) (ev_wl (lw_sg xs) ρx ca ev_hxx 50 ++ ev_wl (lw_sg xs) ρm ca ev_hmm 39)) (hS : va_S (fun q : Nat => s.heap.size ≤ q) s.heap H locs) (hl : lv_has ls 4 [(0, .ref b), (1, .ref (ρx 0)), (2, .ref (ρm 0)), (3, .int 0)]) : W p l e room_1 s m #[Value.ref b] below meth c H locs cells slots (lw_Z below #[Value.ref b] s) (F0 m 328 ls []) := by
  have C1 := C0
  obtain ⟨hx, hb, hr, hml, hown, hts, hX, hbl, hlocks, hgv⟩ := C0
  have hA : ∀ q : Nat, s.heap.size ≤ q → (fun q : Nat => s.heap.size ≤ q) q := fun _ h => h
  obtain ⟨fx, hfx⟩ := ev_hxx_0
  obtain ⟨fm, hfm⟩ := ev_hmm_0
  obtain ⟨env0, hsat0, hall0⟩ := pb_xx_allocate (lw_sg xs)
  refine lv_aload_n hx hb dl_328 rfl (lv_at hl 1 rfl) ?_
  have K0 : ∀ g, g = F0 m 329 ls (.ref (ρx 0) :: []) → W p l e room_1 s m #[Value.ref b] below meth c H locs cells slots (lw_Z below #[Value.ref b] s) (F0 m 329 ls ((([] : List ev_V).map (ev_cv (lw_sg xs) ρx)).reverse ++ .ref (ρx 0) :: [])) → W p l e room_1 s m #[Value.ref b] below meth c H locs cells slots (lw_Z below #[Value.ref b] s) g := by
    intro g hg h
    subst hg
    have es : (([] : List ev_V).map (ev_cv (lw_sg xs) ρx)).reverse = [] := by
      rfl
    rw [es] at h
    exact h
  refine K0 _ rfl ?_
  refine lw_pub (x := 79) (m1 := mt_79) (as' := []) (wr := ev_wl (lw_sg xs) ρm ca ev_hmm 39) (fs := fx) (ci := 0) rfl hall0 hsat0 (by decide) (by decide) hfx (by decide +kernel) (by decide +kernel) hx hb hml hown hts hK hA hP hD hS ⟨ev_tb_in 3 (List.mem_of_getElem? (i := 177) (by decide +kernel)), ev_tb_in 3 (List.mem_of_getElem? (i := 178) (by decide +kernel)), ev_tb_in 3 (List.mem_of_getElem? (i := 179) (by decide +kernel)), ev_tb_in 1 (List.mem_of_getElem? (i := 1) (by decide +kernel))⟩ ⟨by decide +kernel, by decide +kernel, by decide +kernel⟩ hl.1 (by simp) dl_329 ⟨by show cells + 43 ≤ 600000; omega, by show slots + 10700 ≤ 7302250; omega⟩ (fun H locs hP hD hS => ?_)
  obtain ⟨env1, hsat1, hall1⟩ := pb_mm_allocate (lw_sg xs)
  refine lv_aload_n hx hb dl_332 rfl (lv_at hl 2 rfl) ?_
  have K1 : ∀ g, g = F0 m 333 ls (.ref (ρm 0) :: [.int (ev_spc sp_allocate (lw_sg xs))]) → W p l e room_1 s m #[Value.ref b] below meth c H locs (cells + 43) (slots + 10700) (lw_Z below #[Value.ref b] s) (F0 m 333 ls ((([] : List ev_V).map (ev_cv (lw_sg xs) ρm)).reverse ++ .ref (ρm 0) :: [.int (ev_spc sp_allocate (lw_sg xs))])) → W p l e room_1 s m #[Value.ref b] below meth c H locs (cells + 43) (slots + 10700) (lw_Z below #[Value.ref b] s) g := by
    intro g hg h
    subst hg
    have es : (([] : List ev_V).map (ev_cv (lw_sg xs) ρm)).reverse = [] := by
      rfl
    rw [es] at h
    exact h
  refine K1 _ rfl ?_
  refine lw_pub (x := 94) (m1 := mt_94) (as' := []) (wr := []) (fs := fm) (ci := 11) rfl hall1 hsat1 (by decide) (by decide) hfm (by decide +kernel) (by decide +kernel) hx hb hml hown hts hK hA (by rw [List.append_nil]; exact hP) (by rw [List.append_nil]; exact hD) hS ⟨ev_tb_in 7 (List.mem_of_getElem? (i := 108) (by decide +kernel)), ev_tb_in 7 (List.mem_of_getElem? (i := 109) (by decide +kernel)), ev_tb_in 7 (List.mem_of_getElem? (i := 110) (by decide +kernel)), ev_tb_in 1 (List.mem_of_getElem? (i := 9) (by decide +kernel))⟩ ⟨by decide +kernel, by decide +kernel, by decide +kernel⟩ hl.1 (by simp [Value.category]) dl_333 ⟨by show cells + 43 + 0 ≤ 600000; omega, by show slots + 10700 + 0 ≤ 7302250; omega⟩ (fun H locs hP hD hS => ?_)
  exact lv_icmp_eq (tgt := 719) hx hb dl_336 (by decide) (fun _ => lw_back C1 hS hl (by show cells + 43 + 0 ≤ 600000; omega) (by show slots + 10700 + 0 ≤ 7302250; omega)) (fun h => absurd rfl h)
set_option maxHeartbeats 4000000 in
theorem lw_c7 {p : Program} {l : Launch} {e : Env} {s : State} {m : MethodId} {below : List Frame} {meth : Method} {c : Code} {b : Nat} {xs : Nat → Int32} {H : Heap} {locs : List Loc} {ls : Array Slot} {dC : Nat → ClassId} {dI : Nat → Nat → Nat} {ca : Nat → ClassId} {ρx ρm : Nat → Nat} {cells slots : Nat} (C0 : lw_At p s m meth c b 6 xs) (hK : va_K (dC, dI) ev_cl (ev_ty ca) s) (hcl : cells ≤ 1000) (hsl : slots ≤ 1000000) (hj : (xs 0 &&& 31).toNatClampNeg = 7) (hP : va_P (dC, dI) ev_cl (ev_wl (lw_sg xs) ρx ca ev_hxx 50 ++ ev_wl (lw_sg xs) ρm ca ev_hmm 39) H) (hD : va_D (fun q : Nat => s.heap.size ≤ q) (ev_wl (lw_sg xs) ρx ca ev_hxx 50 ++ ev_wl (lw_sg xs) ρm ca ev_hmm 39)) (hS : va_S (fun q : Nat => s.heap.size ≤ q) s.heap H locs) (hl : lv_has ls 4 [(0, .ref b), (1, .ref (ρx 0)), (2, .ref (ρm 0)), (3, .int 0)]) : W p l e room_1 s m #[Value.ref b] below meth c H locs cells slots (lw_Z below #[Value.ref b] s) (F0 m 341 ls []) := by
  have C1 := C0
  obtain ⟨hx, hb, hr, hml, hown, hts, hX, hbl, hlocks, hgv⟩ := C0
  have hA : ∀ q : Nat, s.heap.size ≤ q → (fun q : Nat => s.heap.size ≤ q) q := fun _ h => h
  have sg0 : lw_sg xs 0 = xs 1 := by unfold lw_sg; rw [hj] <;> rfl
  have sg1 : lw_sg xs 1 = lw_z (xs 2) := by unfold lw_sg; rw [hj] <;> rfl
  have sg2 : lw_sg xs 2 = xs 3 := by unfold lw_sg; rw [hj] <;> rfl
  obtain ⟨fx, hfx⟩ := ev_hxx_0
  obtain ⟨fm, hfm⟩ := ev_hmm_0
  obtain ⟨env0, hsat0, hall0⟩ := pb_xx_step (lw_sg xs) (by rw [sg1]; exact lw_z01 _)
  refine lv_aload_n hx hb dl_341 rfl (lv_at hl 1 rfl) ?_
  refine lw_arg C1 hS hl (k := 1) (by decide) dl_342 dl_343 dl_344 dl_345 dl_346 ?_
  refine lw_argb C1 hS hl (k := 2) (by decide) dl_347 dl_348 dl_349 dl_350 dl_351 dl_352 dl_355 dl_356 dl_359 ?_
  refine lw_arg C1 hS hl (k := 3) (by decide) dl_360 dl_361 dl_362 dl_363 dl_364 ?_
  have K0 : ∀ g, g = F0 m 365 ls (.int (xs 3) :: .int (lw_z (xs 2)) :: .int (xs 1) :: .ref (ρx 0) :: []) → W p l e room_1 s m #[Value.ref b] below meth c H locs cells slots (lw_Z below #[Value.ref b] s) (F0 m 365 ls ((([.inr (.inr (.inr (.inl (0, [])))), .inr (.inr (.inr (.inl (1, [])))), .inr (.inr (.inr (.inl (2, []))))] : List ev_V).map (ev_cv (lw_sg xs) ρx)).reverse ++ .ref (ρx 0) :: [])) → W p l e room_1 s m #[Value.ref b] below meth c H locs cells slots (lw_Z below #[Value.ref b] s) g := by
    intro g hg h
    subst hg
    have es : (([.inr (.inr (.inr (.inl (0, [])))), .inr (.inr (.inr (.inl (1, [])))), .inr (.inr (.inr (.inl (2, []))))] : List ev_V).map (ev_cv (lw_sg xs) ρx)).reverse = [.int (xs 3), .int (lw_z (xs 2)), .int (xs 1)] := by
      rw [show xs 1 = lw_sg xs 0 from sg0.symm, show lw_z (xs 2) = lw_sg xs 1 from sg1.symm, show xs 3 = lw_sg xs 2 from sg2.symm]
      rfl
    rw [es] at h
    exact h
  refine K0 _ rfl ?_
  refine lw_pub (x := 101) (m1 := mt_101) (as' := [.inr (.inr (.inr (.inl (0, [])))), .inr (.inr (.inr (.inl (1, [])))), .inr (.inr (.inr (.inl (2, []))))]) (wr := ev_wl (lw_sg xs) ρm ca ev_hmm 39) (fs := fx) (ci := 0) rfl hall0 hsat0 (by decide) (by decide) hfx (by decide +kernel) (by decide +kernel) hx hb hml hown hts hK hA hP hD hS ⟨ev_tb_in 5 (List.mem_of_getElem? (i := 85) (by decide +kernel)), ev_tb_in 5 (List.mem_of_getElem? (i := 86) (by decide +kernel)), ev_tb_in 5 (List.mem_of_getElem? (i := 87) (by decide +kernel)), ev_tb_in 1 (List.mem_of_getElem? (i := 1) (by decide +kernel))⟩ ⟨by decide +kernel, by decide +kernel, by decide +kernel⟩ hl.1 (by simp) dl_365 ⟨by show cells + 0 ≤ 600000; omega, by show slots + 0 ≤ 7302250; omega⟩ (fun H locs hP hD hS => ?_)
  obtain ⟨env1, hsat1, hall1⟩ := pb_mm_step (lw_sg xs) (by rw [sg1]; exact lw_z01 _)
  refine lv_aload_n hx hb dl_368 rfl (lv_at hl 2 rfl) ?_
  refine lw_arg C1 hS hl (k := 1) (by decide) dl_369 dl_370 dl_371 dl_372 dl_373 ?_
  refine lw_argb C1 hS hl (k := 2) (by decide) dl_374 dl_375 dl_376 dl_377 dl_378 dl_379 dl_382 dl_383 dl_386 ?_
  refine lw_arg C1 hS hl (k := 3) (by decide) dl_387 dl_388 dl_389 dl_390 dl_391 ?_
  have K1 : ∀ g, g = F0 m 392 ls (.int (xs 3) :: .int (lw_z (xs 2)) :: .int (xs 1) :: .ref (ρm 0) :: [.int (ev_spc sp_step (lw_sg xs))]) → W p l e room_1 s m #[Value.ref b] below meth c H locs (cells + 0) (slots + 0) (lw_Z below #[Value.ref b] s) (F0 m 392 ls ((([.inr (.inr (.inr (.inl (0, [])))), .inr (.inr (.inr (.inl (1, [])))), .inr (.inr (.inr (.inl (2, []))))] : List ev_V).map (ev_cv (lw_sg xs) ρm)).reverse ++ .ref (ρm 0) :: [.int (ev_spc sp_step (lw_sg xs))])) → W p l e room_1 s m #[Value.ref b] below meth c H locs (cells + 0) (slots + 0) (lw_Z below #[Value.ref b] s) g := by
    intro g hg h
    subst hg
    have es : (([.inr (.inr (.inr (.inl (0, [])))), .inr (.inr (.inr (.inl (1, [])))), .inr (.inr (.inr (.inl (2, []))))] : List ev_V).map (ev_cv (lw_sg xs) ρm)).reverse = [.int (xs 3), .int (lw_z (xs 2)), .int (xs 1)] := by
      rw [show xs 1 = lw_sg xs 0 from sg0.symm, show lw_z (xs 2) = lw_sg xs 1 from sg1.symm, show xs 3 = lw_sg xs 2 from sg2.symm]
      rfl
    rw [es] at h
    exact h
  refine K1 _ rfl ?_
  refine lw_pub (x := 102) (m1 := mt_102) (as' := [.inr (.inr (.inr (.inl (0, [])))), .inr (.inr (.inr (.inl (1, [])))), .inr (.inr (.inr (.inl (2, []))))]) (wr := []) (fs := fm) (ci := 11) rfl hall1 hsat1 (by decide) (by decide) hfm (by decide +kernel) (by decide +kernel) hx hb hml hown hts hK hA (by rw [List.append_nil]; exact hP) (by rw [List.append_nil]; exact hD) hS ⟨ev_tb_in 9 (List.mem_of_getElem? (i := 16) (by decide +kernel)), ev_tb_in 9 (List.mem_of_getElem? (i := 17) (by decide +kernel)), ev_tb_in 9 (List.mem_of_getElem? (i := 18) (by decide +kernel)), ev_tb_in 1 (List.mem_of_getElem? (i := 9) (by decide +kernel))⟩ ⟨by decide +kernel, by decide +kernel, by decide +kernel⟩ hl.1 (by simp [Value.category]) dl_392 ⟨by show cells + 0 + 0 ≤ 600000; omega, by show slots + 0 + 0 ≤ 7302250; omega⟩ (fun H locs hP hD hS => ?_)
  exact lv_icmp_eq (tgt := 719) hx hb dl_395 (by decide) (fun _ => lw_back C1 hS hl (by show cells + 0 + 0 ≤ 600000; omega) (by show slots + 0 + 0 ≤ 7302250; omega)) (fun h => absurd rfl h)
set_option maxHeartbeats 4000000 in
theorem lw_c8 {p : Program} {l : Launch} {e : Env} {s : State} {m : MethodId} {below : List Frame} {meth : Method} {c : Code} {b : Nat} {xs : Nat → Int32} {H : Heap} {locs : List Loc} {ls : Array Slot} {dC : Nat → ClassId} {dI : Nat → Nat → Nat} {ca : Nat → ClassId} {ρx ρm : Nat → Nat} {cells slots : Nat} (C0 : lw_At p s m meth c b 6 xs) (hK : va_K (dC, dI) ev_cl (ev_ty ca) s) (hcl : cells ≤ 1000) (hsl : slots ≤ 1000000) (hj : (xs 0 &&& 31).toNatClampNeg = 8) (hP : va_P (dC, dI) ev_cl (ev_wl (lw_sg xs) ρx ca ev_hxx 50 ++ ev_wl (lw_sg xs) ρm ca ev_hmm 39) H) (hD : va_D (fun q : Nat => s.heap.size ≤ q) (ev_wl (lw_sg xs) ρx ca ev_hxx 50 ++ ev_wl (lw_sg xs) ρm ca ev_hmm 39)) (hS : va_S (fun q : Nat => s.heap.size ≤ q) s.heap H locs) (hl : lv_has ls 4 [(0, .ref b), (1, .ref (ρx 0)), (2, .ref (ρm 0)), (3, .int 0)]) : W p l e room_1 s m #[Value.ref b] below meth c H locs cells slots (lw_Z below #[Value.ref b] s) (F0 m 400 ls []) := by
  have C1 := C0
  obtain ⟨hx, hb, hr, hml, hown, hts, hX, hbl, hlocks, hgv⟩ := C0
  have hA : ∀ q : Nat, s.heap.size ≤ q → (fun q : Nat => s.heap.size ≤ q) q := fun _ h => h
  have sg0 : lw_sg xs 0 = xs 1 := by unfold lw_sg; rw [hj] <;> rfl
  have sg1 : lw_sg xs 1 = xs 2 := by unfold lw_sg; rw [hj] <;> rfl
  obtain ⟨fx, hfx⟩ := ev_hxx_0
  obtain ⟨fm, hfm⟩ := ev_hmm_0
  obtain ⟨env0, hsat0, hall0⟩ := pb_xx_live (lw_sg xs)
  refine lv_aload_n hx hb dl_400 rfl (lv_at hl 1 rfl) ?_
  refine lw_arg C1 hS hl (k := 1) (by decide) dl_401 dl_402 dl_403 dl_404 dl_405 ?_
  refine lw_arg C1 hS hl (k := 2) (by decide) dl_406 dl_407 dl_408 dl_409 dl_410 ?_
  have K0 : ∀ g, g = F0 m 411 ls (.int (xs 2) :: .int (xs 1) :: .ref (ρx 0) :: []) → W p l e room_1 s m #[Value.ref b] below meth c H locs cells slots (lw_Z below #[Value.ref b] s) (F0 m 411 ls ((([.inr (.inr (.inr (.inl (0, [])))), .inr (.inr (.inr (.inl (1, []))))] : List ev_V).map (ev_cv (lw_sg xs) ρx)).reverse ++ .ref (ρx 0) :: [])) → W p l e room_1 s m #[Value.ref b] below meth c H locs cells slots (lw_Z below #[Value.ref b] s) g := by
    intro g hg h
    subst hg
    have es : (([.inr (.inr (.inr (.inl (0, [])))), .inr (.inr (.inr (.inl (1, []))))] : List ev_V).map (ev_cv (lw_sg xs) ρx)).reverse = [.int (xs 2), .int (xs 1)] := by
      rw [show xs 1 = lw_sg xs 0 from sg0.symm, show xs 2 = lw_sg xs 1 from sg1.symm]
      rfl
    rw [es] at h
    exact h
  refine K0 _ rfl ?_
  refine lw_pub (x := 103) (m1 := mt_103) (as' := [.inr (.inr (.inr (.inl (0, [])))), .inr (.inr (.inr (.inl (1, []))))]) (wr := ev_wl (lw_sg xs) ρm ca ev_hmm 39) (fs := fx) (ci := 0) rfl hall0 hsat0 (by decide) (by decide) hfx (by decide +kernel) (by decide +kernel) hx hb hml hown hts hK hA hP hD hS ⟨ev_tb_in 5 (List.mem_of_getElem? (i := 98) (by decide +kernel)), ev_tb_in 5 (List.mem_of_getElem? (i := 99) (by decide +kernel)), ev_tb_in 5 (List.mem_of_getElem? (i := 100) (by decide +kernel)), ev_tb_in 1 (List.mem_of_getElem? (i := 1) (by decide +kernel))⟩ ⟨by decide +kernel, by decide +kernel, by decide +kernel⟩ hl.1 (by simp) dl_411 ⟨by show cells + 0 ≤ 600000; omega, by show slots + 0 ≤ 7302250; omega⟩ (fun H locs hP hD hS => ?_)
  obtain ⟨env1, hsat1, hall1⟩ := pb_mm_live (lw_sg xs)
  refine lv_aload_n hx hb dl_414 rfl (lv_at hl 2 rfl) ?_
  refine lw_arg C1 hS hl (k := 1) (by decide) dl_415 dl_416 dl_417 dl_418 dl_419 ?_
  refine lw_arg C1 hS hl (k := 2) (by decide) dl_420 dl_421 dl_422 dl_423 dl_424 ?_
  have K1 : ∀ g, g = F0 m 425 ls (.int (xs 2) :: .int (xs 1) :: .ref (ρm 0) :: [.int (ev_spc sp_live (lw_sg xs))]) → W p l e room_1 s m #[Value.ref b] below meth c H locs (cells + 0) (slots + 0) (lw_Z below #[Value.ref b] s) (F0 m 425 ls ((([.inr (.inr (.inr (.inl (0, [])))), .inr (.inr (.inr (.inl (1, []))))] : List ev_V).map (ev_cv (lw_sg xs) ρm)).reverse ++ .ref (ρm 0) :: [.int (ev_spc sp_live (lw_sg xs))])) → W p l e room_1 s m #[Value.ref b] below meth c H locs (cells + 0) (slots + 0) (lw_Z below #[Value.ref b] s) g := by
    intro g hg h
    subst hg
    have es : (([.inr (.inr (.inr (.inl (0, [])))), .inr (.inr (.inr (.inl (1, []))))] : List ev_V).map (ev_cv (lw_sg xs) ρm)).reverse = [.int (xs 2), .int (xs 1)] := by
      rw [show xs 1 = lw_sg xs 0 from sg0.symm, show xs 2 = lw_sg xs 1 from sg1.symm]
      rfl
    rw [es] at h
    exact h
  refine K1 _ rfl ?_
  refine lw_pub (x := 104) (m1 := mt_104) (as' := [.inr (.inr (.inr (.inl (0, [])))), .inr (.inr (.inr (.inl (1, []))))]) (wr := []) (fs := fm) (ci := 11) rfl hall1 hsat1 (by decide) (by decide) hfm (by decide +kernel) (by decide +kernel) hx hb hml hown hts hK hA (by rw [List.append_nil]; exact hP) (by rw [List.append_nil]; exact hD) hS ⟨ev_tb_in 9 (List.mem_of_getElem? (i := 20) (by decide +kernel)), ev_tb_in 9 (List.mem_of_getElem? (i := 21) (by decide +kernel)), ev_tb_in 9 (List.mem_of_getElem? (i := 22) (by decide +kernel)), ev_tb_in 1 (List.mem_of_getElem? (i := 9) (by decide +kernel))⟩ ⟨by decide +kernel, by decide +kernel, by decide +kernel⟩ hl.1 (by simp [Value.category]) dl_425 ⟨by show cells + 0 + 0 ≤ 600000; omega, by show slots + 0 + 0 ≤ 7302250; omega⟩ (fun H locs hP hD hS => ?_)
  exact lv_icmp_eq (tgt := 719) hx hb dl_428 (by decide) (fun _ => lw_back C1 hS hl (by show cells + 0 + 0 ≤ 600000; omega) (by show slots + 0 + 0 ≤ 7302250; omega)) (fun h => absurd rfl h)
set_option maxHeartbeats 4000000 in
theorem lw_c9 {p : Program} {l : Launch} {e : Env} {s : State} {m : MethodId} {below : List Frame} {meth : Method} {c : Code} {b : Nat} {xs : Nat → Int32} {H : Heap} {locs : List Loc} {ls : Array Slot} {dC : Nat → ClassId} {dI : Nat → Nat → Nat} {ca : Nat → ClassId} {ρx ρm : Nat → Nat} {cells slots : Nat} (C0 : lw_At p s m meth c b 6 xs) (hK : va_K (dC, dI) ev_cl (ev_ty ca) s) (hcl : cells ≤ 1000) (hsl : slots ≤ 1000000) (hj : (xs 0 &&& 31).toNatClampNeg = 9) (hP : va_P (dC, dI) ev_cl (ev_wl (lw_sg xs) ρx ca ev_hxx 50 ++ ev_wl (lw_sg xs) ρm ca ev_hmm 39) H) (hD : va_D (fun q : Nat => s.heap.size ≤ q) (ev_wl (lw_sg xs) ρx ca ev_hxx 50 ++ ev_wl (lw_sg xs) ρm ca ev_hmm 39)) (hS : va_S (fun q : Nat => s.heap.size ≤ q) s.heap H locs) (hl : lv_has ls 4 [(0, .ref b), (1, .ref (ρx 0)), (2, .ref (ρm 0)), (3, .int 0)]) : W p l e room_1 s m #[Value.ref b] below meth c H locs cells slots (lw_Z below #[Value.ref b] s) (F0 m 433 ls []) := by
  have C1 := C0
  obtain ⟨hx, hb, hr, hml, hown, hts, hX, hbl, hlocks, hgv⟩ := C0
  have hA : ∀ q : Nat, s.heap.size ≤ q → (fun q : Nat => s.heap.size ≤ q) q := fun _ h => h
  have sg0 : lw_sg xs 0 = xs 1 := by unfold lw_sg; rw [hj] <;> rfl
  have sg1 : lw_sg xs 1 = xs 2 := by unfold lw_sg; rw [hj] <;> rfl
  obtain ⟨fx, hfx⟩ := ev_hxx_0
  obtain ⟨fm, hfm⟩ := ev_hmm_0
  obtain ⟨env0, hsat0, hall0⟩ := pb_xx_value (lw_sg xs)
  refine lv_aload_n hx hb dl_433 rfl (lv_at hl 1 rfl) ?_
  refine lw_arg C1 hS hl (k := 1) (by decide) dl_434 dl_435 dl_436 dl_437 dl_438 ?_
  refine lw_arg C1 hS hl (k := 2) (by decide) dl_439 dl_440 dl_441 dl_442 dl_443 ?_
  have K0 : ∀ g, g = F0 m 444 ls (.int (xs 2) :: .int (xs 1) :: .ref (ρx 0) :: []) → W p l e room_1 s m #[Value.ref b] below meth c H locs cells slots (lw_Z below #[Value.ref b] s) (F0 m 444 ls ((([.inr (.inr (.inr (.inl (0, [])))), .inr (.inr (.inr (.inl (1, []))))] : List ev_V).map (ev_cv (lw_sg xs) ρx)).reverse ++ .ref (ρx 0) :: [])) → W p l e room_1 s m #[Value.ref b] below meth c H locs cells slots (lw_Z below #[Value.ref b] s) g := by
    intro g hg h
    subst hg
    have es : (([.inr (.inr (.inr (.inl (0, [])))), .inr (.inr (.inr (.inl (1, []))))] : List ev_V).map (ev_cv (lw_sg xs) ρx)).reverse = [.int (xs 2), .int (xs 1)] := by
      rw [show xs 1 = lw_sg xs 0 from sg0.symm, show xs 2 = lw_sg xs 1 from sg1.symm]
      rfl
    rw [es] at h
    exact h
  refine K0 _ rfl ?_
  refine lw_pub (x := 105) (m1 := mt_105) (as' := [.inr (.inr (.inr (.inl (0, [])))), .inr (.inr (.inr (.inl (1, []))))]) (wr := ev_wl (lw_sg xs) ρm ca ev_hmm 39) (fs := fx) (ci := 0) rfl hall0 hsat0 (by decide) (by decide) hfx (by decide +kernel) (by decide +kernel) hx hb hml hown hts hK hA hP hD hS ⟨ev_tb_in 5 (List.mem_of_getElem? (i := 113) (by decide +kernel)), ev_tb_in 5 (List.mem_of_getElem? (i := 114) (by decide +kernel)), ev_tb_in 5 (List.mem_of_getElem? (i := 115) (by decide +kernel)), ev_tb_in 1 (List.mem_of_getElem? (i := 1) (by decide +kernel))⟩ ⟨by decide +kernel, by decide +kernel, by decide +kernel⟩ hl.1 (by simp) dl_444 ⟨by show cells + 0 ≤ 600000; omega, by show slots + 0 ≤ 7302250; omega⟩ (fun H locs hP hD hS => ?_)
  obtain ⟨env1, hsat1, hall1⟩ := pb_mm_value (lw_sg xs)
  refine lv_aload_n hx hb dl_447 rfl (lv_at hl 2 rfl) ?_
  refine lw_arg C1 hS hl (k := 1) (by decide) dl_448 dl_449 dl_450 dl_451 dl_452 ?_
  refine lw_arg C1 hS hl (k := 2) (by decide) dl_453 dl_454 dl_455 dl_456 dl_457 ?_
  have K1 : ∀ g, g = F0 m 458 ls (.int (xs 2) :: .int (xs 1) :: .ref (ρm 0) :: [.int (ev_spc sp_value (lw_sg xs))]) → W p l e room_1 s m #[Value.ref b] below meth c H locs (cells + 0) (slots + 0) (lw_Z below #[Value.ref b] s) (F0 m 458 ls ((([.inr (.inr (.inr (.inl (0, [])))), .inr (.inr (.inr (.inl (1, []))))] : List ev_V).map (ev_cv (lw_sg xs) ρm)).reverse ++ .ref (ρm 0) :: [.int (ev_spc sp_value (lw_sg xs))])) → W p l e room_1 s m #[Value.ref b] below meth c H locs (cells + 0) (slots + 0) (lw_Z below #[Value.ref b] s) g := by
    intro g hg h
    subst hg
    have es : (([.inr (.inr (.inr (.inl (0, [])))), .inr (.inr (.inr (.inl (1, []))))] : List ev_V).map (ev_cv (lw_sg xs) ρm)).reverse = [.int (xs 2), .int (xs 1)] := by
      rw [show xs 1 = lw_sg xs 0 from sg0.symm, show xs 2 = lw_sg xs 1 from sg1.symm]
      rfl
    rw [es] at h
    exact h
  refine K1 _ rfl ?_
  refine lw_pub (x := 106) (m1 := mt_106) (as' := [.inr (.inr (.inr (.inl (0, [])))), .inr (.inr (.inr (.inl (1, []))))]) (wr := []) (fs := fm) (ci := 11) rfl hall1 hsat1 (by decide) (by decide) hfm (by decide +kernel) (by decide +kernel) hx hb hml hown hts hK hA (by rw [List.append_nil]; exact hP) (by rw [List.append_nil]; exact hD) hS ⟨ev_tb_in 9 (List.mem_of_getElem? (i := 28) (by decide +kernel)), ev_tb_in 9 (List.mem_of_getElem? (i := 29) (by decide +kernel)), ev_tb_in 9 (List.mem_of_getElem? (i := 30) (by decide +kernel)), ev_tb_in 1 (List.mem_of_getElem? (i := 9) (by decide +kernel))⟩ ⟨by decide +kernel, by decide +kernel, by decide +kernel⟩ hl.1 (by simp [Value.category]) dl_458 ⟨by show cells + 0 + 0 ≤ 600000; omega, by show slots + 0 + 0 ≤ 7302250; omega⟩ (fun H locs hP hD hS => ?_)
  exact lv_icmp_eq (tgt := 719) hx hb dl_461 (by decide) (fun _ => lw_back C1 hS hl (by show cells + 0 + 0 ≤ 600000; omega) (by show slots + 0 + 0 ≤ 7302250; omega)) (fun h => absurd rfl h)
set_option maxHeartbeats 4000000 in
theorem lw_c10 {p : Program} {l : Launch} {e : Env} {s : State} {m : MethodId} {below : List Frame} {meth : Method} {c : Code} {b : Nat} {xs : Nat → Int32} {H : Heap} {locs : List Loc} {ls : Array Slot} {dC : Nat → ClassId} {dI : Nat → Nat → Nat} {ca : Nat → ClassId} {ρx ρm : Nat → Nat} {cells slots : Nat} (C0 : lw_At p s m meth c b 6 xs) (hK : va_K (dC, dI) ev_cl (ev_ty ca) s) (hcl : cells ≤ 1000) (hsl : slots ≤ 1000000) (hj : (xs 0 &&& 31).toNatClampNeg = 10) (hP : va_P (dC, dI) ev_cl (ev_wl (lw_sg xs) ρx ca ev_hxx 50 ++ ev_wl (lw_sg xs) ρm ca ev_hmm 39) H) (hD : va_D (fun q : Nat => s.heap.size ≤ q) (ev_wl (lw_sg xs) ρx ca ev_hxx 50 ++ ev_wl (lw_sg xs) ρm ca ev_hmm 39)) (hS : va_S (fun q : Nat => s.heap.size ≤ q) s.heap H locs) (hl : lv_has ls 4 [(0, .ref b), (1, .ref (ρx 0)), (2, .ref (ρm 0)), (3, .int 0)]) : W p l e room_1 s m #[Value.ref b] below meth c H locs cells slots (lw_Z below #[Value.ref b] s) (F0 m 466 ls []) := by
  have C1 := C0
  obtain ⟨hx, hb, hr, hml, hown, hts, hX, hbl, hlocks, hgv⟩ := C0
  have hA : ∀ q : Nat, s.heap.size ≤ q → (fun q : Nat => s.heap.size ≤ q) q := fun _ h => h
  have sg0 : lw_sg xs 0 = xs 1 := by unfold lw_sg; rw [hj] <;> rfl
  have sg1 : lw_sg xs 1 = xs 2 := by unfold lw_sg; rw [hj] <;> rfl
  obtain ⟨fx, hfx⟩ := ev_hxx_0
  obtain ⟨fm, hfm⟩ := ev_hmm_0
  obtain ⟨env0, hsat0, hall0⟩ := pb_xx_edge (lw_sg xs)
  refine lv_aload_n hx hb dl_466 rfl (lv_at hl 1 rfl) ?_
  refine lw_arg C1 hS hl (k := 1) (by decide) dl_467 dl_468 dl_469 dl_470 dl_471 ?_
  refine lw_arg C1 hS hl (k := 2) (by decide) dl_472 dl_473 dl_474 dl_475 dl_476 ?_
  have K0 : ∀ g, g = F0 m 477 ls (.int (xs 2) :: .int (xs 1) :: .ref (ρx 0) :: []) → W p l e room_1 s m #[Value.ref b] below meth c H locs cells slots (lw_Z below #[Value.ref b] s) (F0 m 477 ls ((([.inr (.inr (.inr (.inl (0, [])))), .inr (.inr (.inr (.inl (1, []))))] : List ev_V).map (ev_cv (lw_sg xs) ρx)).reverse ++ .ref (ρx 0) :: [])) → W p l e room_1 s m #[Value.ref b] below meth c H locs cells slots (lw_Z below #[Value.ref b] s) g := by
    intro g hg h
    subst hg
    have es : (([.inr (.inr (.inr (.inl (0, [])))), .inr (.inr (.inr (.inl (1, []))))] : List ev_V).map (ev_cv (lw_sg xs) ρx)).reverse = [.int (xs 2), .int (xs 1)] := by
      rw [show xs 1 = lw_sg xs 0 from sg0.symm, show xs 2 = lw_sg xs 1 from sg1.symm]
      rfl
    rw [es] at h
    exact h
  refine K0 _ rfl ?_
  refine lw_pub (x := 107) (m1 := mt_107) (as' := [.inr (.inr (.inr (.inl (0, [])))), .inr (.inr (.inr (.inl (1, []))))]) (wr := ev_wl (lw_sg xs) ρm ca ev_hmm 39) (fs := fx) (ci := 0) rfl hall0 hsat0 (by decide) (by decide) hfx (by decide +kernel) (by decide +kernel) hx hb hml hown hts hK hA hP hD hS ⟨ev_tb_in 5 (List.mem_of_getElem? (i := 121) (by decide +kernel)), ev_tb_in 5 (List.mem_of_getElem? (i := 122) (by decide +kernel)), ev_tb_in 5 (List.mem_of_getElem? (i := 123) (by decide +kernel)), ev_tb_in 1 (List.mem_of_getElem? (i := 1) (by decide +kernel))⟩ ⟨by decide +kernel, by decide +kernel, by decide +kernel⟩ hl.1 (by simp) dl_477 ⟨by show cells + 0 ≤ 600000; omega, by show slots + 0 ≤ 7302250; omega⟩ (fun H locs hP hD hS => ?_)
  obtain ⟨env1, hsat1, hall1⟩ := pb_mm_edge (lw_sg xs)
  refine lv_aload_n hx hb dl_480 rfl (lv_at hl 2 rfl) ?_
  refine lw_arg C1 hS hl (k := 1) (by decide) dl_481 dl_482 dl_483 dl_484 dl_485 ?_
  refine lw_arg C1 hS hl (k := 2) (by decide) dl_486 dl_487 dl_488 dl_489 dl_490 ?_
  have K1 : ∀ g, g = F0 m 491 ls (.int (xs 2) :: .int (xs 1) :: .ref (ρm 0) :: [.int (ev_spc sp_edge (lw_sg xs))]) → W p l e room_1 s m #[Value.ref b] below meth c H locs (cells + 0) (slots + 0) (lw_Z below #[Value.ref b] s) (F0 m 491 ls ((([.inr (.inr (.inr (.inl (0, [])))), .inr (.inr (.inr (.inl (1, []))))] : List ev_V).map (ev_cv (lw_sg xs) ρm)).reverse ++ .ref (ρm 0) :: [.int (ev_spc sp_edge (lw_sg xs))])) → W p l e room_1 s m #[Value.ref b] below meth c H locs (cells + 0) (slots + 0) (lw_Z below #[Value.ref b] s) g := by
    intro g hg h
    subst hg
    have es : (([.inr (.inr (.inr (.inl (0, [])))), .inr (.inr (.inr (.inl (1, []))))] : List ev_V).map (ev_cv (lw_sg xs) ρm)).reverse = [.int (xs 2), .int (xs 1)] := by
      rw [show xs 1 = lw_sg xs 0 from sg0.symm, show xs 2 = lw_sg xs 1 from sg1.symm]
      rfl
    rw [es] at h
    exact h
  refine K1 _ rfl ?_
  refine lw_pub (x := 108) (m1 := mt_108) (as' := [.inr (.inr (.inr (.inl (0, [])))), .inr (.inr (.inr (.inl (1, []))))]) (wr := []) (fs := fm) (ci := 11) rfl hall1 hsat1 (by decide) (by decide) hfm (by decide +kernel) (by decide +kernel) hx hb hml hown hts hK hA (by rw [List.append_nil]; exact hP) (by rw [List.append_nil]; exact hD) hS ⟨ev_tb_in 9 (List.mem_of_getElem? (i := 32) (by decide +kernel)), ev_tb_in 9 (List.mem_of_getElem? (i := 33) (by decide +kernel)), ev_tb_in 9 (List.mem_of_getElem? (i := 34) (by decide +kernel)), ev_tb_in 1 (List.mem_of_getElem? (i := 9) (by decide +kernel))⟩ ⟨by decide +kernel, by decide +kernel, by decide +kernel⟩ hl.1 (by simp [Value.category]) dl_491 ⟨by show cells + 0 + 0 ≤ 600000; omega, by show slots + 0 + 0 ≤ 7302250; omega⟩ (fun H locs hP hD hS => ?_)
  exact lv_icmp_eq (tgt := 719) hx hb dl_494 (by decide) (fun _ => lw_back C1 hS hl (by show cells + 0 + 0 ≤ 600000; omega) (by show slots + 0 + 0 ≤ 7302250; omega)) (fun h => absurd rfl h)
set_option maxHeartbeats 4000000 in
theorem lw_c11 {p : Program} {l : Launch} {e : Env} {s : State} {m : MethodId} {below : List Frame} {meth : Method} {c : Code} {b : Nat} {xs : Nat → Int32} {H : Heap} {locs : List Loc} {ls : Array Slot} {dC : Nat → ClassId} {dI : Nat → Nat → Nat} {ca : Nat → ClassId} {ρx ρm : Nat → Nat} {cells slots : Nat} (C0 : lw_At p s m meth c b 6 xs) (hK : va_K (dC, dI) ev_cl (ev_ty ca) s) (hcl : cells ≤ 1000) (hsl : slots ≤ 1000000) (hj : (xs 0 &&& 31).toNatClampNeg = 11) (hP : va_P (dC, dI) ev_cl (ev_wl (lw_sg xs) ρx ca ev_hxx 50 ++ ev_wl (lw_sg xs) ρm ca ev_hmm 39) H) (hD : va_D (fun q : Nat => s.heap.size ≤ q) (ev_wl (lw_sg xs) ρx ca ev_hxx 50 ++ ev_wl (lw_sg xs) ρm ca ev_hmm 39)) (hS : va_S (fun q : Nat => s.heap.size ≤ q) s.heap H locs) (hl : lv_has ls 4 [(0, .ref b), (1, .ref (ρx 0)), (2, .ref (ρm 0)), (3, .int 0)]) : W p l e room_1 s m #[Value.ref b] below meth c H locs cells slots (lw_Z below #[Value.ref b] s) (F0 m 499 ls []) := by
  have C1 := C0
  obtain ⟨hx, hb, hr, hml, hown, hts, hX, hbl, hlocks, hgv⟩ := C0
  have hA : ∀ q : Nat, s.heap.size ≤ q → (fun q : Nat => s.heap.size ≤ q) q := fun _ h => h
  have sg0 : lw_sg xs 0 = xs 1 := by unfold lw_sg; rw [hj] <;> rfl
  have sg1 : lw_sg xs 1 = xs 2 := by unfold lw_sg; rw [hj] <;> rfl
  obtain ⟨fx, hfx⟩ := ev_hxx_0
  obtain ⟨fm, hfm⟩ := ev_hmm_0
  obtain ⟨env0, hsat0, hall0⟩ := pb_xx_colour (lw_sg xs)
  refine lv_aload_n hx hb dl_499 rfl (lv_at hl 1 rfl) ?_
  refine lw_arg C1 hS hl (k := 1) (by decide) dl_500 dl_501 dl_502 dl_503 dl_504 ?_
  refine lw_arg C1 hS hl (k := 2) (by decide) dl_505 dl_506 dl_507 dl_508 dl_509 ?_
  have K0 : ∀ g, g = F0 m 510 ls (.int (xs 2) :: .int (xs 1) :: .ref (ρx 0) :: []) → W p l e room_1 s m #[Value.ref b] below meth c H locs cells slots (lw_Z below #[Value.ref b] s) (F0 m 510 ls ((([.inr (.inr (.inr (.inl (0, [])))), .inr (.inr (.inr (.inl (1, []))))] : List ev_V).map (ev_cv (lw_sg xs) ρx)).reverse ++ .ref (ρx 0) :: [])) → W p l e room_1 s m #[Value.ref b] below meth c H locs cells slots (lw_Z below #[Value.ref b] s) g := by
    intro g hg h
    subst hg
    have es : (([.inr (.inr (.inr (.inl (0, [])))), .inr (.inr (.inr (.inl (1, []))))] : List ev_V).map (ev_cv (lw_sg xs) ρx)).reverse = [.int (xs 2), .int (xs 1)] := by
      rw [show xs 1 = lw_sg xs 0 from sg0.symm, show xs 2 = lw_sg xs 1 from sg1.symm]
      rfl
    rw [es] at h
    exact h
  refine K0 _ rfl ?_
  refine lw_pub (x := 109) (m1 := mt_109) (as' := [.inr (.inr (.inr (.inl (0, [])))), .inr (.inr (.inr (.inl (1, []))))]) (wr := ev_wl (lw_sg xs) ρm ca ev_hmm 39) (fs := fx) (ci := 0) rfl hall0 hsat0 (by decide) (by decide) hfx (by decide +kernel) (by decide +kernel) hx hb hml hown hts hK hA hP hD hS ⟨ev_tb_in 5 (List.mem_of_getElem? (i := 126) (by decide +kernel)), ev_tb_in 5 (List.mem_of_getElem? (i := 127) (by decide +kernel)), ev_tb_in 5 (List.mem_of_getElem? (i := 128) (by decide +kernel)), ev_tb_in 1 (List.mem_of_getElem? (i := 1) (by decide +kernel))⟩ ⟨by decide +kernel, by decide +kernel, by decide +kernel⟩ hl.1 (by simp) dl_510 ⟨by show cells + 0 ≤ 600000; omega, by show slots + 0 ≤ 7302250; omega⟩ (fun H locs hP hD hS => ?_)
  obtain ⟨env1, hsat1, hall1⟩ := pb_mm_colour (lw_sg xs)
  refine lv_aload_n hx hb dl_513 rfl (lv_at hl 2 rfl) ?_
  refine lw_arg C1 hS hl (k := 1) (by decide) dl_514 dl_515 dl_516 dl_517 dl_518 ?_
  refine lw_arg C1 hS hl (k := 2) (by decide) dl_519 dl_520 dl_521 dl_522 dl_523 ?_
  have K1 : ∀ g, g = F0 m 524 ls (.int (xs 2) :: .int (xs 1) :: .ref (ρm 0) :: [.int (ev_spc sp_colour (lw_sg xs))]) → W p l e room_1 s m #[Value.ref b] below meth c H locs (cells + 0) (slots + 0) (lw_Z below #[Value.ref b] s) (F0 m 524 ls ((([.inr (.inr (.inr (.inl (0, [])))), .inr (.inr (.inr (.inl (1, []))))] : List ev_V).map (ev_cv (lw_sg xs) ρm)).reverse ++ .ref (ρm 0) :: [.int (ev_spc sp_colour (lw_sg xs))])) → W p l e room_1 s m #[Value.ref b] below meth c H locs (cells + 0) (slots + 0) (lw_Z below #[Value.ref b] s) g := by
    intro g hg h
    subst hg
    have es : (([.inr (.inr (.inr (.inl (0, [])))), .inr (.inr (.inr (.inl (1, []))))] : List ev_V).map (ev_cv (lw_sg xs) ρm)).reverse = [.int (xs 2), .int (xs 1)] := by
      rw [show xs 1 = lw_sg xs 0 from sg0.symm, show xs 2 = lw_sg xs 1 from sg1.symm]
      rfl
    rw [es] at h
    exact h
  refine K1 _ rfl ?_
  refine lw_pub (x := 110) (m1 := mt_110) (as' := [.inr (.inr (.inr (.inl (0, [])))), .inr (.inr (.inr (.inl (1, []))))]) (wr := []) (fs := fm) (ci := 11) rfl hall1 hsat1 (by decide) (by decide) hfm (by decide +kernel) (by decide +kernel) hx hb hml hown hts hK hA (by rw [List.append_nil]; exact hP) (by rw [List.append_nil]; exact hD) hS ⟨ev_tb_in 8 (List.mem_of_getElem? (i := 85) (by decide +kernel)), ev_tb_in 8 (List.mem_of_getElem? (i := 86) (by decide +kernel)), ev_tb_in 8 (List.mem_of_getElem? (i := 87) (by decide +kernel)), ev_tb_in 1 (List.mem_of_getElem? (i := 9) (by decide +kernel))⟩ ⟨by decide +kernel, by decide +kernel, by decide +kernel⟩ hl.1 (by simp [Value.category]) dl_524 ⟨by show cells + 0 + 0 ≤ 600000; omega, by show slots + 0 + 0 ≤ 7302250; omega⟩ (fun H locs hP hD hS => ?_)
  exact lv_icmp_eq (tgt := 719) hx hb dl_527 (by decide) (fun _ => lw_back C1 hS hl (by show cells + 0 + 0 ≤ 600000; omega) (by show slots + 0 + 0 ≤ 7302250; omega)) (fun h => absurd rfl h)
set_option maxHeartbeats 4000000 in
theorem lw_c12 {p : Program} {l : Launch} {e : Env} {s : State} {m : MethodId} {below : List Frame} {meth : Method} {c : Code} {b : Nat} {xs : Nat → Int32} {H : Heap} {locs : List Loc} {ls : Array Slot} {dC : Nat → ClassId} {dI : Nat → Nat → Nat} {ca : Nat → ClassId} {ρx ρm : Nat → Nat} {cells slots : Nat} (C0 : lw_At p s m meth c b 6 xs) (hK : va_K (dC, dI) ev_cl (ev_ty ca) s) (hcl : cells ≤ 1000) (hsl : slots ≤ 1000000) (hj : (xs 0 &&& 31).toNatClampNeg = 12) (hP : va_P (dC, dI) ev_cl (ev_wl (lw_sg xs) ρx ca ev_hxx 50 ++ ev_wl (lw_sg xs) ρm ca ev_hmm 39) H) (hD : va_D (fun q : Nat => s.heap.size ≤ q) (ev_wl (lw_sg xs) ρx ca ev_hxx 50 ++ ev_wl (lw_sg xs) ρm ca ev_hmm 39)) (hS : va_S (fun q : Nat => s.heap.size ≤ q) s.heap H locs) (hl : lv_has ls 4 [(0, .ref b), (1, .ref (ρx 0)), (2, .ref (ρm 0)), (3, .int 0)]) : W p l e room_1 s m #[Value.ref b] below meth c H locs cells slots (lw_Z below #[Value.ref b] s) (F0 m 532 ls []) := by
  have C1 := C0
  obtain ⟨hx, hb, hr, hml, hown, hts, hX, hbl, hlocks, hgv⟩ := C0
  have hA : ∀ q : Nat, s.heap.size ≤ q → (fun q : Nat => s.heap.size ≤ q) q := fun _ h => h
  have sg0 : lw_sg xs 0 = xs 1 := by unfold lw_sg; rw [hj] <;> rfl
  obtain ⟨fx, hfx⟩ := ev_hxx_0
  obtain ⟨fm, hfm⟩ := ev_hmm_0
  obtain ⟨env0, hsat0, hall0⟩ := pb_xx_left (lw_sg xs)
  refine lv_aload_n hx hb dl_532 rfl (lv_at hl 1 rfl) ?_
  refine lw_arg C1 hS hl (k := 1) (by decide) dl_533 dl_534 dl_535 dl_536 dl_537 ?_
  have K0 : ∀ g, g = F0 m 538 ls (.int (xs 1) :: .ref (ρx 0) :: []) → W p l e room_1 s m #[Value.ref b] below meth c H locs cells slots (lw_Z below #[Value.ref b] s) (F0 m 538 ls ((([.inr (.inr (.inr (.inl (0, []))))] : List ev_V).map (ev_cv (lw_sg xs) ρx)).reverse ++ .ref (ρx 0) :: [])) → W p l e room_1 s m #[Value.ref b] below meth c H locs cells slots (lw_Z below #[Value.ref b] s) g := by
    intro g hg h
    subst hg
    have es : (([.inr (.inr (.inr (.inl (0, []))))] : List ev_V).map (ev_cv (lw_sg xs) ρx)).reverse = [.int (xs 1)] := by
      rw [show xs 1 = lw_sg xs 0 from sg0.symm]
      rfl
    rw [es] at h
    exact h
  refine K0 _ rfl ?_
  refine lw_pub (x := 111) (m1 := mt_111) (as' := [.inr (.inr (.inr (.inl (0, []))))]) (wr := ev_wl (lw_sg xs) ρm ca ev_hmm 39) (fs := fx) (ci := 0) rfl hall0 hsat0 (by decide) (by decide) hfx (by decide +kernel) (by decide +kernel) hx hb hml hown hts hK hA hP hD hS ⟨ev_tb_in 5 (List.mem_of_getElem? (i := 130) (by decide +kernel)), ev_tb_in 5 (List.mem_of_getElem? (i := 131) (by decide +kernel)), ev_tb_in 5 (List.mem_of_getElem? (i := 132) (by decide +kernel)), ev_tb_in 1 (List.mem_of_getElem? (i := 1) (by decide +kernel))⟩ ⟨by decide +kernel, by decide +kernel, by decide +kernel⟩ hl.1 (by simp) dl_538 ⟨by show cells + 0 ≤ 600000; omega, by show slots + 0 ≤ 7302250; omega⟩ (fun H locs hP hD hS => ?_)
  obtain ⟨env1, hsat1, hall1⟩ := pb_mm_left (lw_sg xs)
  refine lv_aload_n hx hb dl_541 rfl (lv_at hl 2 rfl) ?_
  refine lw_arg C1 hS hl (k := 1) (by decide) dl_542 dl_543 dl_544 dl_545 dl_546 ?_
  have K1 : ∀ g, g = F0 m 547 ls (.int (xs 1) :: .ref (ρm 0) :: [.int (ev_spc sp_left (lw_sg xs))]) → W p l e room_1 s m #[Value.ref b] below meth c H locs (cells + 0) (slots + 0) (lw_Z below #[Value.ref b] s) (F0 m 547 ls ((([.inr (.inr (.inr (.inl (0, []))))] : List ev_V).map (ev_cv (lw_sg xs) ρm)).reverse ++ .ref (ρm 0) :: [.int (ev_spc sp_left (lw_sg xs))])) → W p l e room_1 s m #[Value.ref b] below meth c H locs (cells + 0) (slots + 0) (lw_Z below #[Value.ref b] s) g := by
    intro g hg h
    subst hg
    have es : (([.inr (.inr (.inr (.inl (0, []))))] : List ev_V).map (ev_cv (lw_sg xs) ρm)).reverse = [.int (xs 1)] := by
      rw [show xs 1 = lw_sg xs 0 from sg0.symm]
      rfl
    rw [es] at h
    exact h
  refine K1 _ rfl ?_
  refine lw_pub (x := 112) (m1 := mt_112) (as' := [.inr (.inr (.inr (.inl (0, []))))]) (wr := []) (fs := fm) (ci := 11) rfl hall1 hsat1 (by decide) (by decide) hfm (by decide +kernel) (by decide +kernel) hx hb hml hown hts hK hA (by rw [List.append_nil]; exact hP) (by rw [List.append_nil]; exact hD) hS ⟨ev_tb_in 8 (List.mem_of_getElem? (i := 89) (by decide +kernel)), ev_tb_in 8 (List.mem_of_getElem? (i := 90) (by decide +kernel)), ev_tb_in 8 (List.mem_of_getElem? (i := 91) (by decide +kernel)), ev_tb_in 1 (List.mem_of_getElem? (i := 9) (by decide +kernel))⟩ ⟨by decide +kernel, by decide +kernel, by decide +kernel⟩ hl.1 (by simp [Value.category]) dl_547 ⟨by show cells + 0 + 0 ≤ 600000; omega, by show slots + 0 + 0 ≤ 7302250; omega⟩ (fun H locs hP hD hS => ?_)
  exact lv_icmp_eq (tgt := 719) hx hb dl_550 (by decide) (fun _ => lw_back C1 hS hl (by show cells + 0 + 0 ≤ 600000; omega) (by show slots + 0 + 0 ≤ 7302250; omega)) (fun h => absurd rfl h)
set_option maxHeartbeats 4000000 in
theorem lw_c13 {p : Program} {l : Launch} {e : Env} {s : State} {m : MethodId} {below : List Frame} {meth : Method} {c : Code} {b : Nat} {xs : Nat → Int32} {H : Heap} {locs : List Loc} {ls : Array Slot} {dC : Nat → ClassId} {dI : Nat → Nat → Nat} {ca : Nat → ClassId} {ρx ρm : Nat → Nat} {cells slots : Nat} (C0 : lw_At p s m meth c b 6 xs) (hK : va_K (dC, dI) ev_cl (ev_ty ca) s) (hcl : cells ≤ 1000) (hsl : slots ≤ 1000000) (hj : (xs 0 &&& 31).toNatClampNeg = 13) (hP : va_P (dC, dI) ev_cl (ev_wl (lw_sg xs) ρx ca ev_hxx 50 ++ ev_wl (lw_sg xs) ρm ca ev_hmm 39) H) (hD : va_D (fun q : Nat => s.heap.size ≤ q) (ev_wl (lw_sg xs) ρx ca ev_hxx 50 ++ ev_wl (lw_sg xs) ρm ca ev_hmm 39)) (hS : va_S (fun q : Nat => s.heap.size ≤ q) s.heap H locs) (hl : lv_has ls 4 [(0, .ref b), (1, .ref (ρx 0)), (2, .ref (ρm 0)), (3, .int 0)]) : W p l e room_1 s m #[Value.ref b] below meth c H locs cells slots (lw_Z below #[Value.ref b] s) (F0 m 555 ls []) := by
  have C1 := C0
  obtain ⟨hx, hb, hr, hml, hown, hts, hX, hbl, hlocks, hgv⟩ := C0
  have hA : ∀ q : Nat, s.heap.size ≤ q → (fun q : Nat => s.heap.size ≤ q) q := fun _ h => h
  have sg0 : lw_sg xs 0 = xs 1 := by unfold lw_sg; rw [hj] <;> rfl
  have sg1 : lw_sg xs 1 = xs 2 := by unfold lw_sg; rw [hj] <;> rfl
  obtain ⟨fx, hfx⟩ := ev_hxx_0
  obtain ⟨fm, hfm⟩ := ev_hmm_0
  obtain ⟨env0, hsat0, hall0⟩ := pb_xx_run (lw_sg xs)
  refine lv_aload_n hx hb dl_555 rfl (lv_at hl 1 rfl) ?_
  refine lw_arg C1 hS hl (k := 1) (by decide) dl_556 dl_557 dl_558 dl_559 dl_560 ?_
  refine lw_arg C1 hS hl (k := 2) (by decide) dl_561 dl_562 dl_563 dl_564 dl_565 ?_
  have K0 : ∀ g, g = F0 m 566 ls (.int (xs 2) :: .int (xs 1) :: .ref (ρx 0) :: []) → W p l e room_1 s m #[Value.ref b] below meth c H locs cells slots (lw_Z below #[Value.ref b] s) (F0 m 566 ls ((([.inr (.inr (.inr (.inl (0, [])))), .inr (.inr (.inr (.inl (1, []))))] : List ev_V).map (ev_cv (lw_sg xs) ρx)).reverse ++ .ref (ρx 0) :: [])) → W p l e room_1 s m #[Value.ref b] below meth c H locs cells slots (lw_Z below #[Value.ref b] s) g := by
    intro g hg h
    subst hg
    have es : (([.inr (.inr (.inr (.inl (0, [])))), .inr (.inr (.inr (.inl (1, []))))] : List ev_V).map (ev_cv (lw_sg xs) ρx)).reverse = [.int (xs 2), .int (xs 1)] := by
      rw [show xs 1 = lw_sg xs 0 from sg0.symm, show xs 2 = lw_sg xs 1 from sg1.symm]
      rfl
    rw [es] at h
    exact h
  refine K0 _ rfl ?_
  refine lw_pub (x := 113) (m1 := mt_113) (as' := [.inr (.inr (.inr (.inl (0, [])))), .inr (.inr (.inr (.inl (1, []))))]) (wr := ev_wl (lw_sg xs) ρm ca ev_hmm 39) (fs := fx) (ci := 0) rfl hall0 hsat0 (by decide) (by decide) hfx (by decide +kernel) (by decide +kernel) hx hb hml hown hts hK hA hP hD hS ⟨ev_tb_in 5 (List.mem_of_getElem? (i := 160) (by decide +kernel)), ev_tb_in 5 (List.mem_of_getElem? (i := 161) (by decide +kernel)), ev_tb_in 5 (List.mem_of_getElem? (i := 162) (by decide +kernel)), ev_tb_in 1 (List.mem_of_getElem? (i := 1) (by decide +kernel))⟩ ⟨by decide +kernel, by decide +kernel, by decide +kernel⟩ hl.1 (by simp) dl_566 ⟨by show cells + 0 ≤ 600000; omega, by show slots + 0 ≤ 7302250; omega⟩ (fun H locs hP hD hS => ?_)
  obtain ⟨env1, hsat1, hall1⟩ := pb_mm_run (lw_sg xs)
  refine lv_aload_n hx hb dl_569 rfl (lv_at hl 2 rfl) ?_
  refine lw_arg C1 hS hl (k := 1) (by decide) dl_570 dl_571 dl_572 dl_573 dl_574 ?_
  refine lw_arg C1 hS hl (k := 2) (by decide) dl_575 dl_576 dl_577 dl_578 dl_579 ?_
  have K1 : ∀ g, g = F0 m 580 ls (.int (xs 2) :: .int (xs 1) :: .ref (ρm 0) :: [.int (ev_spc sp_run (lw_sg xs))]) → W p l e room_1 s m #[Value.ref b] below meth c H locs (cells + 0) (slots + 0) (lw_Z below #[Value.ref b] s) (F0 m 580 ls ((([.inr (.inr (.inr (.inl (0, [])))), .inr (.inr (.inr (.inl (1, []))))] : List ev_V).map (ev_cv (lw_sg xs) ρm)).reverse ++ .ref (ρm 0) :: [.int (ev_spc sp_run (lw_sg xs))])) → W p l e room_1 s m #[Value.ref b] below meth c H locs (cells + 0) (slots + 0) (lw_Z below #[Value.ref b] s) g := by
    intro g hg h
    subst hg
    have es : (([.inr (.inr (.inr (.inl (0, [])))), .inr (.inr (.inr (.inl (1, []))))] : List ev_V).map (ev_cv (lw_sg xs) ρm)).reverse = [.int (xs 2), .int (xs 1)] := by
      rw [show xs 1 = lw_sg xs 0 from sg0.symm, show xs 2 = lw_sg xs 1 from sg1.symm]
      rfl
    rw [es] at h
    exact h
  refine K1 _ rfl ?_
  refine lw_pub (x := 115) (m1 := mt_115) (as' := [.inr (.inr (.inr (.inl (0, [])))), .inr (.inr (.inr (.inl (1, []))))]) (wr := []) (fs := fm) (ci := 11) rfl hall1 hsat1 (by decide) (by decide) hfm (by decide +kernel) (by decide +kernel) hx hb hml hown hts hK hA (by rw [List.append_nil]; exact hP) (by rw [List.append_nil]; exact hD) hS ⟨ev_tb_in 8 (List.mem_of_getElem? (i := 197) (by decide +kernel)), ev_tb_in 8 (List.mem_of_getElem? (i := 198) (by decide +kernel)), ev_tb_in 8 (List.mem_of_getElem? (i := 199) (by decide +kernel)), ev_tb_in 1 (List.mem_of_getElem? (i := 9) (by decide +kernel))⟩ ⟨by decide +kernel, by decide +kernel, by decide +kernel⟩ hl.1 (by simp [Value.category]) dl_580 ⟨by show cells + 0 + 0 ≤ 600000; omega, by show slots + 0 + 0 ≤ 7302250; omega⟩ (fun H locs hP hD hS => ?_)
  exact lv_icmp_eq (tgt := 719) hx hb dl_583 (by decide) (fun _ => lw_back C1 hS hl (by show cells + 0 + 0 ≤ 600000; omega) (by show slots + 0 + 0 ≤ 7302250; omega)) (fun h => absurd rfl h)
set_option maxHeartbeats 4000000 in
theorem lw_c14 {p : Program} {l : Launch} {e : Env} {s : State} {m : MethodId} {below : List Frame} {meth : Method} {c : Code} {b : Nat} {xs : Nat → Int32} {H : Heap} {locs : List Loc} {ls : Array Slot} {dC : Nat → ClassId} {dI : Nat → Nat → Nat} {ca : Nat → ClassId} {ρx ρm : Nat → Nat} {cells slots : Nat} (C0 : lw_At p s m meth c b 6 xs) (hK : va_K (dC, dI) ev_cl (ev_ty ca) s) (hcl : cells ≤ 1000) (hsl : slots ≤ 1000000) (hj : (xs 0 &&& 31).toNatClampNeg = 14) (hP : va_P (dC, dI) ev_cl (ev_wl (lw_sg xs) ρx ca ev_hxx 50 ++ ev_wl (lw_sg xs) ρm ca ev_hmm 39) H) (hD : va_D (fun q : Nat => s.heap.size ≤ q) (ev_wl (lw_sg xs) ρx ca ev_hxx 50 ++ ev_wl (lw_sg xs) ρm ca ev_hmm 39)) (hS : va_S (fun q : Nat => s.heap.size ≤ q) s.heap H locs) (hl : lv_has ls 4 [(0, .ref b), (1, .ref (ρx 0)), (2, .ref (ρm 0)), (3, .int 0)]) : W p l e room_1 s m #[Value.ref b] below meth c H locs cells slots (lw_Z below #[Value.ref b] s) (F0 m 588 ls []) := by
  have C1 := C0
  obtain ⟨hx, hb, hr, hml, hown, hts, hX, hbl, hlocks, hgv⟩ := C0
  have hA : ∀ q : Nat, s.heap.size ≤ q → (fun q : Nat => s.heap.size ≤ q) q := fun _ h => h
  obtain ⟨fx, hfx⟩ := ev_hxx_0
  obtain ⟨fm, hfm⟩ := ev_hmm_0
  obtain ⟨env0, hsat0, hall0⟩ := pb_xx_proved (lw_sg xs)
  refine lv_aload_n hx hb dl_588 rfl (lv_at hl 1 rfl) ?_
  have K0 : ∀ g, g = F0 m 589 ls (.ref (ρx 0) :: []) → W p l e room_1 s m #[Value.ref b] below meth c H locs cells slots (lw_Z below #[Value.ref b] s) (F0 m 589 ls ((([] : List ev_V).map (ev_cv (lw_sg xs) ρx)).reverse ++ .ref (ρx 0) :: [])) → W p l e room_1 s m #[Value.ref b] below meth c H locs cells slots (lw_Z below #[Value.ref b] s) g := by
    intro g hg h
    subst hg
    have es : (([] : List ev_V).map (ev_cv (lw_sg xs) ρx)).reverse = [] := by
      rfl
    rw [es] at h
    exact h
  refine K0 _ rfl ?_
  refine lw_pub (x := 116) (m1 := mt_116) (as' := []) (wr := ev_wl (lw_sg xs) ρm ca ev_hmm 39) (fs := fx) (ci := 0) rfl hall0 hsat0 (by decide) (by decide) hfx (by decide +kernel) (by decide +kernel) hx hb hml hown hts hK hA hP hD hS ⟨ev_tb_in 5 (List.mem_of_getElem? (i := 202) (by decide +kernel)), ev_tb_in 5 (List.mem_of_getElem? (i := 203) (by decide +kernel)), ev_tb_in 5 (List.mem_of_getElem? (i := 204) (by decide +kernel)), ev_tb_in 1 (List.mem_of_getElem? (i := 1) (by decide +kernel))⟩ ⟨by decide +kernel, by decide +kernel, by decide +kernel⟩ hl.1 (by simp) dl_589 ⟨by show cells + 0 ≤ 600000; omega, by show slots + 0 ≤ 7302250; omega⟩ (fun H locs hP hD hS => ?_)
  obtain ⟨env1, hsat1, hall1⟩ := pb_mm_proved (lw_sg xs)
  refine lv_aload_n hx hb dl_592 rfl (lv_at hl 2 rfl) ?_
  have K1 : ∀ g, g = F0 m 593 ls (.ref (ρm 0) :: [.int (ev_spc sp_proved (lw_sg xs))]) → W p l e room_1 s m #[Value.ref b] below meth c H locs (cells + 0) (slots + 0) (lw_Z below #[Value.ref b] s) (F0 m 593 ls ((([] : List ev_V).map (ev_cv (lw_sg xs) ρm)).reverse ++ .ref (ρm 0) :: [.int (ev_spc sp_proved (lw_sg xs))])) → W p l e room_1 s m #[Value.ref b] below meth c H locs (cells + 0) (slots + 0) (lw_Z below #[Value.ref b] s) g := by
    intro g hg h
    subst hg
    have es : (([] : List ev_V).map (ev_cv (lw_sg xs) ρm)).reverse = [] := by
      rfl
    rw [es] at h
    exact h
  refine K1 _ rfl ?_
  refine lw_pub (x := 117) (m1 := mt_117) (as' := []) (wr := []) (fs := fm) (ci := 11) rfl hall1 hsat1 (by decide) (by decide) hfm (by decide +kernel) (by decide +kernel) hx hb hml hown hts hK hA (by rw [List.append_nil]; exact hP) (by rw [List.append_nil]; exact hD) hS ⟨ev_tb_in 8 (List.mem_of_getElem? (i := 224) (by decide +kernel)), ev_tb_in 8 (List.mem_of_getElem? (i := 225) (by decide +kernel)), ev_tb_in 8 (List.mem_of_getElem? (i := 226) (by decide +kernel)), ev_tb_in 1 (List.mem_of_getElem? (i := 9) (by decide +kernel))⟩ ⟨by decide +kernel, by decide +kernel, by decide +kernel⟩ hl.1 (by simp [Value.category]) dl_593 ⟨by show cells + 0 + 0 ≤ 600000; omega, by show slots + 0 + 0 ≤ 7302250; omega⟩ (fun H locs hP hD hS => ?_)
  exact lv_icmp_eq (tgt := 719) hx hb dl_596 (by decide) (fun _ => lw_back C1 hS hl (by show cells + 0 + 0 ≤ 600000; omega) (by show slots + 0 + 0 ≤ 7302250; omega)) (fun h => absurd rfl h)
set_option maxHeartbeats 4000000 in
theorem lw_c15 {p : Program} {l : Launch} {e : Env} {s : State} {m : MethodId} {below : List Frame} {meth : Method} {c : Code} {b : Nat} {xs : Nat → Int32} {H : Heap} {locs : List Loc} {ls : Array Slot} {dC : Nat → ClassId} {dI : Nat → Nat → Nat} {ca : Nat → ClassId} {ρx ρm : Nat → Nat} {cells slots : Nat} (C0 : lw_At p s m meth c b 6 xs) (hK : va_K (dC, dI) ev_cl (ev_ty ca) s) (hcl : cells ≤ 1000) (hsl : slots ≤ 1000000) (hj : (xs 0 &&& 31).toNatClampNeg = 15) (hP : va_P (dC, dI) ev_cl (ev_wl (lw_sg xs) ρx ca ev_hxx 50 ++ ev_wl (lw_sg xs) ρm ca ev_hmm 39) H) (hD : va_D (fun q : Nat => s.heap.size ≤ q) (ev_wl (lw_sg xs) ρx ca ev_hxx 50 ++ ev_wl (lw_sg xs) ρm ca ev_hmm 39)) (hS : va_S (fun q : Nat => s.heap.size ≤ q) s.heap H locs) (hl : lv_has ls 4 [(0, .ref b), (1, .ref (ρx 0)), (2, .ref (ρm 0)), (3, .int 0)]) : W p l e room_1 s m #[Value.ref b] below meth c H locs cells slots (lw_Z below #[Value.ref b] s) (F0 m 601 ls []) := by
  have C1 := C0
  obtain ⟨hx, hb, hr, hml, hown, hts, hX, hbl, hlocks, hgv⟩ := C0
  have hA : ∀ q : Nat, s.heap.size ≤ q → (fun q : Nat => s.heap.size ≤ q) q := fun _ h => h
  have sg0 : lw_sg xs 0 = xs 1 := by unfold lw_sg; rw [hj] <;> rfl
  obtain ⟨fx, hfx⟩ := ev_hxx_0
  obtain ⟨fm, hfm⟩ := ev_hmm_0
  obtain ⟨env0, hsat0, hall0⟩ := pb_xx_graph (lw_sg xs)
  refine lv_aload_n hx hb dl_601 rfl (lv_at hl 1 rfl) ?_
  refine lw_arg C1 hS hl (k := 1) (by decide) dl_602 dl_603 dl_604 dl_605 dl_606 ?_
  have K0 : ∀ g, g = F0 m 607 ls (.int (xs 1) :: .ref (ρx 0) :: []) → W p l e room_1 s m #[Value.ref b] below meth c H locs cells slots (lw_Z below #[Value.ref b] s) (F0 m 607 ls ((([.inr (.inr (.inr (.inl (0, []))))] : List ev_V).map (ev_cv (lw_sg xs) ρx)).reverse ++ .ref (ρx 0) :: [])) → W p l e room_1 s m #[Value.ref b] below meth c H locs cells slots (lw_Z below #[Value.ref b] s) g := by
    intro g hg h
    subst hg
    have es : (([.inr (.inr (.inr (.inl (0, []))))] : List ev_V).map (ev_cv (lw_sg xs) ρx)).reverse = [.int (xs 1)] := by
      rw [show xs 1 = lw_sg xs 0 from sg0.symm]
      rfl
    rw [es] at h
    exact h
  refine K0 _ rfl ?_
  refine lw_pub (x := 118) (m1 := mt_118) (as' := [.inr (.inr (.inr (.inl (0, []))))]) (wr := ev_wl (lw_sg xs) ρm ca ev_hmm 39) (fs := fx) (ci := 0) rfl hall0 hsat0 (by decide) (by decide) hfx (by decide +kernel) (by decide +kernel) hx hb hml hown hts hK hA hP hD hS ⟨ev_tb_in 6 (List.mem_of_getElem? (i := 35) (by decide +kernel)), ev_tb_in 6 (List.mem_of_getElem? (i := 36) (by decide +kernel)), ev_tb_in 6 (List.mem_of_getElem? (i := 37) (by decide +kernel)), ev_tb_in 1 (List.mem_of_getElem? (i := 1) (by decide +kernel))⟩ ⟨by decide +kernel, by decide +kernel, by decide +kernel⟩ hl.1 (by simp) dl_607 ⟨by show cells + 0 ≤ 600000; omega, by show slots + 0 ≤ 7302250; omega⟩ (fun H locs hP hD hS => ?_)
  obtain ⟨env1, hsat1, hall1⟩ := pb_mm_graph (lw_sg xs)
  refine lv_aload_n hx hb dl_610 rfl (lv_at hl 2 rfl) ?_
  refine lw_arg C1 hS hl (k := 1) (by decide) dl_611 dl_612 dl_613 dl_614 dl_615 ?_
  have K1 : ∀ g, g = F0 m 616 ls (.int (xs 1) :: .ref (ρm 0) :: [.int (ev_spc sp_graph (lw_sg xs))]) → W p l e room_1 s m #[Value.ref b] below meth c H locs (cells + 0) (slots + 0) (lw_Z below #[Value.ref b] s) (F0 m 616 ls ((([.inr (.inr (.inr (.inl (0, []))))] : List ev_V).map (ev_cv (lw_sg xs) ρm)).reverse ++ .ref (ρm 0) :: [.int (ev_spc sp_graph (lw_sg xs))])) → W p l e room_1 s m #[Value.ref b] below meth c H locs (cells + 0) (slots + 0) (lw_Z below #[Value.ref b] s) g := by
    intro g hg h
    subst hg
    have es : (([.inr (.inr (.inr (.inl (0, []))))] : List ev_V).map (ev_cv (lw_sg xs) ρm)).reverse = [.int (xs 1)] := by
      rw [show xs 1 = lw_sg xs 0 from sg0.symm]
      rfl
    rw [es] at h
    exact h
  refine K1 _ rfl ?_
  refine lw_pub (x := 121) (m1 := mt_121) (as' := [.inr (.inr (.inr (.inl (0, []))))]) (wr := []) (fs := fm) (ci := 11) rfl hall1 hsat1 (by decide) (by decide) hfm (by decide +kernel) (by decide +kernel) hx hb hml hown hts hK hA (by rw [List.append_nil]; exact hP) (by rw [List.append_nil]; exact hD) hS ⟨ev_tb_in 9 (List.mem_of_getElem? (i := 36) (by decide +kernel)), ev_tb_in 9 (List.mem_of_getElem? (i := 37) (by decide +kernel)), ev_tb_in 9 (List.mem_of_getElem? (i := 38) (by decide +kernel)), ev_tb_in 1 (List.mem_of_getElem? (i := 9) (by decide +kernel))⟩ ⟨by decide +kernel, by decide +kernel, by decide +kernel⟩ hl.1 (by simp [Value.category]) dl_616 ⟨by show cells + 0 + 0 ≤ 600000; omega, by show slots + 0 + 0 ≤ 7302250; omega⟩ (fun H locs hP hD hS => ?_)
  exact lv_icmp_eq (tgt := 719) hx hb dl_619 (by decide) (fun _ => lw_back C1 hS hl (by show cells + 0 + 0 ≤ 600000; omega) (by show slots + 0 + 0 ≤ 7302250; omega)) (fun h => absurd rfl h)
set_option maxHeartbeats 4000000 in
theorem lw_c16 {p : Program} {l : Launch} {e : Env} {s : State} {m : MethodId} {below : List Frame} {meth : Method} {c : Code} {b : Nat} {xs : Nat → Int32} {H : Heap} {locs : List Loc} {ls : Array Slot} {dC : Nat → ClassId} {dI : Nat → Nat → Nat} {ca : Nat → ClassId} {ρx ρm : Nat → Nat} {cells slots : Nat} (C0 : lw_At p s m meth c b 6 xs) (hK : va_K (dC, dI) ev_cl (ev_ty ca) s) (hcl : cells ≤ 1000) (hsl : slots ≤ 1000000) (hj : (xs 0 &&& 31).toNatClampNeg = 16) (hP : va_P (dC, dI) ev_cl (ev_wl (lw_sg xs) ρx ca ev_hxx 50 ++ ev_wl (lw_sg xs) ρm ca ev_hmm 39) H) (hD : va_D (fun q : Nat => s.heap.size ≤ q) (ev_wl (lw_sg xs) ρx ca ev_hxx 50 ++ ev_wl (lw_sg xs) ρm ca ev_hmm 39)) (hS : va_S (fun q : Nat => s.heap.size ≤ q) s.heap H locs) (hl : lv_has ls 4 [(0, .ref b), (1, .ref (ρx 0)), (2, .ref (ρm 0)), (3, .int 0)]) : W p l e room_1 s m #[Value.ref b] below meth c H locs cells slots (lw_Z below #[Value.ref b] s) (F0 m 624 ls []) := by
  have C1 := C0
  obtain ⟨hx, hb, hr, hml, hown, hts, hX, hbl, hlocks, hgv⟩ := C0
  have hA : ∀ q : Nat, s.heap.size ≤ q → (fun q : Nat => s.heap.size ≤ q) q := fun _ h => h
  have sg0 : lw_sg xs 0 = xs 1 := by unfold lw_sg; rw [hj] <;> rfl
  have sg1 : lw_sg xs 1 = xs 2 := by unfold lw_sg; rw [hj] <;> rfl
  obtain ⟨fx, hfx⟩ := ev_hxx_0
  obtain ⟨fm, hfm⟩ := ev_hmm_0
  obtain ⟨env0, hsat0, hall0⟩ := pb_xx_paint (lw_sg xs)
  refine lv_aload_n hx hb dl_624 rfl (lv_at hl 1 rfl) ?_
  refine lw_arg C1 hS hl (k := 1) (by decide) dl_625 dl_626 dl_627 dl_628 dl_629 ?_
  refine lw_arg C1 hS hl (k := 2) (by decide) dl_630 dl_631 dl_632 dl_633 dl_634 ?_
  have K0 : ∀ g, g = F0 m 635 ls (.int (xs 2) :: .int (xs 1) :: .ref (ρx 0) :: []) → W p l e room_1 s m #[Value.ref b] below meth c H locs cells slots (lw_Z below #[Value.ref b] s) (F0 m 635 ls ((([.inr (.inr (.inr (.inl (0, [])))), .inr (.inr (.inr (.inl (1, []))))] : List ev_V).map (ev_cv (lw_sg xs) ρx)).reverse ++ .ref (ρx 0) :: [])) → W p l e room_1 s m #[Value.ref b] below meth c H locs cells slots (lw_Z below #[Value.ref b] s) g := by
    intro g hg h
    subst hg
    have es : (([.inr (.inr (.inr (.inl (0, [])))), .inr (.inr (.inr (.inl (1, []))))] : List ev_V).map (ev_cv (lw_sg xs) ρx)).reverse = [.int (xs 2), .int (xs 1)] := by
      rw [show xs 1 = lw_sg xs 0 from sg0.symm, show xs 2 = lw_sg xs 1 from sg1.symm]
      rfl
    rw [es] at h
    exact h
  refine K0 _ rfl ?_
  refine lw_pub (x := 124) (m1 := mt_124) (as' := [.inr (.inr (.inr (.inl (0, [])))), .inr (.inr (.inr (.inl (1, []))))]) (wr := ev_wl (lw_sg xs) ρm ca ev_hmm 39) (fs := fx) (ci := 0) rfl hall0 hsat0 (by decide) (by decide) hfx (by decide +kernel) (by decide +kernel) hx hb hml hown hts hK hA hP hD hS ⟨ev_tb_in 6 (List.mem_of_getElem? (i := 72) (by decide +kernel)), ev_tb_in 6 (List.mem_of_getElem? (i := 73) (by decide +kernel)), ev_tb_in 6 (List.mem_of_getElem? (i := 74) (by decide +kernel)), ev_tb_in 1 (List.mem_of_getElem? (i := 1) (by decide +kernel))⟩ ⟨by decide +kernel, by decide +kernel, by decide +kernel⟩ hl.1 (by simp) dl_635 ⟨by show cells + 0 ≤ 600000; omega, by show slots + 0 ≤ 7302250; omega⟩ (fun H locs hP hD hS => ?_)
  obtain ⟨env1, hsat1, hall1⟩ := pb_mm_paint (lw_sg xs)
  refine lv_aload_n hx hb dl_638 rfl (lv_at hl 2 rfl) ?_
  refine lw_arg C1 hS hl (k := 1) (by decide) dl_639 dl_640 dl_641 dl_642 dl_643 ?_
  refine lw_arg C1 hS hl (k := 2) (by decide) dl_644 dl_645 dl_646 dl_647 dl_648 ?_
  have K1 : ∀ g, g = F0 m 649 ls (.int (xs 2) :: .int (xs 1) :: .ref (ρm 0) :: [.int (ev_spc sp_paint (lw_sg xs))]) → W p l e room_1 s m #[Value.ref b] below meth c H locs (cells + 0) (slots + 0) (lw_Z below #[Value.ref b] s) (F0 m 649 ls ((([.inr (.inr (.inr (.inl (0, [])))), .inr (.inr (.inr (.inl (1, []))))] : List ev_V).map (ev_cv (lw_sg xs) ρm)).reverse ++ .ref (ρm 0) :: [.int (ev_spc sp_paint (lw_sg xs))])) → W p l e room_1 s m #[Value.ref b] below meth c H locs (cells + 0) (slots + 0) (lw_Z below #[Value.ref b] s) g := by
    intro g hg h
    subst hg
    have es : (([.inr (.inr (.inr (.inl (0, [])))), .inr (.inr (.inr (.inl (1, []))))] : List ev_V).map (ev_cv (lw_sg xs) ρm)).reverse = [.int (xs 2), .int (xs 1)] := by
      rw [show xs 1 = lw_sg xs 0 from sg0.symm, show xs 2 = lw_sg xs 1 from sg1.symm]
      rfl
    rw [es] at h
    exact h
  refine K1 _ rfl ?_
  refine lw_pub (x := 125) (m1 := mt_125) (as' := [.inr (.inr (.inr (.inl (0, [])))), .inr (.inr (.inr (.inl (1, []))))]) (wr := []) (fs := fm) (ci := 11) rfl hall1 hsat1 (by decide) (by decide) hfm (by decide +kernel) (by decide +kernel) hx hb hml hown hts hK hA (by rw [List.append_nil]; exact hP) (by rw [List.append_nil]; exact hD) hS ⟨ev_tb_in 9 (List.mem_of_getElem? (i := 64) (by decide +kernel)), ev_tb_in 9 (List.mem_of_getElem? (i := 65) (by decide +kernel)), ev_tb_in 9 (List.mem_of_getElem? (i := 66) (by decide +kernel)), ev_tb_in 1 (List.mem_of_getElem? (i := 9) (by decide +kernel))⟩ ⟨by decide +kernel, by decide +kernel, by decide +kernel⟩ hl.1 (by simp [Value.category]) dl_649 ⟨by show cells + 0 + 0 ≤ 600000; omega, by show slots + 0 + 0 ≤ 7302250; omega⟩ (fun H locs hP hD hS => ?_)
  exact lv_icmp_eq (tgt := 719) hx hb dl_652 (by decide) (fun _ => lw_back C1 hS hl (by show cells + 0 + 0 ≤ 600000; omega) (by show slots + 0 + 0 ≤ 7302250; omega)) (fun h => absurd rfl h)
set_option maxHeartbeats 4000000 in
theorem lw_c17 {p : Program} {l : Launch} {e : Env} {s : State} {m : MethodId} {below : List Frame} {meth : Method} {c : Code} {b : Nat} {xs : Nat → Int32} {H : Heap} {locs : List Loc} {ls : Array Slot} {dC : Nat → ClassId} {dI : Nat → Nat → Nat} {ca : Nat → ClassId} {ρx ρm : Nat → Nat} {cells slots : Nat} (C0 : lw_At p s m meth c b 6 xs) (hK : va_K (dC, dI) ev_cl (ev_ty ca) s) (hcl : cells ≤ 1000) (hsl : slots ≤ 1000000) (hj : (xs 0 &&& 31).toNatClampNeg = 17) (hP : va_P (dC, dI) ev_cl (ev_wl (lw_sg xs) ρx ca ev_hxx 50 ++ ev_wl (lw_sg xs) ρm ca ev_hmm 39) H) (hD : va_D (fun q : Nat => s.heap.size ≤ q) (ev_wl (lw_sg xs) ρx ca ev_hxx 50 ++ ev_wl (lw_sg xs) ρm ca ev_hmm 39)) (hS : va_S (fun q : Nat => s.heap.size ≤ q) s.heap H locs) (hl : lv_has ls 4 [(0, .ref b), (1, .ref (ρx 0)), (2, .ref (ρm 0)), (3, .int 0)]) : W p l e room_1 s m #[Value.ref b] below meth c H locs cells slots (lw_Z below #[Value.ref b] s) (F0 m 657 ls []) := by
  have C1 := C0
  obtain ⟨hx, hb, hr, hml, hown, hts, hX, hbl, hlocks, hgv⟩ := C0
  have hA : ∀ q : Nat, s.heap.size ≤ q → (fun q : Nat => s.heap.size ≤ q) q := fun _ h => h
  have sg0 : lw_sg xs 0 = lw_z (xs 1) := by unfold lw_sg; rw [hj] <;> rfl
  obtain ⟨fx, hfx⟩ := ev_hxx_0
  obtain ⟨fm, hfm⟩ := ev_hmm_0
  obtain ⟨env0, hsat0, hall0⟩ := pb_xx_image (lw_sg xs) (by rw [sg0]; exact lw_z01 _)
  refine lv_aload_n hx hb dl_657 rfl (lv_at hl 1 rfl) ?_
  refine lw_argb C1 hS hl (k := 1) (by decide) dl_658 dl_659 dl_660 dl_661 dl_662 dl_663 dl_666 dl_667 dl_670 ?_
  have K0 : ∀ g, g = F0 m 671 ls (.int (lw_z (xs 1)) :: .ref (ρx 0) :: []) → W p l e room_1 s m #[Value.ref b] below meth c H locs cells slots (lw_Z below #[Value.ref b] s) (F0 m 671 ls ((([.inr (.inr (.inr (.inl (0, []))))] : List ev_V).map (ev_cv (lw_sg xs) ρx)).reverse ++ .ref (ρx 0) :: [])) → W p l e room_1 s m #[Value.ref b] below meth c H locs cells slots (lw_Z below #[Value.ref b] s) g := by
    intro g hg h
    subst hg
    have es : (([.inr (.inr (.inr (.inl (0, []))))] : List ev_V).map (ev_cv (lw_sg xs) ρx)).reverse = [.int (lw_z (xs 1))] := by
      rw [show lw_z (xs 1) = lw_sg xs 0 from sg0.symm]
      rfl
    rw [es] at h
    exact h
  refine K0 _ rfl ?_
  refine lw_pub (x := 126) (m1 := mt_126) (as' := [.inr (.inr (.inr (.inl (0, []))))]) (wr := ev_wl (lw_sg xs) ρm ca ev_hmm 39) (fs := fx) (ci := 0) rfl hall0 hsat0 (by decide) (by decide) hfx (by decide +kernel) (by decide +kernel) hx hb hml hown hts hK hA hP hD hS ⟨ev_tb_in 6 (List.mem_of_getElem? (i := 76) (by decide +kernel)), ev_tb_in 6 (List.mem_of_getElem? (i := 77) (by decide +kernel)), ev_tb_in 6 (List.mem_of_getElem? (i := 78) (by decide +kernel)), ev_tb_in 1 (List.mem_of_getElem? (i := 1) (by decide +kernel))⟩ ⟨by decide +kernel, by decide +kernel, by decide +kernel⟩ hl.1 (by simp) dl_671 ⟨by show cells + 20 ≤ 600000; omega, by show slots + 4875 ≤ 7302250; omega⟩ (fun H locs hP hD hS => ?_)
  obtain ⟨env1, hsat1, hall1⟩ := pb_mm_image (lw_sg xs) (by rw [sg0]; exact lw_z01 _)
  refine lv_aload_n hx hb dl_674 rfl (lv_at hl 2 rfl) ?_
  refine lw_argb C1 hS hl (k := 1) (by decide) dl_675 dl_676 dl_677 dl_678 dl_679 dl_680 dl_683 dl_684 dl_687 ?_
  have K1 : ∀ g, g = F0 m 688 ls (.int (lw_z (xs 1)) :: .ref (ρm 0) :: [.int (ev_spc sp_image (lw_sg xs))]) → W p l e room_1 s m #[Value.ref b] below meth c H locs (cells + 20) (slots + 4875) (lw_Z below #[Value.ref b] s) (F0 m 688 ls ((([.inr (.inr (.inr (.inl (0, []))))] : List ev_V).map (ev_cv (lw_sg xs) ρm)).reverse ++ .ref (ρm 0) :: [.int (ev_spc sp_image (lw_sg xs))])) → W p l e room_1 s m #[Value.ref b] below meth c H locs (cells + 20) (slots + 4875) (lw_Z below #[Value.ref b] s) g := by
    intro g hg h
    subst hg
    have es : (([.inr (.inr (.inr (.inl (0, []))))] : List ev_V).map (ev_cv (lw_sg xs) ρm)).reverse = [.int (lw_z (xs 1))] := by
      rw [show lw_z (xs 1) = lw_sg xs 0 from sg0.symm]
      rfl
    rw [es] at h
    exact h
  refine K1 _ rfl ?_
  refine lw_pub (x := 128) (m1 := mt_128) (as' := [.inr (.inr (.inr (.inl (0, []))))]) (wr := []) (fs := fm) (ci := 11) rfl hall1 hsat1 (by decide) (by decide) hfm (by decide +kernel) (by decide +kernel) hx hb hml hown hts hK hA (by rw [List.append_nil]; exact hP) (by rw [List.append_nil]; exact hD) hS ⟨ev_tb_in 9 (List.mem_of_getElem? (i := 89) (by decide +kernel)), ev_tb_in 9 (List.mem_of_getElem? (i := 90) (by decide +kernel)), ev_tb_in 9 (List.mem_of_getElem? (i := 91) (by decide +kernel)), ev_tb_in 1 (List.mem_of_getElem? (i := 9) (by decide +kernel))⟩ ⟨by decide +kernel, by decide +kernel, by decide +kernel⟩ hl.1 (by simp [Value.category]) dl_688 ⟨by show cells + 20 + 0 ≤ 600000; omega, by show slots + 4875 + 0 ≤ 7302250; omega⟩ (fun H locs hP hD hS => ?_)
  exact lv_icmp_eq (tgt := 719) hx hb dl_691 (by decide) (fun _ => lw_back C1 hS hl (by show cells + 20 + 0 ≤ 600000; omega) (by show slots + 4875 + 0 ≤ 7302250; omega)) (fun h => absurd rfl h)
set_option maxHeartbeats 4000000 in
theorem lw_c18 {p : Program} {l : Launch} {e : Env} {s : State} {m : MethodId} {below : List Frame} {meth : Method} {c : Code} {b : Nat} {xs : Nat → Int32} {H : Heap} {locs : List Loc} {ls : Array Slot} {dC : Nat → ClassId} {dI : Nat → Nat → Nat} {ca : Nat → ClassId} {ρx ρm : Nat → Nat} {cells slots : Nat} (C0 : lw_At p s m meth c b 6 xs) (hK : va_K (dC, dI) ev_cl (ev_ty ca) s) (hcl : cells ≤ 1000) (hsl : slots ≤ 1000000) (hj : (xs 0 &&& 31).toNatClampNeg = 18) (hP : va_P (dC, dI) ev_cl (ev_wl (lw_sg xs) ρx ca ev_hxx 50 ++ ev_wl (lw_sg xs) ρm ca ev_hmm 39) H) (hD : va_D (fun q : Nat => s.heap.size ≤ q) (ev_wl (lw_sg xs) ρx ca ev_hxx 50 ++ ev_wl (lw_sg xs) ρm ca ev_hmm 39)) (hS : va_S (fun q : Nat => s.heap.size ≤ q) s.heap H locs) (hl : lv_has ls 4 [(0, .ref b), (1, .ref (ρx 0)), (2, .ref (ρm 0)), (3, .int 0)]) : W p l e room_1 s m #[Value.ref b] below meth c H locs cells slots (lw_Z below #[Value.ref b] s) (F0 m 696 ls []) := by
  have C1 := C0
  obtain ⟨hx, hb, hr, hml, hown, hts, hX, hbl, hlocks, hgv⟩ := C0
  have hA : ∀ q : Nat, s.heap.size ≤ q → (fun q : Nat => s.heap.size ≤ q) q := fun _ h => h
  have sg0 : lw_sg xs 0 = xs 1 := by unfold lw_sg; rw [hj] <;> rfl
  obtain ⟨fx, hfx⟩ := ev_hxx_0
  obtain ⟨fm, hfm⟩ := ev_hmm_0
  obtain ⟨env0, hsat0, hall0⟩ := pb_xx_look (lw_sg xs)
  refine lv_aload_n hx hb dl_696 rfl (lv_at hl 1 rfl) ?_
  refine lw_arg C1 hS hl (k := 1) (by decide) dl_697 dl_698 dl_699 dl_700 dl_701 ?_
  have K0 : ∀ g, g = F0 m 702 ls (.int (xs 1) :: .ref (ρx 0) :: []) → W p l e room_1 s m #[Value.ref b] below meth c H locs cells slots (lw_Z below #[Value.ref b] s) (F0 m 702 ls ((([.inr (.inr (.inr (.inl (0, []))))] : List ev_V).map (ev_cv (lw_sg xs) ρx)).reverse ++ .ref (ρx 0) :: [])) → W p l e room_1 s m #[Value.ref b] below meth c H locs cells slots (lw_Z below #[Value.ref b] s) g := by
    intro g hg h
    subst hg
    have es : (([.inr (.inr (.inr (.inl (0, []))))] : List ev_V).map (ev_cv (lw_sg xs) ρx)).reverse = [.int (xs 1)] := by
      rw [show xs 1 = lw_sg xs 0 from sg0.symm]
      rfl
    rw [es] at h
    exact h
  refine K0 _ rfl ?_
  refine lw_pub (x := 130) (m1 := mt_130) (as' := [.inr (.inr (.inr (.inl (0, []))))]) (wr := ev_wl (lw_sg xs) ρm ca ev_hmm 39) (fs := fx) (ci := 0) rfl hall0 hsat0 (by decide) (by decide) hfx (by decide +kernel) (by decide +kernel) hx hb hml hown hts hK hA hP hD hS ⟨ev_tb_in 6 (List.mem_of_getElem? (i := 87) (by decide +kernel)), ev_tb_in 6 (List.mem_of_getElem? (i := 88) (by decide +kernel)), ev_tb_in 6 (List.mem_of_getElem? (i := 89) (by decide +kernel)), ev_tb_in 1 (List.mem_of_getElem? (i := 1) (by decide +kernel))⟩ ⟨by decide +kernel, by decide +kernel, by decide +kernel⟩ hl.1 (by simp) dl_702 ⟨by show cells + 0 ≤ 600000; omega, by show slots + 0 ≤ 7302250; omega⟩ (fun H locs hP hD hS => ?_)
  obtain ⟨env1, hsat1, hall1⟩ := pb_mm_look (lw_sg xs)
  refine lv_aload_n hx hb dl_705 rfl (lv_at hl 2 rfl) ?_
  refine lw_arg C1 hS hl (k := 1) (by decide) dl_706 dl_707 dl_708 dl_709 dl_710 ?_
  have K1 : ∀ g, g = F0 m 711 ls (.int (xs 1) :: .ref (ρm 0) :: [.int (ev_spc sp_look (lw_sg xs))]) → W p l e room_1 s m #[Value.ref b] below meth c H locs (cells + 0) (slots + 0) (lw_Z below #[Value.ref b] s) (F0 m 711 ls ((([.inr (.inr (.inr (.inl (0, []))))] : List ev_V).map (ev_cv (lw_sg xs) ρm)).reverse ++ .ref (ρm 0) :: [.int (ev_spc sp_look (lw_sg xs))])) → W p l e room_1 s m #[Value.ref b] below meth c H locs (cells + 0) (slots + 0) (lw_Z below #[Value.ref b] s) g := by
    intro g hg h
    subst hg
    have es : (([.inr (.inr (.inr (.inl (0, []))))] : List ev_V).map (ev_cv (lw_sg xs) ρm)).reverse = [.int (xs 1)] := by
      rw [show xs 1 = lw_sg xs 0 from sg0.symm]
      rfl
    rw [es] at h
    exact h
  refine K1 _ rfl ?_
  refine lw_pub (x := 135) (m1 := mt_135) (as' := [.inr (.inr (.inr (.inl (0, []))))]) (wr := []) (fs := fm) (ci := 11) rfl hall1 hsat1 (by decide) (by decide) hfm (by decide +kernel) (by decide +kernel) hx hb hml hown hts hK hA (by rw [List.append_nil]; exact hP) (by rw [List.append_nil]; exact hD) hS ⟨ev_tb_in 9 (List.mem_of_getElem? (i := 68) (by decide +kernel)), ev_tb_in 9 (List.mem_of_getElem? (i := 69) (by decide +kernel)), ev_tb_in 9 (List.mem_of_getElem? (i := 70) (by decide +kernel)), ev_tb_in 1 (List.mem_of_getElem? (i := 9) (by decide +kernel))⟩ ⟨by decide +kernel, by decide +kernel, by decide +kernel⟩ hl.1 (by simp [Value.category]) dl_711 ⟨by show cells + 0 + 0 ≤ 600000; omega, by show slots + 0 + 0 ≤ 7302250; omega⟩ (fun H locs hP hD hS => ?_)
  exact lv_icmp_eq (tgt := 719) hx hb dl_714 (by decide) (fun _ => lw_back C1 hS hl (by show cells + 0 + 0 ≤ 600000; omega) (by show slots + 0 + 0 ≤ 7302250; omega)) (fun h => absurd rfl h)
