/-! ===== answers by lists of boxes ===== -/
theorem ev_sat_cons {σ : Nat → Int32} {x : Nat × Nat} {r : ev_E} : ev_sat σ (x :: r) ↔ (x.1 ≤ ev_bi (σ 0) ∧ ev_bi (σ 0) ≤ x.2) ∧ ev_sat (fun k => σ (k + 1)) r := by
  constructor
  · intro h
    exact ⟨h 0 x.1 x.2 rfl, fun k lo hi hk => h (k + 1) lo hi hk⟩
  · rintro ⟨h1, h2⟩ k lo hi hk
    cases k with
    | zero =>
      have hk : x = (lo, hi) := Option.some.inj hk
      subst hk
      exact h1
    | succ k => exact h2 k lo hi hk
theorem ev_sat_nil {σ : Nat → Int32} : ev_sat σ [] := fun k lo hi h => by simp at h
noncomputable def ev_spc (l : List (ev_E × Nat)) (σ : Nat → Int32) : Int32 := match l with
  | [] => 0
  | q :: r => @ite _ (ev_sat σ q.1) (Classical.propDecidable _) (Int32.ofNat q.2) (ev_spc r σ)
def ev_bsub : ev_E → ev_E → Bool
  | [], _ => true
  | b :: bs, o :: os => Nat.ble b.1 o.1 && Nat.ble o.2 b.2 && ev_bsub bs os
  | _ :: _, [] => false
def ev_bdis : ev_E → ev_E → Bool
  | b :: bs, o :: os => Nat.ble (Nat.succ o.2) b.1 || Nat.ble (Nat.succ b.2) o.1 || ev_bdis bs os
  | _, _ => false
theorem ev_bsub_ok : ∀ (b o : ev_E) (σ : Nat → Int32), ev_bsub b o = true → ev_sat σ o → ev_sat σ b
  | [], _, _, _, _ => ev_sat_nil
  | b :: bs, o :: os, σ, h, hs => by
    obtain ⟨h, h3⟩ := ev_band (show Bool.and _ _ = true from h)
    obtain ⟨h1, h2⟩ := ev_band (show Bool.and _ _ = true from h)
    have h1 := Nat.le_of_ble_eq_true h1
    have h2 := Nat.le_of_ble_eq_true h2
    obtain ⟨s1, s2⟩ := ev_sat_cons.mp hs
    exact ev_sat_cons.mpr ⟨⟨by omega, by omega⟩, ev_bsub_ok bs os _ h3 s2⟩
theorem ev_bdis_ok : ∀ (b o : ev_E) (σ : Nat → Int32), ev_bdis b o = true → ev_sat σ o → ¬ ev_sat σ b
  | b :: bs, o :: os, σ, h, hs, hb => by
    obtain ⟨s1, s2⟩ := ev_sat_cons.mp hs
    obtain ⟨b1, b2⟩ := ev_sat_cons.mp hb
    cases h1 : Nat.ble (Nat.succ o.2) b.1 with
    | true =>
      have h1 : o.2 + 1 ≤ b.1 := Nat.le_of_ble_eq_true h1
      omega
    | false =>
      cases h2 : Nat.ble (Nat.succ b.2) o.1 with
      | true =>
        have h2 : b.2 + 1 ≤ o.1 := Nat.le_of_ble_eq_true h2
        omega
      | false =>
        unfold ev_bdis at h
        rw [h1, h2] at h
        exact ev_bdis_ok bs os _ h s2 b2
  | [], _, _, h, _, _ => by simp [ev_bdis] at h
  | _ :: _, [], _, h, _, _ => by simp [ev_bdis] at h
def ev_lf (l : List (ev_E × Nat)) (e : ev_E) (n : Nat) : Bool := match l with
  | [] => false
  | q :: r => bif ev_bsub q.1 e then Nat.beq q.2 n else (ev_bdis q.1 e || Nat.beq q.2 n) && ev_lf r e n
theorem ev_lf_ok (e : ev_E) (n : Nat) (σ : Nat → Int32) (hs : ev_sat σ e) : ∀ l : List (ev_E × Nat), ev_lf l e n = true → ev_spc l σ = Int32.ofNat n
  | [], h => by cases h
  | q :: r, h => by
    unfold ev_lf at h
    unfold ev_spc
    cases h1 : ev_bsub q.1 e with
    | true =>
      rw [h1] at h
      rw [if_pos (ev_bsub_ok _ _ _ h1 hs), ev_beq.mp h]
    | false =>
      rw [h1] at h
      obtain ⟨h2, h3⟩ := ev_band (show Bool.and (Bool.or (ev_bdis q.1 e) (Nat.beq q.2 n)) (ev_lf r e n) = true from h)
      have ih := ev_lf_ok e n σ hs r h3
      rw [ih]
      cases h4 : ev_bdis q.1 e with
      | true => rw [if_neg (ev_bdis_ok _ _ _ h4 hs)]
      | false =>
        rw [h4] at h2
        rw [ev_beq.mp h2]
        split <;> rfl
def ev_all (r : ev_R) (l : List (ev_E × Nat)) : Bool := match r with
  | none => false
  | some os => os.all (fun o => match o.1 with
    | .inl n => ev_lf l o.2.2.2 n
    | _ => false)
theorem ev_all_ok {r : ev_R} {l : List (ev_E × Nat)} (h : ev_all r l = true) : ∃ os, r = some os ∧ ∀ o ∈ os, ∀ (σ : Nat → Int32) (ρ : Nat → Nat), ev_sat σ o.2.2.2 → ev_ro σ ρ o.1 = some (.int (ev_spc l σ)) := by
  cases r with
  | none => cases h
  | some os =>
    refine ⟨os, rfl, fun o ho σ ρ hs => ?_⟩
    have h1 := List.all_eq_true.mp h o ho
    match hv : o.1, h1 with
    | .inl n, h1 =>
      show some (Value.int (Int32.ofNat n)) = _
      rw [ev_lf_ok _ n σ hs l h1]
/-! ===== the two new objects ===== -/
noncomputable def ev_tz {α : Type} (d : Nat) : α → ev_tr α d := Nat.rec (motive := fun d => α → ev_tr α d) (fun a => a) (fun d ih a => ((ih a, ih a) : ev_tr α d × ev_tr α d)) d
noncomputable def ev_h0 : ev_H := ev_tz 7 (.inr (9, 0, 0, []))
def ev_hof (r : ev_R) (d : ev_H) : ev_H := match r with
  | some [o] => o.2.1
  | _ => d
def ev_oneq (r : ev_R) (k : Nat) : Bool := match r with
  | some [o] => Nat.beq o.2.2.1 k
  | _ => false
theorem ev_one_ok (r : ev_R) (d : ev_H) (k : Nat) (h : ev_oneq r k = true) : ∃ o, r = some [o] ∧ o.2.1 = ev_hof r d ∧ o.2.2.1 = k := by
  cases r with
  | none => exact absurd h (by simp [ev_oneq])
  | some l =>
    cases l with
    | nil => exact absurd h (by simp [ev_oneq])
    | cons o t =>
      cases t with
      | cons _ _ => exact absurd h (by simp [ev_oneq])
      | nil =>
        refine ⟨o, rfl, ?_, ?_⟩
        · simp only [ev_hof]
        · simp only [ev_oneq] at h
          exact ev_beq.mp h
def ev_fxx : List ev_V := [.inl 0, .inr (.inl 0), .inl 0, .inr (.inl 0), .inr (.inl 0), .inl 0, .inr (.inl 0), .inr (.inl 0), .inr (.inl 0), .inr (.inl 0), .inr (.inl 0), .inr (.inl 0)]
noncomputable def ev_nxx : ev_H := ev_ts 7 ev_h0 0 (.inl (0, ev_fxx))
noncomputable def ev_oxx : ev_R := ev_met ev_pg 7 56 [.inr (.inl 1)] ev_nxx 1 []
noncomputable def ev_hxx : ev_H := ev_hof ev_oxx ev_nxx
theorem ev_oxx_one : ev_oneq ev_oxx 50 = true := by decide +kernel
theorem ev_oxx_ok : ∃ o, ev_oxx = some [o] ∧ o.2.1 = ev_hxx ∧ o.2.2.1 = 50 := ev_one_ok ev_oxx ev_nxx 50 ev_oxx_one
def ev_fmm : List ev_V := [.inr (.inl 0), .inl 0, .inr (.inl 0), .inr (.inl 0), .inl 0, .inr (.inl 0), .inl 0, .inr (.inl 0), .inr (.inl 0), .inr (.inl 0), .inr (.inl 0), .inr (.inl 0), .inr (.inl 0), .inr (.inl 0), .inr (.inl 0), .inr (.inl 0), .inr (.inl 0), .inr (.inl 0), .inr (.inl 0), .inr (.inl 0), .inl 0, .inr (.inl 0), .inl 0, .inr (.inl 0), .inl 0, .inl 0, .inr (.inl 0), .inl 0, .inl 0, .inr (.inl 0), .inl 0, .inl 0, .inr (.inl 0), .inl 0, .inl 0, .inl 0, .inr (.inl 0), .inl 0, .inr (.inl 0), .inl 0, .inl 0, .inl 0, .inl 0, .inl 0, .inl 0, .inl 0, .inl 0, .inl 0, .inr (.inl 0), .inr (.inl 0), .inl 0, .inl 0, .inl 0, .inl 0, .inr (.inl 0), .inr (.inl 0), .inr (.inl 0), .inr (.inl 0), .inr (.inl 0), .inr (.inl 0), .inl 0, .inr (.inl 0), .inl 0, .inr (.inl 0), .inr (.inl 0), .inl 0, .inr (.inl 0), .inr (.inl 0), .inr (.inl 0), .inl 0, .inl 0, .inl 0, .inl 0]
noncomputable def ev_nmm : ev_H := ev_ts 7 ev_h0 0 (.inl (11, ev_fmm))
noncomputable def ev_omm : ev_R := ev_met ev_pg 7 59 [.inr (.inl 1)] ev_nmm 1 []
noncomputable def ev_hmm : ev_H := ev_hof ev_omm ev_nmm
theorem ev_omm_one : ev_oneq ev_omm 39 = true := by decide +kernel
theorem ev_omm_ok : ∃ o, ev_omm = some [o] ∧ o.2.1 = ev_hmm ∧ o.2.2.1 = 39 := ev_one_ok ev_omm ev_nmm 39 ev_omm_one
def sp_set : List (ev_E × Nat) := [([(0, 2147483647), (0, 4294967295)], 0), ([(2147483651, 4294967295), (0, 4294967295)], 0), ([(2147483648, 2147483648), (0, 2147483649)], 0), ([(2147483648, 2147483648), (2147483657, 4294967295)], 0), ([(2147483648, 2147483648), (2147483650, 2147483656)], 1), ([(2147483649, 2147483649), (0, 2147483648)], 0), ([(2147483649, 2147483649), (2147483653, 4294967295)], 0), ([(2147483649, 2147483649), (2147483649, 2147483652)], 1), ([(2147483650, 2147483650), (0, 2147483648)], 0), ([(2147483650, 2147483650), (2147483653, 4294967295)], 0), ([(2147483650, 2147483650), (2147483649, 2147483652)], 1)]
def sp_feed : List (ev_E × Nat) := [([(0, 4294967295), (0, 4294967295), (0, 4294967295), (0, 4294967295), (0, 4294967295)], 20)]
def sp_end : List (ev_E × Nat) := [([(0, 2147483647)], 0), ([(2147483648, 2147483648)], 1), ([(2147483649, 4294967295)], 0)]
def sp_code : List (ev_E × Nat) := [([], 0)]
def sp_fault : List (ev_E × Nat) := [([(0, 2147483647)], 4294967295), ([(2147483649, 2147483649)], 4294967295), ([(2147483650, 4294967295)], 4294967295), ([(2147483648, 2147483648)], 0)]
def sp_input : List (ev_E × Nat) := [([(0, 4294967295), (2147483648, 2147483648)], 0), ([(0, 4294967295), (2147483649, 2147483649)], 1)]
def sp_allocate : List (ev_E × Nat) := [([], 1)]
def sp_step : List (ev_E × Nat) := [([(0, 4294967295), (2147483648, 2147483649), (0, 4294967295)], 4294967295)]
def sp_live : List (ev_E × Nat) := [([(0, 4294967295), (0, 4294967295)], 4294967295)]
def sp_value : List (ev_E × Nat) := [([(0, 2147483647), (0, 4294967295)], 4294967295), ([(2147483692, 4294967295), (0, 4294967295)], 4294967295), ([(2147483652, 2147483655), (0, 4294967295)], 4294967295), ([(0, 4294967295), (0, 2147483647)], 4294967295), ([(0, 4294967295), (2147483653, 4294967295)], 4294967295), ([(0, 4294967295), (2147483649, 2147483649)], 0), ([(2147483648, 2147483651), (2147483648, 2147483648)], 1), ([(2147483648, 2147483651), (2147483650, 2147483650)], 3), ([(2147483648, 2147483651), (2147483651, 2147483651)], 4), ([(2147483648, 2147483651), (2147483652, 2147483652)], 1), ([(2147483656, 2147483691), (2147483648, 2147483648)], 0), ([(2147483656, 2147483691), (2147483650, 2147483650)], 0), ([(2147483656, 2147483679), (2147483651, 2147483651)], 4), ([(2147483680, 2147483691), (2147483651, 2147483651)], 2), ([(2147483656, 2147483691), (2147483652, 2147483652)], 0)]
def sp_edge : List (ev_E × Nat) := [([(0, 2147483647), (0, 4294967295)], 4294967295), ([(2147483692, 4294967295), (0, 4294967295)], 4294967295), ([(2147483652, 2147483655), (0, 4294967295)], 4294967295), ([(0, 4294967295), (0, 2147483647)], 4294967295), ([(0, 4294967295), (2147483692, 4294967295)], 4294967295), ([(0, 4294967295), (2147483652, 2147483655)], 4294967295), ([(2147483656, 2147483691), (0, 4294967295)], 0), ([(0, 4294967295), (2147483656, 2147483691)], 0), ([(2147483648, 2147483648), (2147483648, 2147483648)], 0), ([(2147483649, 2147483649), (2147483649, 2147483649)], 0), ([(2147483650, 2147483650), (2147483650, 2147483650)], 0), ([(2147483651, 2147483651), (2147483651, 2147483651)], 0), ([(2147483648, 2147483648), (2147483649, 2147483649)], 1), ([(2147483648, 2147483648), (2147483650, 2147483650)], 1), ([(2147483648, 2147483648), (2147483651, 2147483651)], 1), ([(2147483649, 2147483649), (2147483648, 2147483648)], 1), ([(2147483649, 2147483649), (2147483650, 2147483650)], 1), ([(2147483649, 2147483649), (2147483651, 2147483651)], 1), ([(2147483650, 2147483650), (2147483648, 2147483648)], 1), ([(2147483650, 2147483650), (2147483649, 2147483649)], 1), ([(2147483650, 2147483650), (2147483651, 2147483651)], 1), ([(2147483651, 2147483651), (2147483648, 2147483648)], 1), ([(2147483651, 2147483651), (2147483649, 2147483649)], 1), ([(2147483651, 2147483651), (2147483650, 2147483650)], 1)]
def sp_colour : List (ev_E × Nat) := [([(0, 4294967295), (0, 4294967295)], 4294967295)]
def sp_left : List (ev_E × Nat) := [([(0, 4294967295)], 4294967295)]
def sp_run : List (ev_E × Nat) := [([(0, 2147483647), (0, 4294967295)], 4294967295), ([(2147483649, 4294967295), (0, 4294967295)], 4294967295), ([(2147483648, 2147483648), (0, 2147483647)], 4294967295), ([(2147483648, 2147483648), (2147483652, 4294967295)], 4294967295), ([(2147483648, 2147483648), (2147483648, 2147483651)], 0), ([(0, 4294967295), (0, 4294967295)], 4294967295)]
def sp_proved : List (ev_E × Nat) := [([], 4294967295)]
def sp_graph : List (ev_E × Nat) := [([(0, 2147483647)], 4294967295), ([(2147483652, 4294967295)], 4294967295), ([(2147483651, 2147483651)], 0), ([(2147483650, 2147483650)], 0), ([(2147483649, 2147483649)], 0), ([(2147483648, 2147483648)], 1)]
def sp_paint : List (ev_E × Nat) := [([(0, 2147483647), (0, 4294967295)], 0), ([(2147483672, 4294967295), (0, 4294967295)], 0), ([(0, 4294967295), (0, 2147483646)], 0), ([(0, 4294967295), (2147483656, 4294967295)], 0), ([(2147483648, 2147483671), (2147483647, 2147483655)], 1)]
def sp_image : List (ev_E × Nat) := [([(2147483648, 2147483648)], 0), ([(2147483649, 2147483649)], 1)]
def sp_look : List (ev_E × Nat) := [([(0, 2147483647)], 4294867296), ([(2147483659, 4294967295)], 4294867296), ([(2147483658, 2147483658)], 0), ([(2147483657, 2147483657)], 0), ([(2147483656, 2147483656)], 0), ([(2147483655, 2147483655)], 0), ([(2147483654, 2147483654)], 0), ([(2147483653, 2147483653)], 0), ([(2147483652, 2147483652)], 1), ([(2147483651, 2147483651)], 2), ([(2147483650, 2147483650)], 4), ([(2147483649, 2147483649)], 0), ([(2147483648, 2147483648)], 0)]
