noncomputable def ev_tz {α : Type} (d : Nat) : α → ev_tr α d := Nat.rec (motive := fun d => α → ev_tr α d) (fun a => a) (fun d ih a => ((ih a, ih a) : ev_tr α d × ev_tr α d)) d
noncomputable def ev_h0 : ev_H := ev_tz 7 (.inr (9, 0, 0, []))
noncomputable def ev_nxx : ev_H := ev_ts 7 ev_h0 0 (.inl (0, [.inl 0, .inr (.inl 0), .inl 0, .inr (.inl 0), .inr (.inl 0), .inl 0, .inr (.inl 0), .inr (.inl 0), .inr (.inl 0), .inr (.inl 0), .inr (.inl 0), .inr (.inl 0)]))
noncomputable def ev_oxx : Option (List ev_O) := ev_met ev_pg 7 57 [.inr (.inl 1)] ev_nxx 1 []
noncomputable def ev_hxx : ev_H := match ev_oxx with
  | some [o] => o.2.1
  | _ => ev_nxx
theorem t_oxx : ev_oxx.isSome = true := by decide +kernel
noncomputable def ev_nmm : ev_H := ev_ts 7 ev_h0 0 (.inl (11, [.inr (.inl 0), .inl 0, .inr (.inl 0), .inr (.inl 0), .inl 0, .inr (.inl 0), .inl 0, .inr (.inl 0), .inr (.inl 0), .inr (.inl 0), .inr (.inl 0), .inr (.inl 0), .inr (.inl 0), .inr (.inl 0), .inr (.inl 0), .inr (.inl 0), .inr (.inl 0), .inr (.inl 0), .inr (.inl 0), .inr (.inl 0), .inl 0, .inr (.inl 0), .inl 0, .inr (.inl 0), .inl 0, .inl 0, .inr (.inl 0), .inl 0, .inl 0, .inr (.inl 0), .inl 0, .inl 0, .inr (.inl 0), .inl 0, .inl 0, .inl 0, .inr (.inl 0), .inl 0, .inr (.inl 0), .inl 0, .inl 0, .inl 0, .inl 0, .inl 0, .inl 0, .inl 0, .inl 0, .inl 0, .inr (.inl 0), .inr (.inl 0), .inl 0, .inl 0, .inl 0, .inl 0, .inr (.inl 0), .inr (.inl 0), .inr (.inl 0), .inr (.inl 0), .inr (.inl 0), .inr (.inl 0), .inl 0, .inr (.inl 0), .inl 0, .inr (.inl 0), .inr (.inl 0), .inl 0, .inr (.inl 0), .inr (.inl 0), .inr (.inl 0), .inl 0, .inl 0, .inl 0, .inl 0]))
noncomputable def ev_omm : Option (List ev_O) := ev_met ev_pg 7 60 [.inr (.inl 1)] ev_nmm 1 []
noncomputable def ev_hmm : ev_H := match ev_omm with
  | some [o] => o.2.1
  | _ => ev_nmm
theorem t_omm : ev_omm.isSome = true := by decide +kernel
theorem t_del_allocate : (ev_met ev_pg 7 95 [.inr (.inl 1)] ev_hmm 39 []).isSome = true := by decide +kernel
