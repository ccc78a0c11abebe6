set_option maxHeartbeats 4000000 in
theorem lw_turn {p : Program} {l : Launch} {e : Env} {s : State} {m : MethodId} {below : List Frame} {meth : Method} {c : Code} {b : Nat} {xs : Nat → Int32} {H : Heap} {locs : List Loc} {ls : Array Slot} {dC : Nat → ClassId} {dI : Nat → Nat → Nat} {ca : Nat → ClassId} {ρx ρm : Nat → Nat} {cells slots : Nat} (C0 : lw_At p s m meth c b 6 xs) (hK : va_K (dC, dI) ev_cl (ev_ty ca) s) (hcl : cells ≤ 1000) (hsl : slots ≤ 1000000) (hP : va_P (dC, dI) ev_cl (ev_wl (lw_sg xs) ρx ca ev_hxx 50 ++ ev_wl (lw_sg xs) ρm ca ev_hmm 39) H) (hD : va_D (fun q : Nat => s.heap.size ≤ q) (ev_wl (lw_sg xs) ρx ca ev_hxx 50 ++ ev_wl (lw_sg xs) ρm ca ev_hmm 39)) (hS : va_S (fun q : Nat => s.heap.size ≤ q) s.heap H locs) (hl : lv_has ls 4 [(0, .ref b), (1, .ref (ρx 0)), (2, .ref (ρm 0)), (3, .int 0)]) : W p l e room_1 s m #[Value.ref b] below meth c H locs cells slots (lw_Z below #[Value.ref b] s) (F0 m 27 ls []) := by
  have C1 := C0
  obtain ⟨hx, hb, hr, hml, hown, hts, hX, hbl, hlocks, hgv⟩ := C0
  refine lv_aload_n hx hb dl_27 rfl (lv_at hl 0 rfl) ?_
  refine lv_iload_n hx hb dl_28 rfl (lv_at hl 3 rfl) ?_
  refine va_sld (i := 0) hx hb hX hbl (Nat.not_le.mpr hbl) hS (ev_in (j := 0) (by decide) (by decide)) dl_29 ?_
  refine lv_bipush (v := 31) hx hb dl_30 (by decide) ?_
  refine lv_iand hx hb dl_32 ?_
  have e0 : (0 : Int32).toNatClampNeg = 0 := by decide +kernel
  rw [e0]
  obtain ⟨j, hj, ej⟩ := pk_andE (xs 0) (m := 31) 5 (by decide +kernel)
  have hjj : (xs 0 &&& 31).toNatClampNeg = j := by rw [ej]; exact nI_clamp (by omega)
  rw [ej]
  match j, hj, hjj with
  | 0, _, hjj => exact lv_tableIn (off := 91) (tgt := 124) hx hb dl_33 (by decide +kernel) (by decide +kernel) (by decide +kernel) (by decide) (lw_c0 C1 hK hcl hsl hjj hP hD hS hl)
  | 1, _, hjj => exact lv_tableIn (off := 124) (tgt := 157) hx hb dl_33 (by decide +kernel) (by decide +kernel) (by decide +kernel) (by decide) (lw_c1 C1 hK hcl hsl hjj hP hD hS hl)
  | 2, _, hjj => exact lv_tableIn (off := 187) (tgt := 220) hx hb dl_33 (by decide +kernel) (by decide +kernel) (by decide +kernel) (by decide) (lw_c2 C1 hK hcl hsl hjj hP hD hS hl)
  | 3, _, hjj => exact lv_tableIn (off := 210) (tgt := 243) hx hb dl_33 (by decide +kernel) (by decide +kernel) (by decide +kernel) (by decide) (lw_c3 C1 hK hcl hsl hjj hP hD hS hl)
  | 4, _, hjj => exact lv_tableIn (off := 223) (tgt := 256) hx hb dl_33 (by decide +kernel) (by decide +kernel) (by decide +kernel) (by decide) (lw_c4 C1 hK hcl hsl hjj hP hD hS hl)
  | 5, _, hjj => exact lv_tableIn (off := 246) (tgt := 279) hx hb dl_33 (by decide +kernel) (by decide +kernel) (by decide +kernel) (by decide) (lw_c5 C1 hK hcl hsl hjj hP hD hS hl)
  | 6, _, hjj => exact lv_tableIn (off := 295) (tgt := 328) hx hb dl_33 (by decide +kernel) (by decide +kernel) (by decide +kernel) (by decide) (lw_c6 C1 hK hcl hsl hjj hP hD hS hl)
  | 7, _, hjj => exact lv_tableIn (off := 308) (tgt := 341) hx hb dl_33 (by decide +kernel) (by decide +kernel) (by decide +kernel) (by decide) (lw_c7 C1 hK hcl hsl hjj hP hD hS hl)
  | 8, _, hjj => exact lv_tableIn (off := 367) (tgt := 400) hx hb dl_33 (by decide +kernel) (by decide +kernel) (by decide +kernel) (by decide) (lw_c8 C1 hK hcl hsl hjj hP hD hS hl)
  | 9, _, hjj => exact lv_tableIn (off := 400) (tgt := 433) hx hb dl_33 (by decide +kernel) (by decide +kernel) (by decide +kernel) (by decide) (lw_c9 C1 hK hcl hsl hjj hP hD hS hl)
  | 10, _, hjj => exact lv_tableIn (off := 433) (tgt := 466) hx hb dl_33 (by decide +kernel) (by decide +kernel) (by decide +kernel) (by decide) (lw_c10 C1 hK hcl hsl hjj hP hD hS hl)
  | 11, _, hjj => exact lv_tableIn (off := 466) (tgt := 499) hx hb dl_33 (by decide +kernel) (by decide +kernel) (by decide +kernel) (by decide) (lw_c11 C1 hK hcl hsl hjj hP hD hS hl)
  | 12, _, hjj => exact lv_tableIn (off := 499) (tgt := 532) hx hb dl_33 (by decide +kernel) (by decide +kernel) (by decide +kernel) (by decide) (lw_c12 C1 hK hcl hsl hjj hP hD hS hl)
  | 13, _, hjj => exact lv_tableIn (off := 522) (tgt := 555) hx hb dl_33 (by decide +kernel) (by decide +kernel) (by decide +kernel) (by decide) (lw_c13 C1 hK hcl hsl hjj hP hD hS hl)
  | 14, _, hjj => exact lv_tableIn (off := 555) (tgt := 588) hx hb dl_33 (by decide +kernel) (by decide +kernel) (by decide +kernel) (by decide) (lw_c14 C1 hK hcl hsl hjj hP hD hS hl)
  | 15, _, hjj => exact lv_tableIn (off := 568) (tgt := 601) hx hb dl_33 (by decide +kernel) (by decide +kernel) (by decide +kernel) (by decide) (lw_c15 C1 hK hcl hsl hjj hP hD hS hl)
  | 16, _, hjj => exact lv_tableIn (off := 591) (tgt := 624) hx hb dl_33 (by decide +kernel) (by decide +kernel) (by decide +kernel) (by decide) (lw_c16 C1 hK hcl hsl hjj hP hD hS hl)
  | 17, _, hjj => exact lv_tableIn (off := 624) (tgt := 657) hx hb dl_33 (by decide +kernel) (by decide +kernel) (by decide +kernel) (by decide) (lw_c17 C1 hK hcl hsl hjj hP hD hS hl)
  | 18, _, hjj => exact lv_tableIn (off := 663) (tgt := 696) hx hb dl_33 (by decide +kernel) (by decide +kernel) (by decide +kernel) (by decide) (lw_c18 C1 hK hcl hsl hjj hP hD hS hl)
  | 19, _, _ => exact lv_tableOut (tgt := 719) hx hb dl_33 (Or.inr (by decide +kernel)) (by decide) (lw_back C1 hS hl (by omega) (by omega))
  | 20, _, _ => exact lv_tableOut (tgt := 719) hx hb dl_33 (Or.inr (by decide +kernel)) (by decide) (lw_back C1 hS hl (by omega) (by omega))
  | 21, _, _ => exact lv_tableOut (tgt := 719) hx hb dl_33 (Or.inr (by decide +kernel)) (by decide) (lw_back C1 hS hl (by omega) (by omega))
  | 22, _, _ => exact lv_tableOut (tgt := 719) hx hb dl_33 (Or.inr (by decide +kernel)) (by decide) (lw_back C1 hS hl (by omega) (by omega))
  | 23, _, _ => exact lv_tableOut (tgt := 719) hx hb dl_33 (Or.inr (by decide +kernel)) (by decide) (lw_back C1 hS hl (by omega) (by omega))
  | 24, _, _ => exact lv_tableOut (tgt := 719) hx hb dl_33 (Or.inr (by decide +kernel)) (by decide) (lw_back C1 hS hl (by omega) (by omega))
  | 25, _, _ => exact lv_tableOut (tgt := 719) hx hb dl_33 (Or.inr (by decide +kernel)) (by decide) (lw_back C1 hS hl (by omega) (by omega))
  | 26, _, _ => exact lv_tableOut (tgt := 719) hx hb dl_33 (Or.inr (by decide +kernel)) (by decide) (lw_back C1 hS hl (by omega) (by omega))
  | 27, _, _ => exact lv_tableOut (tgt := 719) hx hb dl_33 (Or.inr (by decide +kernel)) (by decide) (lw_back C1 hS hl (by omega) (by omega))
  | 28, _, _ => exact lv_tableOut (tgt := 719) hx hb dl_33 (Or.inr (by decide +kernel)) (by decide) (lw_back C1 hS hl (by omega) (by omega))
  | 29, _, _ => exact lv_tableOut (tgt := 719) hx hb dl_33 (Or.inr (by decide +kernel)) (by decide) (lw_back C1 hS hl (by omega) (by omega))
  | 30, _, _ => exact lv_tableOut (tgt := 719) hx hb dl_33 (Or.inr (by decide +kernel)) (by decide) (lw_back C1 hS hl (by omega) (by omega))
  | 31, _, _ => exact lv_tableOut (tgt := 719) hx hb dl_33 (Or.inr (by decide +kernel)) (by decide) (lw_back C1 hS hl (by omega) (by omega))
  | n + 32, h, _ => exact absurd h (by show ¬ n + 32 < 32; omega)
