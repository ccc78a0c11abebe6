/-! ===== pure rows: ints by their numbers, trees, lists ===== -/
theorem ev_nm (a b : Nat) : Nat.mod a b = a % b := rfl
theorem ev_na (a b : Nat) : Nat.add a b = a + b := rfl
theorem ev_ns (a b : Nat) : Nat.sub a b = a - b := rfl
theorem ev_nx (a b : Nat) : Nat.mul a b = a * b := rfl
theorem ev_beq {a b : Nat} : Nat.beq a b = true ↔ a = b := ⟨Nat.eq_of_beq_eq_true, fun h => by rw [h]; exact Nat.beq_refl b⟩
theorem ev_beqf {a b : Nat} : Nat.beq a b = false ↔ a ≠ b := by
  rw [← Bool.not_eq_true, ev_beq]
theorem ev_blef {a b : Nat} : Nat.ble a b = false ↔ b < a := by
  rw [← Bool.not_eq_true, Nat.ble_eq]
  omega
theorem ev_on (n : Nat) : (Int32.ofNat n).toBitVec.toNat = n % 4294967296 := by
  show (BitVec.ofNat 32 n).toNat = _
  rw [BitVec.toNat_ofNat]
theorem ev_e32 {a b : Int32} (h : a.toBitVec.toNat = b.toBitVec.toNat) : a = b := Int32.toBitVec_inj.mp (BitVec.eq_of_toNat_eq h)
theorem ev_md (n : Nat) : Int32.ofNat (n % 4294967296) = Int32.ofNat n := ev_e32 (by rw [ev_on, ev_on, Nat.mod_mod])
theorem ev_onl (n : Nat) : (Int64.ofNat n).toBitVec.toNat = n % 18446744073709551616 := by
  show (BitVec.ofNat 64 n).toNat = _
  rw [BitVec.toNat_ofNat]
theorem ev_e64 {a b : Int64} (h : a.toBitVec.toNat = b.toBitVec.toNat) : a = b := Int64.toBitVec_inj.mp (BitVec.eq_of_toNat_eq h)
theorem ev_mdl (n : Nat) : Int64.ofNat (n % 18446744073709551616) = Int64.ofNat n := ev_e64 (by rw [ev_onl, ev_onl, Nat.mod_mod])
theorem ev_add (a b : Nat) : Int32.ofNat a + Int32.ofNat b = Int32.ofNat (a + b) := nI_add a b
theorem ev_mul (a b : Nat) : Int32.ofNat a * Int32.ofNat b = Int32.ofNat (a * b) := pk_mul a b
theorem ev_sub (a b : Nat) : Int32.ofNat a - Int32.ofNat b = Int32.ofNat (a + (4294967296 - b % 4294967296)) := by
  refine ev_e32 ?_
  rw [Int32.toBitVec_sub, BitVec.toNat_sub, ev_on, ev_on, ev_on]
  omega
theorem ev_and (a b : Nat) : Int32.ofNat a &&& Int32.ofNat b = Int32.ofNat (Nat.land a b) := by
  refine ev_e32 ?_
  rw [Int32.toBitVec_and, BitVec.toNat_and, ev_on, ev_on, ev_on]
  show _ = (a &&& b) % 2 ^ 32
  rw [Nat.and_mod_two_pow]
theorem ev_or (a b : Nat) : Int32.ofNat a ||| Int32.ofNat b = Int32.ofNat (Nat.lor a b) := by
  refine ev_e32 ?_
  rw [Int32.toBitVec_or, BitVec.toNat_or, ev_on, ev_on, ev_on]
  show _ = (a ||| b) % 2 ^ 32
  rw [Nat.or_mod_two_pow]
theorem ev_k31 (b : Nat) : Nat.land b 31 = b % 32 := Nat.and_two_pow_sub_one_eq_mod b 5
theorem ev_k63 (b : Nat) : Nat.land b 63 = b % 64 := Nat.and_two_pow_sub_one_eq_mod b 6
theorem ev_s31 (b : Nat) : Int32.ofNat b &&& 31 = Int32.ofNat (b % 32) := by
  rw [← ev_k31]
  exact ev_and b 31
theorem ev_sm1 : ∀ k, k < 32 → ((Int32.ofNat k).toBitVec.smod 32).toNat = k := by decide +kernel
theorem ev_shl (a b : Nat) : Int32.ofNat a <<< (Int32.ofNat b &&& 31) = Int32.ofNat (Nat.shiftLeft a (Nat.land b 31)) := by
  refine ev_e32 ?_
  rw [ev_s31, pk_shl _ _ (b % 32) (ev_sm1 _ (Nat.mod_lt _ (by decide))), ev_on, ev_on, ev_k31]
  show _ = (a <<< (b % 32)) % 4294967296
  rw [Nat.shiftLeft_eq, Nat.mod_mul_mod]
theorem ev_bm (n : Nat) (hn : n < 4294967296) : (n : Int).bmod 4294967296 = if n < 2147483648 then (n : Int) else (n : Int) - 4294967296 := by
  rw [Int.bmod_def]
  split <;> split <;> omega
theorem ev_ti (n : Nat) (hn : n < 4294967296) : (Int32.ofNat n).toInt = if n < 2147483648 then (n : Int) else (n : Int) - 4294967296 := by
  rw [Int32.toInt_ofNat']
  exact ev_bm n hn
theorem ev_shr (a b : Nat) : Int32.ofNat a >>> (Int32.ofNat b &&& 31) = Int32.ofNat (ev_sh a (Nat.land b 31)) := by
  have h := pk_shr (Int32.ofNat (a % 4294967296)) (Int32.ofNat (b % 32)) (b % 32) (ev_sm1 _ (Nat.mod_lt _ (by decide)))
  rw [ev_s31, ev_k31, ← ev_md a]
  have hr : a % 4294967296 < 4294967296 := Nat.mod_lt _ (by decide)
  show _ = Int32.ofNat (Bool.rec (motive := fun _ => Nat) (4294967295 - ((4294967295 - (a % 4294967296)) >>> (b % 32))) ((a % 4294967296) >>> (b % 32)) (Nat.ble (a % 4294967296) 2147483647))
  generalize b % 32 = k at *
  generalize a % 4294967296 = r at *
  refine Int32.toInt_inj.mp ?_
  rw [h, ev_ti r hr]
  have h1 : r >>> k ≤ r := Nat.shiftRight_le r k
  have h2 : (4294967295 - r) >>> k ≤ 4294967295 - r := Nat.shiftRight_le _ k
  by_cases hc : r < 2147483648
  · rw [if_pos hc, Nat.ble_eq_true_of_le (by omega)]
    show _ = (Int32.ofNat (r >>> k)).toInt
    rw [ev_ti _ (by omega), if_pos (by omega)]
    rfl
  · have hb : Nat.ble r 2147483647 = false := by
      rw [← Bool.not_eq_true, Nat.ble_eq]
      omega
    rw [if_neg hc, hb]
    show _ = (Int32.ofNat (4294967295 - ((4294967295 - r) >>> k))).toInt
    have e : (r : Int) - 4294967296 = Int.negSucc (4294967295 - r) := by omega
    rw [e]
    show Int.negSucc ((4294967295 - r) >>> k) = _
    generalize (4294967295 - r) >>> k = z at *
    rw [ev_ti _ (by omega), if_neg (by omega)]
    omega
theorem ev_ush (a b : Nat) : ((Int32.ofNat a).toUInt32 >>> ((Int32.ofNat b).toUInt32 &&& Int32.toUInt32 31)).toInt32 = Int32.ofNat (Nat.shiftRight (Nat.mod a 4294967296) (Nat.land b 31)) := by
  refine ev_e32 ?_
  have hs : (((Int32.ofNat b).toUInt32 &&& Int32.toUInt32 31).toBitVec % 32).toNat = b % 32 := by
    show ((BitVec.ofNat 32 b &&& BitVec.ofNat 32 31) % 32#32).toNat = _
    rw [BitVec.toNat_umod, BitVec.toNat_and, BitVec.toNat_ofNat, BitVec.toNat_ofNat]
    show (b % 4294967296 &&& 31) % 32 = _
    rw [show b % 4294967296 &&& 31 = (b % 4294967296) % 32 from ev_k31 _]
    omega
  rw [pk_ushr _ _ (b % 32) hs, ev_on, ev_on, ev_k31]
  show _ = ((a % 4294967296) >>> (b % 32)) % 4294967296
  rw [Nat.shiftRight_eq_div_pow]
  have h1 : a % 4294967296 / 2 ^ (b % 32) ≤ a % 4294967296 := Nat.div_le_self _ _
  rw [Nat.mod_eq_of_lt (a := a % 4294967296 / 2 ^ (b % 32)) (by omega)]
theorem ev_i2b_ok (a : Nat) : (Int32.ofNat a).toInt8.toInt32 = Int32.ofNat (ev_i2b a) := by
  have h : ∀ c, c < 256 → (Int32.ofNat c).toInt8.toInt32 = Int32.ofNat (ev_i2b c) := by decide +kernel
  have e1 : (Int32.ofNat a).toInt8 = (Int32.ofNat (a % 256)).toInt8 := by
    refine Int8.toBitVec_inj.mp (BitVec.eq_of_toNat_eq ?_)
    show ((BitVec.ofNat 32 a).signExtend 8).toNat = ((BitVec.ofNat 32 (a % 256)).signExtend 8).toNat
    rw [BitVec.signExtend_eq_setWidth_of_le _ (by decide), BitVec.signExtend_eq_setWidth_of_le _ (by decide), BitVec.toNat_setWidth, BitVec.toNat_setWidth, BitVec.toNat_ofNat, BitVec.toNat_ofNat]
    omega
  have e2 : ev_i2b a = ev_i2b (a % 256) := by
    show Bool.rec (motive := fun _ => Nat) (a % 256 + 4294967040) (a % 256) (Nat.ble (a % 256) 127) = Bool.rec (motive := fun _ => Nat) (a % 256 % 256 + 4294967040) (a % 256 % 256) (Nat.ble (a % 256 % 256) 127)
    rw [Nat.mod_mod]
  rw [e1, e2]
  exact h _ (Nat.mod_lt _ (by decide))
theorem ev_div (a b : Nat) (ha : a ≤ 2147483647) (hb : b ≤ 2147483647) (h0 : 1 ≤ b) : Int32.ofNat a / Int32.ofNat b = Int32.ofNat (a / b) := pk_div (by omega) (by omega) (by omega)
/-- an int, moved up so that its order is that of numbers -/
def ev_bi (x : Int32) : Nat := (x.toInt + 2147483648).toNat
theorem ev_bs_eq (a : Nat) : ev_bs a = (a + 2147483648) % 4294967296 := by
  cases a with
  | zero => decide +kernel
  | succ n => rfl
theorem ev_bi_of (a : Nat) : ev_bi (Int32.ofNat a) = ev_bs a := by
  have hr : a % 4294967296 < 4294967296 := Nat.mod_lt _ (by decide)
  rw [ev_bs_eq]
  unfold ev_bi
  rw [← ev_md a, ev_ti _ hr]
  split <;> omega
theorem ev_bi_lt (x y : Int32) : x < y ↔ ev_bi x < ev_bi y := by
  have a1 := Int32.le_toInt x
  have a2 := Int32.le_toInt y
  rw [Int32.lt_iff_toInt_lt]
  unfold ev_bi
  omega
theorem ev_bi_le (x y : Int32) : x ≤ y ↔ ev_bi x ≤ ev_bi y := by
  have a1 := Int32.le_toInt x
  have a2 := Int32.le_toInt y
  rw [Int32.le_iff_toInt_le]
  unfold ev_bi
  omega
theorem ev_bi_eq (x y : Int32) : x = y ↔ ev_bi x = ev_bi y := by
  have a1 := Int32.le_toInt x
  have a2 := Int32.le_toInt y
  rw [← Int32.toInt_inj]
  unfold ev_bi
  omega
theorem ev_bi_top (x : Int32) : ev_bi x < 4294967296 := by
  have a1 := Int32.toInt_lt x
  unfold ev_bi
  omega
theorem ev_bs_bi (x : Int32) : Int32.ofNat (ev_bs (ev_bi x)) = x := by
  rw [ev_bi_eq, ev_bi_of, ev_bs_eq, ev_bs_eq]
  have := ev_bi_top x
  omega
/-! longs -/
theorem ev_land (a b : Nat) : Int64.ofNat a &&& Int64.ofNat b = Int64.ofNat (Nat.land a b) := by
  refine ev_e64 ?_
  rw [Int64.toBitVec_and, BitVec.toNat_and, ev_onl, ev_onl, ev_onl]
  show _ = (a &&& b) % 2 ^ 64
  rw [Nat.and_mod_two_pow]
theorem ev_lor (a b : Nat) : Int64.ofNat a ||| Int64.ofNat b = Int64.ofNat (Nat.lor a b) := by
  refine ev_e64 ?_
  rw [Int64.toBitVec_or, BitVec.toNat_or, ev_onl, ev_onl, ev_onl]
  show _ = (a ||| b) % 2 ^ 64
  rw [Nat.or_mod_two_pow]
theorem ev_ladd (a b : Nat) : Int64.ofNat a + Int64.ofNat b = Int64.ofNat (a + b) := lN_add a b
theorem ev_lsub (a b : Nat) : Int64.ofNat a - Int64.ofNat b = Int64.ofNat (a + (18446744073709551616 - b % 18446744073709551616)) := by
  refine ev_e64 ?_
  rw [Int64.toBitVec_sub, BitVec.toNat_sub, ev_onl, ev_onl, ev_onl]
  omega
theorem ev_l2i (a : Nat) : (Int64.ofNat a).toInt32 = Int32.ofNat (a % 4294967296) := by
  refine ev_e32 ?_
  show ((BitVec.ofNat 64 a).signExtend 32).toNat = _
  rw [BitVec.signExtend_eq_setWidth_of_le _ (by decide), BitVec.toNat_setWidth, BitVec.toNat_ofNat, ev_on]
  omega
theorem ev_i2l_sm (b : Nat) : (Int32.ofNat b).toInt64 &&& 63 = Int64.ofNat (b % 64) := by
  refine ev_e64 ?_
  rw [Int64.toBitVec_and, BitVec.toNat_and, ev_onl]
  show ((BitVec.ofNat 32 b).signExtend 64).toNat &&& 63 = _
  rw [show ((BitVec.ofNat 32 b).signExtend 64).toNat &&& 63 = ((BitVec.ofNat 32 b).signExtend 64).toNat % 64 from ev_k63 _, BitVec.toNat_signExtend, BitVec.toNat_setWidth, BitVec.toNat_ofNat]
  split <;> omega
theorem ev_sml : ∀ k, k < 64 → ((Int64.ofNat k).toBitVec.smod 64).toNat = k := by decide +kernel
theorem ev_lshl (a b : Nat) : Int64.ofNat a <<< ((Int32.ofNat b).toInt64 &&& 63) = Int64.ofNat (Nat.shiftLeft a (Nat.land b 63)) := by
  rw [ev_i2l_sm, ev_k63]
  refine ev_e64 ?_
  show ((Int64.ofNat a).toBitVec <<< ((Int64.ofNat (b % 64)).toBitVec.smod 64)).toNat = _
  rw [BitVec.shiftLeft_eq', ev_sml _ (Nat.mod_lt _ (by decide)), BitVec.toNat_shiftLeft, ev_onl, ev_onl]
  show ((a % 18446744073709551616) <<< (b % 64)) % 18446744073709551616 = (a <<< (b % 64)) % 18446744073709551616
  rw [Nat.shiftLeft_eq, Nat.shiftLeft_eq, Nat.mod_mul_mod]
theorem ev_lush (a b : Nat) : ((Int64.ofNat a).toUInt64 >>> ((Int32.ofNat b).toInt64.toUInt64 &&& Int64.toUInt64 63)).toInt64 = Int64.ofNat (Nat.shiftRight (Nat.mod a 18446744073709551616) (Nat.land b 63)) := by
  have hs : ((Int32.ofNat b).toInt64.toUInt64 &&& Int64.toUInt64 63) = (Int64.ofNat (b % 64)).toUInt64 := congrArg Int64.toUInt64 (ev_i2l_sm b)
  rw [hs, ev_k63]
  refine ev_e64 ?_
  have hk : b % 64 < 64 := Nat.mod_lt _ (by decide)
  generalize b % 64 = k at *
  show ((BitVec.ofNat 64 a) >>> (BitVec.ofNat 64 k % 64#64)).toNat = _
  rw [BitVec.ushiftRight_eq', BitVec.toNat_ushiftRight, BitVec.toNat_umod, BitVec.toNat_ofNat, BitVec.toNat_ofNat, ev_onl]
  have e : k % 2 ^ 64 % (64#64).toNat = k := by
    show k % 18446744073709551616 % 64 = k
    omega
  rw [e]
  show (a % 18446744073709551616) >>> k = ((a % 18446744073709551616) >>> k) % 18446744073709551616
  have h1 := Nat.shiftRight_le (a % 18446744073709551616) k
  have h2 : a % 18446744073709551616 < 18446744073709551616 := Nat.mod_lt _ (by decide)
  generalize (a % 18446744073709551616) >>> k = z at *
  omega
theorem ev_tl (n : Nat) (hn : n < 18446744073709551616) : (Int64.ofNat n).toInt = if n < 9223372036854775808 then (n : Int) else (n : Int) - 18446744073709551616 := by
  rw [Int64.toInt_ofNat']
  show (n : Int).bmod 18446744073709551616 = _
  rw [Int.bmod_def]
  split <;> split <;> omega
theorem ev_lc3 (x y X Y : Nat) (hx : X = if x < 9223372036854775808 then x + 9223372036854775808 else x - 9223372036854775808) (hy : Y = if y < 9223372036854775808 then y + 9223372036854775808 else y - 9223372036854775808) (u v : Int) (hu : u = if x < 9223372036854775808 then (x : Int) else (x : Int) - 18446744073709551616) (hv : v = if y < 9223372036854775808 then (y : Int) else (y : Int) - 18446744073709551616) (hx2 : x < 18446744073709551616) (hy2 : y < 18446744073709551616) :
    (v < u ↔ Y < X) ∧ (u = v ↔ x = y) ∧ (x = y ↔ X = Y) := by
  split at hx <;> split at hy <;> split at hu <;> split at hv <;> omega
theorem ev_3r (x y X Y : Nat) (h : x = y ↔ X = Y) : ev_3l x y X Y = if Y < X then 1 else if x = y then 0 else 4294967295 := by
  unfold ev_3l
  cases h1 : Nat.beq x y with
  | true =>
    rw [ev_beq] at h1
    have := h.mp h1
    rw [if_neg (by omega), if_pos h1]
  | false =>
    rw [ev_beqf] at h1
    have : ¬ X = Y := fun q => h1 (h.mpr q)
    cases h2 : Nat.ble X Y with
    | true =>
      have h3 := Nat.le_of_ble_eq_true h2
      rw [if_neg (by omega), if_neg h1]
    | false =>
      rw [ev_blef] at h2
      rw [if_pos h2]
theorem ev_lcm_ok (a b : Nat) : lg_cmp (Int64.ofNat a) (Int64.ofNat b) = Int32.ofNat (ev_lcm a b) := by
  have ha : a % 18446744073709551616 < 18446744073709551616 := Nat.mod_lt _ (by decide)
  have hb : b % 18446744073709551616 < 18446744073709551616 := Nat.mod_lt _ (by decide)
  have hx : (a + 9223372036854775808) % 18446744073709551616 = if a % 18446744073709551616 < 9223372036854775808 then a % 18446744073709551616 + 9223372036854775808 else a % 18446744073709551616 - 9223372036854775808 := by split <;> omega
  have hy : (b + 9223372036854775808) % 18446744073709551616 = if b % 18446744073709551616 < 9223372036854775808 then b % 18446744073709551616 + 9223372036854775808 else b % 18446744073709551616 - 9223372036854775808 := by split <;> omega
  have hu := ev_tl _ ha
  have hv := ev_tl _ hb
  rw [ev_mdl] at hu hv
  obtain ⟨k1, k2, k3⟩ := ev_lc3 _ _ _ _ hx hy _ _ hu hv ha hb
  unfold ev_lcm
  simp only [ev_nm, ev_na]
  rw [ev_3r _ _ _ _ k3]
  unfold lg_cmp
  have c1 : (Int64.ofNat a > Int64.ofNat b) ↔ (b + 9223372036854775808) % 18446744073709551616 < (a + 9223372036854775808) % 18446744073709551616 := (Int64.lt_iff_toInt_lt).trans k1
  have c2 : (Int64.ofNat a = Int64.ofNat b) ↔ a % 18446744073709551616 = b % 18446744073709551616 := (Int64.toInt_inj).symm.trans k2
  by_cases d1 : Int64.ofNat a > Int64.ofNat b
  · rw [if_pos d1, if_pos (c1.mp d1)]; rfl
  · rw [if_neg d1, if_neg (fun q => d1 (c1.mpr q))]
    by_cases d2 : Int64.ofNat a = Int64.ofNat b
    · rw [if_pos d2, if_pos (c2.mp d2)]; rfl
    · rw [if_neg d2, if_neg (fun q => d2 (c2.mpr q))]; rfl
/-! three ways -/
theorem ev_c3r (q : Bool × Bool × Bool) (x y : Nat) : ev_3w q x y = if x < y then q.1 else if x = y then q.2.1 else q.2.2 := by
  unfold ev_3w
  cases h1 : Nat.beq x y with
  | true =>
    rw [ev_beq] at h1
    rw [if_neg (by omega), if_pos h1]
  | false =>
    rw [ev_beqf] at h1
    cases h2 : Nat.ble x y with
    | true =>
      have h3 := Nat.le_of_ble_eq_true h2
      rw [if_pos (by omega)]
    | false =>
      rw [ev_blef] at h2
      rw [if_neg (by omega), if_neg h1]
theorem ev_c3_ok (q : Bool × Bool × Bool) (a b : Nat) : ev_c3 q a b = if ev_bs a < ev_bs b then q.1 else if ev_bs a = ev_bs b then q.2.1 else q.2.2 := by
  unfold ev_c3
  rw [ev_c3r]
/-! numbers as rows -/
theorem ev_gm_tb (w M i b : Nat) : (ev_gm w M i).testBit b = (decide (b < w) && M.testBit (w * i + b)) := by
  show ((M >>> (w * i)) % 2 ^ w).testBit b = _
  rw [Nat.testBit_mod_two_pow, Nat.testBit_shiftRight]
theorem ev_gm_sm (w M i v j : Nat) : ev_gm w (ev_sm w M i v) j = if j = i then v % 2 ^ w else ev_gm w M j := by
  refine Nat.eq_of_testBit_eq fun b => ?_
  rw [ev_gm_tb]
  show (decide (b < w) && (M ^^^ ((ev_gm w M i ^^^ (v % 2 ^ w)) <<< (w * i))).testBit (w * j + b)) = _
  rw [Nat.testBit_xor, Nat.testBit_shiftLeft, Nat.testBit_xor, ev_gm_tb, Nat.testBit_mod_two_pow]
  by_cases hb : b < w
  · rcases Nat.lt_trichotomy j i with h | h | h
    · have : w * j + w ≤ w * i := by
        have := Nat.mul_le_mul_left w (show j + 1 ≤ i from h)
        rw [Nat.mul_add] at this
        omega
      rw [if_neg (by omega), ev_gm_tb]
      simp [hb, show ¬ w * i ≤ w * j + b by omega]
    · subst h
      rw [if_pos rfl, Nat.testBit_mod_two_pow]
      simp [hb]
    · have : w * i + w ≤ w * j := by
        have := Nat.mul_le_mul_left w (show i + 1 ≤ j from h)
        rw [Nat.mul_add] at this
        omega
      rw [if_neg (by omega), ev_gm_tb]
      simp [hb, show ¬ w * j + b - w * i < w by omega]
  · by_cases h : j = i
    · rw [if_pos h, Nat.testBit_mod_two_pow]
      simp [hb]
    · rw [if_neg h, ev_gm_tb]
      simp [hb]
theorem ev_ltm {w t n b : Nat} (h : t < n) (hb : b < w) : w * t + b < w * n := by
  have := Nat.mul_le_mul_left w (show t + 1 ≤ n from h)
  rw [Nat.mul_add] at this
  omega
theorem ev_gm_cp (w Md Ms sp dp n j : Nat) : ev_gm w (ev_cp w Md Ms sp dp n) j = if dp ≤ j ∧ j < dp + n then ev_gm w Ms (sp + (j - dp)) else ev_gm w Md j := by
  have e : ev_cp w Md Ms sp dp n = 2 ^ (w * dp) * (2 ^ (w * n) * (Md >>> (w * (dp + n))) + (Ms >>> (w * sp)) % 2 ^ (w * n)) + Md % 2 ^ (w * dp) := by
    show Md % 2 ^ (w * dp) + ((Ms >>> (w * sp)) % 2 ^ (w * n) + (Md >>> (w * (dp + n))) <<< (w * n)) <<< (w * dp) = _
    rw [Nat.shiftLeft_eq, Nat.shiftLeft_eq, Nat.add_comm, Nat.mul_comm _ (2 ^ (w * dp)), Nat.mul_comm _ (2 ^ (w * n)), Nat.add_comm (Ms >>> (w * sp) % 2 ^ (w * n))]
  refine Nat.eq_of_testBit_eq fun b => ?_
  rw [ev_gm_tb, e]
  by_cases hb : b < w
  · rw [Nat.testBit_two_pow_mul_add _ (Nat.mod_lt _ (Nat.two_pow_pos _)), Nat.testBit_two_pow_mul_add _ (Nat.mod_lt _ (Nat.two_pow_pos _)), Nat.testBit_mod_two_pow, Nat.testBit_mod_two_pow, Nat.testBit_shiftRight, Nat.testBit_shiftRight]
    by_cases h1 : dp ≤ j
    · obtain ⟨t, rfl⟩ : ∃ t, j = dp + t := ⟨j - dp, by omega⟩
      have k1 : ¬ w * (dp + t) + b < w * dp := by rw [Nat.mul_add]; omega
      have k2 : w * (dp + t) + b - w * dp = w * t + b := by rw [Nat.mul_add]; omega
      rw [if_neg k1, k2]
      by_cases h2 : t < n
      · rw [if_pos (ev_ltm h2 hb), if_pos (by omega), ev_gm_tb, show dp + t - dp = t by omega]
        simp [hb, ev_ltm h2 hb, Nat.mul_add, Nat.add_assoc]
      · obtain ⟨u, rfl⟩ : ∃ u, t = n + u := ⟨t - n, by omega⟩
        have k3 : ¬ w * (n + u) + b < w * n := by rw [Nat.mul_add]; omega
        have k4 : w * (n + u) + b - w * n = w * u + b := by rw [Nat.mul_add]; omega
        rw [if_neg k3, k4, if_neg (by omega), ev_gm_tb]
        simp [hb, Nat.mul_add, Nat.add_assoc]
    · rw [if_pos (ev_ltm (by omega) hb), if_neg (by omega), ev_gm_tb]
      simp [hb, ev_ltm (show j < dp by omega) hb]
  · split <;> simp [ev_gm_tb, hb]
theorem ev_gm_0 (w j : Nat) : ev_gm w 0 j = 0 := by
  show (0 >>> (w * j)) % 2 ^ w = 0
  simp
/-! trees -/
theorem ev_tg_s {α : Type} (d : Nat) (t : ev_tr α d × ev_tr α d) (i : Nat) : ev_tg (α := α) (d + 1) t i = if i % 2 = 0 then ev_tg d t.1 (i / 2) else ev_tg d t.2 (i / 2) := by
  show Bool.rec (motive := fun _ => α) (ev_tg d t.2 (i / 2)) (ev_tg d t.1 (i / 2)) (Nat.beq (i % 2) 0) = _
  cases h : Nat.beq (i % 2) 0 with
  | true => rw [if_pos (ev_beq.mp h)]
  | false => rw [if_neg (ev_beqf.mp h)]
theorem ev_ts_s {α : Type} (d : Nat) (t : ev_tr α d × ev_tr α d) (i : Nat) (v : α) : ev_ts (α := α) (d + 1) t i v = (if i % 2 = 0 then (ev_ts d t.1 (i / 2) v, t.2) else (t.1, ev_ts d t.2 (i / 2) v) : ev_tr α d × ev_tr α d) := by
  show (Bool.rec (motive := fun _ => ev_tr α d × ev_tr α d) (t.1, ev_ts d t.2 (i / 2) v) (ev_ts d t.1 (i / 2) v, t.2) (Nat.beq (i % 2) 0) : ev_tr α d × ev_tr α d) = _
  cases h : Nat.beq (i % 2) 0 with
  | true => rw [if_pos (ev_beq.mp h)]
  | false => rw [if_neg (ev_beqf.mp h)]
theorem ev_tg_ts {α : Type} (v : α) : ∀ (d : Nat) (t : ev_tr α d) (i j : Nat), i < 2 ^ d → j < 2 ^ d → ev_tg d (ev_ts d t i v) j = if j = i then v else ev_tg d t j
  | 0, t, i, j, hi, hj => by
    have h1 : i = 0 := by simpa using hi
    have h2 : j = 0 := by simpa using hj
    rw [h1, h2, if_pos rfl]
    rfl
  | d + 1, t, i, j, hi, hj => by
    have p : 2 ^ (d + 1) = 2 * 2 ^ d := by rw [Nat.pow_succ]; omega
    have h := ev_tg_ts v d
    rw [show ev_ts (d + 1) t i v = _ from ev_ts_s d t i v, show ev_tg (d + 1) t j = _ from ev_tg_s d t j]
    by_cases a : i % 2 = 0
    · rw [if_pos a, ev_tg_s]
      by_cases b : j % 2 = 0
      · rw [if_pos b, if_pos b, h _ _ _ (by omega) (by omega)]
        by_cases c : j = i
        · rw [if_pos c, if_pos (by omega)]
        · rw [if_neg c, if_neg (by omega)]
      · rw [if_neg b, if_neg b, if_neg (by omega)]
    · rw [if_neg a, ev_tg_s]
      by_cases b : j % 2 = 0
      · rw [if_pos b, if_pos b, if_neg (by omega)]
      · rw [if_neg b, if_neg b, h _ _ _ (by omega) (by omega)]
        by_cases c : j = i
        · rw [if_pos c, if_pos (by omega)]
        · rw [if_neg c, if_neg (by omega)]
/-! lists -/
theorem ev_ln_eq (l : List ev_V) (j : Nat) : ev_ln l j = l.getD j ev_U := by
  induction l generalizing j with
  | nil => simp [ev_ln]
  | cons a r ih =>
    cases j with
    | zero => rfl
    | succ j => exact (ih j).trans (by simp)
theorem ev_lp_eq (l : List ev_V) (j : Nat) (v : ev_V) : ev_lp l j v = l.set j v := by
  induction l generalizing j with
  | nil => rfl
  | cons a r ih =>
    cases j with
    | zero => rfl
    | succ j => exact congrArg (List.cons a) (ih j)
theorem ev_ln_some {l : List ev_V} {j : Nat} {v : ev_V} (h : ev_ln l j = v) (hv : v ≠ ev_U) : l[j]? = some v := by
  rw [ev_ln_eq, List.getD_eq_getElem?_getD] at h
  cases hj : l[j]? with
  | none => rw [hj] at h; exact absurd h.symm hv
  | some u => rw [hj] at h; exact congrArg some h
theorem ev_lb_eq (l : List (Nat × List ev_I)) (j : Nat) : ev_lb l j = [] ∧ l[j]? = none ∨ ∃ b, l[j]? = some b ∧ ev_lb l j = b.2 ∧ ev_pc l j = b.1 := by
  induction l generalizing j with
  | nil => exact Or.inl ⟨rfl, rfl⟩
  | cons a r ih =>
    cases j with
    | zero => exact Or.inr ⟨a, rfl, rfl, rfl⟩
    | succ j => exact ih j
theorem ev_lm_eq (l : List ev_M) (j : Nat) : ev_lm l j = l[j]? := by
  induction l generalizing j with
  | nil => rfl
  | cons a r ih =>
    cases j with
    | zero => rfl
    | succ j => exact ih j
