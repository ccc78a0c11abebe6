/-! ===== a symbolic evaluator of bytecode, run by the kernel: what it computes with =====
ev_T: a token (an unknown int of the start) and what was done to it, the latest first; ev_V: a known int, a reference (0: null, k + 1: cell k), a long, a token, nothing; ev_C: an object (number of its kind, fields) or an array (kind: 0 int, 1 long, 2 boolean, 3 byte; length, contents as one number, tokens laid over it) -/
abbrev ev_T : Type := Nat × List (Nat × Nat)
abbrev ev_V : Type := Nat ⊕ (Nat ⊕ (Nat ⊕ (ev_T ⊕ Unit)))
abbrev ev_C : Type := (Nat × List ev_V) ⊕ (Nat × Nat × Nat × List (Nat × ev_V))
def ev_tr (α : Type) : Nat → Type
  | 0 => α
  | n + 1 => ev_tr α n × ev_tr α n
/-- a leaf of a tree, the lowest bit of its number first -/
noncomputable def ev_tg {α : Type} (d : Nat) : ev_tr α d → Nat → α := Nat.rec (motive := fun d => ev_tr α d → Nat → α) (fun t _ => t) (fun d ih (t : ev_tr α d × ev_tr α d) i => Bool.rec (motive := fun _ => α) (ih t.2 (Nat.div i 2)) (ih t.1 (Nat.div i 2)) (Nat.beq (Nat.mod i 2) 0)) d
noncomputable def ev_ts {α : Type} (d : Nat) : ev_tr α d → Nat → α → ev_tr α d := Nat.rec (motive := fun d => ev_tr α d → Nat → α → ev_tr α d) (fun _ _ v => v) (fun d ih (t : ev_tr α d × ev_tr α d) i v => (Bool.rec (motive := fun _ => ev_tr α d × ev_tr α d) (t.1, ih t.2 (Nat.div i 2) v) (ih t.1 (Nat.div i 2) v, t.2) (Nat.beq (Nat.mod i 2) 0) : ev_tr α d × ev_tr α d)) d
abbrev ev_U : ev_V := .inr (.inr (.inr (.inr ())))
noncomputable def ev_ln (l : List ev_V) : Nat → ev_V := List.rec (motive := fun _ => Nat → ev_V) (fun _ => ev_U) (fun a _ ih j => Nat.rec (motive := fun _ => ev_V) a (fun j' _ => ih j') j) l
noncomputable def ev_lp (l : List ev_V) : Nat → ev_V → List ev_V := List.rec (motive := fun _ => Nat → ev_V → List ev_V) (fun _ _ => []) (fun a r ih j v => Nat.rec (motive := fun _ => List ev_V) (v :: r) (fun j' _ => a :: ih j' v) j) l
noncomputable def ev_isl : ev_V → Bool
  | .inr (.inr (.inl _)) => true
  | _ => false
/-- the place ahead of j holds no long -/
noncomputable def ev_nl (l : List ev_V) (j : Nat) : Bool := Nat.rec (motive := fun _ => Bool) true (fun j' _ => Bool.not (ev_isl (ev_ln l j'))) j
/-! ints by their numbers -/
noncomputable def ev_bs (a : Nat) : Nat := Nat.rec (motive := fun _ => Nat) 2147483648 (fun n _ => Nat.mod (Nat.add (Nat.succ n) 2147483648) 4294967296) a
noncomputable def ev_gm (w M i : Nat) : Nat := Nat.mod (Nat.shiftRight M (Nat.mul w i)) (Nat.pow 2 w)
noncomputable def ev_sm (w M i v : Nat) : Nat := Nat.xor M (Nat.shiftLeft (Nat.xor (ev_gm w M i) (Nat.mod v (Nat.pow 2 w))) (Nat.mul w i))
noncomputable def ev_cp (w Md Ms sp dp n : Nat) : Nat := Nat.add (Nat.mod Md (Nat.pow 2 (Nat.mul w dp))) (Nat.shiftLeft (Nat.add (Nat.mod (Nat.shiftRight Ms (Nat.mul w sp)) (Nat.pow 2 (Nat.mul w n))) (Nat.shiftLeft (Nat.shiftRight Md (Nat.mul w (Nat.add dp n))) (Nat.mul w n))) (Nat.mul w dp))
noncomputable def ev_sh (a k : Nat) : Nat := Bool.rec (motive := fun _ => Nat) (Nat.sub 4294967295 (Nat.shiftRight (Nat.sub 4294967295 (Nat.mod a 4294967296)) k)) (Nat.shiftRight (Nat.mod a 4294967296) k) (Nat.ble (Nat.mod a 4294967296) 2147483647)
noncomputable def ev_i2b (a : Nat) : Nat := Bool.rec (motive := fun _ => Nat) (Nat.add (Nat.mod a 256) 4294967040) (Nat.mod a 256) (Nat.ble (Nat.mod a 256) 127)
noncomputable def ev_bin (op a b : Nat) : Nat := match op with
  | 0 => Nat.mod (Nat.add a b) 4294967296
  | 1 => Nat.mod (Nat.mul a b) 4294967296
  | 2 => ev_sh a (Nat.land b 31)
  | 3 => Nat.land a b
  | 4 => Nat.mod (Nat.add a (Nat.sub 4294967296 (Nat.mod b 4294967296))) 4294967296
  | 5 => Nat.lor a b
  | 6 => Nat.mod (Nat.shiftLeft a (Nat.land b 31)) 4294967296
  | _ => Nat.shiftRight (Nat.mod a 4294967296) (Nat.land b 31)
noncomputable def ev_lbn (op a b : Nat) : Nat := match op with
  | 0 => Nat.land a b
  | 1 => Nat.mod (Nat.add a b) 18446744073709551616
  | 2 => Nat.mod (Nat.add a (Nat.sub 18446744073709551616 (Nat.mod b 18446744073709551616))) 18446744073709551616
  | _ => Nat.lor a b
noncomputable def ev_lsh (op a b : Nat) : Nat := match op with
  | 0 => Nat.shiftRight (Nat.mod a 18446744073709551616) (Nat.land b 63)
  | _ => Nat.mod (Nat.shiftLeft a (Nat.land b 63)) 18446744073709551616
noncomputable def ev_3l (x y X Y : Nat) : Nat := Bool.rec (motive := fun _ => Nat) (Bool.rec (motive := fun _ => Nat) 1 4294967295 (Nat.ble X Y)) 0 (Nat.beq x y)
noncomputable def ev_lcm (a b : Nat) : Nat := ev_3l (Nat.mod a 18446744073709551616) (Nat.mod b 18446744073709551616) (Nat.mod (Nat.add a 9223372036854775808) 18446744073709551616) (Nat.mod (Nat.add b 9223372036854775808) 18446744073709551616)
/-- less, equal, greater -/
noncomputable def ev_3w (q : Bool × Bool × Bool) (x y : Nat) : Bool := Bool.rec (motive := fun _ => Bool) (Bool.rec (motive := fun _ => Bool) q.2.2 q.1 (Nat.ble x y)) q.2.1 (Nat.beq x y)
noncomputable def ev_c3 (q : Bool × Bool × Bool) (a b : Nat) : Bool := ev_3w q (ev_bs a) (ev_bs b)
/-! instructions: load (int, reference, long), push, compare, field .. -/
abbrev ev_I : Type := ((((((Nat) ⊕ (Nat)) ⊕ ((ev_V × Nat × Nat) ⊕ ((Bool × Bool × Bool) × Nat))) ⊕ (((Nat × Nat × Nat × Nat) ⊕ (Nat)) ⊕ ((Nat × Nat) ⊕ (Nat)))) ⊕ ((((Nat) ⊕ (Nat)) ⊕ (((Bool × Bool × Bool) × Nat) ⊕ (Nat))) ⊕ (((Nat × Nat × Nat × Nat × Nat × Nat × Nat) ⊕ (Nat)) ⊕ ((Nat) ⊕ (Nat))))) ⊕ (((((Nat) ⊕ (Nat × Nat × Nat × Nat × Nat)) ⊕ ((Nat) ⊕ (Nat))) ⊕ (((Unit) ⊕ (Nat)) ⊕ ((Nat) ⊕ (Nat)))) ⊕ ((((Unit) ⊕ (Nat)) ⊕ ((Nat × Nat × List ev_V) ⊕ (Nat))) ⊕ (((Nat) ⊕ (Nat × Nat × List Nat × Nat)) ⊕ ((Nat) ⊕ (Nat))))))
noncomputable def ei_li (x : Nat) : ev_I := .inl (.inl (.inl (.inl (.inl (x)))))
noncomputable def ei_la (x : Nat) : ev_I := .inl (.inl (.inl (.inl (.inr (x)))))
noncomputable def ei_pu (x : ev_V × Nat × Nat) : ev_I := .inl (.inl (.inl (.inr (.inl (x)))))
noncomputable def ei_ic (x : (Bool × Bool × Bool) × Nat) : ev_I := .inl (.inl (.inl (.inr (.inr (x)))))
noncomputable def ei_gf (x : Nat × Nat × Nat × Nat) : ev_I := .inl (.inl (.inr (.inl (.inl (x)))))
noncomputable def ei_go (x : Nat) : ev_I := .inl (.inl (.inr (.inl (.inr (x)))))
noncomputable def ei_ii (x : Nat × Nat) : ev_I := .inl (.inl (.inr (.inr (.inl (x)))))
noncomputable def ei_ib (x : Nat) : ev_I := .inl (.inl (.inr (.inr (.inr (x)))))
noncomputable def ei_al (x : Nat) : ev_I := .inl (.inr (.inl (.inl (.inl (x)))))
noncomputable def ei_as (x : Nat) : ev_I := .inl (.inr (.inl (.inl (.inr (x)))))
noncomputable def ei_if (x : (Bool × Bool × Bool) × Nat) : ev_I := .inl (.inr (.inl (.inr (.inl (x)))))
noncomputable def ei_re (x : Nat) : ev_I := .inl (.inr (.inl (.inr (.inr (x)))))
noncomputable def ei_ca (x : Nat × Nat × Nat × Nat × Nat × Nat × Nat) : ev_I := .inl (.inr (.inr (.inl (.inl (x)))))
noncomputable def ei_si (x : Nat) : ev_I := .inl (.inr (.inr (.inl (.inr (x)))))
noncomputable def ei_dv (x : Nat) : ev_I := .inl (.inr (.inr (.inr (.inl (x)))))
noncomputable def ei_ll (x : Nat) : ev_I := .inl (.inr (.inr (.inr (.inr (x)))))
noncomputable def ei_fa (x : Nat) : ev_I := .inr (.inl (.inl (.inl (.inl (x)))))
noncomputable def ei_pf (x : Nat × Nat × Nat × Nat × Nat) : ev_I := .inr (.inl (.inl (.inl (.inr (x)))))
noncomputable def ei_lb (x : Nat) : ev_I := .inr (.inl (.inl (.inr (.inl (x)))))
noncomputable def ei_ls (x : Nat) : ev_I := .inr (.inl (.inl (.inr (.inr (x)))))
noncomputable def ei_lc : ev_I := .inr (.inl (.inr (.inl (.inl (())))))
noncomputable def ei_sl (x : Nat) : ev_I := .inr (.inl (.inr (.inl (.inr (x)))))
noncomputable def ei_un (x : Nat) : ev_I := .inr (.inl (.inr (.inr (.inl (x)))))
noncomputable def ei_st (x : Nat) : ev_I := .inr (.inl (.inr (.inr (.inr (x)))))
noncomputable def ei_an : ev_I := .inr (.inr (.inl (.inl (.inl (())))))
noncomputable def ei_na (x : Nat) : ev_I := .inr (.inr (.inl (.inl (.inr (x)))))
noncomputable def ei_nw (x : Nat × Nat × List ev_V) : ev_I := .inr (.inr (.inl (.inr (.inl (x)))))
noncomputable def ei_oi (x : Nat) : ev_I := .inr (.inr (.inl (.inr (.inr (x)))))
noncomputable def ei_cy (x : Nat) : ev_I := .inr (.inr (.inr (.inl (.inl (x)))))
noncomputable def ei_tw (x : Nat × Nat × List Nat × Nat) : ev_I := .inr (.inr (.inr (.inl (.inr (x)))))
noncomputable def ei_nn (x : Nat) : ev_I := .inr (.inr (.inr (.inr (.inl (x)))))
noncomputable def ei_sa (x : Nat) : ev_I := .inr (.inr (.inr (.inr (.inr (x)))))
abbrev ev_H : Type := ev_tr ev_C 7
abbrev ev_E : Type := List (Nat × Nat)
/-- the heap, how many cells it has, the tokens' bounds, cells and slots made -/
abbrev ev_Wd : Type := ev_H × Nat × ev_E × Nat × Nat
abbrev ev_O : Type := ev_V × ev_H × Nat × ev_E
abbrev ev_R : Type := Option (List ev_O)
/-- a method: blocks (place, instructions), the first block's number, most cells and slots made, locals, name, bytes, what it returns -/
abbrev ev_M : Type := List (Nat × List ev_I) × Nat × Nat × Nat × Nat × MethodName × ByteArray × Option FieldType
abbrev ev_K : Type := List ev_I → List ev_V → List ev_V → ev_Wd → ev_R
abbrev ev_Q : Type := Nat → List ev_V → ev_H → Nat → ev_E → ev_R
abbrev ev_A : Type := ev_Q → ev_K → ev_M → List ev_I → List ev_V → List ev_V → ev_Wd → ev_R
noncomputable def ev_lb (l : List (Nat × List ev_I)) : Nat → List ev_I := List.rec (motive := fun _ => Nat → List ev_I) (fun _ => []) (fun a _ ih j => Nat.rec (motive := fun _ => List ev_I) a.2 (fun j' _ => ih j') j) l
noncomputable def ev_pc (l : List (Nat × List ev_I)) : Nat → Nat := List.rec (motive := fun _ => Nat → Nat) (fun _ => 0) (fun a _ ih j => Nat.rec (motive := fun _ => Nat) a.1 (fun j' _ => ih j') j) l
noncomputable def ev_jn (a b : ev_R) : ev_R := match a with
  | none => none
  | some x => match b with
    | none => none
    | some y => some (x ++ y)
noncomputable def ev_en (c : Nat) : Nat → (Nat → ev_R) → ev_R := Nat.rec (motive := fun _ => Nat → (Nat → ev_R) → ev_R) (fun _ _ => some []) (fun _ ih lo f => ev_jn (f lo) (ih (Nat.succ lo) f)) c
noncomputable def ev_bo (l : List ev_O) (f : ev_O → ev_R) : ev_R := match l with
  | [] => some []
  | o :: r => match r with
    | [] => f o
    | _ => ev_jn (f o) (ev_bo r f)
/-- an int of the start, of few values: each of them -/
noncomputable def ev_rs (t : ev_T) (e : ev_E) (f : Nat → ev_E → ev_R) : ev_R := match t with
  | (k, []) => match e[k]? with
    | none => none
    | some (lo, hi) => Bool.rec (motive := fun _ => ev_R) (Bool.rec (motive := fun _ => ev_R) none (ev_en (Nat.succ (Nat.sub hi lo)) lo (fun v => f (ev_bs v) (e.set k (v, v)))) (Nat.ble (Nat.sub hi lo) 64)) (f (ev_bs lo) e) (Nat.beq lo hi)
  | _ => none
noncomputable def ev_wide (t : ev_T) (e : ev_E) : Bool := match t with
  | (k, []) => match e[k]? with
    | none => false
    | some (lo, hi) => Nat.ble 65 (Nat.sub hi lo)
  | _ => true
/-- a token beside a known int (biased): less, equal, greater -/
noncomputable def ev_sp (t : ev_T) (y : Nat) (e : ev_E) (f g h : ev_E → ev_R) : ev_R := match t with
  | (k, []) => match e[k]? with
    | none => none
    | some (lo, hi) => ev_jn (Bool.rec (motive := fun _ => ev_R) (some []) (f (e.set k (lo, Nat.min hi (Nat.pred y)))) (Nat.ble (Nat.succ lo) y)) (ev_jn (Bool.rec (motive := fun _ => ev_R) (some []) (Bool.rec (motive := fun _ => ev_R) (some []) (g (e.set k (y, y))) (Nat.ble y hi)) (Nat.ble lo y)) (Bool.rec (motive := fun _ => ev_R) (some []) (h (e.set k (Nat.max lo (Nat.succ y), hi))) (Nat.ble (Nat.succ y) hi)))
  | _ => none
/-! references that lie in the heap -/
noncomputable def ev_clV (n : Nat) (v : ev_V) : Bool := match v with
  | .inr (.inl r) => Nat.ble r n
  | _ => true
noncomputable def ev_clC (n : Nat) (c : ev_C) : Bool := match c with
  | .inl (_, fs) => fs.all (ev_clV n)
  | .inr _ => true
noncomputable def ev_clH (n : Nat) (h : ev_H) : Bool := (List.range n).all (fun i => ev_clC n (ev_tg 7 h i))
noncomputable def ev_cat (l : List ev_V) : Nat := match l with
  | [] => 0
  | v :: r => Bool.rec (motive := fun _ => Nat) (Nat.succ (ev_cat r)) (Nat.succ (Nat.succ (ev_cat r))) (ev_isl v)
/-! what an instruction does -/
noncomputable def ea_li2 (u : Nat ⊕ (Nat ⊕ (ev_T ⊕ Unit))) (k : ev_K) (r : List ev_I) (ls st : List ev_V) (w : ev_Wd) : ev_R := match u with
  | .inr (.inr (.inl t)) => k r ls (.inr (.inr (.inr (.inl t))) :: st) w
  | _ => none
noncomputable def ea_li (j : Nat) : ev_A := fun _ k _ r ls st w => Sum.rec (motive := fun _ => ev_R) (fun n => k r ls (.inl n :: st) w) (fun u => ea_li2 u k r ls st w) (ev_ln ls j)
noncomputable def ea_la (j : Nat) : ev_A := fun _ k _ r ls st w => Sum.rec (motive := fun _ => ev_R) (fun _ => none) (fun u => Sum.rec (motive := fun _ => ev_R) (fun x => k r ls (.inr (.inl x) :: st) w) (fun _ => none) u) (ev_ln ls j)
noncomputable def ea_ll (j : Nat) : ev_A := fun _ k _ r ls st w => match ev_ln ls j with
  | .inr (.inr (.inl x)) => k r ls (.inr (.inr (.inl x)) :: st) w
  | _ => none
noncomputable def ea_pu (x : ev_V × Nat × Nat) : ev_A := fun _ k _ r ls st w => k r ls (x.1 :: st) w
noncomputable def ea_go (t : Nat) : ev_A := fun _ k m _ ls st w => k (ev_lb m.1 t) ls st w
noncomputable def ea_ii (x : Nat × Nat) : ev_A := fun _ k _ r ls st w => Sum.rec (motive := fun _ => ev_R) (fun n => k r (ev_lp ls x.1 (.inl (Nat.mod (Nat.add n x.2) 4294967296))) st w) (fun _ => none) (ev_ln ls x.1)
noncomputable def ea_si (j : Nat) : ev_A := fun _ k _ r ls st w => match st with
  | .inl n :: s => Bool.rec (motive := fun _ => ev_R) none (k r (ev_lp ls j (.inl n)) s w) (ev_nl ls j)
  | .inr (.inr (.inr (.inl t))) :: s => Bool.rec (motive := fun _ => ev_R) none (k r (ev_lp ls j (.inr (.inr (.inr (.inl t))))) s w) (ev_nl ls j)
  | _ => none
noncomputable def ea_sa (j : Nat) : ev_A := fun _ k _ r ls st w => match st with
  | .inr (.inl x) :: s => Bool.rec (motive := fun _ => ev_R) none (k r (ev_lp ls j (.inr (.inl x))) s w) (ev_nl ls j)
  | _ => none
noncomputable def ea_sl (j : Nat) : ev_A := fun _ k _ r ls st w => match st with
  | .inr (.inr (.inl x)) :: s => Bool.rec (motive := fun _ => ev_R) none (k r (ev_lp (ev_lp ls (Nat.succ j) ev_U) j (.inr (.inr (.inl x)))) s w) (ev_nl ls j)
  | _ => none
/-- the world with other bounds of the tokens -/
noncomputable def ev_we (w : ev_Wd) (e : ev_E) : ev_Wd := (w.1, w.2.1, e, w.2.2.2)
noncomputable def ea_ib4 (op b : Nat) (k : ev_K) (r : List ev_I) (ls s : List ev_V) (w : ev_Wd) (u : Nat ⊕ (Nat ⊕ (ev_T ⊕ Unit))) : ev_R := match u with
  | .inr (.inr (.inl t)) => Bool.rec (motive := fun _ => ev_R) (ev_rs t w.2.2.1 (fun v e => k (ei_ib op :: r) ls (.inl b :: .inl v :: s) (ev_we w e))) (k r ls (.inr (.inr (.inr (.inl (t.1, (op, b) :: t.2)))) :: s) w) (Bool.and (ev_wide t w.2.2.1) (Bool.or (Nat.beq op 2) (Bool.or (Nat.beq op 3) (Nat.beq op 7))))
  | _ => none
noncomputable def ea_ib3 (op : Nat) (k : ev_K) (r : List ev_I) (ls s : List ev_V) (w : ev_Wd) (u : Nat ⊕ (Nat ⊕ (ev_T ⊕ Unit))) : ev_R := match u with
  | .inr (.inr (.inl t)) => ev_rs t w.2.2.1 (fun v e => k (ei_ib op :: r) ls (.inl v :: s) (ev_we w e))
  | _ => none
noncomputable def ea_ib2 (op : Nat) (k : ev_K) (r : List ev_I) (ls s : List ev_V) (w : ev_Wd) (b : Nat) : ev_R := List.rec (motive := fun _ => ev_R) none (fun v s _ => Sum.rec (motive := fun _ => ev_R) (fun a => k r ls (.inl (ev_bin op a b) :: s) w) (fun u => ea_ib4 op b k r ls s w u) v) s
noncomputable def ea_ib (op : Nat) : ev_A := fun _ k _ r ls st w => List.rec (motive := fun _ => ev_R) none (fun v s _ => Sum.rec (motive := fun _ => ev_R) (fun b => ea_ib2 op k r ls s w b) (fun u => ea_ib3 op k r ls s w u) v) st
/-- a quotient; the lesser of two (1 and the index of the call) -/
noncomputable def ea_dv (x : Nat) : ev_A := fun _ k m r ls st w => match x, st with
  | 0, .inl b :: .inl a :: s => Bool.rec (motive := fun _ => ev_R) none (k r ls (.inl (Nat.div a b) :: s) w) (Bool.and (Nat.ble a 2147483647) (Bool.and (Nat.ble b 2147483647) (Nat.ble 1 b)))
  | _ + 1, .inl b :: .inl a :: s => Bool.rec (motive := fun _ => ev_R) none (k r ls (.inl (Bool.rec (motive := fun _ => Nat) a b (ev_c3 (true, false, false) b a)) :: s) w) (Bool.and (Nat.ble (ev_cat s) 8) (Bool.and (Nat.ble w.2.2.2.1 m.2.2.1) (Nat.ble w.2.2.2.2 m.2.2.2.1)))
  | i + 1, .inr (.inr (.inr (.inl t))) :: s => ev_rs t w.2.2.1 (fun v e => k (ei_dv (i + 1) :: r) ls (.inl v :: s) (ev_we w e))
  | i + 1, .inl b :: .inr (.inr (.inr (.inl t))) :: s => ev_rs t w.2.2.1 (fun v e => k (ei_dv (i + 1) :: r) ls (.inl b :: .inl v :: s) (ev_we w e))
  | _, _ => none
noncomputable def ea_lb (op : Nat) : ev_A := fun _ k _ r ls st w => match st with
  | .inr (.inr (.inl b)) :: .inr (.inr (.inl a)) :: s => k r ls (.inr (.inr (.inl (ev_lbn op a b))) :: s) w
  | _ => none
noncomputable def ea_ls (op : Nat) : ev_A := fun _ k _ r ls st w => match st with
  | .inl b :: .inr (.inr (.inl a)) :: s => k r ls (.inr (.inr (.inl (ev_lsh op a b))) :: s) w
  | .inr (.inr (.inr (.inl t))) :: s => ev_rs t w.2.2.1 (fun v e => k (ei_ls op :: r) ls (.inl v :: s) (ev_we w e))
  | _ => none
noncomputable def ea_lc : ev_A := fun _ k _ r ls st w => match st with
  | .inr (.inr (.inl b)) :: .inr (.inr (.inl a)) :: s => k r ls (.inl (ev_lcm a b) :: s) w
  | _ => none
noncomputable def ea_un (op : Nat) : ev_A := fun _ k _ r ls st w => match st with
  | .inr (.inr (.inl a)) :: s => Bool.rec (motive := fun _ => ev_R) none (k r ls (.inl (Nat.mod a 4294967296) :: s) w) (Nat.beq op 0)
  | .inl a :: s => Bool.rec (motive := fun _ => ev_R) none (k r ls (.inl (ev_i2b a) :: s) w) (Nat.beq op 1)
  | .inr (.inr (.inr (.inl t))) :: s => Bool.rec (motive := fun _ => ev_R) none (k r ls (.inr (.inr (.inr (.inl (t.1, (9, 0) :: t.2)))) :: s) w) (Nat.beq op 1)
  | _ => none
noncomputable def ea_st (op : Nat) : ev_A := fun _ k _ r ls st w => match op, st with
  | 0, v :: s => Bool.rec (motive := fun _ => ev_R) (k r ls (v :: v :: s) w) none (ev_isl v)
  | 1, v :: u :: s => Bool.rec (motive := fun _ => ev_R) (k r ls (v :: u :: v :: u :: s) w) none (Bool.or (ev_isl v) (ev_isl u))
  | 2, v :: s => Bool.rec (motive := fun _ => ev_R) (k r ls s w) none (ev_isl v)
  | _, _ => none
/-- on the one way or the other -/
noncomputable def ev_to (b : Bool) (k : ev_K) (m : ev_M) (t : Nat) (r : List ev_I) (ls s : List ev_V) (w : ev_Wd) (e : ev_E) : ev_R := k (Bool.rec (motive := fun _ => List ev_I) r (ev_lb m.1 t) b) ls s (ev_we w e)
noncomputable def ea_ic4 (x : (Bool × Bool × Bool) × Nat) (k : ev_K) (m : ev_M) (r : List ev_I) (ls s : List ev_V) (w : ev_Wd) (b : Nat) (u : Nat ⊕ (Nat ⊕ (ev_T ⊕ Unit))) : ev_R := match u with
  | .inr (.inr (.inl t)) => ev_sp t (ev_bs b) w.2.2.1 (ev_to x.1.1 k m x.2 r ls s w) (ev_to x.1.2.1 k m x.2 r ls s w) (ev_to x.1.2.2 k m x.2 r ls s w)
  | _ => none
noncomputable def ea_ic3 (x : (Bool × Bool × Bool) × Nat) (k : ev_K) (m : ev_M) (r : List ev_I) (ls s : List ev_V) (w : ev_Wd) (u : Nat ⊕ (Nat ⊕ (ev_T ⊕ Unit))) : ev_R := match u, s with
  | .inr (.inr (.inl t)), .inl a :: s => ev_sp t (ev_bs a) w.2.2.1 (ev_to x.1.2.2 k m x.2 r ls s w) (ev_to x.1.2.1 k m x.2 r ls s w) (ev_to x.1.1 k m x.2 r ls s w)
  | _, _ => none
noncomputable def ea_ic2 (x : (Bool × Bool × Bool) × Nat) (k : ev_K) (m : ev_M) (r : List ev_I) (ls s : List ev_V) (w : ev_Wd) (b : Nat) : ev_R := List.rec (motive := fun _ => ev_R) none (fun v s _ => Sum.rec (motive := fun _ => ev_R) (fun a => Bool.rec (motive := fun _ => ev_R) (k r ls s w) (k (ev_lb m.1 x.2) ls s w) (ev_c3 x.1 a b)) (fun u => ea_ic4 x k m r ls s w b u) v) s
noncomputable def ea_ic (x : (Bool × Bool × Bool) × Nat) : ev_A := fun _ k m r ls st w => List.rec (motive := fun _ => ev_R) none (fun v s _ => Sum.rec (motive := fun _ => ev_R) (fun b => ea_ic2 x k m r ls s w b) (fun u => ea_ic3 x k m r ls s w u) v) st
noncomputable def ea_if (x : (Bool × Bool × Bool) × Nat) : ev_A := fun _ k m r ls st w => List.rec (motive := fun _ => ev_R) none (fun v s _ => Sum.rec (motive := fun _ => ev_R) (fun a => Bool.rec (motive := fun _ => ev_R) (k r ls s w) (k (ev_lb m.1 x.2) ls s w) (ev_c3 x.1 a 0)) (fun u => ea_ic4 x k m r ls s w 0 u) v) st
noncomputable def ea_nn (t : Nat) : ev_A := fun _ k m r ls st w => match st with
  | .inr (.inl 0) :: s => k r ls s w
  | .inr (.inl (_ + 1)) :: s => k (ev_lb m.1 t) ls s w
  | _ => none
/-- a switch: the place of a known int among the goals; of a token, by splitting at each place -/
noncomputable def ev_lt (l : List Nat) : Nat → Nat → Nat := List.rec (motive := fun _ => Nat → Nat → Nat) (fun d _ => d) (fun a _ ih d j => Nat.rec (motive := fun _ => Nat) a (fun j' _ => ih d j') j) l
noncomputable def ev_tk (l : List Nat) : Nat → ev_T → ev_E → (Nat → ev_E → ev_R) → Nat → ev_R := List.rec (motive := fun _ => Nat → ev_T → ev_E → (Nat → ev_E → ev_R) → Nat → ev_R) (fun d _ e f _ => f d e) (fun a _ ih d t e f y => ev_sp t y e (fun e' => f d e') (fun e' => f a e') (fun e' => ih d t e' f (Nat.succ y))) l
noncomputable def ea_tw (x : Nat × Nat × List Nat × Nat) : ev_A := fun _ k m _ ls st w => match st with
  | .inl a :: s => Bool.rec (motive := fun _ => ev_R) (k (ev_lb m.1 x.2.1) ls s w) (k (ev_lb m.1 (ev_lt x.2.2.1 x.2.1 (Nat.sub (ev_bs a) x.1))) ls s w) (Nat.ble x.1 (ev_bs a))
  | .inr (.inr (.inr (.inl t))) :: s => ev_tk x.2.2.1 x.2.1 t w.2.2.1 (fun g e => k (ev_lb m.1 g) ls s (ev_we w e)) x.1
  | _ => none
/-- a value, not nothing -/
noncomputable def ev_nu (v : ev_V) : Bool := Sum.rec (motive := fun _ => Bool) (fun _ => true) (fun u => Sum.rec (motive := fun _ => Bool) (fun _ => true) (fun u => Sum.rec (motive := fun _ => Bool) (fun _ => true) (fun u => Sum.rec (motive := fun _ => Bool) (fun _ => true) (fun _ => false) u) u) u) v
noncomputable def ea_gf3 (x : Nat × Nat × Nat × Nat) (k : ev_K) (r : List ev_I) (ls s : List ev_V) (w : ev_Wd) (i : Nat) (o : Nat × List ev_V) : ev_R := Bool.rec (motive := fun _ => ev_R) none (k r ls (ev_ln o.2 x.2.1 :: s) w) (Bool.and (ev_nu (ev_ln o.2 x.2.1)) (Bool.and (Nat.beq o.1 x.1) (Nat.ble (Nat.succ i) w.2.1)))
noncomputable def ea_gf2 (x : Nat × Nat × Nat × Nat) (k : ev_K) (r : List ev_I) (ls s : List ev_V) (w : ev_Wd) (i : Nat) : ev_R := Sum.rec (motive := fun _ => ev_R) (fun o => ea_gf3 x k r ls s w i o) (fun _ => none) (ev_tg 7 w.1 i)
/-- a reference that isn't null: the number of its cell -/
noncomputable def ev_cell (v : ev_V) (f : Nat → ev_R) : ev_R := Sum.rec (motive := fun _ => ev_R) (fun _ => none) (fun u => Sum.rec (motive := fun _ => ev_R) (fun y => Nat.rec (motive := fun _ => ev_R) none (fun i _ => f i) y) (fun _ => none) u) v
noncomputable def ea_gf (x : Nat × Nat × Nat × Nat) : ev_A := fun _ k _ r ls st w => List.rec (motive := fun _ => ev_R) none (fun v s _ => ev_cell v (ea_gf2 x k r ls s w)) st
/-- what a field of a kind takes: 0 int, 1 boolean, 2 long, 3 reference -/
noncomputable def ev_fit (q : Nat) (v : ev_V) : Bool := match q, v with
  | 0, .inl _ => true
  | 0, .inr (.inr (.inr (.inl _))) => true
  | 1, .inl n => Nat.ble n 1
  | 2, .inr (.inr (.inl _)) => true
  | 3, .inr (.inl _) => true
  | _, _ => false
noncomputable def ea_pf4 (x : Nat × Nat × Nat × Nat × Nat) (k : ev_K) (r : List ev_I) (ls s : List ev_V) (w : ev_Wd) (v : ev_V) (i : Nat) : ev_R := match v with
  | .inr (.inr (.inr (.inl t))) => Bool.rec (motive := fun _ => ev_R) none (ev_rs t w.2.2.1 (fun u e => k (ei_pf x :: r) ls (.inl u :: .inr (.inl (Nat.succ i)) :: s) (ev_we w e))) (Nat.beq x.2.2.1 1)
  | _ => none
noncomputable def ea_pf3 (x : Nat × Nat × Nat × Nat × Nat) (k : ev_K) (r : List ev_I) (ls s : List ev_V) (w : ev_Wd) (v : ev_V) (i : Nat) (o : Nat × List ev_V) : ev_R := Bool.rec (motive := fun _ => ev_R) (ea_pf4 x k r ls s w v i) (k r ls s (ev_ts 7 w.1 i (.inl (o.1, ev_lp o.2 x.2.1 v)), w.2)) (Bool.and (ev_nu (ev_ln o.2 x.2.1)) (Bool.and (Nat.beq o.1 x.1) (Bool.and (Nat.ble (Nat.succ i) w.2.1) (ev_fit x.2.2.1 v))))
noncomputable def ea_pf2 (x : Nat × Nat × Nat × Nat × Nat) (k : ev_K) (r : List ev_I) (ls s : List ev_V) (w : ev_Wd) (v : ev_V) (i : Nat) : ev_R := Sum.rec (motive := fun _ => ev_R) (fun o => ea_pf3 x k r ls s w v i o) (fun _ => none) (ev_tg 7 w.1 i)
noncomputable def ea_pf (x : Nat × Nat × Nat × Nat × Nat) : ev_A := fun _ k _ r ls st w => match st with
  | v :: u :: s => ev_cell u (ea_pf2 x k r ls s w v)
  | _ => none
/-- an array and a place in it -/
noncomputable def ev_ix (q i j : Nat) (w : ev_Wd) (a : Nat × Nat × Nat × List (Nat × ev_V)) : Bool := Bool.and (Nat.ble (Nat.succ j) a.2.1) (Bool.and (Nat.beq a.1 q) (Bool.and (Nat.ble (Nat.succ i) w.2.1) (Nat.ble j 2147483647)))
noncomputable def ev_nil (l : List (Nat × ev_V)) : Bool := List.rec (motive := fun _ => Bool) true (fun _ _ _ => false) l
noncomputable def ea_al3 (q : Nat) (k : ev_K) (r : List ev_I) (ls s : List ev_V) (w : ev_Wd) (j i : Nat) (a : Nat × Nat × Nat × List (Nat × ev_V)) : ev_R := Bool.rec (motive := fun _ => ev_R) none (k r ls (Bool.rec (motive := fun _ => ev_V) (.inl (ev_gm 32 a.2.2.1 j)) (.inr (.inr (.inl (ev_gm 64 a.2.2.1 j)))) (Nat.beq q 1) :: s) w) (Bool.and (ev_ix q i j w a) (ev_nil a.2.2.2))
noncomputable def ea_al2 (q : Nat) (k : ev_K) (r : List ev_I) (ls s : List ev_V) (w : ev_Wd) (j i : Nat) : ev_R := Sum.rec (motive := fun _ => ev_R) (fun _ => none) (fun a => ea_al3 q k r ls s w j i a) (ev_tg 7 w.1 i)
noncomputable def ea_al1 (q : Nat) (k : ev_K) (r : List ev_I) (ls s : List ev_V) (w : ev_Wd) (j : Nat) : ev_R := List.rec (motive := fun _ => ev_R) none (fun v s _ => ev_cell v (ea_al2 q k r ls s w j)) s
noncomputable def ea_al4 (q : Nat) (k : ev_K) (r : List ev_I) (ls s : List ev_V) (w : ev_Wd) (u : Nat ⊕ (Nat ⊕ (ev_T ⊕ Unit))) : ev_R := match u with
  | .inr (.inr (.inl t)) => ev_rs t w.2.2.1 (fun v e => k (ei_al q :: r) ls (.inl v :: s) (ev_we w e))
  | _ => none
noncomputable def ea_al (q : Nat) : ev_A := fun _ k _ r ls st w => List.rec (motive := fun _ => ev_R) none (fun v s _ => Sum.rec (motive := fun _ => ev_R) (fun j => ea_al1 q k r ls s w j) (fun u => ea_al4 q k r ls s w u) v) st
/-- a number as a literal -/
noncomputable def ev_fo (M : Nat) (f : Nat → ev_R) : ev_R := Nat.rec (motive := fun _ => ev_R) (f 0) (fun m _ => f (Nat.succ m)) M
/-- what an array of a kind keeps of an int -/
noncomputable def ev_nar (q v : Nat) : Nat := match q with
  | 0 => v
  | 2 => Nat.land v 1
  | _ => ev_i2b v
noncomputable def ev_nat (q : Nat) (t : ev_T) : ev_T := match q with
  | 0 => t
  | 2 => (t.1, (3, 1) :: t.2)
  | _ => (t.1, (9, 0) :: t.2)
noncomputable def ea_as5 (q : Nat) (k : ev_K) (r : List ev_I) (ls s : List ev_V) (w : ev_Wd) (v : ev_V) (j i : Nat) (a : Nat × Nat × Nat × List (Nat × ev_V)) : ev_R := Bool.rec (motive := fun _ => ev_R) none
  (match v with
    | .inl v => k r ls s (ev_ts 7 w.1 i (.inr (a.1, a.2.1, a.2.2.1, (j, .inl (ev_nar q v)) :: a.2.2.2)), w.2)
    | .inr (.inr (.inr (.inl t))) => k r ls s (ev_ts 7 w.1 i (.inr (a.1, a.2.1, a.2.2.1, (j, .inr (.inr (.inr (.inl (ev_nat q t))))) :: a.2.2.2)), w.2)
    | _ => none) (Bool.and (ev_ix q i j w a) (Bool.not (Nat.beq q 1)))
/-- a known int, a long -/
noncomputable def ea_as4 (q : Nat) (k : ev_K) (r : List ev_I) (ls s : List ev_V) (w : ev_Wd) (v : ev_V) (j i : Nat) (a : Nat × Nat × Nat × List (Nat × ev_V)) : ev_R := Sum.rec (motive := fun _ => ev_R)
  (fun n => Bool.rec (motive := fun _ => ev_R) (ea_as5 q k r ls s w v j i a) (ev_fo (ev_sm 32 a.2.2.1 j (ev_nar q n)) (fun M' => k r ls s (ev_ts 7 w.1 i (.inr (a.1, a.2.1, M', [])), w.2))) (Bool.and (ev_ix q i j w a) (Bool.and (ev_nil a.2.2.2) (Bool.not (Nat.beq q 1)))))
  (fun u => Sum.rec (motive := fun _ => ev_R) (fun _ => none) (fun u => Sum.rec (motive := fun _ => ev_R) (fun n => Bool.rec (motive := fun _ => ev_R) none (ev_fo (ev_sm 64 a.2.2.1 j n) (fun M' => k r ls s (ev_ts 7 w.1 i (.inr (a.1, a.2.1, M', a.2.2.2)), w.2))) (Bool.and (ev_ix q i j w a) (Nat.beq q 1))) (fun _ => ea_as5 q k r ls s w v j i a) u) u) v
noncomputable def ea_as3 (q : Nat) (k : ev_K) (r : List ev_I) (ls s : List ev_V) (w : ev_Wd) (v : ev_V) (j i : Nat) : ev_R := Sum.rec (motive := fun _ => ev_R) (fun _ => none) (fun a => ea_as4 q k r ls s w v j i a) (ev_tg 7 w.1 i)
noncomputable def ea_as2 (q : Nat) (k : ev_K) (r : List ev_I) (ls s : List ev_V) (w : ev_Wd) (v : ev_V) (j : Nat) : ev_R := List.rec (motive := fun _ => ev_R) none (fun u s _ => ev_cell u (ea_as3 q k r ls s w v j)) s
noncomputable def ea_as6 (q : Nat) (k : ev_K) (r : List ev_I) (ls s : List ev_V) (w : ev_Wd) (v : ev_V) (u : Nat ⊕ (Nat ⊕ (ev_T ⊕ Unit))) : ev_R := match u with
  | .inr (.inr (.inl t)) => ev_rs t w.2.2.1 (fun j e => k (ei_as q :: r) ls (v :: .inl j :: s) (ev_we w e))
  | _ => none
noncomputable def ea_as1 (q : Nat) (k : ev_K) (r : List ev_I) (ls s : List ev_V) (w : ev_Wd) (v : ev_V) : ev_R := List.rec (motive := fun _ => ev_R) none (fun x s _ => Sum.rec (motive := fun _ => ev_R) (fun j => ea_as2 q k r ls s w v j) (fun u => ea_as6 q k r ls s w v u) x) s
noncomputable def ea_as (q : Nat) : ev_A := fun _ k _ r ls st w => List.rec (motive := fun _ => ev_R) none (fun v s _ => ea_as1 q k r ls s w v) st
noncomputable def ea_an : ev_A := fun _ k _ r ls st w => match st with
  | .inr (.inl (i + 1)) :: s => match ev_tg 7 w.1 i with
    | .inr (q, n, _, _) => Bool.rec (motive := fun _ => ev_R) none (k r ls (.inl n :: s) w) (Bool.and (Nat.ble (Nat.succ i) w.2.1) (Nat.ble q 3))
    | _ => none
  | _ => none
noncomputable def ea_na (q : Nat) : ev_A := fun _ k m r ls st w => match st with
  | .inl n :: s => Bool.rec (motive := fun _ => ev_R) none
      (k r ls (.inr (.inl (Nat.succ w.2.1)) :: s) (ev_ts 7 w.1 w.2.1 (.inr (q, n, 0, [])), Nat.succ w.2.1, w.2.2.1, Nat.succ w.2.2.2.1, Nat.add w.2.2.2.2 n))
      (Bool.and (Nat.ble n 1000000) (Bool.and (Nat.ble (Nat.succ w.2.2.2.1) m.2.2.1) (Bool.and (Nat.ble (Nat.add w.2.2.2.2 n) m.2.2.2.1) (Bool.and (Nat.ble w.2.1 127) (Bool.and (s.all (ev_clV w.2.1)) (Bool.and (ls.all (ev_clV w.2.1)) (ev_clH w.2.1 w.1)))))))
  | _ => none
noncomputable def ea_nw (x : Nat × Nat × List ev_V) : ev_A := fun _ k m r ls s w => Bool.rec (motive := fun _ => ev_R) none
      (k r ls (.inr (.inl (Nat.succ w.2.1)) :: s) (ev_ts 7 w.1 w.2.1 (.inl (x.1, x.2.2)), Nat.succ w.2.1, w.2.2.1, Nat.succ w.2.2.2.1, Nat.add w.2.2.2.2 x.2.2.length))
      (Bool.and (Nat.ble (Nat.succ w.2.2.2.1) m.2.2.1) (Bool.and (Nat.ble (Nat.add w.2.2.2.2 x.2.2.length) m.2.2.2.1) (Bool.and (Nat.ble w.2.1 127) (Bool.and (s.all (ev_clV w.2.1)) (Bool.and (ls.all (ev_clV w.2.1)) (Bool.and (x.2.2.all (ev_clV w.2.1)) (ev_clH w.2.1 w.1)))))))
noncomputable def ea_oi (_ : Nat) : ev_A := fun _ k _ r ls st w => match st with
  | .inr (.inl (_ + 1)) :: s => Bool.rec (motive := fun _ => ev_R) none (k r ls s w) (Nat.ble (ev_cat s) 8)
  | _ => none
noncomputable def ea_cy (_ : Nat) : ev_A := fun _ k _ r ls st w => match st with
  | .inl n :: .inl dp :: .inr (.inl (i + 1)) :: .inl sp :: .inr (.inl (i' + 1)) :: s => match ev_tg 7 w.1 i, ev_tg 7 w.1 i' with
    | .inr (q, n1, M1, []), .inr (q', n0, M0, []) => Bool.rec (motive := fun _ => ev_R) none
        (ev_fo (Bool.rec (motive := fun _ => Nat) (ev_cp 64 M1 M0 sp dp n) (ev_cp 32 M1 M0 sp dp n) (Nat.beq q 0)) (fun M' => k r ls s (ev_ts 7 w.1 i (.inr (q, n1, M', [])), w.2)))
        (Bool.and (Nat.beq q q') (Bool.and (Nat.ble q 1) (Bool.and (Nat.ble (Nat.succ i) w.2.1) (Bool.and (Nat.ble (Nat.succ i') w.2.1) (Bool.and (Nat.ble (Nat.add sp n) n0) (Bool.and (Nat.ble (Nat.add dp n) n1) (Bool.and (Nat.ble (Nat.add sp n) 2147483647) (Bool.and (Nat.ble (Nat.add dp n) 2147483647) (Nat.ble (ev_cat s) 8)))))))))
    | _, _ => none
  | _ => none
noncomputable def ea_re (q : Nat) : ev_A := fun _ _ m _ _ st w => Bool.rec (motive := fun _ => ev_R) none
  (match q, st with
    | 0, [.inl n] => match m.2.2.2.2.2.2.2 with
      | some .int => some [(.inl n, w.1, w.2.1, w.2.2.1)]
      | some .boolean => Bool.rec (motive := fun _ => ev_R) none (some [(.inl n, w.1, w.2.1, w.2.2.1)]) (Nat.ble n 1)
      | _ => none
    | 0, [.inr (.inr (.inr (.inl t)))] => match m.2.2.2.2.2.2.2 with
      | some .int => some [(.inr (.inr (.inr (.inl t))), w.1, w.2.1, w.2.2.1)]
      | _ => none
    | 1, [.inr (.inl x)] => match m.2.2.2.2.2.2.2 with
      | some (.object _) => some [(.inr (.inl x), w.1, w.2.1, w.2.2.1)]
      | _ => none
    | 2, [] => match m.2.2.2.2.2.2.2 with
      | none => some [(ev_U, w.1, w.2.1, w.2.2.1)]
      | _ => none
    | _, _ => none)
  (Bool.and (Nat.ble w.2.2.2.1 m.2.2.1) (Nat.ble w.2.2.2.2 m.2.2.2.1))
/-- the arguments of a call, and what lies below them -/
noncomputable def ev_pop (n : Nat) (st acc : List ev_V) : List ev_V × List ev_V := match n, st with
  | 0, s => (acc, s)
  | n + 1, v :: s => ev_pop n s (v :: acc)
  | _, [] => ([], [])
/-- a call's receiver, where one is asked for (1 and the number of its kind) -/
noncomputable def ev_rcv (x : Nat) (as : List ev_V) (h : ev_H) (n : Nat) : Bool := match x, as with
  | 0, _ => true
  | q + 1, .inr (.inl (i + 1)) :: _ => match ev_tg 7 h i with
    | .inl (c, _) => Bool.and (Nat.beq c q) (Nat.ble (Nat.succ i) n)
    | _ => false
  | _, _ => false
noncomputable def ev_bck (v : ev_V) (s : List ev_V) : List ev_V := match v with
  | .inr (.inr (.inr (.inr _))) => s
  | v => v :: s
/-- a call: number of the method, arguments (the receiver too), receiver, index, how, its cells and slots -/
noncomputable def ea_ca3 (k : ev_K) (r : List ev_I) (ls s : List ev_V) (w : ev_Wd) (mc ms : Nat) (o : ev_O) : ev_R := Bool.rec (motive := fun _ => ev_R) none
  (k r ls (ev_bck o.1 s) (o.2.1, o.2.2.1, o.2.2.2, Nat.add w.2.2.2.1 mc, Nat.add w.2.2.2.2 ms))
  (Bool.or (Nat.beq o.2.2.1 w.2.1) (Bool.and (s.all (ev_clV w.2.1)) (ls.all (ev_clV w.2.1))))
noncomputable def ea_ca2 (x : Nat × Nat × Nat × Nat × Nat × Nat × Nat) (call : ev_Q) (k : ev_K) (m : ev_M) (r : List ev_I) (ls : List ev_V) (w : ev_Wd) (as s : List ev_V) : ev_R := Bool.rec (motive := fun _ => ev_R) none
  (match call x.1 as w.1 w.2.1 w.2.2.1 with
    | none => none
    | some os => ev_bo os (ea_ca3 k r ls s w x.2.2.2.2.2.1 x.2.2.2.2.2.2))
  (Bool.and (ev_rcv x.2.2.1 as w.1 w.2.1) (Bool.and (Nat.beq as.length x.2.1) (Bool.and (Nat.ble (ev_cat s) 8) (Bool.and (Nat.ble (Nat.add w.2.2.2.1 x.2.2.2.2.2.1) m.2.2.1) (Nat.ble (Nat.add w.2.2.2.2 x.2.2.2.2.2.2) m.2.2.2.1)))))
noncomputable def ea_ca (x : Nat × Nat × Nat × Nat × Nat × Nat × Nat) : ev_A := fun call k m r ls st w => Prod.rec (motive := fun _ => ev_R) (fun as s => ea_ca2 x call k m r ls w as s) (ev_pop x.2.1 st [])
noncomputable def ev_act (i : ev_I) : ev_A := Sum.rec (motive := fun _ => ev_A) (Sum.rec (motive := fun _ => ev_A) (Sum.rec (motive := fun _ => ev_A) (Sum.rec (motive := fun _ => ev_A) (Sum.rec (motive := fun _ => ev_A) ea_li ea_la) (Sum.rec (motive := fun _ => ev_A) ea_pu ea_ic)) (Sum.rec (motive := fun _ => ev_A) (Sum.rec (motive := fun _ => ev_A) ea_gf ea_go) (Sum.rec (motive := fun _ => ev_A) ea_ii ea_ib))) (Sum.rec (motive := fun _ => ev_A) (Sum.rec (motive := fun _ => ev_A) (Sum.rec (motive := fun _ => ev_A) ea_al ea_as) (Sum.rec (motive := fun _ => ev_A) ea_if ea_re)) (Sum.rec (motive := fun _ => ev_A) (Sum.rec (motive := fun _ => ev_A) ea_ca ea_si) (Sum.rec (motive := fun _ => ev_A) ea_dv ea_ll)))) (Sum.rec (motive := fun _ => ev_A) (Sum.rec (motive := fun _ => ev_A) (Sum.rec (motive := fun _ => ev_A) (Sum.rec (motive := fun _ => ev_A) ea_go ea_pf) (Sum.rec (motive := fun _ => ev_A) ea_lb ea_ls)) (Sum.rec (motive := fun _ => ev_A) (Sum.rec (motive := fun _ => ev_A) (fun _ => ea_lc) ea_sl) (Sum.rec (motive := fun _ => ev_A) ea_un ea_st))) (Sum.rec (motive := fun _ => ev_A) (Sum.rec (motive := fun _ => ev_A) (Sum.rec (motive := fun _ => ev_A) (fun _ => ea_an) ea_na) (Sum.rec (motive := fun _ => ev_A) ea_nw ea_oi)) (Sum.rec (motive := fun _ => ev_A) (Sum.rec (motive := fun _ => ev_A) ea_cy ea_tw) (Sum.rec (motive := fun _ => ev_A) ea_nn ea_sa)))) i
noncomputable def ev_step (call : ev_Q) (k : ev_K) (m : ev_M) (p : List ev_I) (ls st : List ev_V) (w : ev_Wd) : ev_R := List.rec (motive := fun _ => ev_R) none (fun i r _ => ev_act i call k m r ls st w) p
noncomputable def ev_run (call : ev_Q) (m : ev_M) (fuel : Nat) : ev_K := Nat.rec (motive := fun _ => ev_K) (fun _ _ _ _ => none) (fun _ ih => ev_step call ih m) fuel
/-- the values of the arguments as the first of the places for values; a long takes two -/
noncomputable def ev_ent (l : List ev_V) : List ev_V := match l with
  | [] => []
  | v :: r => Bool.rec (motive := fun _ => List ev_V) (v :: ev_ent r) (v :: ev_U :: ev_ent r) (ev_isl v)
noncomputable def ev_lm (l : List ev_M) : Nat → Option ev_M := List.rec (motive := fun _ => Nat → Option ev_M) (fun _ => none) (fun a _ ih j => Nat.rec (motive := fun _ => Option ev_M) (some a) (fun j' _ => ih j') j) l
noncomputable def ev_beg (call : ev_Q) (as : List ev_V) (h : ev_H) (n : Nat) (e : ev_E) (m : ev_M) (ls : List ev_V) : ev_R := Bool.rec (motive := fun _ => ev_R) none (ev_run call m 10000000 (ev_lb m.1 m.2.1) (ls ++ List.replicate (Nat.sub m.2.2.2.2.1 ls.length) ev_U) [] (h, n, e, 0, 0)) (Nat.ble ls.length m.2.2.2.2.1)
noncomputable def ev_met (pg : List ev_M) (d : Nat) : ev_Q := Nat.rec (motive := fun _ => ev_Q) (fun _ _ _ _ _ => none) (fun _ ih x as h n e => match ev_lm pg x with
  | none => none
  | some m => ev_beg ih as h n e m (ev_ent as)) d
