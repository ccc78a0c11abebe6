section
/-! ===== a symbolic evaluator of bytecode, run by the kernel: what it computes with =====
ev_T: a token (an unknown int of the start) and what was done to it, the latest first; ev_V: a known int, a reference (0: null, k + 1: cell k), a long, a token, nothing; ev_C: an object (number of its kind, fields) or an array (kind: 0 int, 1 long, 2 boolean, 3 byte; length, contents as one number, tokens laid over it) -/
abbrev ev_T : Type := Nat × List (Nat × Nat)
abbrev ev_V : Type := Nat ⊕ (Nat ⊕ (Nat ⊕ (ev_T ⊕ Unit)))
abbrev ev_C : Type := (Nat × List ev_V) ⊕ (Nat × Nat × Nat × List (Nat × ev_V))
def ev_tr (α : Type) : Nat → Type
  | 0 => α
  | n + 1 => ev_tr α n × ev_tr α n
/-- a leaf of a tree, the lowest bit of its number first -/
noncomputable def ev_tg {α : Type} (d : Nat) : ev_tr α d → Nat → α := Nat.rec (motive := fun d => ev_tr α d → Nat → α) (fun t _ => t) (fun d ih (t : ev_tr α d × ev_tr α d) i => Bool.rec (motive := fun _ => α) (ih t.2 (Nat.div i 2)) (ih t.1 (Nat.div i 2)) (Nat.beq (Nat.mod i 2) 0)) d
noncomputable def ev_ts {α : Type} (d : Nat) : ev_tr α d → Nat → α → ev_tr α d := Nat.rec (motive := fun d => ev_tr α d → Nat → α → ev_tr α d) (fun _ _ v => v) (fun d ih (t : ev_tr α d × ev_tr α d) i v => (Bool.rec (motive := fun _ => ev_tr α d × ev_tr α d) (t.1, ih t.2 (Nat.div i 2) v) (ih t.1 (Nat.div i 2) v, t.2) (Nat.beq (Nat.mod i 2) 0) : ev_tr α d × ev_tr α d)) d
abbrev ev_U : ev_V := .inr (.inr (.inr (.inr ())))
noncomputable def ev_ln (l : List ev_V) : Nat → ev_V := List.rec (motive := fun _ => Nat → ev_V) (fun _ => ev_U) (fun a _ ih j => Nat.rec (motive := fun _ => ev_V) a (fun j' _ => ih j') j) l
noncomputable def ev_lp (l : List ev_V) : Nat → ev_V → List ev_V := List.rec (motive := fun _ => Nat → ev_V → List ev_V) (fun _ _ => []) (fun a r ih j v => Nat.rec (motive := fun _ => List ev_V) (v :: r) (fun j' _ => a :: ih j' v) j) l
noncomputable def ev_isl : ev_V → Bool
  | .inr (.inr (.inl _)) => true
  | _ => false
/-- the place ahead of j holds no long -/
noncomputable def ev_nl (l : List ev_V) (j : Nat) : Bool := Nat.rec (motive := fun _ => Bool) true (fun j' _ => Bool.not (ev_isl (ev_ln l j'))) j
/-! ints by their numbers -/
noncomputable def ev_bs (a : Nat) : Nat := Nat.rec (motive := fun _ => Nat) 2147483648 (fun n _ => Nat.mod (Nat.add (Nat.succ n) 2147483648) 4294967296) a
noncomputable def ev_gm (w M i : Nat) : Nat := Nat.mod (Nat.shiftRight M (Nat.mul w i)) (Nat.pow 2 w)
noncomputable def ev_sm (w M i v : Nat) : Nat := Nat.xor M (Nat.shiftLeft (Nat.xor (ev_gm w M i) (Nat.mod v (Nat.pow 2 w))) (Nat.mul w i))
noncomputable def ev_cp (w Md Ms sp dp n : Nat) : Nat := Nat.add (Nat.mod Md (Nat.pow 2 (Nat.mul w dp))) (Nat.shiftLeft (Nat.add (Nat.mod (Nat.shiftRight Ms (Nat.mul w sp)) (Nat.pow 2 (Nat.mul w n))) (Nat.shiftLeft (Nat.shiftRight Md (Nat.mul w (Nat.add dp n))) (Nat.mul w n))) (Nat.mul w dp))
noncomputable def ev_sh (a k : Nat) : Nat := Bool.rec (motive := fun _ => Nat) (Nat.sub 4294967295 (Nat.shiftRight (Nat.sub 4294967295 (Nat.mod a 4294967296)) k)) (Nat.shiftRight (Nat.mod a 4294967296) k) (Nat.ble (Nat.mod a 4294967296) 2147483647)
noncomputable def ev_i2b (a : Nat) : Nat := Bool.rec (motive := fun _ => Nat) (Nat.add (Nat.mod a 256) 4294967040) (Nat.mod a 256) (Nat.ble (Nat.mod a 256) 127)
noncomputable def ev_bin (op a b : Nat) : Nat := match op with
  | 0 => Nat.mod (Nat.add a b) 4294967296
  | 1 => Nat.mod (Nat.mul a b) 4294967296
  | 2 => ev_sh a (Nat.land b 31)
  | 3 => Nat.land a b
  | 4 => Nat.mod (Nat.add a (Nat.sub 4294967296 (Nat.mod b 4294967296))) 4294967296
  | 5 => Nat.lor a b
  | 6 => Nat.mod (Nat.shiftLeft a (Nat.land b 31)) 4294967296
  | _ => Nat.shiftRight (Nat.mod a 4294967296) (Nat.land b 31)
noncomputable def ev_lbn (op a b : Nat) : Nat := match op with
  | 0 => Nat.land a b
  | 1 => Nat.mod (Nat.add a b) 18446744073709551616
  | 2 => Nat.mod (Nat.add a (Nat.sub 18446744073709551616 (Nat.mod b 18446744073709551616))) 18446744073709551616
  | _ => Nat.lor a b
noncomputable def ev_lsh (op a b : Nat) : Nat := match op with
  | 0 => Nat.shiftRight (Nat.mod a 18446744073709551616) (Nat.land b 63)
  | _ => Nat.mod (Nat.shiftLeft a (Nat.land b 63)) 18446744073709551616
noncomputable def ev_3l (x y X Y : Nat) : Nat := Bool.rec (motive := fun _ => Nat) (Bool.rec (motive := fun _ => Nat) 1 4294967295 (Nat.ble X Y)) 0 (Nat.beq x y)
noncomputable def ev_lcm (a b : Nat) : Nat := ev_3l (Nat.mod a 18446744073709551616) (Nat.mod b 18446744073709551616) (Nat.mod (Nat.add a 9223372036854775808) 18446744073709551616) (Nat.mod (Nat.add b 9223372036854775808) 18446744073709551616)
/-- less, equal, greater -/
noncomputable def ev_3w (q : Bool × Bool × Bool) (x y : Nat) : Bool := Bool.rec (motive := fun _ => Bool) (Bool.rec (motive := fun _ => Bool) q.2.2 q.1 (Nat.ble x y)) q.2.1 (Nat.beq x y)
noncomputable def ev_c3 (q : Bool × Bool × Bool) (a b : Nat) : Bool := ev_3w q (ev_bs a) (ev_bs b)
/-! instructions: load (int, reference, long), push, compare, field .. -/
abbrev ev_I : Type := ((((((Nat) ⊕ (Nat)) ⊕ ((ev_V × Nat × Nat) ⊕ ((Bool × Bool × Bool) × Nat))) ⊕ (((Nat × Nat × Nat × Nat) ⊕ (Nat)) ⊕ ((Nat × Nat) ⊕ (Nat)))) ⊕ ((((Nat) ⊕ (Nat)) ⊕ (((Bool × Bool × Bool) × Nat) ⊕ (Nat))) ⊕ (((Nat × Nat × Nat × Nat × Nat × Nat × Nat) ⊕ (Nat)) ⊕ ((Unit) ⊕ (Nat))))) ⊕ (((((Nat) ⊕ (Nat × Nat × Nat × Nat × Nat)) ⊕ ((Nat) ⊕ (Nat))) ⊕ (((Unit) ⊕ (Nat)) ⊕ ((Nat) ⊕ (Nat)))) ⊕ ((((Unit) ⊕ (Nat)) ⊕ ((Nat × Nat × List ev_V) ⊕ (Nat))) ⊕ (((Nat) ⊕ (Nat × Nat × List Nat × Nat)) ⊕ ((Nat) ⊕ (Nat))))))
noncomputable def ei_li (x : Nat) : ev_I := .inl (.inl (.inl (.inl (.inl (x)))))
noncomputable def ei_la (x : Nat) : ev_I := .inl (.inl (.inl (.inl (.inr (x)))))
noncomputable def ei_pu (x : ev_V × Nat × Nat) : ev_I := .inl (.inl (.inl (.inr (.inl (x)))))
noncomputable def ei_ic (x : (Bool × Bool × Bool) × Nat) : ev_I := .inl (.inl (.inl (.inr (.inr (x)))))
noncomputable def ei_gf (x : Nat × Nat × Nat × Nat) : ev_I := .inl (.inl (.inr (.inl (.inl (x)))))
noncomputable def ei_go (x : Nat) : ev_I := .inl (.inl (.inr (.inl (.inr (x)))))
noncomputable def ei_ii (x : Nat × Nat) : ev_I := .inl (.inl (.inr (.inr (.inl (x)))))
noncomputable def ei_ib (x : Nat) : ev_I := .inl (.inl (.inr (.inr (.inr (x)))))
noncomputable def ei_al (x : Nat) : ev_I := .inl (.inr (.inl (.inl (.inl (x)))))
noncomputable def ei_as (x : Nat) : ev_I := .inl (.inr (.inl (.inl (.inr (x)))))
noncomputable def ei_if (x : (Bool × Bool × Bool) × Nat) : ev_I := .inl (.inr (.inl (.inr (.inl (x)))))
noncomputable def ei_re (x : Nat) : ev_I := .inl (.inr (.inl (.inr (.inr (x)))))
noncomputable def ei_ca (x : Nat × Nat × Nat × Nat × Nat × Nat × Nat) : ev_I := .inl (.inr (.inr (.inl (.inl (x)))))
noncomputable def ei_si (x : Nat) : ev_I := .inl (.inr (.inr (.inl (.inr (x)))))
noncomputable def ei_dv : ev_I := .inl (.inr (.inr (.inr (.inl (())))))
noncomputable def ei_ll (x : Nat) : ev_I := .inl (.inr (.inr (.inr (.inr (x)))))
noncomputable def ei_fa (x : Nat) : ev_I := .inr (.inl (.inl (.inl (.inl (x)))))
noncomputable def ei_pf (x : Nat × Nat × Nat × Nat × Nat) : ev_I := .inr (.inl (.inl (.inl (.inr (x)))))
noncomputable def ei_lb (x : Nat) : ev_I := .inr (.inl (.inl (.inr (.inl (x)))))
noncomputable def ei_ls (x : Nat) : ev_I := .inr (.inl (.inl (.inr (.inr (x)))))
noncomputable def ei_lc : ev_I := .inr (.inl (.inr (.inl (.inl (())))))
noncomputable def ei_sl (x : Nat) : ev_I := .inr (.inl (.inr (.inl (.inr (x)))))
noncomputable def ei_un (x : Nat) : ev_I := .inr (.inl (.inr (.inr (.inl (x)))))
noncomputable def ei_st (x : Nat) : ev_I := .inr (.inl (.inr (.inr (.inr (x)))))
noncomputable def ei_an : ev_I := .inr (.inr (.inl (.inl (.inl (())))))
noncomputable def ei_na (x : Nat) : ev_I := .inr (.inr (.inl (.inl (.inr (x)))))
noncomputable def ei_nw (x : Nat × Nat × List ev_V) : ev_I := .inr (.inr (.inl (.inr (.inl (x)))))
noncomputable def ei_oi (x : Nat) : ev_I := .inr (.inr (.inl (.inr (.inr (x)))))
noncomputable def ei_cy (x : Nat) : ev_I := .inr (.inr (.inr (.inl (.inl (x)))))
noncomputable def ei_tw (x : Nat × Nat × List Nat × Nat) : ev_I := .inr (.inr (.inr (.inl (.inr (x)))))
noncomputable def ei_nn (x : Nat) : ev_I := .inr (.inr (.inr (.inr (.inl (x)))))
noncomputable def ei_sa (x : Nat) : ev_I := .inr (.inr (.inr (.inr (.inr (x)))))
abbrev ev_H : Type := ev_tr ev_C 7
abbrev ev_E : Type := List (Nat × Nat)
/-- the heap, how many cells it has, the tokens' bounds, cells and slots made -/
abbrev ev_Wd : Type := ev_H × Nat × ev_E × Nat × Nat
abbrev ev_O : Type := ev_V × ev_H × Nat × ev_E
abbrev ev_R : Type := Option (List ev_O)
/-- a method: blocks (place, instructions), the first block's number, most cells and slots made, locals, name, bytes, what it returns -/
abbrev ev_M : Type := List (Nat × List ev_I) × Nat × Nat × Nat × Nat × MethodName × ByteArray × Option FieldType
abbrev ev_K : Type := List ev_I → List ev_V → List ev_V → ev_Wd → ev_R
abbrev ev_Q : Type := Nat → List ev_V → ev_H → Nat → ev_E → ev_R
abbrev ev_A : Type := ev_Q → ev_K → ev_M → List ev_I → List ev_V → List ev_V → ev_Wd → ev_R
noncomputable def ev_lb (l : List (Nat × List ev_I)) : Nat → List ev_I := List.rec (motive := fun _ => Nat → List ev_I) (fun _ => []) (fun a _ ih j => Nat.rec (motive := fun _ => List ev_I) a.2 (fun j' _ => ih j') j) l
noncomputable def ev_pc (l : List (Nat × List ev_I)) : Nat → Nat := List.rec (motive := fun _ => Nat → Nat) (fun _ => 0) (fun a _ ih j => Nat.rec (motive := fun _ => Nat) a.1 (fun j' _ => ih j') j) l
noncomputable def ev_jn (a b : ev_R) : ev_R := match a with
  | none => none
  | some x => match b with
    | none => none
    | some y => some (x ++ y)
noncomputable def ev_en (c : Nat) : Nat → (Nat → ev_R) → ev_R := Nat.rec (motive := fun _ => Nat → (Nat → ev_R) → ev_R) (fun _ _ => some []) (fun _ ih lo f => ev_jn (f lo) (ih (Nat.succ lo) f)) c
noncomputable def ev_bo (l : List ev_O) (f : ev_O → ev_R) : ev_R := match l with
  | [] => some []
  | o :: r => match r with
    | [] => f o
    | _ => ev_jn (f o) (ev_bo r f)
/-- an int of the start, of few values: each of them -/
noncomputable def ev_rs (t : ev_T) (e : ev_E) (f : Nat → ev_E → ev_R) : ev_R := match t with
  | (k, []) => match e[k]? with
    | none => none
    | some (lo, hi) => Bool.rec (motive := fun _ => ev_R) (Bool.rec (motive := fun _ => ev_R) none (ev_en (Nat.succ (Nat.sub hi lo)) lo (fun v => f (ev_bs v) (e.set k (v, v)))) (Nat.ble (Nat.sub hi lo) 64)) (f (ev_bs lo) e) (Nat.beq lo hi)
  | _ => none
noncomputable def ev_wide (t : ev_T) (e : ev_E) : Bool := match t with
  | (k, []) => match e[k]? with
    | none => false
    | some (lo, hi) => Nat.ble 65 (Nat.sub hi lo)
  | _ => true
/-- a token beside a known int (biased): less, equal, greater -/
noncomputable def ev_sp (t : ev_T) (y : Nat) (e : ev_E) (f g h : ev_E → ev_R) : ev_R := match t with
  | (k, []) => match e[k]? with
    | none => none
    | some (lo, hi) => ev_jn (Bool.rec (motive := fun _ => ev_R) (some []) (f (e.set k (lo, Nat.min hi (Nat.pred y)))) (Nat.ble (Nat.succ lo) y)) (ev_jn (Bool.rec (motive := fun _ => ev_R) (some []) (Bool.rec (motive := fun _ => ev_R) (some []) (g (e.set k (y, y))) (Nat.ble y hi)) (Nat.ble lo y)) (Bool.rec (motive := fun _ => ev_R) (some []) (h (e.set k (Nat.max lo (Nat.succ y), hi))) (Nat.ble (Nat.succ y) hi)))
  | _ => none
/-! references that lie in the heap -/
noncomputable def ev_clV (n : Nat) (v : ev_V) : Bool := match v with
  | .inr (.inl r) => Nat.ble r n
  | _ => true
noncomputable def ev_clC (n : Nat) (c : ev_C) : Bool := match c with
  | .inl (_, fs) => fs.all (ev_clV n)
  | .inr _ => true
noncomputable def ev_clH (n : Nat) (h : ev_H) : Bool := (List.range n).all (fun i => ev_clC n (ev_tg 7 h i))
noncomputable def ev_cat (l : List ev_V) : Nat := match l with
  | [] => 0
  | v :: r => Bool.rec (motive := fun _ => Nat) (Nat.succ (ev_cat r)) (Nat.succ (Nat.succ (ev_cat r))) (ev_isl v)
/-! what an instruction does -/
noncomputable def ea_li2 (u : Nat ⊕ (Nat ⊕ (ev_T ⊕ Unit))) (k : ev_K) (r : List ev_I) (ls st : List ev_V) (w : ev_Wd) : ev_R := match u with
  | .inr (.inr (.inl t)) => k r ls (.inr (.inr (.inr (.inl t))) :: st) w
  | _ => none
noncomputable def ea_li (j : Nat) : ev_A := fun _ k _ r ls st w => Sum.rec (motive := fun _ => ev_R) (fun n => k r ls (.inl n :: st) w) (fun u => ea_li2 u k r ls st w) (ev_ln ls j)
noncomputable def ea_la (j : Nat) : ev_A := fun _ k _ r ls st w => Sum.rec (motive := fun _ => ev_R) (fun _ => none) (fun u => Sum.rec (motive := fun _ => ev_R) (fun x => k r ls (.inr (.inl x) :: st) w) (fun _ => none) u) (ev_ln ls j)
noncomputable def ea_ll (j : Nat) : ev_A := fun _ k _ r ls st w => match ev_ln ls j with
  | .inr (.inr (.inl x)) => k r ls (.inr (.inr (.inl x)) :: st) w
  | _ => none
noncomputable def ea_pu (x : ev_V × Nat × Nat) : ev_A := fun _ k _ r ls st w => k r ls (x.1 :: st) w
noncomputable def ea_go (t : Nat) : ev_A := fun _ k m _ ls st w => k (ev_lb m.1 t) ls st w
noncomputable def ea_ii (x : Nat × Nat) : ev_A := fun _ k _ r ls st w => Sum.rec (motive := fun _ => ev_R) (fun n => k r (ev_lp ls x.1 (.inl (Nat.mod (Nat.add n x.2) 4294967296))) st w) (fun _ => none) (ev_ln ls x.1)
noncomputable def ea_si (j : Nat) : ev_A := fun _ k _ r ls st w => match st with
  | .inl n :: s => Bool.rec (motive := fun _ => ev_R) none (k r (ev_lp ls j (.inl n)) s w) (ev_nl ls j)
  | .inr (.inr (.inr (.inl t))) :: s => Bool.rec (motive := fun _ => ev_R) none (k r (ev_lp ls j (.inr (.inr (.inr (.inl t))))) s w) (ev_nl ls j)
  | _ => none
noncomputable def ea_sa (j : Nat) : ev_A := fun _ k _ r ls st w => match st with
  | .inr (.inl x) :: s => Bool.rec (motive := fun _ => ev_R) none (k r (ev_lp ls j (.inr (.inl x))) s w) (ev_nl ls j)
  | _ => none
noncomputable def ea_sl (j : Nat) : ev_A := fun _ k _ r ls st w => match st with
  | .inr (.inr (.inl x)) :: s => Bool.rec (motive := fun _ => ev_R) none (k r (ev_lp (ev_lp ls (Nat.succ j) ev_U) j (.inr (.inr (.inl x)))) s w) (ev_nl ls j)
  | _ => none
/-- the world with other bounds of the tokens -/
noncomputable def ev_we (w : ev_Wd) (e : ev_E) : ev_Wd := (w.1, w.2.1, e, w.2.2.2)
noncomputable def ea_ib4 (op b : Nat) (k : ev_K) (r : List ev_I) (ls s : List ev_V) (w : ev_Wd) (u : Nat ⊕ (Nat ⊕ (ev_T ⊕ Unit))) : ev_R := match u with
  | .inr (.inr (.inl t)) => Bool.rec (motive := fun _ => ev_R) (ev_rs t w.2.2.1 (fun v e => k (ei_ib op :: r) ls (.inl b :: .inl v :: s) (ev_we w e))) (k r ls (.inr (.inr (.inr (.inl (t.1, (op, b) :: t.2)))) :: s) w) (Bool.and (ev_wide t w.2.2.1) (Bool.or (Nat.beq op 2) (Bool.or (Nat.beq op 3) (Nat.beq op 7))))
  | _ => none
noncomputable def ea_ib3 (op : Nat) (k : ev_K) (r : List ev_I) (ls s : List ev_V) (w : ev_Wd) (u : Nat ⊕ (Nat ⊕ (ev_T ⊕ Unit))) : ev_R := match u with
  | .inr (.inr (.inl t)) => ev_rs t w.2.2.1 (fun v e => k (ei_ib op :: r) ls (.inl v :: s) (ev_we w e))
  | _ => none
noncomputable def ea_ib2 (op : Nat) (k : ev_K) (r : List ev_I) (ls s : List ev_V) (w : ev_Wd) (b : Nat) : ev_R := List.rec (motive := fun _ => ev_R) none (fun v s _ => Sum.rec (motive := fun _ => ev_R) (fun a => k r ls (.inl (ev_bin op a b) :: s) w) (fun u => ea_ib4 op b k r ls s w u) v) s
noncomputable def ea_ib (op : Nat) : ev_A := fun _ k _ r ls st w => List.rec (motive := fun _ => ev_R) none (fun v s _ => Sum.rec (motive := fun _ => ev_R) (fun b => ea_ib2 op k r ls s w b) (fun u => ea_ib3 op k r ls s w u) v) st
noncomputable def ea_dv : ev_A := fun _ k _ r ls st w => match st with
  | .inl b :: .inl a :: s => Bool.rec (motive := fun _ => ev_R) none (k r ls (.inl (Nat.div a b) :: s) w) (Bool.and (Nat.ble a 2147483647) (Bool.and (Nat.ble b 2147483647) (Nat.ble 1 b)))
  | _ => none
noncomputable def ea_lb (op : Nat) : ev_A := fun _ k _ r ls st w => match st with
  | .inr (.inr (.inl b)) :: .inr (.inr (.inl a)) :: s => k r ls (.inr (.inr (.inl (ev_lbn op a b))) :: s) w
  | _ => none
noncomputable def ea_ls (op : Nat) : ev_A := fun _ k _ r ls st w => match st with
  | .inl b :: .inr (.inr (.inl a)) :: s => k r ls (.inr (.inr (.inl (ev_lsh op a b))) :: s) w
  | .inr (.inr (.inr (.inl t))) :: s => ev_rs t w.2.2.1 (fun v e => k (ei_ls op :: r) ls (.inl v :: s) (ev_we w e))
  | _ => none
noncomputable def ea_lc : ev_A := fun _ k _ r ls st w => match st with
  | .inr (.inr (.inl b)) :: .inr (.inr (.inl a)) :: s => k r ls (.inl (ev_lcm a b) :: s) w
  | _ => none
noncomputable def ea_un (op : Nat) : ev_A := fun _ k _ r ls st w => match st with
  | .inr (.inr (.inl a)) :: s => Bool.rec (motive := fun _ => ev_R) none (k r ls (.inl (Nat.mod a 4294967296) :: s) w) (Nat.beq op 0)
  | .inl a :: s => Bool.rec (motive := fun _ => ev_R) none (k r ls (.inl (ev_i2b a) :: s) w) (Nat.beq op 1)
  | .inr (.inr (.inr (.inl t))) :: s => Bool.rec (motive := fun _ => ev_R) none (k r ls (.inr (.inr (.inr (.inl (t.1, (9, 0) :: t.2)))) :: s) w) (Nat.beq op 1)
  | _ => none
noncomputable def ea_st (op : Nat) : ev_A := fun _ k _ r ls st w => match op, st with
  | 0, v :: s => Bool.rec (motive := fun _ => ev_R) (k r ls (v :: v :: s) w) none (ev_isl v)
  | 1, v :: u :: s => Bool.rec (motive := fun _ => ev_R) (k r ls (v :: u :: v :: u :: s) w) none (Bool.or (ev_isl v) (ev_isl u))
  | 2, v :: s => Bool.rec (motive := fun _ => ev_R) (k r ls s w) none (ev_isl v)
  | _, _ => none
/-- on the one way or the other -/
noncomputable def ev_to (b : Bool) (k : ev_K) (m : ev_M) (t : Nat) (r : List ev_I) (ls s : List ev_V) (w : ev_Wd) (e : ev_E) : ev_R := k (Bool.rec (motive := fun _ => List ev_I) r (ev_lb m.1 t) b) ls s (ev_we w e)
noncomputable def ea_ic4 (x : (Bool × Bool × Bool) × Nat) (k : ev_K) (m : ev_M) (r : List ev_I) (ls s : List ev_V) (w : ev_Wd) (b : Nat) (u : Nat ⊕ (Nat ⊕ (ev_T ⊕ Unit))) : ev_R := match u with
  | .inr (.inr (.inl t)) => ev_sp t (ev_bs b) w.2.2.1 (ev_to x.1.1 k m x.2 r ls s w) (ev_to x.1.2.1 k m x.2 r ls s w) (ev_to x.1.2.2 k m x.2 r ls s w)
  | _ => none
noncomputable def ea_ic3 (x : (Bool × Bool × Bool) × Nat) (k : ev_K) (m : ev_M) (r : List ev_I) (ls s : List ev_V) (w : ev_Wd) (u : Nat ⊕ (Nat ⊕ (ev_T ⊕ Unit))) : ev_R := match u, s with
  | .inr (.inr (.inl t)), .inl a :: s => ev_sp t (ev_bs a) w.2.2.1 (ev_to x.1.2.2 k m x.2 r ls s w) (ev_to x.1.2.1 k m x.2 r ls s w) (ev_to x.1.1 k m x.2 r ls s w)
  | _, _ => none
noncomputable def ea_ic2 (x : (Bool × Bool × Bool) × Nat) (k : ev_K) (m : ev_M) (r : List ev_I) (ls s : List ev_V) (w : ev_Wd) (b : Nat) : ev_R := List.rec (motive := fun _ => ev_R) none (fun v s _ => Sum.rec (motive := fun _ => ev_R) (fun a => Bool.rec (motive := fun _ => ev_R) (k r ls s w) (k (ev_lb m.1 x.2) ls s w) (ev_c3 x.1 a b)) (fun u => ea_ic4 x k m r ls s w b u) v) s
noncomputable def ea_ic (x : (Bool × Bool × Bool) × Nat) : ev_A := fun _ k m r ls st w => List.rec (motive := fun _ => ev_R) none (fun v s _ => Sum.rec (motive := fun _ => ev_R) (fun b => ea_ic2 x k m r ls s w b) (fun u => ea_ic3 x k m r ls s w u) v) st
noncomputable def ea_if (x : (Bool × Bool × Bool) × Nat) : ev_A := fun _ k m r ls st w => List.rec (motive := fun _ => ev_R) none (fun v s _ => Sum.rec (motive := fun _ => ev_R) (fun a => Bool.rec (motive := fun _ => ev_R) (k r ls s w) (k (ev_lb m.1 x.2) ls s w) (ev_c3 x.1 a 0)) (fun u => ea_ic4 x k m r ls s w 0 u) v) st
noncomputable def ea_nn (t : Nat) : ev_A := fun _ k m r ls st w => match st with
  | .inr (.inl 0) :: s => k r ls s w
  | .inr (.inl (_ + 1)) :: s => k (ev_lb m.1 t) ls s w
  | _ => none
/-- a switch: the place of a known int among the goals; of a token, by splitting at each place -/
noncomputable def ev_lt (l : List Nat) : Nat → Nat → Nat := List.rec (motive := fun _ => Nat → Nat → Nat) (fun d _ => d) (fun a _ ih d j => Nat.rec (motive := fun _ => Nat) a (fun j' _ => ih d j') j) l
noncomputable def ev_tk (l : List Nat) : Nat → ev_T → ev_E → (Nat → ev_E → ev_R) → Nat → ev_R := List.rec (motive := fun _ => Nat → ev_T → ev_E → (Nat → ev_E → ev_R) → Nat → ev_R) (fun d _ e f _ => f d e) (fun a _ ih d t e f y => ev_sp t y e (fun e' => f d e') (fun e' => f a e') (fun e' => ih d t e' f (Nat.succ y))) l
noncomputable def ea_tw (x : Nat × Nat × List Nat × Nat) : ev_A := fun _ k m _ ls st w => match st with
  | .inl a :: s => Bool.rec (motive := fun _ => ev_R) (k (ev_lb m.1 x.2.1) ls s w) (k (ev_lb m.1 (ev_lt x.2.2.1 x.2.1 (Nat.sub (ev_bs a) x.1))) ls s w) (Nat.ble x.1 (ev_bs a))
  | .inr (.inr (.inr (.inl t))) :: s => ev_tk x.2.2.1 x.2.1 t w.2.2.1 (fun g e => k (ev_lb m.1 g) ls s (ev_we w e)) x.1
  | _ => none
/-- a value, not nothing -/
noncomputable def ev_nu (v : ev_V) : Bool := Sum.rec (motive := fun _ => Bool) (fun _ => true) (fun u => Sum.rec (motive := fun _ => Bool) (fun _ => true) (fun u => Sum.rec (motive := fun _ => Bool) (fun _ => true) (fun u => Sum.rec (motive := fun _ => Bool) (fun _ => true) (fun _ => false) u) u) u) v
noncomputable def ea_gf3 (x : Nat × Nat × Nat × Nat) (k : ev_K) (r : List ev_I) (ls s : List ev_V) (w : ev_Wd) (i : Nat) (o : Nat × List ev_V) : ev_R := Bool.rec (motive := fun _ => ev_R) none (k r ls (ev_ln o.2 x.2.1 :: s) w) (Bool.and (ev_nu (ev_ln o.2 x.2.1)) (Bool.and (Nat.beq o.1 x.1) (Nat.ble (Nat.succ i) w.2.1)))
noncomputable def ea_gf2 (x : Nat × Nat × Nat × Nat) (k : ev_K) (r : List ev_I) (ls s : List ev_V) (w : ev_Wd) (i : Nat) : ev_R := Sum.rec (motive := fun _ => ev_R) (fun o => ea_gf3 x k r ls s w i o) (fun _ => none) (ev_tg 7 w.1 i)
/-- a reference that isn't null: the number of its cell -/
noncomputable def ev_cell (v : ev_V) (f : Nat → ev_R) : ev_R := Sum.rec (motive := fun _ => ev_R) (fun _ => none) (fun u => Sum.rec (motive := fun _ => ev_R) (fun y => Nat.rec (motive := fun _ => ev_R) none (fun i _ => f i) y) (fun _ => none) u) v
noncomputable def ea_gf (x : Nat × Nat × Nat × Nat) : ev_A := fun _ k _ r ls st w => List.rec (motive := fun _ => ev_R) none (fun v s _ => ev_cell v (ea_gf2 x k r ls s w)) st
/-- what a field of a kind takes: 0 int, 1 boolean, 2 long, 3 reference -/
noncomputable def ev_fit (q : Nat) (v : ev_V) : Bool := match q, v with
  | 0, .inl _ => true
  | 0, .inr (.inr (.inr (.inl _))) => true
  | 1, .inl n => Nat.ble n 1
  | 2, .inr (.inr (.inl _)) => true
  | 3, .inr (.inl _) => true
  | _, _ => false
noncomputable def ea_pf4 (x : Nat × Nat × Nat × Nat × Nat) (k : ev_K) (r : List ev_I) (ls s : List ev_V) (w : ev_Wd) (v : ev_V) (i : Nat) : ev_R := match v with
  | .inr (.inr (.inr (.inl t))) => Bool.rec (motive := fun _ => ev_R) none (ev_rs t w.2.2.1 (fun u e => k (ei_pf x :: r) ls (.inl u :: .inr (.inl (Nat.succ i)) :: s) (ev_we w e))) (Nat.beq x.2.2.1 1)
  | _ => none
noncomputable def ea_pf3 (x : Nat × Nat × Nat × Nat × Nat) (k : ev_K) (r : List ev_I) (ls s : List ev_V) (w : ev_Wd) (v : ev_V) (i : Nat) (o : Nat × List ev_V) : ev_R := Bool.rec (motive := fun _ => ev_R) (ea_pf4 x k r ls s w v i) (k r ls s (ev_ts 7 w.1 i (.inl (o.1, ev_lp o.2 x.2.1 v)), w.2)) (Bool.and (ev_nu (ev_ln o.2 x.2.1)) (Bool.and (Nat.beq o.1 x.1) (Bool.and (Nat.ble (Nat.succ i) w.2.1) (ev_fit x.2.2.1 v))))
noncomputable def ea_pf2 (x : Nat × Nat × Nat × Nat × Nat) (k : ev_K) (r : List ev_I) (ls s : List ev_V) (w : ev_Wd) (v : ev_V) (i : Nat) : ev_R := Sum.rec (motive := fun _ => ev_R) (fun o => ea_pf3 x k r ls s w v i o) (fun _ => none) (ev_tg 7 w.1 i)
noncomputable def ea_pf (x : Nat × Nat × Nat × Nat × Nat) : ev_A := fun _ k _ r ls st w => match st with
  | v :: u :: s => ev_cell u (ea_pf2 x k r ls s w v)
  | _ => none
/-- an array and a place in it -/
noncomputable def ev_ix (q i j : Nat) (w : ev_Wd) (a : Nat × Nat × Nat × List (Nat × ev_V)) : Bool := Bool.and (Nat.ble (Nat.succ j) a.2.1) (Bool.and (Nat.beq a.1 q) (Bool.and (Nat.ble (Nat.succ i) w.2.1) (Nat.ble j 2147483647)))
noncomputable def ev_nil (l : List (Nat × ev_V)) : Bool := List.rec (motive := fun _ => Bool) true (fun _ _ _ => false) l
noncomputable def ea_al3 (q : Nat) (k : ev_K) (r : List ev_I) (ls s : List ev_V) (w : ev_Wd) (j i : Nat) (a : Nat × Nat × Nat × List (Nat × ev_V)) : ev_R := Bool.rec (motive := fun _ => ev_R) none (k r ls (Bool.rec (motive := fun _ => ev_V) (.inl (ev_gm 32 a.2.2.1 j)) (.inr (.inr (.inl (ev_gm 64 a.2.2.1 j)))) (Nat.beq q 1) :: s) w) (Bool.and (ev_ix q i j w a) (ev_nil a.2.2.2))
noncomputable def ea_al2 (q : Nat) (k : ev_K) (r : List ev_I) (ls s : List ev_V) (w : ev_Wd) (j i : Nat) : ev_R := Sum.rec (motive := fun _ => ev_R) (fun _ => none) (fun a => ea_al3 q k r ls s w j i a) (ev_tg 7 w.1 i)
noncomputable def ea_al1 (q : Nat) (k : ev_K) (r : List ev_I) (ls s : List ev_V) (w : ev_Wd) (j : Nat) : ev_R := List.rec (motive := fun _ => ev_R) none (fun v s _ => ev_cell v (ea_al2 q k r ls s w j)) s
noncomputable def ea_al4 (q : Nat) (k : ev_K) (r : List ev_I) (ls s : List ev_V) (w : ev_Wd) (u : Nat ⊕ (Nat ⊕ (ev_T ⊕ Unit))) : ev_R := match u with
  | .inr (.inr (.inl t)) => ev_rs t w.2.2.1 (fun v e => k (ei_al q :: r) ls (.inl v :: s) (ev_we w e))
  | _ => none
noncomputable def ea_al (q : Nat) : ev_A := fun _ k _ r ls st w => List.rec (motive := fun _ => ev_R) none (fun v s _ => Sum.rec (motive := fun _ => ev_R) (fun j => ea_al1 q k r ls s w j) (fun u => ea_al4 q k r ls s w u) v) st
/-- a number as a literal -/
noncomputable def ev_fo (M : Nat) (f : Nat → ev_R) : ev_R := Nat.rec (motive := fun _ => ev_R) (f 0) (fun m _ => f (Nat.succ m)) M
/-- what an array of a kind keeps of an int -/
noncomputable def ev_nar (q v : Nat) : Nat := match q with
  | 0 => v
  | 2 => Nat.land v 1
  | _ => ev_i2b v
noncomputable def ev_nat (q : Nat) (t : ev_T) : ev_T := match q with
  | 0 => t
  | 2 => (t.1, (3, 1) :: t.2)
  | _ => (t.1, (9, 0) :: t.2)
noncomputable def ea_as5 (q : Nat) (k : ev_K) (r : List ev_I) (ls s : List ev_V) (w : ev_Wd) (v : ev_V) (j i : Nat) (a : Nat × Nat × Nat × List (Nat × ev_V)) : ev_R := Bool.rec (motive := fun _ => ev_R) none
  (match v with
    | .inl v => k r ls s (ev_ts 7 w.1 i (.inr (a.1, a.2.1, a.2.2.1, (j, .inl (ev_nar q v)) :: a.2.2.2)), w.2)
    | .inr (.inr (.inr (.inl t))) => k r ls s (ev_ts 7 w.1 i (.inr (a.1, a.2.1, a.2.2.1, (j, .inr (.inr (.inr (.inl (ev_nat q t))))) :: a.2.2.2)), w.2)
    | _ => none) (Bool.and (ev_ix q i j w a) (Bool.not (Nat.beq q 1)))
/-- a known int, a long -/
noncomputable def ea_as4 (q : Nat) (k : ev_K) (r : List ev_I) (ls s : List ev_V) (w : ev_Wd) (v : ev_V) (j i : Nat) (a : Nat × Nat × Nat × List (Nat × ev_V)) : ev_R := Sum.rec (motive := fun _ => ev_R)
  (fun n => Bool.rec (motive := fun _ => ev_R) (ea_as5 q k r ls s w v j i a) (ev_fo (ev_sm 32 a.2.2.1 j (ev_nar q n)) (fun M' => k r ls s (ev_ts 7 w.1 i (.inr (a.1, a.2.1, M', [])), w.2))) (Bool.and (ev_ix q i j w a) (Bool.and (ev_nil a.2.2.2) (Bool.not (Nat.beq q 1)))))
  (fun u => Sum.rec (motive := fun _ => ev_R) (fun _ => none) (fun u => Sum.rec (motive := fun _ => ev_R) (fun n => Bool.rec (motive := fun _ => ev_R) none (ev_fo (ev_sm 64 a.2.2.1 j n) (fun M' => k r ls s (ev_ts 7 w.1 i (.inr (a.1, a.2.1, M', a.2.2.2)), w.2))) (Bool.and (ev_ix q i j w a) (Nat.beq q 1))) (fun _ => ea_as5 q k r ls s w v j i a) u) u) v
noncomputable def ea_as3 (q : Nat) (k : ev_K) (r : List ev_I) (ls s : List ev_V) (w : ev_Wd) (v : ev_V) (j i : Nat) : ev_R := Sum.rec (motive := fun _ => ev_R) (fun _ => none) (fun a => ea_as4 q k r ls s w v j i a) (ev_tg 7 w.1 i)
noncomputable def ea_as2 (q : Nat) (k : ev_K) (r : List ev_I) (ls s : List ev_V) (w : ev_Wd) (v : ev_V) (j : Nat) : ev_R := List.rec (motive := fun _ => ev_R) none (fun u s _ => ev_cell u (ea_as3 q k r ls s w v j)) s
noncomputable def ea_as6 (q : Nat) (k : ev_K) (r : List ev_I) (ls s : List ev_V) (w : ev_Wd) (v : ev_V) (u : Nat ⊕ (Nat ⊕ (ev_T ⊕ Unit))) : ev_R := match u with
  | .inr (.inr (.inl t)) => ev_rs t w.2.2.1 (fun j e => k (ei_as q :: r) ls (v :: .inl j :: s) (ev_we w e))
  | _ => none
noncomputable def ea_as1 (q : Nat) (k : ev_K) (r : List ev_I) (ls s : List ev_V) (w : ev_Wd) (v : ev_V) : ev_R := List.rec (motive := fun _ => ev_R) none (fun x s _ => Sum.rec (motive := fun _ => ev_R) (fun j => ea_as2 q k r ls s w v j) (fun u => ea_as6 q k r ls s w v u) x) s
noncomputable def ea_as (q : Nat) : ev_A := fun _ k _ r ls st w => List.rec (motive := fun _ => ev_R) none (fun v s _ => ea_as1 q k r ls s w v) st
noncomputable def ea_an : ev_A := fun _ k _ r ls st w => match st with
  | .inr (.inl (i + 1)) :: s => match ev_tg 7 w.1 i with
    | .inr (q, n, _, _) => Bool.rec (motive := fun _ => ev_R) none (k r ls (.inl n :: s) w) (Bool.and (Nat.ble (Nat.succ i) w.2.1) (Nat.ble q 3))
    | _ => none
  | _ => none
noncomputable def ea_na (q : Nat) : ev_A := fun _ k m r ls st w => match st with
  | .inl n :: s => Bool.rec (motive := fun _ => ev_R) none
      (k r ls (.inr (.inl (Nat.succ w.2.1)) :: s) (ev_ts 7 w.1 w.2.1 (.inr (q, n, 0, [])), Nat.succ w.2.1, w.2.2.1, Nat.succ w.2.2.2.1, Nat.add w.2.2.2.2 n))
      (Bool.and (Nat.ble n 1000000) (Bool.and (Nat.ble (Nat.succ w.2.2.2.1) m.2.2.1) (Bool.and (Nat.ble (Nat.add w.2.2.2.2 n) m.2.2.2.1) (Bool.and (Nat.ble w.2.1 127) (Bool.and (s.all (ev_clV w.2.1)) (Bool.and (ls.all (ev_clV w.2.1)) (ev_clH w.2.1 w.1)))))))
  | _ => none
noncomputable def ea_nw (x : Nat × Nat × List ev_V) : ev_A := fun _ k m r ls s w => Bool.rec (motive := fun _ => ev_R) none
      (k r ls (.inr (.inl (Nat.succ w.2.1)) :: s) (ev_ts 7 w.1 w.2.1 (.inl (x.1, x.2.2)), Nat.succ w.2.1, w.2.2.1, Nat.succ w.2.2.2.1, Nat.add w.2.2.2.2 x.2.2.length))
      (Bool.and (Nat.ble (Nat.succ w.2.2.2.1) m.2.2.1) (Bool.and (Nat.ble (Nat.add w.2.2.2.2 x.2.2.length) m.2.2.2.1) (Bool.and (Nat.ble w.2.1 127) (Bool.and (s.all (ev_clV w.2.1)) (Bool.and (ls.all (ev_clV w.2.1)) (Bool.and (x.2.2.all (ev_clV w.2.1)) (ev_clH w.2.1 w.1)))))))
noncomputable def ea_oi (_ : Nat) : ev_A := fun _ k _ r ls st w => match st with
  | .inr (.inl (_ + 1)) :: s => Bool.rec (motive := fun _ => ev_R) none (k r ls s w) (Nat.ble (ev_cat s) 8)
  | _ => none
noncomputable def ea_cy (_ : Nat) : ev_A := fun _ k _ r ls st w => match st with
  | .inl n :: .inl dp :: .inr (.inl (i + 1)) :: .inl sp :: .inr (.inl (i' + 1)) :: s => match ev_tg 7 w.1 i, ev_tg 7 w.1 i' with
    | .inr (q, n1, M1, []), .inr (q', n0, M0, []) => Bool.rec (motive := fun _ => ev_R) none
        (ev_fo (Bool.rec (motive := fun _ => Nat) (ev_cp 64 M1 M0 sp dp n) (ev_cp 32 M1 M0 sp dp n) (Nat.beq q 0)) (fun M' => k r ls s (ev_ts 7 w.1 i (.inr (q, n1, M', [])), w.2)))
        (Bool.and (Nat.beq q q') (Bool.and (Nat.ble q 1) (Bool.and (Nat.ble (Nat.succ i) w.2.1) (Bool.and (Nat.ble (Nat.succ i') w.2.1) (Bool.and (Nat.ble (Nat.add sp n) n0) (Bool.and (Nat.ble (Nat.add dp n) n1) (Bool.and (Nat.ble (Nat.add sp n) 2147483647) (Bool.and (Nat.ble (Nat.add dp n) 2147483647) (Nat.ble (ev_cat s) 8)))))))))
    | _, _ => none
  | _ => none
noncomputable def ea_re (q : Nat) : ev_A := fun _ _ m _ _ st w => Bool.rec (motive := fun _ => ev_R) none
  (match q, st with
    | 0, [.inl n] => match m.2.2.2.2.2.2.2 with
      | some .int => some [(.inl n, w.1, w.2.1, w.2.2.1)]
      | some .boolean => Bool.rec (motive := fun _ => ev_R) none (some [(.inl n, w.1, w.2.1, w.2.2.1)]) (Nat.ble n 1)
      | _ => none
    | 0, [.inr (.inr (.inr (.inl t)))] => match m.2.2.2.2.2.2.2 with
      | some .int => some [(.inr (.inr (.inr (.inl t))), w.1, w.2.1, w.2.2.1)]
      | _ => none
    | 1, [.inr (.inl x)] => match m.2.2.2.2.2.2.2 with
      | some (.object _) => some [(.inr (.inl x), w.1, w.2.1, w.2.2.1)]
      | _ => none
    | 2, [] => match m.2.2.2.2.2.2.2 with
      | none => some [(ev_U, w.1, w.2.1, w.2.2.1)]
      | _ => none
    | _, _ => none)
  (Bool.and (Nat.ble w.2.2.2.1 m.2.2.1) (Nat.ble w.2.2.2.2 m.2.2.2.1))
/-- the arguments of a call, and what lies below them -/
noncomputable def ev_pop (n : Nat) (st acc : List ev_V) : List ev_V × List ev_V := match n, st with
  | 0, s => (acc, s)
  | n + 1, v :: s => ev_pop n s (v :: acc)
  | _, [] => ([], [])
/-- a call's receiver, where one is asked for (1 and the number of its kind) -/
noncomputable def ev_rcv (x : Nat) (as : List ev_V) (h : ev_H) (n : Nat) : Bool := match x, as with
  | 0, _ => true
  | q + 1, .inr (.inl (i + 1)) :: _ => match ev_tg 7 h i with
    | .inl (c, _) => Bool.and (Nat.beq c q) (Nat.ble (Nat.succ i) n)
    | _ => false
  | _, _ => false
noncomputable def ev_bck (v : ev_V) (s : List ev_V) : List ev_V := match v with
  | .inr (.inr (.inr (.inr _))) => s
  | v => v :: s
/-- a call: number of the method, arguments (the receiver too), receiver, index, how, its cells and slots -/
noncomputable def ea_ca3 (k : ev_K) (r : List ev_I) (ls s : List ev_V) (w : ev_Wd) (mc ms : Nat) (o : ev_O) : ev_R := Bool.rec (motive := fun _ => ev_R) none
  (k r ls (ev_bck o.1 s) (o.2.1, o.2.2.1, o.2.2.2, Nat.add w.2.2.2.1 mc, Nat.add w.2.2.2.2 ms))
  (Bool.or (Nat.beq o.2.2.1 w.2.1) (Bool.and (s.all (ev_clV w.2.1)) (ls.all (ev_clV w.2.1))))
noncomputable def ea_ca2 (x : Nat × Nat × Nat × Nat × Nat × Nat × Nat) (call : ev_Q) (k : ev_K) (m : ev_M) (r : List ev_I) (ls : List ev_V) (w : ev_Wd) (as s : List ev_V) : ev_R := Bool.rec (motive := fun _ => ev_R) none
  (match call x.1 as w.1 w.2.1 w.2.2.1 with
    | none => none
    | some os => ev_bo os (ea_ca3 k r ls s w x.2.2.2.2.2.1 x.2.2.2.2.2.2))
  (Bool.and (ev_rcv x.2.2.1 as w.1 w.2.1) (Bool.and (Nat.beq as.length x.2.1) (Bool.and (Nat.ble (ev_cat s) 8) (Bool.and (Nat.ble (Nat.add w.2.2.2.1 x.2.2.2.2.2.1) m.2.2.1) (Nat.ble (Nat.add w.2.2.2.2 x.2.2.2.2.2.2) m.2.2.2.1)))))
noncomputable def ea_ca (x : Nat × Nat × Nat × Nat × Nat × Nat × Nat) : ev_A := fun call k m r ls st w => Prod.rec (motive := fun _ => ev_R) (fun as s => ea_ca2 x call k m r ls w as s) (ev_pop x.2.1 st [])
noncomputable def ev_act (i : ev_I) : ev_A := Sum.rec (motive := fun _ => ev_A) (Sum.rec (motive := fun _ => ev_A) (Sum.rec (motive := fun _ => ev_A) (Sum.rec (motive := fun _ => ev_A) (Sum.rec (motive := fun _ => ev_A) ea_li ea_la) (Sum.rec (motive := fun _ => ev_A) ea_pu ea_ic)) (Sum.rec (motive := fun _ => ev_A) (Sum.rec (motive := fun _ => ev_A) ea_gf ea_go) (Sum.rec (motive := fun _ => ev_A) ea_ii ea_ib))) (Sum.rec (motive := fun _ => ev_A) (Sum.rec (motive := fun _ => ev_A) (Sum.rec (motive := fun _ => ev_A) ea_al ea_as) (Sum.rec (motive := fun _ => ev_A) ea_if ea_re)) (Sum.rec (motive := fun _ => ev_A) (Sum.rec (motive := fun _ => ev_A) ea_ca ea_si) (Sum.rec (motive := fun _ => ev_A) (fun _ => ea_dv) ea_ll)))) (Sum.rec (motive := fun _ => ev_A) (Sum.rec (motive := fun _ => ev_A) (Sum.rec (motive := fun _ => ev_A) (Sum.rec (motive := fun _ => ev_A) ea_go ea_pf) (Sum.rec (motive := fun _ => ev_A) ea_lb ea_ls)) (Sum.rec (motive := fun _ => ev_A) (Sum.rec (motive := fun _ => ev_A) (fun _ => ea_lc) ea_sl) (Sum.rec (motive := fun _ => ev_A) ea_un ea_st))) (Sum.rec (motive := fun _ => ev_A) (Sum.rec (motive := fun _ => ev_A) (Sum.rec (motive := fun _ => ev_A) (fun _ => ea_an) ea_na) (Sum.rec (motive := fun _ => ev_A) ea_nw ea_oi)) (Sum.rec (motive := fun _ => ev_A) (Sum.rec (motive := fun _ => ev_A) ea_cy ea_tw) (Sum.rec (motive := fun _ => ev_A) ea_nn ea_sa)))) i
noncomputable def ev_step (call : ev_Q) (k : ev_K) (m : ev_M) (p : List ev_I) (ls st : List ev_V) (w : ev_Wd) : ev_R := List.rec (motive := fun _ => ev_R) none (fun i r _ => ev_act i call k m r ls st w) p
noncomputable def ev_run (call : ev_Q) (m : ev_M) (fuel : Nat) : ev_K := Nat.rec (motive := fun _ => ev_K) (fun _ _ _ _ => none) (fun _ ih => ev_step call ih m) fuel
/-- the values of the arguments as the first of the places for values; a long takes two -/
noncomputable def ev_ent (l : List ev_V) : List ev_V := match l with
  | [] => []
  | v :: r => Bool.rec (motive := fun _ => List ev_V) (v :: ev_ent r) (v :: ev_U :: ev_ent r) (ev_isl v)
noncomputable def ev_lm (l : List ev_M) : Nat → Option ev_M := List.rec (motive := fun _ => Nat → Option ev_M) (fun _ => none) (fun a _ ih j => Nat.rec (motive := fun _ => Option ev_M) (some a) (fun j' _ => ih j') j) l
noncomputable def ev_beg (call : ev_Q) (as : List ev_V) (h : ev_H) (n : Nat) (e : ev_E) (m : ev_M) (ls : List ev_V) : ev_R := Bool.rec (motive := fun _ => ev_R) none (ev_run call m 10000000 (ev_lb m.1 m.2.1) (ls ++ List.replicate (Nat.sub m.2.2.2.2.1 ls.length) ev_U) [] (h, n, e, 0, 0)) (Nat.ble ls.length m.2.2.2.2.1)
noncomputable def ev_met (pg : List ev_M) (d : Nat) : ev_Q := Nat.rec (motive := fun _ => ev_Q) (fun _ _ _ _ _ => none) (fun _ ih x as h n e => match ev_lm pg x with
  | none => none
  | some m => ev_beg ih as h n e m (ev_ent as)) d
end
section
/-! ===== pure rows: ints by their numbers, trees, lists ===== -/
theorem ev_nm (a b : Nat) : Nat.mod a b = a % b := rfl
theorem ev_na (a b : Nat) : Nat.add a b = a + b := rfl
theorem ev_ns (a b : Nat) : Nat.sub a b = a - b := rfl
theorem ev_nx (a b : Nat) : Nat.mul a b = a * b := rfl
theorem ev_beq {a b : Nat} : Nat.beq a b = true ↔ a = b := ⟨Nat.eq_of_beq_eq_true, fun h => by rw [h]; exact Nat.beq_refl b⟩
theorem ev_beqf {a b : Nat} : Nat.beq a b = false ↔ a ≠ b := by
  rw [← Bool.not_eq_true, ev_beq]
theorem ev_blef {a b : Nat} : Nat.ble a b = false ↔ b < a := by
  rw [← Bool.not_eq_true, Nat.ble_eq]
  omega
theorem ev_on (n : Nat) : (Int32.ofNat n).toBitVec.toNat = n % 4294967296 := by
  show (BitVec.ofNat 32 n).toNat = _
  rw [BitVec.toNat_ofNat]
theorem ev_e32 {a b : Int32} (h : a.toBitVec.toNat = b.toBitVec.toNat) : a = b := Int32.toBitVec_inj.mp (BitVec.eq_of_toNat_eq h)
theorem ev_md (n : Nat) : Int32.ofNat (n % 4294967296) = Int32.ofNat n := ev_e32 (by rw [ev_on, ev_on, Nat.mod_mod])
theorem ev_onl (n : Nat) : (Int64.ofNat n).toBitVec.toNat = n % 18446744073709551616 := by
  show (BitVec.ofNat 64 n).toNat = _
  rw [BitVec.toNat_ofNat]
theorem ev_e64 {a b : Int64} (h : a.toBitVec.toNat = b.toBitVec.toNat) : a = b := Int64.toBitVec_inj.mp (BitVec.eq_of_toNat_eq h)
theorem ev_mdl (n : Nat) : Int64.ofNat (n % 18446744073709551616) = Int64.ofNat n := ev_e64 (by rw [ev_onl, ev_onl, Nat.mod_mod])
theorem ev_add (a b : Nat) : Int32.ofNat a + Int32.ofNat b = Int32.ofNat (a + b) := nI_add a b
theorem ev_mul (a b : Nat) : Int32.ofNat a * Int32.ofNat b = Int32.ofNat (a * b) := pk_mul a b
theorem ev_sub (a b : Nat) : Int32.ofNat a - Int32.ofNat b = Int32.ofNat (a + (4294967296 - b % 4294967296)) := by
  refine ev_e32 ?_
  rw [Int32.toBitVec_sub, BitVec.toNat_sub, ev_on, ev_on, ev_on]
  omega
theorem ev_and (a b : Nat) : Int32.ofNat a &&& Int32.ofNat b = Int32.ofNat (Nat.land a b) := by
  refine ev_e32 ?_
  rw [Int32.toBitVec_and, BitVec.toNat_and, ev_on, ev_on, ev_on]
  show _ = (a &&& b) % 2 ^ 32
  rw [Nat.and_mod_two_pow]
theorem ev_or (a b : Nat) : Int32.ofNat a ||| Int32.ofNat b = Int32.ofNat (Nat.lor a b) := by
  refine ev_e32 ?_
  rw [Int32.toBitVec_or, BitVec.toNat_or, ev_on, ev_on, ev_on]
  show _ = (a ||| b) % 2 ^ 32
  rw [Nat.or_mod_two_pow]
theorem ev_k31 (b : Nat) : Nat.land b 31 = b % 32 := Nat.and_two_pow_sub_one_eq_mod b 5
theorem ev_k63 (b : Nat) : Nat.land b 63 = b % 64 := Nat.and_two_pow_sub_one_eq_mod b 6
theorem ev_s31 (b : Nat) : Int32.ofNat b &&& 31 = Int32.ofNat (b % 32) := by
  rw [← ev_k31]
  exact ev_and b 31
theorem ev_sm1 : ∀ k, k < 32 → ((Int32.ofNat k).toBitVec.smod 32).toNat = k := by decide +kernel
theorem ev_shl (a b : Nat) : Int32.ofNat a <<< (Int32.ofNat b &&& 31) = Int32.ofNat (Nat.shiftLeft a (Nat.land b 31)) := by
  refine ev_e32 ?_
  rw [ev_s31, pk_shl _ _ (b % 32) (ev_sm1 _ (Nat.mod_lt _ (by decide))), ev_on, ev_on, ev_k31]
  show _ = (a <<< (b % 32)) % 4294967296
  rw [Nat.shiftLeft_eq, Nat.mod_mul_mod]
theorem ev_bm (n : Nat) (hn : n < 4294967296) : (n : Int).bmod 4294967296 = if n < 2147483648 then (n : Int) else (n : Int) - 4294967296 := by
  rw [Int.bmod_def]
  split <;> split <;> omega
theorem ev_ti (n : Nat) (hn : n < 4294967296) : (Int32.ofNat n).toInt = if n < 2147483648 then (n : Int) else (n : Int) - 4294967296 := by
  rw [Int32.toInt_ofNat']
  exact ev_bm n hn
theorem ev_shr (a b : Nat) : Int32.ofNat a >>> (Int32.ofNat b &&& 31) = Int32.ofNat (ev_sh a (Nat.land b 31)) := by
  have h := pk_shr (Int32.ofNat (a % 4294967296)) (Int32.ofNat (b % 32)) (b % 32) (ev_sm1 _ (Nat.mod_lt _ (by decide)))
  rw [ev_s31, ev_k31, ← ev_md a]
  have hr : a % 4294967296 < 4294967296 := Nat.mod_lt _ (by decide)
  show _ = Int32.ofNat (Bool.rec (motive := fun _ => Nat) (4294967295 - ((4294967295 - (a % 4294967296)) >>> (b % 32))) ((a % 4294967296) >>> (b % 32)) (Nat.ble (a % 4294967296) 2147483647))
  generalize b % 32 = k at *
  generalize a % 4294967296 = r at *
  refine Int32.toInt_inj.mp ?_
  rw [h, ev_ti r hr]
  have h1 : r >>> k ≤ r := Nat.shiftRight_le r k
  have h2 : (4294967295 - r) >>> k ≤ 4294967295 - r := Nat.shiftRight_le _ k
  by_cases hc : r < 2147483648
  · rw [if_pos hc, Nat.ble_eq_true_of_le (by omega)]
    show _ = (Int32.ofNat (r >>> k)).toInt
    rw [ev_ti _ (by omega), if_pos (by omega)]
    rfl
  · have hb : Nat.ble r 2147483647 = false := by
      rw [← Bool.not_eq_true, Nat.ble_eq]
      omega
    rw [if_neg hc, hb]
    show _ = (Int32.ofNat (4294967295 - ((4294967295 - r) >>> k))).toInt
    have e : (r : Int) - 4294967296 = Int.negSucc (4294967295 - r) := by omega
    rw [e]
    show Int.negSucc ((4294967295 - r) >>> k) = _
    generalize (4294967295 - r) >>> k = z at *
    rw [ev_ti _ (by omega), if_neg (by omega)]
    omega
theorem ev_ush (a b : Nat) : ((Int32.ofNat a).toUInt32 >>> ((Int32.ofNat b).toUInt32 &&& Int32.toUInt32 31)).toInt32 = Int32.ofNat (Nat.shiftRight (Nat.mod a 4294967296) (Nat.land b 31)) := by
  refine ev_e32 ?_
  have hs : (((Int32.ofNat b).toUInt32 &&& Int32.toUInt32 31).toBitVec % 32).toNat = b % 32 := by
    show ((BitVec.ofNat 32 b &&& BitVec.ofNat 32 31) % 32#32).toNat = _
    rw [BitVec.toNat_umod, BitVec.toNat_and, BitVec.toNat_ofNat, BitVec.toNat_ofNat]
    show (b % 4294967296 &&& 31) % 32 = _
    rw [show b % 4294967296 &&& 31 = (b % 4294967296) % 32 from ev_k31 _]
    omega
  rw [pk_ushr _ _ (b % 32) hs, ev_on, ev_on, ev_k31]
  show _ = ((a % 4294967296) >>> (b % 32)) % 4294967296
  rw [Nat.shiftRight_eq_div_pow]
  have h1 : a % 4294967296 / 2 ^ (b % 32) ≤ a % 4294967296 := Nat.div_le_self _ _
  rw [Nat.mod_eq_of_lt (a := a % 4294967296 / 2 ^ (b % 32)) (by omega)]
theorem ev_i2b_ok (a : Nat) : (Int32.ofNat a).toInt8.toInt32 = Int32.ofNat (ev_i2b a) := by
  have h : ∀ c, c < 256 → (Int32.ofNat c).toInt8.toInt32 = Int32.ofNat (ev_i2b c) := by decide +kernel
  have e1 : (Int32.ofNat a).toInt8 = (Int32.ofNat (a % 256)).toInt8 := by
    refine Int8.toBitVec_inj.mp (BitVec.eq_of_toNat_eq ?_)
    show ((BitVec.ofNat 32 a).signExtend 8).toNat = ((BitVec.ofNat 32 (a % 256)).signExtend 8).toNat
    rw [BitVec.signExtend_eq_setWidth_of_le _ (by decide), BitVec.signExtend_eq_setWidth_of_le _ (by decide), BitVec.toNat_setWidth, BitVec.toNat_setWidth, BitVec.toNat_ofNat, BitVec.toNat_ofNat]
    omega
  have e2 : ev_i2b a = ev_i2b (a % 256) := by
    show Bool.rec (motive := fun _ => Nat) (a % 256 + 4294967040) (a % 256) (Nat.ble (a % 256) 127) = Bool.rec (motive := fun _ => Nat) (a % 256 % 256 + 4294967040) (a % 256 % 256) (Nat.ble (a % 256 % 256) 127)
    rw [Nat.mod_mod]
  rw [e1, e2]
  exact h _ (Nat.mod_lt _ (by decide))
theorem ev_div (a b : Nat) (ha : a ≤ 2147483647) (hb : b ≤ 2147483647) (h0 : 1 ≤ b) : Int32.ofNat a / Int32.ofNat b = Int32.ofNat (a / b) := pk_div (by omega) (by omega) (by omega)
/-- an int, moved up so that its order is that of numbers -/
def ev_bi (x : Int32) : Nat := (x.toInt + 2147483648).toNat
theorem ev_bs_eq (a : Nat) : ev_bs a = (a + 2147483648) % 4294967296 := by
  cases a with
  | zero => decide +kernel
  | succ n => rfl
theorem ev_bi_of (a : Nat) : ev_bi (Int32.ofNat a) = ev_bs a := by
  have hr : a % 4294967296 < 4294967296 := Nat.mod_lt _ (by decide)
  rw [ev_bs_eq]
  unfold ev_bi
  rw [← ev_md a, ev_ti _ hr]
  split <;> omega
theorem ev_bi_lt (x y : Int32) : x < y ↔ ev_bi x < ev_bi y := by
  have a1 := Int32.le_toInt x
  have a2 := Int32.le_toInt y
  rw [Int32.lt_iff_toInt_lt]
  unfold ev_bi
  omega
theorem ev_bi_le (x y : Int32) : x ≤ y ↔ ev_bi x ≤ ev_bi y := by
  have a1 := Int32.le_toInt x
  have a2 := Int32.le_toInt y
  rw [Int32.le_iff_toInt_le]
  unfold ev_bi
  omega
theorem ev_bi_eq (x y : Int32) : x = y ↔ ev_bi x = ev_bi y := by
  have a1 := Int32.le_toInt x
  have a2 := Int32.le_toInt y
  rw [← Int32.toInt_inj]
  unfold ev_bi
  omega
theorem ev_bi_top (x : Int32) : ev_bi x < 4294967296 := by
  have a1 := Int32.toInt_lt x
  unfold ev_bi
  omega
theorem ev_bs_bi (x : Int32) : Int32.ofNat (ev_bs (ev_bi x)) = x := by
  rw [ev_bi_eq, ev_bi_of, ev_bs_eq, ev_bs_eq]
  have := ev_bi_top x
  omega
/-! longs -/
theorem ev_land (a b : Nat) : Int64.ofNat a &&& Int64.ofNat b = Int64.ofNat (Nat.land a b) := by
  refine ev_e64 ?_
  rw [Int64.toBitVec_and, BitVec.toNat_and, ev_onl, ev_onl, ev_onl]
  show _ = (a &&& b) % 2 ^ 64
  rw [Nat.and_mod_two_pow]
theorem ev_lor (a b : Nat) : Int64.ofNat a ||| Int64.ofNat b = Int64.ofNat (Nat.lor a b) := by
  refine ev_e64 ?_
  rw [Int64.toBitVec_or, BitVec.toNat_or, ev_onl, ev_onl, ev_onl]
  show _ = (a ||| b) % 2 ^ 64
  rw [Nat.or_mod_two_pow]
theorem ev_ladd (a b : Nat) : Int64.ofNat a + Int64.ofNat b = Int64.ofNat (a + b) := lN_add a b
theorem ev_lsub (a b : Nat) : Int64.ofNat a - Int64.ofNat b = Int64.ofNat (a + (18446744073709551616 - b % 18446744073709551616)) := by
  refine ev_e64 ?_
  rw [Int64.toBitVec_sub, BitVec.toNat_sub, ev_onl, ev_onl, ev_onl]
  omega
theorem ev_l2i (a : Nat) : (Int64.ofNat a).toInt32 = Int32.ofNat (a % 4294967296) := by
  refine ev_e32 ?_
  show ((BitVec.ofNat 64 a).signExtend 32).toNat = _
  rw [BitVec.signExtend_eq_setWidth_of_le _ (by decide), BitVec.toNat_setWidth, BitVec.toNat_ofNat, ev_on]
  omega
theorem ev_i2l_sm (b : Nat) : (Int32.ofNat b).toInt64 &&& 63 = Int64.ofNat (b % 64) := by
  refine ev_e64 ?_
  rw [Int64.toBitVec_and, BitVec.toNat_and, ev_onl]
  show ((BitVec.ofNat 32 b).signExtend 64).toNat &&& 63 = _
  rw [show ((BitVec.ofNat 32 b).signExtend 64).toNat &&& 63 = ((BitVec.ofNat 32 b).signExtend 64).toNat % 64 from ev_k63 _, BitVec.toNat_signExtend, BitVec.toNat_setWidth, BitVec.toNat_ofNat]
  split <;> omega
theorem ev_sml : ∀ k, k < 64 → ((Int64.ofNat k).toBitVec.smod 64).toNat = k := by decide +kernel
theorem ev_lshl (a b : Nat) : Int64.ofNat a <<< ((Int32.ofNat b).toInt64 &&& 63) = Int64.ofNat (Nat.shiftLeft a (Nat.land b 63)) := by
  rw [ev_i2l_sm, ev_k63]
  refine ev_e64 ?_
  show ((Int64.ofNat a).toBitVec <<< ((Int64.ofNat (b % 64)).toBitVec.smod 64)).toNat = _
  rw [BitVec.shiftLeft_eq', ev_sml _ (Nat.mod_lt _ (by decide)), BitVec.toNat_shiftLeft, ev_onl, ev_onl]
  show ((a % 18446744073709551616) <<< (b % 64)) % 18446744073709551616 = (a <<< (b % 64)) % 18446744073709551616
  rw [Nat.shiftLeft_eq, Nat.shiftLeft_eq, Nat.mod_mul_mod]
theorem ev_lush (a b : Nat) : ((Int64.ofNat a).toUInt64 >>> ((Int32.ofNat b).toInt64.toUInt64 &&& Int64.toUInt64 63)).toInt64 = Int64.ofNat (Nat.shiftRight (Nat.mod a 18446744073709551616) (Nat.land b 63)) := by
  have hs : ((Int32.ofNat b).toInt64.toUInt64 &&& Int64.toUInt64 63) = (Int64.ofNat (b % 64)).toUInt64 := congrArg Int64.toUInt64 (ev_i2l_sm b)
  rw [hs, ev_k63]
  refine ev_e64 ?_
  have hk : b % 64 < 64 := Nat.mod_lt _ (by decide)
  generalize b % 64 = k at *
  show ((BitVec.ofNat 64 a) >>> (BitVec.ofNat 64 k % 64#64)).toNat = _
  rw [BitVec.ushiftRight_eq', BitVec.toNat_ushiftRight, BitVec.toNat_umod, BitVec.toNat_ofNat, BitVec.toNat_ofNat, ev_onl]
  have e : k % 2 ^ 64 % (64#64).toNat = k := by
    show k % 18446744073709551616 % 64 = k
    omega
  rw [e]
  show (a % 18446744073709551616) >>> k = ((a % 18446744073709551616) >>> k) % 18446744073709551616
  have h1 := Nat.shiftRight_le (a % 18446744073709551616) k
  have h2 : a % 18446744073709551616 < 18446744073709551616 := Nat.mod_lt _ (by decide)
  generalize (a % 18446744073709551616) >>> k = z at *
  omega
theorem ev_tl (n : Nat) (hn : n < 18446744073709551616) : (Int64.ofNat n).toInt = if n < 9223372036854775808 then (n : Int) else (n : Int) - 18446744073709551616 := by
  rw [Int64.toInt_ofNat']
  show (n : Int).bmod 18446744073709551616 = _
  rw [Int.bmod_def]
  split <;> split <;> omega
theorem ev_lc3 (x y X Y : Nat) (hx : X = if x < 9223372036854775808 then x + 9223372036854775808 else x - 9223372036854775808) (hy : Y = if y < 9223372036854775808 then y + 9223372036854775808 else y - 9223372036854775808) (u v : Int) (hu : u = if x < 9223372036854775808 then (x : Int) else (x : Int) - 18446744073709551616) (hv : v = if y < 9223372036854775808 then (y : Int) else (y : Int) - 18446744073709551616) (hx2 : x < 18446744073709551616) (hy2 : y < 18446744073709551616) :
    (v < u ↔ Y < X) ∧ (u = v ↔ x = y) ∧ (x = y ↔ X = Y) := by
  split at hx <;> split at hy <;> split at hu <;> split at hv <;> omega
theorem ev_3r (x y X Y : Nat) (h : x = y ↔ X = Y) : ev_3l x y X Y = if Y < X then 1 else if x = y then 0 else 4294967295 := by
  unfold ev_3l
  cases h1 : Nat.beq x y with
  | true =>
    rw [ev_beq] at h1
    have := h.mp h1
    rw [if_neg (by omega), if_pos h1]
  | false =>
    rw [ev_beqf] at h1
    have : ¬ X = Y := fun q => h1 (h.mpr q)
    cases h2 : Nat.ble X Y with
    | true =>
      have h3 := Nat.le_of_ble_eq_true h2
      rw [if_neg (by omega), if_neg h1]
    | false =>
      rw [ev_blef] at h2
      rw [if_pos h2]
theorem ev_lcm_ok (a b : Nat) : lg_cmp (Int64.ofNat a) (Int64.ofNat b) = Int32.ofNat (ev_lcm a b) := by
  have ha : a % 18446744073709551616 < 18446744073709551616 := Nat.mod_lt _ (by decide)
  have hb : b % 18446744073709551616 < 18446744073709551616 := Nat.mod_lt _ (by decide)
  have hx : (a + 9223372036854775808) % 18446744073709551616 = if a % 18446744073709551616 < 9223372036854775808 then a % 18446744073709551616 + 9223372036854775808 else a % 18446744073709551616 - 9223372036854775808 := by split <;> omega
  have hy : (b + 9223372036854775808) % 18446744073709551616 = if b % 18446744073709551616 < 9223372036854775808 then b % 18446744073709551616 + 9223372036854775808 else b % 18446744073709551616 - 9223372036854775808 := by split <;> omega
  have hu := ev_tl _ ha
  have hv := ev_tl _ hb
  rw [ev_mdl] at hu hv
  obtain ⟨k1, k2, k3⟩ := ev_lc3 _ _ _ _ hx hy _ _ hu hv ha hb
  unfold ev_lcm
  simp only [ev_nm, ev_na]
  rw [ev_3r _ _ _ _ k3]
  unfold lg_cmp
  have c1 : (Int64.ofNat a > Int64.ofNat b) ↔ (b + 9223372036854775808) % 18446744073709551616 < (a + 9223372036854775808) % 18446744073709551616 := (Int64.lt_iff_toInt_lt).trans k1
  have c2 : (Int64.ofNat a = Int64.ofNat b) ↔ a % 18446744073709551616 = b % 18446744073709551616 := (Int64.toInt_inj).symm.trans k2
  by_cases d1 : Int64.ofNat a > Int64.ofNat b
  · rw [if_pos d1, if_pos (c1.mp d1)]; rfl
  · rw [if_neg d1, if_neg (fun q => d1 (c1.mpr q))]
    by_cases d2 : Int64.ofNat a = Int64.ofNat b
    · rw [if_pos d2, if_pos (c2.mp d2)]; rfl
    · rw [if_neg d2, if_neg (fun q => d2 (c2.mpr q))]; rfl
/-! three ways -/
theorem ev_c3r (q : Bool × Bool × Bool) (x y : Nat) : ev_3w q x y = if x < y then q.1 else if x = y then q.2.1 else q.2.2 := by
  unfold ev_3w
  cases h1 : Nat.beq x y with
  | true =>
    rw [ev_beq] at h1
    rw [if_neg (by omega), if_pos h1]
  | false =>
    rw [ev_beqf] at h1
    cases h2 : Nat.ble x y with
    | true =>
      have h3 := Nat.le_of_ble_eq_true h2
      rw [if_pos (by omega)]
    | false =>
      rw [ev_blef] at h2
      rw [if_neg (by omega), if_neg h1]
theorem ev_c3_ok (q : Bool × Bool × Bool) (a b : Nat) : ev_c3 q a b = if ev_bs a < ev_bs b then q.1 else if ev_bs a = ev_bs b then q.2.1 else q.2.2 := by
  unfold ev_c3
  rw [ev_c3r]
/-! numbers as rows -/
theorem ev_gm_tb (w M i b : Nat) : (ev_gm w M i).testBit b = (decide (b < w) && M.testBit (w * i + b)) := by
  show ((M >>> (w * i)) % 2 ^ w).testBit b = _
  rw [Nat.testBit_mod_two_pow, Nat.testBit_shiftRight]
theorem ev_gm_sm (w M i v j : Nat) : ev_gm w (ev_sm w M i v) j = if j = i then v % 2 ^ w else ev_gm w M j := by
  refine Nat.eq_of_testBit_eq fun b => ?_
  rw [ev_gm_tb]
  show (decide (b < w) && (M ^^^ ((ev_gm w M i ^^^ (v % 2 ^ w)) <<< (w * i))).testBit (w * j + b)) = _
  rw [Nat.testBit_xor, Nat.testBit_shiftLeft, Nat.testBit_xor, ev_gm_tb, Nat.testBit_mod_two_pow]
  by_cases hb : b < w
  · rcases Nat.lt_trichotomy j i with h | h | h
    · have : w * j + w ≤ w * i := by
        have := Nat.mul_le_mul_left w (show j + 1 ≤ i from h)
        rw [Nat.mul_add] at this
        omega
      rw [if_neg (by omega), ev_gm_tb]
      simp [hb, show ¬ w * i ≤ w * j + b by omega]
    · subst h
      rw [if_pos rfl, Nat.testBit_mod_two_pow]
      simp [hb]
    · have : w * i + w ≤ w * j := by
        have := Nat.mul_le_mul_left w (show i + 1 ≤ j from h)
        rw [Nat.mul_add] at this
        omega
      rw [if_neg (by omega), ev_gm_tb]
      simp [hb, show ¬ w * j + b - w * i < w by omega]
  · by_cases h : j = i
    · rw [if_pos h, Nat.testBit_mod_two_pow]
      simp [hb]
    · rw [if_neg h, ev_gm_tb]
      simp [hb]
theorem ev_ltm {w t n b : Nat} (h : t < n) (hb : b < w) : w * t + b < w * n := by
  have := Nat.mul_le_mul_left w (show t + 1 ≤ n from h)
  rw [Nat.mul_add] at this
  omega
theorem ev_gm_cp (w Md Ms sp dp n j : Nat) : ev_gm w (ev_cp w Md Ms sp dp n) j = if dp ≤ j ∧ j < dp + n then ev_gm w Ms (sp + (j - dp)) else ev_gm w Md j := by
  have e : ev_cp w Md Ms sp dp n = 2 ^ (w * dp) * (2 ^ (w * n) * (Md >>> (w * (dp + n))) + (Ms >>> (w * sp)) % 2 ^ (w * n)) + Md % 2 ^ (w * dp) := by
    show Md % 2 ^ (w * dp) + ((Ms >>> (w * sp)) % 2 ^ (w * n) + (Md >>> (w * (dp + n))) <<< (w * n)) <<< (w * dp) = _
    rw [Nat.shiftLeft_eq, Nat.shiftLeft_eq, Nat.add_comm, Nat.mul_comm _ (2 ^ (w * dp)), Nat.mul_comm _ (2 ^ (w * n)), Nat.add_comm (Ms >>> (w * sp) % 2 ^ (w * n))]
  refine Nat.eq_of_testBit_eq fun b => ?_
  rw [ev_gm_tb, e]
  by_cases hb : b < w
  · rw [Nat.testBit_two_pow_mul_add _ (Nat.mod_lt _ (Nat.two_pow_pos _)), Nat.testBit_two_pow_mul_add _ (Nat.mod_lt _ (Nat.two_pow_pos _)), Nat.testBit_mod_two_pow, Nat.testBit_mod_two_pow, Nat.testBit_shiftRight, Nat.testBit_shiftRight]
    by_cases h1 : dp ≤ j
    · obtain ⟨t, rfl⟩ : ∃ t, j = dp + t := ⟨j - dp, by omega⟩
      have k1 : ¬ w * (dp + t) + b < w * dp := by rw [Nat.mul_add]; omega
      have k2 : w * (dp + t) + b - w * dp = w * t + b := by rw [Nat.mul_add]; omega
      rw [if_neg k1, k2]
      by_cases h2 : t < n
      · rw [if_pos (ev_ltm h2 hb), if_pos (by omega), ev_gm_tb, show dp + t - dp = t by omega]
        simp [hb, ev_ltm h2 hb, Nat.mul_add, Nat.add_assoc]
      · obtain ⟨u, rfl⟩ : ∃ u, t = n + u := ⟨t - n, by omega⟩
        have k3 : ¬ w * (n + u) + b < w * n := by rw [Nat.mul_add]; omega
        have k4 : w * (n + u) + b - w * n = w * u + b := by rw [Nat.mul_add]; omega
        rw [if_neg k3, k4, if_neg (by omega), ev_gm_tb]
        simp [hb, Nat.mul_add, Nat.add_assoc]
    · rw [if_pos (ev_ltm (by omega) hb), if_neg (by omega), ev_gm_tb]
      simp [hb, ev_ltm (show j < dp by omega) hb]
  · split <;> simp [ev_gm_tb, hb]
theorem ev_gm_0 (w j : Nat) : ev_gm w 0 j = 0 := by
  show (0 >>> (w * j)) % 2 ^ w = 0
  simp
/-! trees -/
theorem ev_tg_s {α : Type} (d : Nat) (t : ev_tr α d × ev_tr α d) (i : Nat) : ev_tg (α := α) (d + 1) t i = if i % 2 = 0 then ev_tg d t.1 (i / 2) else ev_tg d t.2 (i / 2) := by
  show Bool.rec (motive := fun _ => α) (ev_tg d t.2 (i / 2)) (ev_tg d t.1 (i / 2)) (Nat.beq (i % 2) 0) = _
  cases h : Nat.beq (i % 2) 0 with
  | true => rw [if_pos (ev_beq.mp h)]
  | false => rw [if_neg (ev_beqf.mp h)]
theorem ev_ts_s {α : Type} (d : Nat) (t : ev_tr α d × ev_tr α d) (i : Nat) (v : α) : ev_ts (α := α) (d + 1) t i v = (if i % 2 = 0 then (ev_ts d t.1 (i / 2) v, t.2) else (t.1, ev_ts d t.2 (i / 2) v) : ev_tr α d × ev_tr α d) := by
  show (Bool.rec (motive := fun _ => ev_tr α d × ev_tr α d) (t.1, ev_ts d t.2 (i / 2) v) (ev_ts d t.1 (i / 2) v, t.2) (Nat.beq (i % 2) 0) : ev_tr α d × ev_tr α d) = _
  cases h : Nat.beq (i % 2) 0 with
  | true => rw [if_pos (ev_beq.mp h)]
  | false => rw [if_neg (ev_beqf.mp h)]
theorem ev_tg_ts {α : Type} (v : α) : ∀ (d : Nat) (t : ev_tr α d) (i j : Nat), i < 2 ^ d → j < 2 ^ d → ev_tg d (ev_ts d t i v) j = if j = i then v else ev_tg d t j
  | 0, t, i, j, hi, hj => by
    have h1 : i = 0 := by simpa using hi
    have h2 : j = 0 := by simpa using hj
    rw [h1, h2, if_pos rfl]
    rfl
  | d + 1, t, i, j, hi, hj => by
    have p : 2 ^ (d + 1) = 2 * 2 ^ d := by rw [Nat.pow_succ]; omega
    have h := ev_tg_ts v d
    rw [show ev_ts (d + 1) t i v = _ from ev_ts_s d t i v, show ev_tg (d + 1) t j = _ from ev_tg_s d t j]
    by_cases a : i % 2 = 0
    · rw [if_pos a, ev_tg_s]
      by_cases b : j % 2 = 0
      · rw [if_pos b, if_pos b, h _ _ _ (by omega) (by omega)]
        by_cases c : j = i
        · rw [if_pos c, if_pos (by omega)]
        · rw [if_neg c, if_neg (by omega)]
      · rw [if_neg b, if_neg b, if_neg (by omega)]
    · rw [if_neg a, ev_tg_s]
      by_cases b : j % 2 = 0
      · rw [if_pos b, if_pos b, if_neg (by omega)]
      · rw [if_neg b, if_neg b, h _ _ _ (by omega) (by omega)]
        by_cases c : j = i
        · rw [if_pos c, if_pos (by omega)]
        · rw [if_neg c, if_neg (by omega)]
/-! lists -/
theorem ev_ln_eq (l : List ev_V) (j : Nat) : ev_ln l j = l.getD j ev_U := by
  induction l generalizing j with
  | nil => simp [ev_ln]
  | cons a r ih =>
    cases j with
    | zero => rfl
    | succ j => exact (ih j).trans (by simp)
theorem ev_lp_eq (l : List ev_V) (j : Nat) (v : ev_V) : ev_lp l j v = l.set j v := by
  induction l generalizing j with
  | nil => rfl
  | cons a r ih =>
    cases j with
    | zero => rfl
    | succ j => exact congrArg (List.cons a) (ih j)
theorem ev_ln_some {l : List ev_V} {j : Nat} {v : ev_V} (h : ev_ln l j = v) (hv : v ≠ ev_U) : l[j]? = some v := by
  rw [ev_ln_eq, List.getD_eq_getElem?_getD] at h
  cases hj : l[j]? with
  | none => rw [hj] at h; exact absurd h.symm hv
  | some u => rw [hj] at h; exact congrArg some h
theorem ev_lb_eq (l : List (Nat × List ev_I)) (j : Nat) : ev_lb l j = [] ∧ l[j]? = none ∨ ∃ b, l[j]? = some b ∧ ev_lb l j = b.2 ∧ ev_pc l j = b.1 := by
  induction l generalizing j with
  | nil => exact Or.inl ⟨rfl, rfl⟩
  | cons a r ih =>
    cases j with
    | zero => exact Or.inr ⟨a, rfl, rfl, rfl⟩
    | succ j => exact ih j
theorem ev_lm_eq (l : List ev_M) (j : Nat) : ev_lm l j = l[j]? := by
  induction l generalizing j with
  | nil => rfl
  | cons a r ih =>
    cases j with
    | zero => rfl
    | succ j => exact ih j
end
section
/-! ===== what the evaluator's data stand for: σ the tokens' ints, ρ the cells' addresses, ca the array kinds' numbers ===== -/
def ev_ap (o : Nat × Nat) (x : Int32) : Int32 := match o.1 with
  | 2 => x >>> (Int32.ofNat o.2 &&& 31)
  | 3 => x &&& Int32.ofNat o.2
  | 7 => (x.toUInt32 >>> ((Int32.ofNat o.2).toUInt32 &&& Int32.toUInt32 31)).toInt32
  | _ => x.toInt8.toInt32
def ev_ct (σ : Nat → Int32) (t : ev_T) : Int32 := t.2.foldr ev_ap (σ t.1)
theorem ev_ct_cons (σ : Nat → Int32) (k : Nat) (o : Nat × Nat) (l : List (Nat × Nat)) : ev_ct σ (k, o :: l) = ev_ap o (ev_ct σ (k, l)) := rfl
theorem ev_ct_nil (σ : Nat → Int32) (k : Nat) : ev_ct σ (k, []) = σ k := rfl
/-- a value as an int -/
def ev_ci (σ : Nat → Int32) (v : ev_V) : Int32 := match v with
  | .inl n => Int32.ofNat n
  | .inr (.inr (.inr (.inl t))) => ev_ct σ t
  | _ => 0
def ev_cr (ρ : Nat → Nat) (r : Nat) : Value := match r with
  | 0 => .null
  | k + 1 => .ref (ρ k)
def ev_cv (σ : Nat → Int32) (ρ : Nat → Nat) (v : ev_V) : Value := match v with
  | .inl n => .int (Int32.ofNat n)
  | .inr (.inl r) => ev_cr ρ r
  | .inr (.inr (.inl n)) => .long (Int64.ofNat n)
  | .inr (.inr (.inr (.inl t))) => .int (ev_ct σ t)
  | .inr (.inr (.inr (.inr _))) => .null
noncomputable def ev_cf (σ : Nat → Int32) (M : Nat) (ov : List (Nat × ev_V)) (j : Nat) : Int32 := match ov.find? (fun q => q.1 == j) with
  | some q => ev_ci σ q.2
  | none => Int32.ofNat (ev_gm 32 M j)
noncomputable def ev_ca (σ : Nat → Int32) (q M : Nat) (ov : List (Nat × ev_V)) : (Nat → Int32) ⊕ (Nat → Int64) ⊕ (Nat → UInt32) ⊕ (Nat → UInt64) ⊕ (Nat → Option Nat) := match q with
  | 1 => .inr (.inl (fun j => Int64.ofNat (ev_gm 64 M j)))
  | _ => .inl (ev_cf σ M ov)
noncomputable def ev_ce (σ : Nat → Int32) (ρ : Nat → Nat) (ca : Nat → ClassId) (c : ev_C) : va_E := match c with
  | .inl o => .inr (o.1, o.2.map (ev_cv σ ρ))
  | .inr a => .inl (ca a.1, a.2.1, ev_ca σ a.1 a.2.2.1 a.2.2.2)
noncomputable def ev_wl (σ : Nat → Int32) (ρ : Nat → Nat) (ca : Nat → ClassId) (h : ev_H) (n : Nat) : va_W := (List.range n).map (fun i => (ρ i, ev_ce σ ρ ca (ev_tg 7 h i)))
theorem ev_wl_get {σ : Nat → Int32} {ρ : Nat → Nat} {ca : Nat → ClassId} {h : ev_H} {n i : Nat} (hi : i < n) : (ev_wl σ ρ ca h n)[i]? = some (ρ i, ev_ce σ ρ ca (ev_tg 7 h i)) := by
  simp [ev_wl, hi]
theorem ev_wl_none {σ : Nat → Int32} {ρ : Nat → Nat} {ca : Nat → ClassId} {h : ev_H} {n i : Nat} (hi : ¬ i < n) : (ev_wl σ ρ ca h n)[i]? = none := by
  simp [ev_wl]
  omega
theorem ev_wl_set {σ : Nat → Int32} {ρ : Nat → Nat} {ca : Nat → ClassId} {h : ev_H} {n i : Nat} {c : ev_C} (hi : i < n) (hn : n ≤ 128) : ev_wl σ ρ ca (ev_ts 7 h i c) n = (ev_wl σ ρ ca h n).set i (ρ i, ev_ce σ ρ ca c) := by
  refine List.ext_getElem? fun j => ?_
  by_cases hj : j < n
  · rw [ev_wl_get hj, List.getElem?_set, ev_wl_get hj, ev_tg_ts c 7 h i j (by show i < 128; omega) (by show j < 128; omega)]
    by_cases e : j = i
    · subst e
      rw [if_pos rfl, if_pos rfl, if_pos (by simp [ev_wl]; exact hi)]
    · rw [if_neg e, if_neg (Ne.symm e)]
  · rw [ev_wl_none hj, List.getElem?_set_ne (by omega), ev_wl_none hj]
/-- references below n stay when only later addresses change -/
theorem ev_cv_cl {σ : Nat → Int32} {ρ ρ' : Nat → Nat} {n : Nat} (hr : ∀ i, i < n → ρ' i = ρ i) {v : ev_V} (hv : ev_clV n v = true) : ev_cv σ ρ' v = ev_cv σ ρ v := by
  match v, hv with
  | .inl _, _ => rfl
  | .inr (.inl 0), _ => rfl
  | .inr (.inl (k + 1)), h =>
    have hk : k + 1 ≤ n := Nat.le_of_ble_eq_true h
    show Value.ref (ρ' k) = Value.ref (ρ k)
    rw [hr k (by omega)]
  | .inr (.inr (.inl _)), _ => rfl
  | .inr (.inr (.inr (.inl _))), _ => rfl
  | .inr (.inr (.inr (.inr _))), _ => rfl
theorem ev_cvs_cl {σ : Nat → Int32} {ρ ρ' : Nat → Nat} {n : Nat} (hr : ∀ i, i < n → ρ' i = ρ i) {l : List ev_V} (hv : l.all (ev_clV n) = true) : l.map (ev_cv σ ρ') = l.map (ev_cv σ ρ) :=
  List.map_congr_left fun v h => ev_cv_cl hr (List.all_eq_true.mp hv v h)
theorem ev_ce_cl {σ : Nat → Int32} {ρ ρ' : Nat → Nat} {ca : Nat → ClassId} {n : Nat} (hr : ∀ i, i < n → ρ' i = ρ i) {c : ev_C} (hv : ev_clC n c = true) : ev_ce σ ρ' ca c = ev_ce σ ρ ca c := by
  cases c with
  | inl o =>
    obtain ⟨i, fs⟩ := o
    show (Sum.inr (i, fs.map (ev_cv σ ρ')) : va_E) = Sum.inr (i, fs.map (ev_cv σ ρ))
    rw [ev_cvs_cl hr hv]
  | inr a => rfl
theorem ev_wl_push {σ : Nat → Int32} {ρ ρ' : Nat → Nat} {ca : Nat → ClassId} {h : ev_H} {n : Nat} {c : ev_C} (hn : n ≤ 127) (hr : ∀ i, i < n → ρ' i = ρ i) (hh : ev_clH n h = true) : ev_wl σ ρ' ca (ev_ts 7 h n c) (n + 1) = ev_wl σ ρ ca h n ++ [(ρ' n, ev_ce σ ρ' ca c)] := by
  have hl : (ev_wl σ ρ ca h n).length = n := by simp [ev_wl]
  refine List.ext_getElem? fun j => ?_
  by_cases hj : j < n
  · rw [ev_wl_get (by omega), List.getElem?_append_left (by omega), ev_wl_get hj, ev_tg_ts c 7 h n j (by show n < 128; omega) (by show j < 128; omega), if_neg (by omega), hr j hj, ev_ce_cl hr (List.all_eq_true.mp hh j (List.mem_range.mpr hj))]
  · by_cases e : j = n
    · subst e
      rw [ev_wl_get (by omega), List.getElem?_append_right (by omega), hl, ev_tg_ts c 7 h j j (by show j < 128; omega) (by show j < 128; omega), if_pos rfl]
      simp
    · rw [ev_wl_none (by omega), List.getElem?_append_right (by omega), hl, show j - n = (j - n - 1) + 1 by omega]
      rfl
/-! the places for values -/
def ev_pr (σ : Nat → Int32) (ρ : Nat → Nat) : Nat → List ev_V → List (Nat × Value)
  | _, [] => []
  | k, v :: r => match v with
    | .inr (.inr (.inr (.inr _))) => ev_pr σ ρ (k + 1) r
    | u => (k, ev_cv σ ρ u) :: ev_pr σ ρ (k + 1) r
theorem ev_pr_cons (σ : Nat → Int32) (ρ : Nat → Nat) (k : Nat) (v : ev_V) (r : List ev_V) (hv : v ≠ ev_U) : ev_pr σ ρ k (v :: r) = (k, ev_cv σ ρ v) :: ev_pr σ ρ (k + 1) r := by
  match v, hv with
  | .inl _, _ => rfl
  | .inr (.inl _), _ => rfl
  | .inr (.inr (.inl _)), _ => rfl
  | .inr (.inr (.inr (.inl _))), _ => rfl
  | .inr (.inr (.inr (.inr ()))), h => exact absurd rfl h
theorem ev_pr_mem {σ : Nat → Int32} {ρ : Nat → Nat} (l : List ev_V) : ∀ (k : Nat) (q : Nat × Value), q ∈ ev_pr σ ρ k l ↔ ∃ (j : Nat) (v : ev_V), l[j]? = some v ∧ v ≠ ev_U ∧ q = (k + j, ev_cv σ ρ v) := by
  induction l with
  | nil =>
    intro k q
    constructor
    · intro h
      cases h
    · rintro ⟨j, v, h, -⟩
      simp at h
  | cons a r ih =>
    intro k q
    by_cases ha : a = ev_U
    · subst ha
      show q ∈ ev_pr σ ρ (k + 1) r ↔ _
      rw [ih (k + 1) q]
      constructor
      · rintro ⟨j, v, h1, h2, rfl⟩
        exact ⟨j + 1, v, by simpa using h1, h2, by rw [show k + 1 + j = k + (j + 1) by omega]⟩
      · rintro ⟨j, v, h1, h2, rfl⟩
        cases j with
        | zero =>
          simp at h1
          exact absurd h1.symm h2
        | succ j => exact ⟨j, v, by simpa using h1, h2, by rw [show k + 1 + j = k + (j + 1) by omega]⟩
    · rw [ev_pr_cons σ ρ k a r ha, List.mem_cons, ih (k + 1) q]
      constructor
      · rintro (rfl | ⟨j, v, h1, h2, rfl⟩)
        · exact ⟨0, a, rfl, ha, rfl⟩
        · exact ⟨j + 1, v, by simpa using h1, h2, by rw [show k + 1 + j = k + (j + 1) by omega]⟩
      · rintro ⟨j, v, h1, h2, rfl⟩
        cases j with
        | zero =>
          simp at h1
          subst h1
          exact Or.inl rfl
        | succ j => exact Or.inr ⟨j, v, by simpa using h1, h2, by rw [show k + 1 + j = k + (j + 1) by omega]⟩
theorem ev_has_sub {ls : Array Slot} {nL : Nat} {l l' : List (Nat × Value)} (h : lv_has ls nL l) (hs : ∀ q ∈ l', q ∈ l) : lv_has ls nL l' := ⟨h.1, h.2.1, fun q hq => h.2.2 q (hs q hq)⟩
theorem ev_has_at {σ : Nat → Int32} {ρ : Nat → Nat} {la : Array Slot} {nL : Nat} {ls : List ev_V} (h : lv_has la nL (ev_pr σ ρ 0 ls)) {j : Nat} {v : ev_V} (hj : ev_ln ls j = v) (hv : v ≠ ev_U) : la[j]? = some (.val (ev_cv σ ρ v)) := by
  have := h.2.2 (0 + j, ev_cv σ ρ v) ((ev_pr_mem ls 0 _).mpr ⟨j, v, ev_ln_some hj hv, hv, rfl⟩)
  rwa [Nat.zero_add] at this
theorem ev_isl_cat {σ : Nat → Int32} {ρ : Nat → Nat} {v : ev_V} (h : ev_isl v = false) : (ev_cv σ ρ v).category = 1 := by
  match v, h with
  | .inl _, _ => rfl
  | .inr (.inl 0), _ => rfl
  | .inr (.inl (k + 1)), _ => rfl
  | .inr (.inr (.inr (.inl _))), _ => rfl
  | .inr (.inr (.inr (.inr _))), _ => rfl
theorem ev_nl_at {ls : List ev_V} {i : Nat} {u : ev_V} (h : ev_nl ls (i + 1) = true) (hu : ls[i]? = some u) : ev_isl u = false := by
  have h1 : Bool.not (ev_isl (ev_ln ls i)) = true := h
  rw [ev_ln_eq, List.getD_eq_getElem?_getD, hu] at h1
  simpa using h1
/-- what a store of one place leaves -/
theorem ev_has_set {σ : Nat → Int32} {ρ : Nat → Nat} {la : Array Slot} {nL : Nat} {ls : List ev_V} {j : Nat} {v : ev_V} (hn : ev_nl ls j = true) (h : lv_has la nL ((j, ev_cv σ ρ v) :: (ev_pr σ ρ 0 ls).filter (fun q => !(q.1 == j) && !(q.1 + 1 == j && q.2.category == 2)))) : lv_has la nL (ev_pr σ ρ 0 (ev_lp ls j v)) := by
  refine ev_has_sub h fun q hq => ?_
  rw [ev_lp_eq] at hq
  obtain ⟨i, u, h1, h2, rfl⟩ := (ev_pr_mem _ 0 q).mp hq
  rw [Nat.zero_add]
  by_cases e : i = j
  · subst e
    rw [List.getElem?_set] at h1
    simp at h1
    rw [← h1.2]
    exact List.mem_cons_self
  · rw [List.getElem?_set_ne (Ne.symm e)] at h1
    refine List.mem_cons_of_mem _ (List.mem_filter.mpr ⟨(ev_pr_mem _ 0 _).mpr ⟨i, u, h1, h2, by rw [Nat.zero_add]⟩, ?_⟩)
    simp only [Bool.and_eq_true, Bool.not_eq_true', beq_eq_false_iff_ne, ne_eq, Bool.and_eq_false_iff]
    refine ⟨e, ?_⟩
    by_cases e2 : i + 1 = j
    · subst e2
      right
      rw [ev_isl_cat (ev_nl_at hn h1)]
      decide
    · exact Or.inl e2
theorem ev_has_set2 {σ : Nat → Int32} {ρ : Nat → Nat} {la : Array Slot} {nL : Nat} {ls : List ev_V} {j : Nat} {v : ev_V} (hn : ev_nl ls j = true) (h : lv_has la nL ((j, ev_cv σ ρ v) :: (ev_pr σ ρ 0 ls).filter (fun q => !(q.1 == j) && (!(q.1 == j + 1) && !(q.1 + 1 == j && q.2.category == 2))))) : lv_has la nL (ev_pr σ ρ 0 (ev_lp (ev_lp ls (j + 1) ev_U) j v)) := by
  refine ev_has_sub h fun q hq => ?_
  rw [ev_lp_eq, ev_lp_eq] at hq
  obtain ⟨i, u, h1, h2, rfl⟩ := (ev_pr_mem _ 0 q).mp hq
  rw [Nat.zero_add]
  by_cases e : i = j
  · subst e
    rw [List.getElem?_set] at h1
    simp at h1
    rw [← h1.2]
    exact List.mem_cons_self
  · rw [List.getElem?_set_ne (Ne.symm e)] at h1
    by_cases e1 : i = j + 1
    · subst e1
      rw [List.getElem?_set] at h1
      simp at h1
      exact absurd h1.2.symm h2
    · rw [List.getElem?_set_ne (Ne.symm e1)] at h1
      refine List.mem_cons_of_mem _ (List.mem_filter.mpr ⟨(ev_pr_mem _ 0 _).mpr ⟨i, u, h1, h2, by rw [Nat.zero_add]⟩, ?_⟩)
      simp only [Bool.and_eq_true, Bool.not_eq_true', beq_eq_false_iff_ne, ne_eq, Bool.and_eq_false_iff]
      refine ⟨e, e1, ?_⟩
      by_cases e2 : i + 1 = j
      · subst e2
        right
        rw [ev_isl_cat (ev_nl_at hn h1)]
        decide
      · exact Or.inl e2
end
section
/-! ===== what the tables' instructions are in bytes, and which words they need ===== -/
def ev_sg (a : Nat) : Int := if a < 2147483648 then (a : Int) else (a : Int) - 4294967296
def ev_f4 (j : Nat) : Fin 4 := ⟨j % 4, Nat.mod_lt _ (by decide)⟩
def ev_num (v : ev_V) : Nat := match v with
  | .inl n => n
  | .inr (.inr (.inl n)) => n
  | _ => 0
def ev_own (m : ev_M) : String := m.2.2.2.2.2.1.cls
noncomputable def ev_off (m : ev_M) (pc t : Nat) : Int := (ev_pc m.1 t : Int) - (pc : Int)
def ev_cq (q : Bool × Bool × Bool) : Jvm.ClassFile.Cond := match q with
  | (true, false, false) => .lt
  | (true, true, false) => .le
  | (false, true, false) => .eq
  | (true, false, true) => .ne
  | (false, false, true) => .gt
  | _ => .ge
def ev_sq (q : Bool × Bool × Bool) : Bool := match q with
  | (true, true, true) => false
  | (false, false, false) => false
  | _ => true
def ev_xpu (x : ev_V × Nat × Nat) : Instr × Nat := match x.2.1 with
  | 0 => (.iconst (ev_sg (ev_num x.1)), 1)
  | 1 => (.bipush (ev_sg (ev_num x.1)), 2)
  | 2 => (.sipush (ev_sg (ev_num x.1)), 3)
  | 3 => (.lconst ⟨ev_num x.1 % 2, Nat.mod_lt _ (by decide)⟩, 1)
  | 4 => (.aconst_null, 1)
  | 5 => (.ldc x.2.2, 2)
  | 6 => (.ldc_w x.2.2, 3)
  | _ => (.ldc2_w x.2.2, 3)
def ev_spu (x : ev_V × Nat × Nat) : Bool := match x.1, x.2.1 with
  | .inl n, 0 => decide (Int32.ofInt (ev_sg n) = Int32.ofNat n)
  | .inl n, 1 => decide ((Int8.ofInt (ev_sg n)).toInt32 = Int32.ofNat n)
  | .inl n, 2 => decide ((Int16.ofInt (ev_sg n)).toInt32 = Int32.ofNat n)
  | .inr (.inr (.inl n)), 3 => decide (n < 2)
  | .inr (.inl 0), 4 => true
  | .inl _, 5 => true
  | .inl _, 6 => true
  | .inr (.inr (.inl _)), 7 => true
  | _, _ => false
def ev_wpu (m : ev_M) (x : ev_V × Nat × Nat) : List Jvm.Cond := match x.2.1 with
  | 5 => [.constant (ev_own m) x.2.2 (Int32.ofNat (ev_num x.1))]
  | 6 => [.constant (ev_own m) x.2.2 (Int32.ofNat (ev_num x.1))]
  | 7 => [.constantLong (ev_own m) x.2.2 (Int64.ofNat (ev_num x.1))]
  | _ => []
def ev_xib (op : Nat) : Instr := match op with
  | 0 => .iadd
  | 1 => .imul
  | 2 => .ishr
  | 3 => .iand
  | 4 => .isub
  | 5 => .ior
  | 6 => .ishl
  | _ => .iushr
def ev_xlb (op : Nat) : Instr := match op with
  | 0 => .land
  | 1 => .ladd
  | 2 => .lsub
  | _ => .lor
def ev_xls (op : Nat) : Instr := match op with
  | 0 => .lushr
  | _ => .lshl
def ev_xal (q : Nat) : Instr := match q with
  | 0 => .iaload
  | 1 => .laload
  | _ => .baload
def ev_xas (q : Nat) : Instr := match q with
  | 0 => .iastore
  | 1 => .lastore
  | _ => .bastore
def ev_xre (q : Nat) : Instr := match q with
  | 0 => .ireturn
  | 1 => .areturn
  | _ => .return_
def ev_xca (how idx : Nat) : Instr := match how with
  | 0 => .invokevirtual idx
  | 1 => .invokestatic idx
  | 4 => .invokestatic idx
  | _ => .invokespecial idx
def ev_xun (op : Nat) : Instr := match op with
  | 0 => .l2i
  | _ => .i2b
def ev_xst (op : Nat) : Instr := match op with
  | 0 => .dup
  | 1 => .dup2
  | _ => .pop
def ev_xna (q : Nat) : ArrayType := match q with
  | 0 => .int
  | 1 => .long
  | 2 => .boolean
  | _ => .byte
def ev_aty (q : Nat) : FieldType := match q with
  | 0 => .int
  | 1 => .long
  | 2 => .boolean
  | _ => .byte
def ev_kd (cl : List vw_C) (ci : Nat) : vw_C := cl.getD ci ("", fun _ => ("", "", "", false), 0)
def ev_fl (own : String) (idx : Nat) (q : vw_C) (k : Nat) : Jvm.Cond := .fieldLink own idx (q.2.1 k).1 (q.2.1 k).2.1 (q.2.1 k).2.2.1
def ev_m0 : ev_M := ([], 0, 0, 0, 0, ⟨"", "", ""⟩, ⟨#[]⟩, none)
def ev_mt (pg : List ev_M) (x : Nat) : ev_M := pg.getD x ev_m0
def ev_cw (m : ev_M) : Jvm.Cond := .code m.2.2.2.2.2.1 m.2.2.2.2.2.2.1 m.2.2.2.2.1 m.2.2.2.2.2.2.2
def ev_wca (own : String) (idx how : Nat) (m : ev_M) : List Jvm.Cond := match how with
  | 0 => [.methodLink own idx m.2.2.2.2.2.1, .instanceMethod m.2.2.2.2.2.1, .selects m.2.2.2.2.2.1.cls m.2.2.2.2.2.1 m.2.2.2.2.2.1, .initialized m.2.2.2.2.2.1.cls]
  | 1 => [.methodLink own idx m.2.2.2.2.2.1, .static m.2.2.2.2.2.1, .initialized m.2.2.2.2.2.1.cls]
  | 2 => [.methodLink own idx m.2.2.2.2.2.1, .instanceMethod m.2.2.2.2.2.1, .initialized m.2.2.2.2.2.1.cls]
  | 4 => [.static m.2.2.2.2.2.1, .initialized m.2.2.2.2.2.1.cls]
  | _ => [.instanceMethod m.2.2.2.2.2.1, .initialized m.2.2.2.2.2.1.cls]
/-- a field's kind, by its type -/
def ev_fk (ty : FieldType) : Nat := match ty with
  | .int => 0
  | .boolean => 1
  | .long => 2
  | .object _ => 3
  | .array _ => 3
  | _ => 9
def ev_spf (m : ev_M) (q : vw_C) (k fk : Nat) : Bool := decide (k < q.2.2) && (match parseFieldDescriptor (q.2.1 k).2.2.1 with
  | some ty => decide (ev_fk ty = fk)
  | none => false) && ((!(q.2.1 k).2.2.2) || (decide (m.2.2.2.2.2.1.name = "<init>") && decide ((q.2.1 k).1 = ev_own m)))
def ev_dvt (ty : FieldType) (v : Option ev_V) : Bool := match ty, v with
  | .long, some (.inr (.inr (.inl 0))) => true
  | .object _, some (.inr (.inl 0)) => true
  | .array _, some (.inr (.inl 0)) => true
  | .int, some (.inl 0) => true
  | .boolean, some (.inl 0) => true
  | .byte, some (.inl 0) => true
  | _, _ => false
def ev_snw (q : vw_C) (fs : List ev_V) : Bool := decide (fs.length = q.2.2) && (List.range q.2.2).all (fun j => match parseFieldDescriptor (q.2.1 j).2.2.1 with
  | some ty => ev_dvt ty fs[j]?
  | none => false)
def ev_sca (cl : List vw_C) (pg : List ev_M) (m : ev_M) (x : Nat × Nat × Nat × Nat × Nat × Nat × Nat) : Bool := decide (m.2.2.2.2.1 ≤ 21) && decide (m.2.2.2.2.2.1.cls ≠ "java/lang/invoke/MethodHandle") && decide (m.2.2.2.2.2.1.cls ≠ "java/lang/invoke/VarHandle") && decide (m.2.2.1 = x.2.2.2.2.2.1) && decide (m.2.2.2.1 = x.2.2.2.2.2.2) && (match x.2.2.2.2.1, x.2.2.1 with
  | 0, c + 1 => decide ((parseMethodDescriptor m.2.2.2.2.2.1.desc).map (fun d => d.parameters.length + 1) = some x.2.1) && decide ((ev_kd cl c).1 = m.2.2.2.2.2.1.cls) && (cl[c]?).isSome
  | 1, 0 => decide ((parseMethodDescriptor m.2.2.2.2.2.1.desc).map (fun d => d.parameters.length) = some x.2.1)
  | 2, _ + 1 => decide ((parseMethodDescriptor m.2.2.2.2.2.1.desc).map (fun d => d.parameters.length + 1) = some x.2.1) && decide (m.2.2.2.2.2.1.name = "<init>") && decide (m.2.2.2.2.2.2.2 = none)
  | 4, 0 => decide ((parseMethodDescriptor m.2.2.2.2.2.1.desc).map (fun d => d.parameters.length) = some x.2.1)
  | 5, _ + 1 => decide ((parseMethodDescriptor m.2.2.2.2.2.1.desc).map (fun d => d.parameters.length + 1) = some x.2.1) && decide (m.2.2.2.2.2.1.name = "<init>") && decide (m.2.2.2.2.2.2.2 = none)
  | _, _ => false)
noncomputable def ev_xi (m : ev_M) (pc : Nat) (i : ev_I) : Instr × Nat := match i with
  | .inl (.inl (.inl (.inl (.inl (x))))) => if x < 4 then (.iload_n (ev_f4 x), 1) else (.iload x, 2)
  | .inl (.inl (.inl (.inl (.inr (x))))) => if x < 4 then (.aload_n (ev_f4 x), 1) else (.aload x, 2)
  | .inl (.inl (.inl (.inr (.inl (x))))) => ev_xpu x
  | .inl (.inl (.inl (.inr (.inr (x))))) => (.if_icmp (ev_cq x.1) (ev_off m pc x.2), 3)
  | .inl (.inl (.inr (.inl (.inl (x))))) => (.getfield x.2.2.1, 3)
  | .inl (.inl (.inr (.inl (.inr (x))))) => (.goto (ev_off m pc x), 3)
  | .inl (.inl (.inr (.inr (.inl (x))))) => (.iinc x.1 (ev_sg x.2), 3)
  | .inl (.inl (.inr (.inr (.inr (x))))) => (ev_xib x, 1)
  | .inl (.inr (.inl (.inl (.inl (x))))) => (ev_xal x, 1)
  | .inl (.inr (.inl (.inl (.inr (x))))) => (ev_xas x, 1)
  | .inl (.inr (.inl (.inr (.inl (x))))) => (.ifCond (ev_cq x.1) (ev_off m pc x.2), 3)
  | .inl (.inr (.inl (.inr (.inr (x))))) => (ev_xre x, 1)
  | .inl (.inr (.inr (.inl (.inl (x))))) => (ev_xca x.2.2.2.2.1 x.2.2.2.1, 3)
  | .inl (.inr (.inr (.inl (.inr (x))))) => if x < 4 then (.istore_n (ev_f4 x), 1) else (.istore x, 2)
  | .inl (.inr (.inr (.inr (.inl (_))))) => (.idiv, 1)
  | .inl (.inr (.inr (.inr (.inr (x))))) => if x < 4 then (.lload_n (ev_f4 x), 1) else (.lload x, 2)
  | .inr (.inl (.inl (.inl (.inl (_))))) => (.nop, 0)
  | .inr (.inl (.inl (.inl (.inr (x))))) => (.putfield x.2.2.2.1, 3)
  | .inr (.inl (.inl (.inr (.inl (x))))) => (ev_xlb x, 1)
  | .inr (.inl (.inl (.inr (.inr (x))))) => (ev_xls x, 1)
  | .inr (.inl (.inr (.inl (.inl (_))))) => (.lcmp, 1)
  | .inr (.inl (.inr (.inl (.inr (x))))) => if x < 4 then (.lstore_n (ev_f4 x), 1) else (.lstore x, 2)
  | .inr (.inl (.inr (.inr (.inl (x))))) => (ev_xun x, 1)
  | .inr (.inl (.inr (.inr (.inr (x))))) => (ev_xst x, 1)
  | .inr (.inr (.inl (.inl (.inl (_))))) => (.arraylength, 1)
  | .inr (.inr (.inl (.inl (.inr (x))))) => (.newarray (ev_xna x), 2)
  | .inr (.inr (.inl (.inr (.inl (x))))) => (.new x.2.1, 3)
  | .inr (.inr (.inl (.inr (.inr (x))))) => (.invokespecial x, 3)
  | .inr (.inr (.inr (.inl (.inl (x))))) => (.invokestatic x, 3)
  | .inr (.inr (.inr (.inl (.inr (x))))) => (.tableswitch (ev_off m pc x.2.1) ((x.1 : Int) - 2147483648) ((x.1 : Int) - 2147483648 + (x.2.2.1.length : Int) - 1) (x.2.2.1.map (ev_off m pc)).toArray, x.2.2.2)
  | .inr (.inr (.inr (.inr (.inl (x))))) => (.ifnonnull (ev_off m pc x), 3)
  | .inr (.inr (.inr (.inr (.inr (x))))) => if x < 4 then (.astore_n (ev_f4 x), 1) else (.astore x, 2)
noncomputable def ev_wi (cl : List vw_C) (pg : List ev_M) (m : ev_M) (i : ev_I) : List Jvm.Cond := match i with
  | .inl (.inl (.inl (.inr (.inl (x))))) => ev_wpu m x
  | .inl (.inl (.inr (.inl (.inl (x))))) => if x.2.2.2 = 0 then [ev_fl (ev_own m) x.2.2.1 (ev_kd cl x.1) x.2.1] else []
  | .inl (.inr (.inr (.inl (.inl (x))))) => ev_wca (ev_own m) x.2.2.2.1 x.2.2.2.2.1 (ev_mt pg x.1)
  | .inr (.inl (.inl (.inl (.inr (x))))) => [ev_fl (ev_own m) x.2.2.2.1 (ev_kd cl x.1) x.2.1]
  | .inr (.inr (.inl (.inl (.inr (x))))) => [.arrayClass (ev_aty x)]
  | .inr (.inr (.inl (.inr (.inl (x))))) => [.classLink (ev_own m) x.2.1 (ev_kd cl x.1).1, .instantiable (ev_kd cl x.1).1 (ev_kd cl x.1).2.2, .initialized (ev_kd cl x.1).1]
  | .inr (.inr (.inl (.inr (.inr (x))))) => [.methodLink (ev_own m) x Lib.objectInit, .instanceMethod Lib.objectInit, .code Lib.objectInit ⟨#[0xb1]⟩ 1 none]
  | .inr (.inr (.inr (.inl (.inl (x))))) => [.methodLink (ev_own m) x arraycopyName, .native arraycopyName, .static arraycopyName, .initialized "java/lang/System"]
  | _ => []
noncomputable def ev_ni (cl : List vw_C) (pg : List ev_M) (m : ev_M) (i : ev_I) : List Jvm.Cond := match i with
  | .inl (.inl (.inr (.inl (.inl (x))))) => if x.2.2.2 = 0 then [] else [.fieldLinkNest (ev_own m) x.2.2.1 ((ev_kd cl x.1).2.1 x.2.1).1 ((ev_kd cl x.1).2.1 x.2.1).2.1 ((ev_kd cl x.1).2.1 x.2.1).2.2.1 "RegisterColours"]
  | .inl (.inr (.inr (.inl (.inl (x))))) => if x.2.2.2.2.1 < 4 then [] else [.methodLinkNest (ev_own m) x.2.2.2.1 (ev_mt pg x.1).2.2.2.2.2.1 "RegisterColours"]
  | _ => []
noncomputable def ev_si (cl : List vw_C) (pg : List ev_M) (m : ev_M) (i : ev_I) : Bool := match i with
  | .inl (.inl (.inl (.inr (.inl (x))))) => ev_spu x
  | .inl (.inl (.inl (.inr (.inr (x))))) => ev_sq x.1
  | .inl (.inl (.inr (.inl (.inl (x))))) => decide (x.2.1 < (ev_kd cl x.1).2.2) && (cl[x.1]?).isSome
  | .inl (.inl (.inr (.inr (.inl (x))))) => decide (x.1 < m.2.2.2.2.1)
  | .inl (.inl (.inr (.inr (.inr (x))))) => decide (x < 8)
  | .inl (.inr (.inl (.inl (.inl (x))))) => decide (x < 4)
  | .inl (.inr (.inl (.inl (.inr (x))))) => decide (x < 4)
  | .inl (.inr (.inl (.inr (.inl (x))))) => ev_sq x.1
  | .inl (.inr (.inl (.inr (.inr (x))))) => decide (x < 3)
  | .inl (.inr (.inr (.inl (.inl (x))))) => ev_sca cl pg (ev_mt pg x.1) x && (pg[x.1]?).isSome
  | .inl (.inr (.inr (.inl (.inr (x))))) => decide (x < m.2.2.2.2.1)
  | .inr (.inl (.inl (.inl (.inr (x))))) => ev_spf m (ev_kd cl x.1) x.2.1 x.2.2.1 && decide (x.2.2.2.2 = 0) && (cl[x.1]?).isSome
  | .inr (.inl (.inl (.inr (.inl (x))))) => decide (x < 4)
  | .inr (.inl (.inl (.inr (.inr (x))))) => decide (x < 2)
  | .inr (.inl (.inr (.inl (.inr (x))))) => decide (x + 1 < m.2.2.2.2.1)
  | .inr (.inl (.inr (.inr (.inl (x))))) => decide (x < 2)
  | .inr (.inl (.inr (.inr (.inr (x))))) => decide (x < 3)
  | .inr (.inr (.inl (.inl (.inr (x))))) => decide (x < 4)
  | .inr (.inr (.inl (.inr (.inl (x))))) => ev_snw (ev_kd cl x.1) x.2.2 && (cl[x.1]?).isSome
  | .inr (.inr (.inr (.inl (.inr (x))))) => decide (2147483648 ≤ x.1 ∧ x.1 + x.2.2.1.length ≤ 4294967296)
  | .inr (.inr (.inr (.inr (.inr (x))))) => decide (x < m.2.2.2.2.1)
  | _ => true
def ev_fal (i : ev_I) : Option Nat := match i with
  | .inr (.inl (.inl (.inl (.inl (x))))) => some x
  | _ => none
/-- the bytes at a place are these instructions, and the words that they need are at hand -/
def ev_okc (cl : List vw_C) (pg : List ev_M) (gw nw : List Jvm.Cond) (m : ev_M) : Nat → List ev_I → Prop
  | _, [] => True
  | pc, i :: r => match ev_fal i with
    | some t => ev_pc m.1 t = pc
    | none => decode m.2.2.2.2.2.2.1 pc = .ok (ev_xi m pc i) ∧ (∀ w ∈ ev_wi cl pg m i, w ∈ gw) ∧ (∀ w ∈ ev_ni cl pg m i, w ∈ nw) ∧ ev_si cl pg m i = true ∧ ev_okc cl pg gw nw m (pc + (ev_xi m pc i).2) r
def ev_mok (cl : List vw_C) (pg : List ev_M) (gw nw : List Jvm.Cond) (m : ev_M) : Prop := (∀ b ∈ m.1, ev_okc cl pg gw nw m b.1 b.2) ∧ ev_pc m.1 m.2.1 = 0 ∧ plainName (ev_own m) = true ∧ ev_cw m ∈ gw ∧ m.2.2.2.2.1 ≤ 21
theorem ev_okc_to {cl : List vw_C} {pg : List ev_M} {gw nw : List Jvm.Cond} {m : ev_M} (hm : ev_mok cl pg gw nw m) (t : Nat) : ev_okc cl pg gw nw m (ev_pc m.1 t) (ev_lb m.1 t) := by
  rcases ev_lb_eq m.1 t with ⟨h, -⟩ | ⟨b, h1, h2, h3⟩
  · rw [h]; trivial
  · rw [h2, h3]
    exact hm.1 b (List.mem_of_getElem? h1)
end
section
/-! ===== the evaluator is right: what it runs, the machine runs ===== -/
def ev_sat (σ : Nat → Int32) (e : ev_E) : Prop := ∀ (k lo hi : Nat), e[k]? = some (lo, hi) → lo ≤ ev_bi (σ k) ∧ ev_bi (σ k) ≤ hi
def ev_ty (ca : Nat → ClassId) : List (ClassId × FieldType) := [(ca 0, .int), (ca 1, .long), (ca 2, .boolean), (ca 3, .byte)]
def ev_ws (gw : List Jvm.Cond) (m : ev_M) : List Jvm.Cond := ev_cw m :: gw
def ev_rm (d : Nat) (m : ev_M) : Room := { frames := d, cells := m.2.2.1, slots := m.2.2.2.1, locals := 40 * d }
/-- what holds in a method's body -/
def ev_Cx (p : Program) (l : Launch) (e : Env) (R : Room) (s : State) (mm : MethodId) (args : Array Value) (below : List Frame) (meth : Method) (c : Code) (m : ev_M) (d : Nat) (dC : Nat → ClassId) (dI : Nat → Nat → Nat) (ca : Nat → ClassId) (cl : List vw_C) (gw nw : List Jvm.Cond) (A : Nat → Prop) : Prop :=
  p.tables.exec = Jvm.exec ∧ c.code = m.2.2.2.2.2.2.1 ∧ meth.sig.returnType = m.2.2.2.2.2.2.2 ∧ meth.locks = false ∧ c.maxLocals = m.2.2.2.2.1 ∧ s.vm.findClass (ev_own m) = some mm.cls ∧ meth.name = m.2.2.2.2.2.1.name ∧ (∀ w ∈ ev_ws gw m, w.before args s = true) ∧ va_K (dC, dI) cl (ev_ty ca) s ∧ (∀ w ∈ nw, va_Nw w s) ∧ R = ev_rm (d + 1) m ∧ ∀ q, s.heap.size ≤ q → A q
/-- what holds at a place of it -/
def ev_G (s : State) (m : ev_M) (dC : Nat → ClassId) (dI : Nat → Nat → Nat) (ca : Nat → ClassId) (cl : List vw_C) (A : Nat → Prop) (σ : Nat → Int32) (ρ0 : Nat → Nat) (n0 : Nat) (ρ : Nat → Nat) (ls : List ev_V) (la : Array Slot) (w : ev_Wd) (H : Heap) (locs : List Loc) : Prop :=
  lv_has la m.2.2.2.2.1 (ev_pr σ ρ 0 ls) ∧ ev_sat σ w.2.2.1 ∧ (n0 ≤ w.2.1 ∧ w.2.1 ≤ 128 ∧ (∀ i, i < n0 → ρ i = ρ0 i) ∧ (w.2.1 = n0 → ρ = ρ0)) ∧ va_P (dC, dI) cl (ev_wl σ ρ ca w.1 w.2.1) H ∧ va_D A (ev_wl σ ρ ca w.1 w.2.1) ∧ va_S A s.heap H locs
def ev_Sn (p : Program) (l : Launch) (e : Env) (R : Room) (s : State) (mm : MethodId) (args : Array Value) (below : List Frame) (meth : Method) (c : Code) (m : ev_M) (dC : Nat → ClassId) (dI : Nat → Nat → Nat) (ca : Nat → ClassId) (cl : List vw_C) (pg : List ev_M) (gw nw : List Jvm.Cond) (A : Nat → Prop) (σ : Nat → Int32) (ρ0 : Nat → Nat) (n0 : Nat) (Q : State → Prop) (os : List ev_O) (k : ev_K) : Prop :=
  ∀ (r : List ev_I) (ls st : List ev_V) (w : ev_Wd) (outs : List ev_O) (pc : Nat) (la : Array Slot) (ρ : Nat → Nat) (H : Heap) (locs : List Loc), ev_G s m dC dI ca cl A σ ρ0 n0 ρ ls la w H locs → ev_okc cl pg gw nw m pc r → k r ls st w = some outs → (∀ o ∈ outs, o ∈ os) → W p l e R s mm args below meth c H locs w.2.2.2.1 w.2.2.2.2 Q (F0 mm pc la (st.map (ev_cv σ ρ)))

section EVA
variable {p : Program} {l : Launch} {e : Env} {R : Room} {s : State} {mm : MethodId} {args : Array Value} {below : List Frame} {meth : Method} {c : Code}
variable {m : ev_M} {d n0 : Nat} {dC : Nat → ClassId} {dI : Nat → Nat → Nat} {ca : Nat → ClassId} {cl : List vw_C} {pg : List ev_M} {gw nw : List Jvm.Cond} {A : Nat → Prop} {σ : Nat → Int32} {ρ0 : Nat → Nat} {Q : State → Prop} {os outs : List ev_O}
variable {call : ev_Q} {k : ev_K} {r : List ev_I} {ls st : List ev_V} {w : ev_Wd} {pc : Nat} {la : Array Slot} {ρ : Nat → Nat} {H : Heap} {locs : List Loc}
/-! loads and stores, short and long -/
theorem ev_f4v {j : Nat} (h : j < 4) : ((ev_f4 j : Fin 4) : Nat) = j := Nat.mod_eq_of_lt h
section
variable {cc : ByteArray} {rest : List Value} {cells slots j : Nat}
theorem ev_ldi {x : Int32} (hx : p.tables.exec = Jvm.exec) (hb : c.code = cc) (hd : decode cc pc = .ok (if j < 4 then (.iload_n (ev_f4 j), 1) else (.iload j, 2))) (hl : la[j]? = some (.val (.int x))) (kk : W p l e R s mm args below meth c H locs cells slots Q (F0 mm (pc + (if j < 4 then ((.iload_n (ev_f4 j), 1) : Instr × Nat) else (.iload j, 2)).2) la (.int x :: rest))) : W p l e R s mm args below meth c H locs cells slots Q (F0 mm pc la rest) := by
  by_cases hj : j < 4
  · rw [if_pos hj] at hd kk
    exact lv_iload_n hx hb hd (ev_f4v hj) hl kk
  · rw [if_neg hj] at hd kk
    exact lv_iload hx hb hd hl kk
theorem ev_ldl {x : Int64} (hx : p.tables.exec = Jvm.exec) (hb : c.code = cc) (hd : decode cc pc = .ok (if j < 4 then (.lload_n (ev_f4 j), 1) else (.lload j, 2))) (hl : la[j]? = some (.val (.long x))) (kk : W p l e R s mm args below meth c H locs cells slots Q (F0 mm (pc + (if j < 4 then ((.lload_n (ev_f4 j), 1) : Instr × Nat) else (.lload j, 2)).2) la (.long x :: rest))) : W p l e R s mm args below meth c H locs cells slots Q (F0 mm pc la rest) := by
  by_cases hj : j < 4
  · rw [if_pos hj] at hd kk
    exact lv_lload_n hx hb hd (ev_f4v hj) hl kk
  · rw [if_neg hj] at hd kk
    exact lv_lload hx hb hd hl kk
theorem ev_lda {x : Nat} (hx : p.tables.exec = Jvm.exec) (hb : c.code = cc) (hd : decode cc pc = .ok (if j < 4 then (.aload_n (ev_f4 j), 1) else (.aload j, 2))) (hl : la[j]? = some (.val (ev_cr ρ x))) (kk : W p l e R s mm args below meth c H locs cells slots Q (F0 mm (pc + (if j < 4 then ((.aload_n (ev_f4 j), 1) : Instr × Nat) else (.aload j, 2)).2) la (ev_cr ρ x :: rest))) : W p l e R s mm args below meth c H locs cells slots Q (F0 mm pc la rest) := by
  cases x with
  | zero =>
    by_cases hj : j < 4
    · rw [if_pos hj] at hd kk
      exact lv_aload_nN hx hb hd (ev_f4v hj) hl kk
    · rw [if_neg hj] at hd kk
      exact lv_aloadN hx hb hd hl kk
  | succ x =>
    by_cases hj : j < 4
    · rw [if_pos hj] at hd kk
      exact lv_aload_n hx hb hd (ev_f4v hj) hl kk
    · rw [if_neg hj] at hd kk
      exact lv_aload hx hb hd hl kk
theorem ev_sti {x : Int32} {nL : Nat} {lv : List (Nat × Value)} (hx : p.tables.exec = Jvm.exec) (hb : c.code = cc) (hd : decode cc pc = .ok (if j < 4 then (.istore_n (ev_f4 j), 1) else (.istore j, 2))) (hh : lv_has la nL lv) (hn : j < nL) (kk : ∀ la' : Array Slot, lv_has la' nL ((j, Value.int x) :: lv.filter (fun q => !(q.1 == j) && !(q.1 + 1 == j && q.2.category == 2))) → W p l e R s mm args below meth c H locs cells slots Q (F0 mm (pc + (if j < 4 then ((.istore_n (ev_f4 j), 1) : Instr × Nat) else (.istore j, 2)).2) la' rest)) : W p l e R s mm args below meth c H locs cells slots Q (F0 mm pc la (.int x :: rest)) := by
  by_cases hj : j < 4
  · rw [if_pos hj] at hd kk
    exact lv_istore_n hx hb hd (ev_f4v hj) hh hn rfl kk
  · rw [if_neg hj] at hd kk
    exact lv_istore hx hb hd hh hn rfl kk
theorem ev_stl {x : Int64} {nL : Nat} {lv : List (Nat × Value)} (hx : p.tables.exec = Jvm.exec) (hb : c.code = cc) (hd : decode cc pc = .ok (if j < 4 then (.lstore_n (ev_f4 j), 1) else (.lstore j, 2))) (hh : lv_has la nL lv) (hn : j + 1 < nL) (kk : ∀ la' : Array Slot, lv_has la' nL ((j, Value.long x) :: lv.filter (fun q => !(q.1 == j) && (!(q.1 == j + 1) && !(q.1 + 1 == j && q.2.category == 2)))) → W p l e R s mm args below meth c H locs cells slots Q (F0 mm (pc + (if j < 4 then ((.lstore_n (ev_f4 j), 1) : Instr × Nat) else (.lstore j, 2)).2) la' rest)) : W p l e R s mm args below meth c H locs cells slots Q (F0 mm pc la (.long x :: rest)) := by
  by_cases hj : j < 4
  · rw [if_pos hj] at hd kk
    exact lv_lstore_n hx hb hd (ev_f4v hj) hh hn rfl kk
  · rw [if_neg hj] at hd kk
    exact lv_lstore hx hb hd hh hn rfl kk
theorem ev_sta {x : Nat} {nL : Nat} {lv : List (Nat × Value)} (hx : p.tables.exec = Jvm.exec) (hb : c.code = cc) (hd : decode cc pc = .ok (if j < 4 then (.astore_n (ev_f4 j), 1) else (.astore j, 2))) (hh : lv_has la nL lv) (hn : j < nL) (kk : ∀ la' : Array Slot, lv_has la' nL ((j, ev_cr ρ x) :: lv.filter (fun q => !(q.1 == j) && !(q.1 + 1 == j && q.2.category == 2))) → W p l e R s mm args below meth c H locs cells slots Q (F0 mm (pc + (if j < 4 then ((.astore_n (ev_f4 j), 1) : Instr × Nat) else (.astore j, 2)).2) la' rest)) : W p l e R s mm args below meth c H locs cells slots Q (F0 mm pc la (ev_cr ρ x :: rest)) := by
  cases x with
  | zero =>
    by_cases hj : j < 4
    · rw [if_pos hj] at hd kk
      exact lv_astore_nN hx hb hd (ev_f4v hj) hh hn rfl kk
    · rw [if_neg hj] at hd kk
      exact lv_astoreN hx hb hd hh hn rfl kk
  | succ x =>
    by_cases hj : j < 4
    · rw [if_pos hj] at hd kk
      exact lv_astore_n hx hb hd (ev_f4v hj) hh hn rfl kk
    · rw [if_neg hj] at hd kk
      exact lv_astore hx hb hd hh hn rfl kk
end
theorem es_li {x : Nat} (C : ev_Cx p l e R s mm args below meth c m d dC dI ca cl gw nw A) (hm : ev_mok cl pg gw nw m) (hk : ev_Sn p l e R s mm args below meth c m dC dI ca cl pg gw nw A σ ρ0 n0 Q os k) (G : ev_G s m dC dI ca cl A σ ρ0 n0 ρ ls la w H locs) (hok : ev_okc cl pg gw nw m pc (ei_li x :: r)) (h : ea_li x call k m r ls st w = some outs) (hos : ∀ o ∈ outs, o ∈ os) : W p l e R s mm args below meth c H locs w.2.2.2.1 w.2.2.2.2 Q (F0 mm pc la (st.map (ev_cv σ ρ))) := by
  obtain ⟨hd, -, -, -, hr⟩ := hok
  obtain ⟨hx, hb, -⟩ := C
  unfold ea_li at h
  match hv : ev_ln ls x, h with
  | .inl n, h => exact ev_ldi hx hb hd (ev_has_at G.1 hv (fun q => by cases q)) (hk _ _ _ _ _ _ _ _ _ _ G hr h hos)
  | .inr (.inr (.inr (.inl t))), h => exact ev_ldi hx hb hd (ev_has_at G.1 hv (fun q => by cases q)) (hk _ _ _ _ _ _ _ _ _ _ G hr h hos)
  | .inr (.inl _), h => cases h
  | .inr (.inr (.inl _)), h => cases h
  | .inr (.inr (.inr (.inr _))), h => cases h
theorem es_la {x : Nat} (C : ev_Cx p l e R s mm args below meth c m d dC dI ca cl gw nw A) (hm : ev_mok cl pg gw nw m) (hk : ev_Sn p l e R s mm args below meth c m dC dI ca cl pg gw nw A σ ρ0 n0 Q os k) (G : ev_G s m dC dI ca cl A σ ρ0 n0 ρ ls la w H locs) (hok : ev_okc cl pg gw nw m pc (ei_la x :: r)) (h : ea_la x call k m r ls st w = some outs) (hos : ∀ o ∈ outs, o ∈ os) : W p l e R s mm args below meth c H locs w.2.2.2.1 w.2.2.2.2 Q (F0 mm pc la (st.map (ev_cv σ ρ))) := by
  obtain ⟨hd, -, -, -, hr⟩ := hok
  obtain ⟨hx, hb, -⟩ := C
  unfold ea_la at h
  match hv : ev_ln ls x, h with
  | .inr (.inl y), h => exact ev_lda (ρ := ρ) (x := y) hx hb hd (ev_has_at G.1 hv (fun q => by cases q)) (hk _ _ _ _ _ _ _ _ _ _ G hr h hos)
  | .inl n, h => cases h
  | .inr (.inr _), h => cases h
theorem es_ll {x : Nat} (C : ev_Cx p l e R s mm args below meth c m d dC dI ca cl gw nw A) (hm : ev_mok cl pg gw nw m) (hk : ev_Sn p l e R s mm args below meth c m dC dI ca cl pg gw nw A σ ρ0 n0 Q os k) (G : ev_G s m dC dI ca cl A σ ρ0 n0 ρ ls la w H locs) (hok : ev_okc cl pg gw nw m pc (ei_ll x :: r)) (h : ea_ll x call k m r ls st w = some outs) (hos : ∀ o ∈ outs, o ∈ os) : W p l e R s mm args below meth c H locs w.2.2.2.1 w.2.2.2.2 Q (F0 mm pc la (st.map (ev_cv σ ρ))) := by
  obtain ⟨hd, -, -, -, hr⟩ := hok
  obtain ⟨hx, hb, -⟩ := C
  unfold ea_ll at h
  match hv : ev_ln ls x, h with
  | .inr (.inr (.inl y)), h => exact ev_ldl hx hb hd (ev_has_at G.1 hv (fun q => by cases q)) (hk _ _ _ _ _ _ _ _ _ _ G hr h hos)
  | .inl n, h => cases h
  | .inr (.inl _), h => cases h
  | .inr (.inr (.inr (.inl _))), h => cases h
  | .inr (.inr (.inr (.inr _))), h => cases h
theorem ev_G.loc (G : ev_G s m dC dI ca cl A σ ρ0 n0 ρ ls la w H locs) {ls' : List ev_V} {la' : Array Slot} (hl : lv_has la' m.2.2.2.2.1 (ev_pr σ ρ 0 ls')) : ev_G s m dC dI ca cl A σ ρ0 n0 ρ ls' la' w H locs := ⟨hl, G.2⟩
theorem ev_G.env (G : ev_G s m dC dI ca cl A σ ρ0 n0 ρ ls la w H locs) {e' : ev_E} (he : ev_sat σ e') : ev_G s m dC dI ca cl A σ ρ0 n0 ρ ls la (ev_we w e') H locs := ⟨G.1, he, G.2.2⟩
theorem es_si {x : Nat} (C : ev_Cx p l e R s mm args below meth c m d dC dI ca cl gw nw A) (hm : ev_mok cl pg gw nw m) (hk : ev_Sn p l e R s mm args below meth c m dC dI ca cl pg gw nw A σ ρ0 n0 Q os k) (G : ev_G s m dC dI ca cl A σ ρ0 n0 ρ ls la w H locs) (hok : ev_okc cl pg gw nw m pc (ei_si x :: r)) (h : ea_si x call k m r ls st w = some outs) (hos : ∀ o ∈ outs, o ∈ os) : W p l e R s mm args below meth c H locs w.2.2.2.1 w.2.2.2.2 Q (F0 mm pc la (st.map (ev_cv σ ρ))) := by
  obtain ⟨hd, -, -, hs, hr⟩ := hok
  have hs : x < m.2.2.2.2.1 := of_decide_eq_true hs
  obtain ⟨hx, hb, -⟩ := C
  unfold ea_si at h
  match st, h with
  | .inl n :: st', h =>
    cases hn : ev_nl ls x with
    | false => rw [hn] at h; cases h
    | true =>
      rw [hn] at h
      exact ev_sti hx hb hd G.1 hs (fun la' hl => hk _ _ _ _ _ _ _ _ _ _ (G.loc (ev_has_set (v := .inl n) hn hl)) hr h hos)
  | .inr (.inr (.inr (.inl t))) :: st', h =>
    cases hn : ev_nl ls x with
    | false => rw [hn] at h; cases h
    | true =>
      rw [hn] at h
      exact ev_sti hx hb hd G.1 hs (fun la' hl => hk _ _ _ _ _ _ _ _ _ _ (G.loc (ev_has_set (v := .inr (.inr (.inr (.inl t)))) hn hl)) hr h hos)
  | [], h => cases h
  | .inr (.inl _) :: _, h => cases h
  | .inr (.inr (.inl _)) :: _, h => cases h
  | .inr (.inr (.inr (.inr _))) :: _, h => cases h
theorem es_sa {x : Nat} (C : ev_Cx p l e R s mm args below meth c m d dC dI ca cl gw nw A) (hm : ev_mok cl pg gw nw m) (hk : ev_Sn p l e R s mm args below meth c m dC dI ca cl pg gw nw A σ ρ0 n0 Q os k) (G : ev_G s m dC dI ca cl A σ ρ0 n0 ρ ls la w H locs) (hok : ev_okc cl pg gw nw m pc (ei_sa x :: r)) (h : ea_sa x call k m r ls st w = some outs) (hos : ∀ o ∈ outs, o ∈ os) : W p l e R s mm args below meth c H locs w.2.2.2.1 w.2.2.2.2 Q (F0 mm pc la (st.map (ev_cv σ ρ))) := by
  obtain ⟨hd, -, -, hs, hr⟩ := hok
  have hs : x < m.2.2.2.2.1 := of_decide_eq_true hs
  obtain ⟨hx, hb, -⟩ := C
  unfold ea_sa at h
  match st, h with
  | .inr (.inl y) :: st', h =>
    cases hn : ev_nl ls x with
    | false => rw [hn] at h; cases h
    | true =>
      rw [hn] at h
      exact ev_sta (ρ := ρ) (x := y) hx hb hd G.1 hs (fun la' hl => hk _ _ _ _ _ _ _ _ _ _ (G.loc (ev_has_set (v := .inr (.inl y)) hn hl)) hr h hos)
  | [], h => cases h
  | .inl _ :: _, h => cases h
  | .inr (.inr _) :: _, h => cases h
theorem es_sl {x : Nat} (C : ev_Cx p l e R s mm args below meth c m d dC dI ca cl gw nw A) (hm : ev_mok cl pg gw nw m) (hk : ev_Sn p l e R s mm args below meth c m dC dI ca cl pg gw nw A σ ρ0 n0 Q os k) (G : ev_G s m dC dI ca cl A σ ρ0 n0 ρ ls la w H locs) (hok : ev_okc cl pg gw nw m pc (ei_sl x :: r)) (h : ea_sl x call k m r ls st w = some outs) (hos : ∀ o ∈ outs, o ∈ os) : W p l e R s mm args below meth c H locs w.2.2.2.1 w.2.2.2.2 Q (F0 mm pc la (st.map (ev_cv σ ρ))) := by
  obtain ⟨hd, -, -, hs, hr⟩ := hok
  have hs : x + 1 < m.2.2.2.2.1 := of_decide_eq_true hs
  obtain ⟨hx, hb, -⟩ := C
  unfold ea_sl at h
  match st, h with
  | .inr (.inr (.inl y)) :: st', h =>
    cases hn : ev_nl ls x with
    | false => rw [hn] at h; cases h
    | true =>
      rw [hn] at h
      exact ev_stl hx hb hd G.1 hs (fun la' hl => hk _ _ _ _ _ _ _ _ _ _ (G.loc (ev_has_set2 (v := .inr (.inr (.inl y))) hn hl)) hr h hos)
  | [], h => cases h
  | .inl _ :: _, h => cases h
  | .inr (.inl _) :: _, h => cases h
  | .inr (.inr (.inr (.inl _))) :: _, h => cases h
  | .inr (.inr (.inr (.inr _))) :: _, h => cases h
theorem es_ii {x : Nat × Nat} (C : ev_Cx p l e R s mm args below meth c m d dC dI ca cl gw nw A) (hm : ev_mok cl pg gw nw m) (hk : ev_Sn p l e R s mm args below meth c m dC dI ca cl pg gw nw A σ ρ0 n0 Q os k) (G : ev_G s m dC dI ca cl A σ ρ0 n0 ρ ls la w H locs) (hok : ev_okc cl pg gw nw m pc (ei_ii x :: r)) (h : ea_ii x call k m r ls st w = some outs) (hos : ∀ o ∈ outs, o ∈ os) : W p l e R s mm args below meth c H locs w.2.2.2.1 w.2.2.2.2 Q (F0 mm pc la (st.map (ev_cv σ ρ))) := by
  obtain ⟨hd, -, -, hs, hr⟩ := hok
  have hs : x.1 < m.2.2.2.2.1 := of_decide_eq_true hs
  obtain ⟨hx, hb, -⟩ := C
  unfold ea_ii at h
  match hv : ev_ln ls x.1, h with
  | .inl n, h =>
    have hl : ls[x.1]? = some (.inl n) := ev_ln_some hv (fun q => by cases q)
    have hmem : (x.1, Value.int (Int32.ofNat n)) ∈ ev_pr σ ρ 0 ls := (ev_pr_mem ls 0 _).mpr ⟨x.1, _, hl, fun q => (by cases q), by rw [Nat.zero_add]; rfl⟩
    obtain ⟨kk, hkk⟩ := List.getElem?_of_mem hmem
    have hn : ev_nl ls x.1 = true := by
      cases hj : x.1 with
      | zero => rfl
      | succ j =>
        show Bool.not (ev_isl (ev_ln ls j)) = true
        cases hi : ev_isl (ev_ln ls j) with
        | false => rfl
        | true =>
          exfalso
          match hu : ev_ln ls j, hi with
          | .inr (.inr (.inl y)), _ =>
            have h1 := ev_has_at G.1 hu (fun q => by cases q)
            have h2 := G.1.2.1.1 j _ h1 rfl
            have h3 := ev_has_at G.1 hv (fun q => by cases q)
            rw [hj] at h3
            rw [h3] at h2
            cases h2
    refine lv_iinc hx hb hd G.1 hkk (v := Int32.ofNat ((n + x.2) % 4294967296)) ?_ hs rfl (fun la' hl => hk _ _ _ _ _ _ _ _ _ _ (G.loc (ev_has_set (v := .inl ((n + x.2) % 4294967296)) hn hl)) hr h hos)
    rw [ev_md, ← ev_add]
    congr 1
    unfold ev_sg
    by_cases h2 : x.2 < 2147483648
    · rw [if_pos h2]; rfl
    · rw [if_neg h2]
      refine ev_e32 ?_
      show (BitVec.ofInt 32 ((x.2 : Int) - 4294967296)).toNat = _
      rw [BitVec.toNat_ofInt, ev_on]
      omega
  | .inr (.inl _), h => cases h
  | .inr (.inr _), h => cases h
theorem es_pu {x : ev_V × Nat × Nat} (C : ev_Cx p l e R s mm args below meth c m d dC dI ca cl gw nw A) (hm : ev_mok cl pg gw nw m) (hk : ev_Sn p l e R s mm args below meth c m dC dI ca cl pg gw nw A σ ρ0 n0 Q os k) (G : ev_G s m dC dI ca cl A σ ρ0 n0 ρ ls la w H locs) (hok : ev_okc cl pg gw nw m pc (ei_pu x :: r)) (h : ea_pu x call k m r ls st w = some outs) (hos : ∀ o ∈ outs, o ∈ os) : W p l e R s mm args below meth c H locs w.2.2.2.1 w.2.2.2.2 Q (F0 mm pc la (st.map (ev_cv σ ρ))) := by
  obtain ⟨hd, hw, -, hs, hr⟩ := hok
  have h : k r ls (x.1 :: st) w = some outs := h
  have K := hk _ _ _ _ _ _ _ _ _ _ G hr h hos
  obtain ⟨hx, hb, -, -, -, hown, -, hts, -⟩ := C
  have hw' : ∀ w ∈ ev_wpu m x, w.before args s = true := fun w h => hts w (List.mem_cons_of_mem _ (hw w h))
  obtain ⟨v, q, idx⟩ := x
  match v, q, hs, hd, K, hw' with
  | .inl n, 0, hs, hd, K, _ => exact lv_iconst hx hb hd (of_decide_eq_true hs) K
  | .inl n, 1, hs, hd, K, _ => exact lv_bipush hx hb hd (of_decide_eq_true hs) K
  | .inl n, 2, hs, hd, K, _ => exact lv_sipush hx hb hd (of_decide_eq_true hs) K
  | .inr (.inr (.inl n)), 3, hs, hd, K, _ =>
    have h2 : n < 2 := of_decide_eq_true hs
    refine lv_lconst hx hb hd ?_ K
    show Int64.ofNat (n % 2) = Int64.ofNat n
    rw [Nat.mod_eq_of_lt h2]
  | .inr (.inl 0), 4, hs, hd, K, _ => exact lv_null hx hb hd K
  | .inl n, 5, hs, hd, K, hw' => exact lv_ldc hx hb hown (hw' _ List.mem_cons_self) hd K
  | .inl n, 6, hs, hd, K, hw' => exact lv_ldcw hx hb hown (hw' _ List.mem_cons_self) hd K
  | .inr (.inr (.inl n)), 7, hs, hd, K, hw' => exact lv_ldc2 hx hb hown (hw' _ List.mem_cons_self) hd K
theorem es_go {x : Nat} (C : ev_Cx p l e R s mm args below meth c m d dC dI ca cl gw nw A) (hm : ev_mok cl pg gw nw m) (hk : ev_Sn p l e R s mm args below meth c m dC dI ca cl pg gw nw A σ ρ0 n0 Q os k) (G : ev_G s m dC dI ca cl A σ ρ0 n0 ρ ls la w H locs) (hok : ev_okc cl pg gw nw m pc (ei_go x :: r)) (h : ea_go x call k m r ls st w = some outs) (hos : ∀ o ∈ outs, o ∈ os) : W p l e R s mm args below meth c H locs w.2.2.2.1 w.2.2.2.2 Q (F0 mm pc la (st.map (ev_cv σ ρ))) := by
  obtain ⟨hd, -, -, -, hr⟩ := hok
  obtain ⟨hx, hb, -⟩ := C
  refine lv_goto (tgt := ev_pc m.1 x) hx hb hd ?_ (hk _ _ _ _ _ _ _ _ _ _ G (ev_okc_to hm x) h hos)
  unfold ev_off
  omega
theorem es_fa {x : Nat} (C : ev_Cx p l e R s mm args below meth c m d dC dI ca cl gw nw A) (hm : ev_mok cl pg gw nw m) (hk : ev_Sn p l e R s mm args below meth c m dC dI ca cl pg gw nw A σ ρ0 n0 Q os k) (G : ev_G s m dC dI ca cl A σ ρ0 n0 ρ ls la w H locs) (hok : ev_okc cl pg gw nw m pc (ei_fa x :: r)) (h : ea_go x call k m r ls st w = some outs) (hos : ∀ o ∈ outs, o ∈ os) : W p l e R s mm args below meth c H locs w.2.2.2.1 w.2.2.2.2 Q (F0 mm pc la (st.map (ev_cv σ ρ))) := by
  have hok : ev_pc m.1 x = pc := hok
  subst hok
  exact hk _ _ _ _ _ _ _ _ _ _ G (ev_okc_to hm x) h hos
end EVA
end
section
/-! ===== tokens: each of few values, or less, equal, greater ===== -/
theorem ev_jn_some {x y : ev_R} {outs : List ev_O} (h : ev_jn x y = some outs) : ∃ u v, x = some u ∧ y = some v ∧ (∀ o ∈ u, o ∈ outs) ∧ (∀ o ∈ v, o ∈ outs) := by
  cases x with
  | none => cases h
  | some u =>
    cases y with
    | none => cases h
    | some v =>
      have h : u ++ v = outs := Option.some.inj h
      subst h
      exact ⟨u, v, rfl, rfl, fun o ho => List.mem_append_left _ ho, fun o ho => List.mem_append_right _ ho⟩
theorem ev_en_some {f : Nat → ev_R} : ∀ (c lo : Nat) (outs : List ev_O), ev_en c lo f = some outs → ∀ v, lo ≤ v → v < lo + c → ∃ u, f v = some u ∧ ∀ o ∈ u, o ∈ outs
  | 0, lo, outs, _, v, h1, h2 => by omega
  | c + 1, lo, outs, h, v, h1, h2 => by
    obtain ⟨x, y, e1, e2, k1, k2⟩ := ev_jn_some (show ev_jn (f lo) (ev_en c (lo + 1) f) = some outs from h)
    by_cases hv : v = lo
    · subst hv
      exact ⟨x, e1, k1⟩
    · obtain ⟨u, e3, k3⟩ := ev_en_some c (lo + 1) y e2 v (by omega) (by omega)
      exact ⟨u, e3, fun o ho => k2 o (k3 o ho)⟩
theorem ev_sat_set {σ : Nat → Int32} {e : ev_E} {k a b : Nat} (hs : ev_sat σ e) (h1 : a ≤ ev_bi (σ k)) (h2 : ev_bi (σ k) ≤ b) : ev_sat σ (e.set k (a, b)) := by
  intro j lo hi hj
  by_cases hjk : k = j
  · subst hjk
    rw [List.getElem?_set] at hj
    simp at hj
    obtain ⟨-, rfl, rfl⟩ := hj
    exact ⟨h1, h2⟩
  · rw [List.getElem?_set_ne hjk] at hj
    exact hs j lo hi hj
theorem ev_rs_ok {σ : Nat → Int32} {t : ev_T} {e : ev_E} {f : Nat → ev_E → ev_R} {outs : List ev_O} (hs : ev_sat σ e) (h : ev_rs t e f = some outs) : ∃ v e' u, f v e' = some u ∧ (∀ o ∈ u, o ∈ outs) ∧ Int32.ofNat v = ev_ct σ t ∧ ev_sat σ e' := by
  obtain ⟨k, l⟩ := t
  cases l with
  | cons _ _ => cases h
  | nil =>
    unfold ev_rs at h
    dsimp only at h
    cases hk : e[k]? with
    | none => rw [hk] at h; cases h
    | some b =>
      obtain ⟨lo, hi⟩ := b
      rw [hk] at h
      dsimp only at h
      obtain ⟨b1, b2⟩ := hs k lo hi hk
      cases hq : Nat.beq lo hi with
      | true =>
        rw [hq] at h
        have e1 := ev_beq.mp hq
        have e2 : ev_bi (σ k) = lo := by omega
        exact ⟨ev_bs lo, e, outs, h, fun o ho => ho, by rw [ev_ct_nil, ← e2]; exact ev_bs_bi (σ k), hs⟩
      | false =>
        rw [hq] at h
        cases hq2 : Nat.ble (Nat.sub hi lo) 64 with
        | false => rw [hq2] at h; cases h
        | true =>
          rw [hq2] at h
          obtain ⟨u, h1, h2⟩ := ev_en_some _ _ _ h (ev_bi (σ k)) b1 (by show ev_bi (σ k) < lo + (hi - lo + 1); omega)
          exact ⟨_, _, u, h1, h2, by rw [ev_ct_nil]; exact ev_bs_bi (σ k), ev_sat_set hs (Nat.le_refl _) (Nat.le_refl _)⟩
theorem ev_sp_ok {σ : Nat → Int32} {t : ev_T} {y : Nat} {e : ev_E} {f g h : ev_E → ev_R} {outs : List ev_O} (hs : ev_sat σ e) (hh : ev_sp t y e f g h = some outs) : ∃ e' u, ev_sat σ e' ∧ (∀ o ∈ u, o ∈ outs) ∧ ((ev_bi (ev_ct σ t) < y ∧ f e' = some u) ∨ (ev_bi (ev_ct σ t) = y ∧ g e' = some u) ∨ (y < ev_bi (ev_ct σ t) ∧ h e' = some u)) := by
  obtain ⟨k, l⟩ := t
  cases l with
  | cons _ _ => cases hh
  | nil =>
    unfold ev_sp at hh
    dsimp only at hh
    cases hk : e[k]? with
    | none => rw [hk] at hh; cases hh
    | some b =>
      obtain ⟨lo, hi⟩ := b
      rw [hk] at hh
      dsimp only at hh
      obtain ⟨b1, b2⟩ := hs k lo hi hk
      obtain ⟨x1, x23, e1, e23, k1, k23⟩ := ev_jn_some hh
      obtain ⟨x2, x3, e2, e3, k2, k3⟩ := ev_jn_some e23
      rw [ev_ct_nil]
      rcases Nat.lt_trichotomy (ev_bi (σ k)) y with hc | hc | hc
      · rw [Nat.ble_eq_true_of_le (show Nat.succ lo ≤ y by omega)] at e1
        refine ⟨_, x1, ev_sat_set (k := k) hs b1 ?_, k1, Or.inl ⟨hc, e1⟩⟩
        show ev_bi (σ k) ≤ min hi (y - 1)
        omega
      · rw [Nat.ble_eq_true_of_le (show lo ≤ y by omega), Nat.ble_eq_true_of_le (show y ≤ hi by omega)] at e2
        exact ⟨_, x2, ev_sat_set (k := k) hs (by omega) (by omega), fun o ho => k23 o (k2 o ho), Or.inr (Or.inl ⟨hc, e2⟩)⟩
      · rw [Nat.ble_eq_true_of_le (show Nat.succ y ≤ hi by omega)] at e3
        refine ⟨_, x3, ev_sat_set (k := k) hs ?_ b2, fun o ho => k23 o (k3 o ho), Or.inr (Or.inr ⟨hc, e3⟩)⟩
        show max lo (y + 1) ≤ ev_bi (σ k)
        omega
/-! ===== arithmetic ===== -/
def ev_sem (op : Nat) (x y : Int32) : Int32 := match op with
  | 0 => x + y
  | 1 => x * y
  | 2 => x >>> (y &&& 31)
  | 3 => x &&& y
  | 4 => x - y
  | 5 => x ||| y
  | 6 => x <<< (y &&& 31)
  | _ => (x.toUInt32 >>> (y.toUInt32 &&& Int32.toUInt32 31)).toInt32
theorem ev_bin_ok (op a b : Nat) : ev_sem op (Int32.ofNat a) (Int32.ofNat b) = Int32.ofNat (ev_bin op a b) := by
  match op with
  | 0 => exact (ev_add a b).trans (ev_md _).symm
  | 1 => exact (ev_mul a b).trans (ev_md _).symm
  | 2 => exact ev_shr a b
  | 3 => exact ev_and a b
  | 4 => exact (ev_sub a b).trans (ev_md _).symm
  | 5 => exact ev_or a b
  | 6 => exact (ev_shl a b).trans (ev_md _).symm
  | _ + 7 => exact ev_ush a b
def ev_seml (op : Nat) (x y : Int64) : Int64 := match op with
  | 0 => x &&& y
  | 1 => x + y
  | 2 => x - y
  | _ => x ||| y
theorem ev_lbn_ok (op a b : Nat) : ev_seml op (Int64.ofNat a) (Int64.ofNat b) = Int64.ofNat (ev_lbn op a b) := by
  match op with
  | 0 => exact ev_land a b
  | 1 => exact (ev_ladd a b).trans (ev_mdl _).symm
  | 2 => exact (ev_lsub a b).trans (ev_mdl _).symm
  | _ + 3 => exact ev_lor a b
theorem ev_i3a {x y : Nat} {u v : Bool} (h : x ≤ y) : (if x < y then u else if x = y then u else v) = u := by
  by_cases h1 : x < y
  · rw [if_pos h1]
  · rw [if_neg h1, if_pos (by omega)]
section EVB
variable {p : Program} {l : Launch} {e : Env} {R : Room} {s : State} {mm : MethodId} {args : Array Value} {below : List Frame} {meth : Method} {c : Code}
variable {m : ev_M} {d n0 : Nat} {dC : Nat → ClassId} {dI : Nat → Nat → Nat} {ca : Nat → ClassId} {cl : List vw_C} {pg : List ev_M} {gw nw : List Jvm.Cond} {A : Nat → Prop} {σ : Nat → Int32} {ρ0 : Nat → Nat} {Q : State → Prop} {os outs : List ev_O}
variable {call : ev_Q} {k : ev_K} {r : List ev_I} {ls st : List ev_V} {w : ev_Wd} {pc : Nat} {la : Array Slot} {ρ : Nat → Nat} {H : Heap} {locs : List Loc}
section
variable {cc : ByteArray} {rest : List Value} {cells slots op : Nat}
theorem ev_bex {x y : Int32} (hx : p.tables.exec = Jvm.exec) (hb : c.code = cc) (hop : op < 8) (hd : decode cc pc = .ok (ev_xib op, 1)) (kk : W p l e R s mm args below meth c H locs cells slots Q (F0 mm (pc + 1) la (.int (ev_sem op x y) :: rest))) : W p l e R s mm args below meth c H locs cells slots Q (F0 mm pc la (.int y :: .int x :: rest)) := by
  match op, hop, hd, kk with
  | 0, _, hd, kk => exact lv_iadd hx hb hd kk
  | 1, _, hd, kk => exact lv_imul hx hb hd kk
  | 2, _, hd, kk => exact lv_ishr hx hb hd kk
  | 3, _, hd, kk => exact lv_iand hx hb hd kk
  | 4, _, hd, kk => exact lv_isub hx hb hd kk
  | 5, _, hd, kk => exact lv_ior hx hb hd kk
  | 6, _, hd, kk => exact lv_ishl hx hb hd kk
  | 7, _, hd, kk => exact lv_iushr hx hb hd rfl kk
theorem ev_bexl {x y : Int64} (hx : p.tables.exec = Jvm.exec) (hb : c.code = cc) (hop : op < 4) (hd : decode cc pc = .ok (ev_xlb op, 1)) (kk : W p l e R s mm args below meth c H locs cells slots Q (F0 mm (pc + 1) la (.long (ev_seml op x y) :: rest))) : W p l e R s mm args below meth c H locs cells slots Q (F0 mm pc la (.long y :: .long x :: rest)) := by
  match op, hop, hd, kk with
  | 0, _, hd, kk => exact lv_land hx hb hd kk
  | 1, _, hd, kk => exact lv_ladd hx hb hd kk
  | 2, _, hd, kk => exact lv_lsub hx hb hd kk
  | 3, _, hd, kk => exact lv_lor hx hb hd kk
theorem ev_cex {q : Bool × Bool × Bool} {x y : Int32} {off : Int} {tgt : Nat} (hx : p.tables.exec = Jvm.exec) (hb : c.code = cc) (hq : ev_sq q = true) (hd : decode cc pc = .ok (.if_icmp (ev_cq q) off, 3)) (ht : (pc : Int) + off = (tgt : Int)) (kt : ev_3w q (ev_bi x) (ev_bi y) = true → W p l e R s mm args below meth c H locs cells slots Q (F0 mm tgt la rest)) (kf : ev_3w q (ev_bi x) (ev_bi y) = false → W p l e R s mm args below meth c H locs cells slots Q (F0 mm (pc + 3) la rest)) : W p l e R s mm args below meth c H locs cells slots Q (F0 mm pc la (.int y :: .int x :: rest)) := by
  rw [ev_c3r] at kt kf
  have a1 := ev_bi_lt x y
  have a2 := ev_bi_le x y
  have a3 := ev_bi_eq x y
  have a4 := ev_bi_lt y x
  have a5 := ev_bi_le y x
  match q, hq, hd, kt, kf with
  | (true, false, false), _, hd, kt, kf => exact lv_icmp_lt hx hb hd ht (fun h => kt (by rw [if_pos (a1.mp h)])) (fun h => kf (by rw [if_neg (fun z => h (a1.mpr z))]; split <;> rfl))
  | (true, true, false), _, hd, kt, kf => exact lv_icmp_le hx hb hd ht (fun h => kt (ev_i3a (a2.mp h))) (fun h => kf (by have : ¬ ev_bi x ≤ ev_bi y := fun z => h (a2.mpr z); rw [if_neg (by omega), if_neg (by omega)]))
  | (false, true, false), _, hd, kt, kf => exact lv_icmp_eq hx hb hd ht (fun h => kt (by have := a3.mp h; rw [if_neg (by omega), if_pos (by omega)])) (fun h => kf (by have : ¬ ev_bi x = ev_bi y := fun z => h (a3.mpr z); rw [if_neg this]; split <;> rfl))
  | (true, false, true), _, hd, kt, kf => exact lv_icmp_ne hx hb hd ht (fun h => kt (by have : ¬ ev_bi x = ev_bi y := fun z => h (a3.mpr z); rw [if_neg this]; split <;> rfl)) (fun h => kf (by have : ev_bi x = ev_bi y := a3.mp h; rw [if_neg (by omega), if_pos (by omega)]))
  | (false, false, true), _, hd, kt, kf => exact lv_icmp_gt hx hb hd ht (fun h => kt (by have := a4.mp h; rw [if_neg (by omega), if_neg (by omega)])) (fun h => kf (ev_i3a (Nat.not_lt.mp (fun z => h (a4.mpr z)))))
  | (false, true, true), _, hd, kt, kf => exact lv_icmp_ge hx hb hd ht (fun h => kt (by have := a5.mp h; rw [if_neg (by omega)]; split <;> rfl)) (fun h => kf (by have : ¬ ev_bi y ≤ ev_bi x := fun z => h (a5.mpr z); rw [if_pos (by omega)]))
theorem ev_cex0 {q : Bool × Bool × Bool} {x : Int32} {off : Int} {tgt : Nat} (hx : p.tables.exec = Jvm.exec) (hb : c.code = cc) (hq : ev_sq q = true) (hd : decode cc pc = .ok (.ifCond (ev_cq q) off, 3)) (ht : (pc : Int) + off = (tgt : Int)) (kt : ev_3w q (ev_bi x) (ev_bi 0) = true → W p l e R s mm args below meth c H locs cells slots Q (F0 mm tgt la rest)) (kf : ev_3w q (ev_bi x) (ev_bi 0) = false → W p l e R s mm args below meth c H locs cells slots Q (F0 mm (pc + 3) la rest)) : W p l e R s mm args below meth c H locs cells slots Q (F0 mm pc la (.int x :: rest)) := by
  rw [ev_c3r] at kt kf
  have a1 := ev_bi_lt x 0
  have a2 := ev_bi_le x 0
  have a3 := ev_bi_eq x 0
  have a4 := ev_bi_lt 0 x
  have a5 := ev_bi_le 0 x
  generalize ev_bi 0 = z0 at *
  match q, hq, hd, kt, kf with
  | (true, false, false), _, hd, kt, kf => exact lv_if_lt hx hb hd ht (fun h => kt (by rw [if_pos (a1.mp h)])) (fun h => kf (by rw [if_neg (fun z => h (a1.mpr z))]; split <;> rfl))
  | (true, true, false), _, hd, kt, kf => exact lv_if_le hx hb hd ht (fun h => kt (ev_i3a (a2.mp h))) (fun h => kf (by have : ¬ ev_bi x ≤ z0 := fun z => h (a2.mpr z); rw [if_neg (by omega), if_neg (by omega)]))
  | (false, true, false), _, hd, kt, kf => exact lv_if_eq hx hb hd ht (fun h => kt (by have := a3.mp h; rw [if_neg (by omega), if_pos (by omega)])) (fun h => kf (by have : ¬ ev_bi x = z0 := fun z => h (a3.mpr z); rw [if_neg this]; split <;> rfl))
  | (true, false, true), _, hd, kt, kf => exact lv_if_ne hx hb hd ht (fun h => kt (by have : ¬ ev_bi x = z0 := fun z => h (a3.mpr z); rw [if_neg this]; split <;> rfl)) (fun h => kf (by have : ev_bi x = z0 := a3.mp h; rw [if_neg (by omega), if_pos (by omega)]))
  | (false, false, true), _, hd, kt, kf => exact lv_if_gt hx hb hd ht (fun h => kt (by have := a4.mp h; rw [if_neg (by omega), if_neg (by omega)])) (fun h => kf (ev_i3a (Nat.not_lt.mp (fun z => h (a4.mpr z)))))
  | (false, true, true), _, hd, kt, kf => exact lv_if_ge hx hb hd ht (fun h => kt (by have := a5.mp h; rw [if_neg (by omega)]; split <;> rfl)) (fun h => kf (by have : ¬ z0 ≤ ev_bi x := fun z => h (a5.mpr z); rw [if_pos (by omega)]))
end
theorem es_ib {x : Nat} (C : ev_Cx p l e R s mm args below meth c m d dC dI ca cl gw nw A) (hm : ev_mok cl pg gw nw m) (hk : ev_Sn p l e R s mm args below meth c m dC dI ca cl pg gw nw A σ ρ0 n0 Q os k) (G : ev_G s m dC dI ca cl A σ ρ0 n0 ρ ls la w H locs) (hok : ev_okc cl pg gw nw m pc (ei_ib x :: r)) (h : ea_ib x call k m r ls st w = some outs) (hos : ∀ o ∈ outs, o ∈ os) : W p l e R s mm args below meth c H locs w.2.2.2.1 w.2.2.2.2 Q (F0 mm pc la (st.map (ev_cv σ ρ))) := by
  have hok0 := hok
  obtain ⟨hd, -, -, hs, hr⟩ := hok
  have hs : x < 8 := of_decide_eq_true hs
  obtain ⟨hx, hb, -⟩ := C
  match st, h with
  | .inl b :: .inl a :: s', h =>
    refine ev_bex hx hb hs hd ?_
    rw [ev_bin_ok]
    exact hk _ _ _ _ _ _ _ _ _ _ G hr h hos
  | .inr (.inr (.inr (.inl t))) :: s', h =>
    obtain ⟨v, e', u, h1, h2, h3, h4⟩ := ev_rs_ok G.2.1 (show ev_rs t w.2.2.1 (fun v e => k (ei_ib x :: r) ls (.inl v :: s') (ev_we w e)) = some outs from h)
    have K := hk _ _ _ _ _ _ _ _ _ _ (G.env h4) hok0 h1 (fun o ho => hos o (h2 o ho))
    show W p l e R s mm args below meth c H locs w.2.2.2.1 w.2.2.2.2 Q (F0 mm pc la (.int (ev_ct σ t) :: s'.map (ev_cv σ ρ)))
    rw [← h3]
    exact K
  | .inl b :: .inr (.inr (.inr (.inl t))) :: s', h =>
    have h : Bool.rec (motive := fun _ => ev_R) (ev_rs t w.2.2.1 (fun v e => k (ei_ib x :: r) ls (.inl b :: .inl v :: s') (ev_we w e))) (k r ls (.inr (.inr (.inr (.inl (t.1, (x, b) :: t.2)))) :: s') w) (Bool.and (ev_wide t w.2.2.1) (Bool.or (Nat.beq x 2) (Bool.or (Nat.beq x 3) (Nat.beq x 7)))) = some outs := h
    cases hq : Bool.and (ev_wide t w.2.2.1) (Bool.or (Nat.beq x 2) (Bool.or (Nat.beq x 3) (Nat.beq x 7))) with
    | false =>
      rw [hq] at h
      obtain ⟨v, e', u, h1, h2, h3, h4⟩ := ev_rs_ok G.2.1 (show ev_rs t w.2.2.1 _ = some outs from h)
      have K := hk _ _ _ _ _ _ _ _ _ _ (G.env h4) hok0 h1 (fun o ho => hos o (h2 o ho))
      show W p l e R s mm args below meth c H locs w.2.2.2.1 w.2.2.2.2 Q (F0 mm pc la (.int (Int32.ofNat b) :: .int (ev_ct σ t) :: s'.map (ev_cv σ ρ)))
      rw [← h3]
      exact K
    | true =>
      rw [hq] at h
      refine ev_bex hx hb hs hd ?_
      have e1 : ev_sem x (ev_ct σ t) (Int32.ofNat b) = ev_ct σ (t.1, (x, b) :: t.2) := by
        rw [ev_ct_cons]
        have hq2 : (Bool.or (Nat.beq x 2) (Bool.or (Nat.beq x 3) (Nat.beq x 7))) = true := by
          cases hz : (Bool.or (Nat.beq x 2) (Bool.or (Nat.beq x 3) (Nat.beq x 7))) with
          | true => rfl
          | false => rw [hz] at hq; cases hw : ev_wide t w.2.2.1 <;> rw [hw] at hq <;> cases hq
        match x, hq2 with
        | 2, _ => rfl
        | 3, _ => rfl
        | 7, _ => rfl
      rw [e1]
      exact hk _ _ _ _ _ _ _ _ _ _ G hr h hos
theorem es_dv (C : ev_Cx p l e R s mm args below meth c m d dC dI ca cl gw nw A) (hm : ev_mok cl pg gw nw m) (hk : ev_Sn p l e R s mm args below meth c m dC dI ca cl pg gw nw A σ ρ0 n0 Q os k) (G : ev_G s m dC dI ca cl A σ ρ0 n0 ρ ls la w H locs) (hok : ev_okc cl pg gw nw m pc (ei_dv :: r)) (h : ea_dv call k m r ls st w = some outs) (hos : ∀ o ∈ outs, o ∈ os) : W p l e R s mm args below meth c H locs w.2.2.2.1 w.2.2.2.2 Q (F0 mm pc la (st.map (ev_cv σ ρ))) := by
  obtain ⟨hd, -, -, hs, hr⟩ := hok
  obtain ⟨hx, hb, -⟩ := C
  unfold ea_dv at h
  match st, h with
  | .inl b :: .inl a :: s', h =>
    have h : Bool.rec (motive := fun _ => ev_R) none (k r ls (.inl (Nat.div a b) :: s') w) (Bool.and (Nat.ble a 2147483647) (Bool.and (Nat.ble b 2147483647) (Nat.ble 1 b))) = some outs := h
    cases h1 : Nat.ble a 2147483647 with
    | false => rw [h1] at h; cases h
    | true =>
      cases h2 : Nat.ble b 2147483647 with
      | false => rw [h1, h2] at h; cases h
      | true =>
        cases h3 : Nat.ble 1 b with
        | false => rw [h1, h2, h3] at h; cases h
        | true =>
          rw [h1, h2, h3] at h
          have g1 := Nat.le_of_ble_eq_true h1
          have g2 := Nat.le_of_ble_eq_true h2
          have g3 := Nat.le_of_ble_eq_true h3
          refine lv_idiv hx hb hd (nI_ne0 (by omega) (by omega)) ?_
          rw [ev_div a b g1 g2 g3]
          exact hk _ _ _ _ _ _ _ _ _ _ G hr h hos
theorem es_lb {x : Nat} (C : ev_Cx p l e R s mm args below meth c m d dC dI ca cl gw nw A) (hm : ev_mok cl pg gw nw m) (hk : ev_Sn p l e R s mm args below meth c m dC dI ca cl pg gw nw A σ ρ0 n0 Q os k) (G : ev_G s m dC dI ca cl A σ ρ0 n0 ρ ls la w H locs) (hok : ev_okc cl pg gw nw m pc (ei_lb x :: r)) (h : ea_lb x call k m r ls st w = some outs) (hos : ∀ o ∈ outs, o ∈ os) : W p l e R s mm args below meth c H locs w.2.2.2.1 w.2.2.2.2 Q (F0 mm pc la (st.map (ev_cv σ ρ))) := by
  obtain ⟨hd, -, -, hs, hr⟩ := hok
  have hs : x < 4 := of_decide_eq_true hs
  obtain ⟨hx, hb, -⟩ := C
  unfold ea_lb at h
  match st, h with
  | .inr (.inr (.inl b)) :: .inr (.inr (.inl a)) :: s', h =>
    refine ev_bexl hx hb hs hd ?_
    rw [ev_lbn_ok]
    exact hk _ _ _ _ _ _ _ _ _ _ G hr h hos
theorem es_ls {x : Nat} (C : ev_Cx p l e R s mm args below meth c m d dC dI ca cl gw nw A) (hm : ev_mok cl pg gw nw m) (hk : ev_Sn p l e R s mm args below meth c m dC dI ca cl pg gw nw A σ ρ0 n0 Q os k) (G : ev_G s m dC dI ca cl A σ ρ0 n0 ρ ls la w H locs) (hok : ev_okc cl pg gw nw m pc (ei_ls x :: r)) (h : ea_ls x call k m r ls st w = some outs) (hos : ∀ o ∈ outs, o ∈ os) : W p l e R s mm args below meth c H locs w.2.2.2.1 w.2.2.2.2 Q (F0 mm pc la (st.map (ev_cv σ ρ))) := by
  have hok0 := hok
  obtain ⟨hd, -, -, hs, hr⟩ := hok
  have hs : x < 2 := of_decide_eq_true hs
  obtain ⟨hx, hb, -⟩ := C
  unfold ea_ls at h
  match st, h with
  | .inl b :: .inr (.inr (.inl a)) :: s', h =>
    have K := hk _ _ _ _ _ _ _ _ _ _ G hr h hos
    match x, hs, hd, K with
    | 0, _, hd, K => exact lv_lushr hx hb hd (ev_lush a b) K
    | 1, _, hd, K => exact lv_lshl hx hb hd ((ev_lshl a b).trans (ev_mdl _).symm) K
  | .inr (.inr (.inr (.inl t))) :: s', h =>
    obtain ⟨v, e', u, h1, h2, h3, h4⟩ := ev_rs_ok G.2.1 h
    have K := hk _ _ _ _ _ _ _ _ _ _ (G.env h4) hok0 h1 (fun o ho => hos o (h2 o ho))
    show W p l e R s mm args below meth c H locs w.2.2.2.1 w.2.2.2.2 Q (F0 mm pc la (.int (ev_ct σ t) :: s'.map (ev_cv σ ρ)))
    rw [← h3]
    exact K
theorem es_lc (C : ev_Cx p l e R s mm args below meth c m d dC dI ca cl gw nw A) (hm : ev_mok cl pg gw nw m) (hk : ev_Sn p l e R s mm args below meth c m dC dI ca cl pg gw nw A σ ρ0 n0 Q os k) (G : ev_G s m dC dI ca cl A σ ρ0 n0 ρ ls la w H locs) (hok : ev_okc cl pg gw nw m pc (ei_lc :: r)) (h : ea_lc call k m r ls st w = some outs) (hos : ∀ o ∈ outs, o ∈ os) : W p l e R s mm args below meth c H locs w.2.2.2.1 w.2.2.2.2 Q (F0 mm pc la (st.map (ev_cv σ ρ))) := by
  obtain ⟨hd, -, -, hs, hr⟩ := hok
  obtain ⟨hx, hb, -⟩ := C
  unfold ea_lc at h
  match st, h with
  | .inr (.inr (.inl b)) :: .inr (.inr (.inl a)) :: s', h =>
    refine W.lcmp hx hb hd ?_
    rw [ev_lcm_ok]
    exact hk _ _ _ _ _ _ _ _ _ _ G hr h hos
theorem es_un {x : Nat} (C : ev_Cx p l e R s mm args below meth c m d dC dI ca cl gw nw A) (hm : ev_mok cl pg gw nw m) (hk : ev_Sn p l e R s mm args below meth c m dC dI ca cl pg gw nw A σ ρ0 n0 Q os k) (G : ev_G s m dC dI ca cl A σ ρ0 n0 ρ ls la w H locs) (hok : ev_okc cl pg gw nw m pc (ei_un x :: r)) (h : ea_un x call k m r ls st w = some outs) (hos : ∀ o ∈ outs, o ∈ os) : W p l e R s mm args below meth c H locs w.2.2.2.1 w.2.2.2.2 Q (F0 mm pc la (st.map (ev_cv σ ρ))) := by
  obtain ⟨hd, -, -, hs, hr⟩ := hok
  have hs : x < 2 := of_decide_eq_true hs
  obtain ⟨hx, hb, -⟩ := C
  unfold ea_un at h
  match st, h with
  | .inr (.inr (.inl a)) :: s', h =>
    match x, hs, hd, hr, h with
    | 0, _, hd, hr, h => exact lv_l2i hx hb hd (ev_l2i a) (hk _ _ _ _ _ _ _ _ _ _ G hr h hos)
    | 1, _, _, _, h => cases h
  | .inl a :: s', h =>
    match x, hs, hd, hr, h with
    | 1, _, hd, hr, h => exact lv_i2b hx hb hd (ev_i2b_ok a) (hk _ _ _ _ _ _ _ _ _ _ G hr h hos)
    | 0, _, _, _, h => cases h
  | .inr (.inr (.inr (.inl t))) :: s', h =>
    match x, hs, hd, hr, h with
    | 1, _, hd, hr, h => exact lv_i2b hx hb hd rfl (hk _ _ _ _ _ _ _ _ _ _ G hr h hos)
    | 0, _, _, _, h => cases h
theorem es_st {x : Nat} (C : ev_Cx p l e R s mm args below meth c m d dC dI ca cl gw nw A) (hm : ev_mok cl pg gw nw m) (hk : ev_Sn p l e R s mm args below meth c m dC dI ca cl pg gw nw A σ ρ0 n0 Q os k) (G : ev_G s m dC dI ca cl A σ ρ0 n0 ρ ls la w H locs) (hok : ev_okc cl pg gw nw m pc (ei_st x :: r)) (h : ea_st x call k m r ls st w = some outs) (hos : ∀ o ∈ outs, o ∈ os) : W p l e R s mm args below meth c H locs w.2.2.2.1 w.2.2.2.2 Q (F0 mm pc la (st.map (ev_cv σ ρ))) := by
  obtain ⟨hd, -, -, hs, hr⟩ := hok
  have hs : x < 3 := of_decide_eq_true hs
  obtain ⟨hx, hb, -⟩ := C
  unfold ea_st at h
  match x, st, hs, hd, hr, h with
  | 0, v :: s', _, hd, hr, h =>
    cases hv : ev_isl v with
    | true => simp only [hv] at h; cases h
    | false =>
      simp only [hv] at h
      exact lv_dup hx hb hd (ev_isl_cat hv) (hk _ _ _ _ _ _ _ _ _ _ G hr h hos)
  | 1, v :: u :: s', _, hd, hr, h =>
    cases hv : ev_isl v with
    | true => simp only [hv] at h; cases h
    | false =>
      cases hu : ev_isl u with
      | true => simp only [hv, hu] at h; cases h
      | false =>
        simp only [hv, hu] at h
        exact lv_dup2_11 hx hb hd (ev_isl_cat hv) (ev_isl_cat hu) (hk _ _ _ _ _ _ _ _ _ _ G hr h hos)
  | 2, v :: s', _, hd, hr, h =>
    cases hv : ev_isl v with
    | true => simp only [hv] at h; cases h
    | false =>
      simp only [hv] at h
      exact lv_pop hx hb hd (ev_isl_cat hv) (hk _ _ _ _ _ _ _ _ _ _ G hr h hos)
theorem ev_to_ok (C : ev_Cx p l e R s mm args below meth c m d dC dI ca cl gw nw A) (hm : ev_mok cl pg gw nw m) (hk : ev_Sn p l e R s mm args below meth c m dC dI ca cl pg gw nw A σ ρ0 n0 Q os k) (G : ev_G s m dC dI ca cl A σ ρ0 n0 ρ ls la w H locs) {t : Nat} (hr : ev_okc cl pg gw nw m (pc + 3) r) {b : Bool} {e' : ev_E} (he : ev_sat σ e') (h : ev_to b k m t r ls st w e' = some outs) (hos : ∀ o ∈ outs, o ∈ os) : (b = true → W p l e R s mm args below meth c H locs w.2.2.2.1 w.2.2.2.2 Q (F0 mm (ev_pc m.1 t) la (st.map (ev_cv σ ρ)))) ∧ (b = false → W p l e R s mm args below meth c H locs w.2.2.2.1 w.2.2.2.2 Q (F0 mm (pc + 3) la (st.map (ev_cv σ ρ)))) := by
  constructor
  · rintro rfl
    exact hk _ _ _ (ev_we w e') _ _ _ _ _ _ (G.env he) (ev_okc_to hm t) h hos
  · rintro rfl
    exact hk _ _ _ (ev_we w e') _ _ _ _ _ _ (G.env he) hr h hos
theorem ev_3tri (q : Bool × Bool × Bool) (x y : Nat) : (x < y → ev_3w q x y = q.1) ∧ (x = y → ev_3w q x y = q.2.1) ∧ (y < x → ev_3w q x y = q.2.2) := by
  rw [ev_c3r]
  refine ⟨fun h => by rw [if_pos h], fun h => by rw [if_neg (by omega), if_pos h], fun h => by rw [if_neg (by omega), if_neg (by omega)]⟩
theorem es_ic {x : (Bool × Bool × Bool) × Nat} (C : ev_Cx p l e R s mm args below meth c m d dC dI ca cl gw nw A) (hm : ev_mok cl pg gw nw m) (hk : ev_Sn p l e R s mm args below meth c m dC dI ca cl pg gw nw A σ ρ0 n0 Q os k) (G : ev_G s m dC dI ca cl A σ ρ0 n0 ρ ls la w H locs) (hok : ev_okc cl pg gw nw m pc (ei_ic x :: r)) (h : ea_ic x call k m r ls st w = some outs) (hos : ∀ o ∈ outs, o ∈ os) : W p l e R s mm args below meth c H locs w.2.2.2.1 w.2.2.2.2 Q (F0 mm pc la (st.map (ev_cv σ ρ))) := by
  obtain ⟨hd, -, -, hs, hr⟩ := hok
  have hC := C
  obtain ⟨hx, hb, -⟩ := C
  have ht : (pc : Int) + ev_off m pc x.2 = (ev_pc m.1 x.2 : Int) := by unfold ev_off; omega
  match st, h with
  | .inl b :: .inl a :: s', h =>
    have h : Bool.rec (motive := fun _ => ev_R) (k r ls s' w) (k (ev_lb m.1 x.2) ls s' w) (ev_c3 x.1 a b) = some outs := h
    refine ev_cex hx hb hs hd ht (fun q => ?_) (fun q => ?_)
    · rw [ev_bi_of, ev_bi_of] at q
      rw [show ev_c3 x.1 a b = true from q] at h
      exact hk _ _ _ _ _ _ _ _ _ _ G (ev_okc_to hm x.2) h hos
    · rw [ev_bi_of, ev_bi_of] at q
      rw [show ev_c3 x.1 a b = false from q] at h
      exact hk _ _ _ _ _ _ _ _ _ _ G hr h hos
  | .inl b :: .inr (.inr (.inr (.inl t))) :: s', h =>
    obtain ⟨e', u, h1, h2, h3⟩ := ev_sp_ok G.2.1 (show ev_sp t (ev_bs b) w.2.2.1 (ev_to x.1.1 k m x.2 r ls s' w) (ev_to x.1.2.1 k m x.2 r ls s' w) (ev_to x.1.2.2 k m x.2 r ls s' w) = some outs from h)
    have T := ev_3tri x.1 (ev_bi (ev_ct σ t)) (ev_bs b)
    have hos' : ∀ o ∈ u, o ∈ os := fun o ho => hos o (h2 o ho)
    refine ev_cex hx hb hs hd ht (fun q => ?_) (fun q => ?_)
    · rw [ev_bi_of] at q
      rcases h3 with ⟨h4, h5⟩ | ⟨h4, h5⟩ | ⟨h4, h5⟩
      · exact (ev_to_ok hC hm hk G hr h1 h5 hos').1 ((T.1 h4).symm.trans q)
      · exact (ev_to_ok hC hm hk G hr h1 h5 hos').1 ((T.2.1 h4).symm.trans q)
      · exact (ev_to_ok hC hm hk G hr h1 h5 hos').1 ((T.2.2 h4).symm.trans q)
    · rw [ev_bi_of] at q
      rcases h3 with ⟨h4, h5⟩ | ⟨h4, h5⟩ | ⟨h4, h5⟩
      · exact (ev_to_ok hC hm hk G hr h1 h5 hos').2 ((T.1 h4).symm.trans q)
      · exact (ev_to_ok hC hm hk G hr h1 h5 hos').2 ((T.2.1 h4).symm.trans q)
      · exact (ev_to_ok hC hm hk G hr h1 h5 hos').2 ((T.2.2 h4).symm.trans q)
  | .inr (.inr (.inr (.inl t))) :: .inl a :: s', h =>
    obtain ⟨e', u, h1, h2, h3⟩ := ev_sp_ok G.2.1 (show ev_sp t (ev_bs a) w.2.2.1 (ev_to x.1.2.2 k m x.2 r ls s' w) (ev_to x.1.2.1 k m x.2 r ls s' w) (ev_to x.1.1 k m x.2 r ls s' w) = some outs from h)
    have T := ev_3tri x.1 (ev_bs a) (ev_bi (ev_ct σ t))
    have hos' : ∀ o ∈ u, o ∈ os := fun o ho => hos o (h2 o ho)
    refine ev_cex hx hb hs hd ht (fun q => ?_) (fun q => ?_)
    · rw [ev_bi_of] at q
      rcases h3 with ⟨h4, h5⟩ | ⟨h4, h5⟩ | ⟨h4, h5⟩
      · exact (ev_to_ok hC hm hk G hr h1 h5 hos').1 ((T.2.2 h4).symm.trans q)
      · exact (ev_to_ok hC hm hk G hr h1 h5 hos').1 ((T.2.1 h4.symm).symm.trans q)
      · exact (ev_to_ok hC hm hk G hr h1 h5 hos').1 ((T.1 h4).symm.trans q)
    · rw [ev_bi_of] at q
      rcases h3 with ⟨h4, h5⟩ | ⟨h4, h5⟩ | ⟨h4, h5⟩
      · exact (ev_to_ok hC hm hk G hr h1 h5 hos').2 ((T.2.2 h4).symm.trans q)
      · exact (ev_to_ok hC hm hk G hr h1 h5 hos').2 ((T.2.1 h4.symm).symm.trans q)
      · exact (ev_to_ok hC hm hk G hr h1 h5 hos').2 ((T.1 h4).symm.trans q)
theorem es_if {x : (Bool × Bool × Bool) × Nat} (C : ev_Cx p l e R s mm args below meth c m d dC dI ca cl gw nw A) (hm : ev_mok cl pg gw nw m) (hk : ev_Sn p l e R s mm args below meth c m dC dI ca cl pg gw nw A σ ρ0 n0 Q os k) (G : ev_G s m dC dI ca cl A σ ρ0 n0 ρ ls la w H locs) (hok : ev_okc cl pg gw nw m pc (ei_if x :: r)) (h : ea_if x call k m r ls st w = some outs) (hos : ∀ o ∈ outs, o ∈ os) : W p l e R s mm args below meth c H locs w.2.2.2.1 w.2.2.2.2 Q (F0 mm pc la (st.map (ev_cv σ ρ))) := by
  obtain ⟨hd, -, -, hs, hr⟩ := hok
  have hC := C
  obtain ⟨hx, hb, -⟩ := C
  have ht : (pc : Int) + ev_off m pc x.2 = (ev_pc m.1 x.2 : Int) := by unfold ev_off; omega
  have h0 : ev_bi 0 = ev_bs 0 := ev_bi_of 0
  match st, h with
  | .inl a :: s', h =>
    have h : Bool.rec (motive := fun _ => ev_R) (k r ls s' w) (k (ev_lb m.1 x.2) ls s' w) (ev_c3 x.1 a 0) = some outs := h
    refine ev_cex0 hx hb hs hd ht (fun q => ?_) (fun q => ?_)
    · rw [ev_bi_of, h0] at q
      rw [show ev_c3 x.1 a 0 = true from q] at h
      exact hk _ _ _ _ _ _ _ _ _ _ G (ev_okc_to hm x.2) h hos
    · rw [ev_bi_of, h0] at q
      rw [show ev_c3 x.1 a 0 = false from q] at h
      exact hk _ _ _ _ _ _ _ _ _ _ G hr h hos
  | .inr (.inr (.inr (.inl t))) :: s', h =>
    obtain ⟨e', u, h1, h2, h3⟩ := ev_sp_ok G.2.1 (show ev_sp t (ev_bs 0) w.2.2.1 (ev_to x.1.1 k m x.2 r ls s' w) (ev_to x.1.2.1 k m x.2 r ls s' w) (ev_to x.1.2.2 k m x.2 r ls s' w) = some outs from h)
    have T := ev_3tri x.1 (ev_bi (ev_ct σ t)) (ev_bs 0)
    have hos' : ∀ o ∈ u, o ∈ os := fun o ho => hos o (h2 o ho)
    refine ev_cex0 hx hb hs hd ht (fun q => ?_) (fun q => ?_)
    · rw [h0] at q
      rcases h3 with ⟨h4, h5⟩ | ⟨h4, h5⟩ | ⟨h4, h5⟩
      · exact (ev_to_ok hC hm hk G hr h1 h5 hos').1 ((T.1 h4).symm.trans q)
      · exact (ev_to_ok hC hm hk G hr h1 h5 hos').1 ((T.2.1 h4).symm.trans q)
      · exact (ev_to_ok hC hm hk G hr h1 h5 hos').1 ((T.2.2 h4).symm.trans q)
    · rw [h0] at q
      rcases h3 with ⟨h4, h5⟩ | ⟨h4, h5⟩ | ⟨h4, h5⟩
      · exact (ev_to_ok hC hm hk G hr h1 h5 hos').2 ((T.1 h4).symm.trans q)
      · exact (ev_to_ok hC hm hk G hr h1 h5 hos').2 ((T.2.1 h4).symm.trans q)
      · exact (ev_to_ok hC hm hk G hr h1 h5 hos').2 ((T.2.2 h4).symm.trans q)
theorem es_nn {x : Nat} (C : ev_Cx p l e R s mm args below meth c m d dC dI ca cl gw nw A) (hm : ev_mok cl pg gw nw m) (hk : ev_Sn p l e R s mm args below meth c m dC dI ca cl pg gw nw A σ ρ0 n0 Q os k) (G : ev_G s m dC dI ca cl A σ ρ0 n0 ρ ls la w H locs) (hok : ev_okc cl pg gw nw m pc (ei_nn x :: r)) (h : ea_nn x call k m r ls st w = some outs) (hos : ∀ o ∈ outs, o ∈ os) : W p l e R s mm args below meth c H locs w.2.2.2.1 w.2.2.2.2 Q (F0 mm pc la (st.map (ev_cv σ ρ))) := by
  obtain ⟨hd, -, -, hs, hr⟩ := hok
  obtain ⟨hx, hb, -⟩ := C
  have ht : (pc : Int) + ev_off m pc x = (ev_pc m.1 x : Int) := by unfold ev_off; omega
  unfold ea_nn at h
  match st, h with
  | .inr (.inl 0) :: s', h => exact lv_ifnonnullN hx hb hd (hk _ _ _ _ _ _ _ _ _ _ G hr h hos)
  | .inr (.inl (i + 1)) :: s', h => exact lv_ifnonnull hx hb hd ht (hk _ _ _ _ _ _ _ _ _ _ G (ev_okc_to hm x) h hos)
end EVB
end
section
/-! ===== switches, fields, arrays, new cells, ends ===== -/
def ev_kok (cl : List vw_C) (gw : List Jvm.Cond) : Prop := ∀ (ci : Nat) (q : vw_C), cl[ci]? = some q → (∀ w ∈ u_ws q.1 q.2.1 q.2.2, w ∈ gw) ∧ ∃ ty0 : Nat → FieldType, (∀ k, k < q.2.2 → parseFieldDescriptor (q.2.1 k).2.2.1 = some (ty0 k)) ∧ (∀ a, a < q.2.2 → ∀ b, b < q.2.2 → a ≠ b → (q.2.1 a).2.1 ≠ (q.2.1 b).2.1)
theorem ev_kd_some {cl : List vw_C} {ci : Nat} (h : (cl[ci]?).isSome = true) : cl[ci]? = some (ev_kd cl ci) := by
  unfold ev_kd
  rw [List.getD_eq_getElem?_getD]
  cases hc : cl[ci]? with
  | none => rw [hc] at h; cases h
  | some q => rfl
theorem ev_band {x y : Bool} (h : Bool.and x y = true) : x = true ∧ y = true := by
  cases x <;> cases y <;> first | exact ⟨rfl, rfl⟩ | cases h
theorem ev_ite {b : Bool} {x : ev_R} {outs : List ev_O} (h : Bool.rec (motive := fun _ => ev_R) none x b = some outs) : b = true ∧ x = some outs := by
  cases b with
  | true => exact ⟨rfl, h⟩
  | false => cases h
theorem ev_nu_ne {v : ev_V} (h : ev_nu v = true) : v ≠ ev_U := by
  rintro rfl
  cases h
theorem ev_cell_some {v : ev_V} {f : Nat → ev_R} {outs : List ev_O} (h : ev_cell v f = some outs) : ∃ i, v = .inr (.inl (i + 1)) ∧ f i = some outs := by
  match v, h with
  | .inr (.inl (i + 1)), h => exact ⟨i, rfl, h⟩
theorem ev_tyq {ca : Nat → ClassId} {q : Nat} (h : q < 4) : (ev_ty ca)[q]? = some (ca q, ev_aty q) := by
  match q, h with
  | 0, _ => rfl
  | 1, _ => rfl
  | 2, _ => rfl
  | 3, _ => rfl
theorem ev_in {j n : Nat} (h1 : j < n) (h2 : j ≤ 2147483647) : vp_in (Int32.ofNat j) n := by
  have e : (Int32.ofNat j).toNatClampNeg = j := nI_clamp (by omega)
  rintro (q | q)
  · exact nI_pos (n := j) (by omega) q
  · omega
theorem ev_clamp {j : Nat} (h2 : j ≤ 2147483647) : (Int32.ofNat j).toNatClampNeg = j := nI_clamp (by omega)
theorem ev_cat_ok (σ : Nat → Int32) (ρ : Nat → Nat) (l : List ev_V) : ((l.map (ev_cv σ ρ)).map (fun v => v.category)).sum = ev_cat l := by
  induction l with
  | nil => rfl
  | cons v r ih =>
    rw [List.map_cons, List.map_cons, List.sum_cons, ih]
    show _ = Bool.rec (motive := fun _ => Nat) (Nat.succ (ev_cat r)) (Nat.succ (Nat.succ (ev_cat r))) (ev_isl v)
    cases hv : ev_isl v with
    | false => rw [ev_isl_cat hv]; exact Nat.add_comm 1 _
    | true =>
      match v, hv with
      | .inr (.inr (.inl n)), _ => exact Nat.add_comm 2 _
theorem ev_pr_cl {σ : Nat → Int32} {ρ ρ' : Nat → Nat} {n : Nat} (hr : ∀ i, i < n → ρ' i = ρ i) {l : List ev_V} (hv : l.all (ev_clV n) = true) : ∀ k, ev_pr σ ρ' k l = ev_pr σ ρ k l := by
  induction l with
  | nil => intro k; rfl
  | cons v r ih =>
    intro k
    rw [List.all_cons, Bool.and_eq_true] at hv
    by_cases hu : v = ev_U
    · subst hu
      exact ih hv.2 (k + 1)
    · rw [ev_pr_cons _ _ _ _ _ hu, ev_pr_cons _ _ _ _ _ hu, ih hv.2 (k + 1), ev_cv_cl hr hv.1]
theorem ev_b0 : narrow .boolean (.int (Int32.ofNat 0)) = .int (Int32.ofNat 0) ∧ fits .boolean (.int (Int32.ofNat 0)) = true := by decide +kernel
theorem ev_b1 : narrow .boolean (.int (Int32.ofNat 1)) = .int (Int32.ofNat 1) ∧ fits .boolean (.int (Int32.ofNat 1)) = true := by decide +kernel
theorem ev_fit_ok {σ : Nat → Int32} {ρ : Nat → Nat} {ty : FieldType} {q : Nat} {v : ev_V} (h1 : ev_fk ty = q) (h2 : ev_fit q v = true) : narrow ty (ev_cv σ ρ v) = ev_cv σ ρ v ∧ fits ty (ev_cv σ ρ v) = true := by
  subst h1
  match ty, v, h2 with
  | .int, .inl n, _ => exact ⟨rfl, rfl⟩
  | .int, .inr (.inr (.inr (.inl t))), _ => exact ⟨rfl, rfl⟩
  | .boolean, .inl 0, _ => exact ev_b0
  | .boolean, .inl 1, _ => exact ev_b1
  | .long, .inr (.inr (.inl n)), _ => exact ⟨rfl, rfl⟩
  | .object _, .inr (.inl 0), _ => exact ⟨rfl, rfl⟩
  | .object _, .inr (.inl (_ + 1)), _ => exact ⟨rfl, rfl⟩
  | .array _, .inr (.inl 0), _ => exact ⟨rfl, rfl⟩
  | .array _, .inr (.inl (_ + 1)), _ => exact ⟨rfl, rfl⟩
theorem ev_cf_set (σ : Nat → Int32) (M j v : Nat) : ev_cf σ (ev_sm 32 M j v) [] = upd (ev_cf σ M []) j (Int32.ofNat v) := by
  funext i
  show Int32.ofNat (ev_gm 32 (ev_sm 32 M j v) i) = if i = j then Int32.ofNat v else Int32.ofNat (ev_gm 32 M i)
  rw [ev_gm_sm]
  by_cases h : i = j
  · rw [if_pos h, if_pos h]
    exact ev_md v
  · rw [if_neg h, if_neg h]
theorem ev_cf_ov (σ : Nat → Int32) (M j : Nat) (v : ev_V) (ov : List (Nat × ev_V)) : ev_cf σ M ((j, v) :: ov) = upd (ev_cf σ M ov) j (ev_ci σ v) := by
  funext i
  unfold ev_cf upd
  by_cases h : i = j
  · subst h
    rw [if_pos rfl, List.find?_cons_of_pos (by simp)]
  · rw [if_neg h, List.find?_cons_of_neg (by simpa using Ne.symm h)]
theorem ev_cl_set (M j v : Nat) : (fun i => Int64.ofNat (ev_gm 64 (ev_sm 64 M j v) i)) = vp_updL (fun i => Int64.ofNat (ev_gm 64 M i)) j (Int64.ofNat v) := by
  funext i
  show Int64.ofNat (ev_gm 64 (ev_sm 64 M j v) i) = if i = j then Int64.ofNat v else Int64.ofNat (ev_gm 64 M i)
  rw [ev_gm_sm]
  by_cases h : i = j
  · rw [if_pos h, if_pos h]
    exact ev_mdl v
  · rw [if_neg h, if_neg h]
theorem ev_fo_eq (M : Nat) (f : Nat → ev_R) : ev_fo M f = f M := by
  cases M <;> rfl
/-- what an array of a kind keeps -/
def ev_keep (q : Nat) (x : Int32) : Int32 := match q with
  | 0 => x
  | 2 => vp_nar .boolean x
  | _ => vp_nar .byte x
theorem ev_nar_ok {q : Nat} (hq : q < 4) (v : Nat) : ev_keep q (Int32.ofNat v) = Int32.ofNat (ev_nar q v) := by
  match q, hq with
  | 0, _ => rfl
  | 2, _ => exact ev_and v 1
  | 1, _ => exact (vp_nar_byte _).trans (ev_i2b_ok v)
  | 3, _ => exact (vp_nar_byte _).trans (ev_i2b_ok v)
theorem ev_nat_ok {q : Nat} (hq : q < 4) (σ : Nat → Int32) (t : ev_T) : ev_keep q (ev_ct σ t) = ev_ct σ (ev_nat q t) := by
  match q, hq with
  | 0, _ => rfl
  | 2, _ => rfl
  | 1, _ => rfl
  | 3, _ => rfl
theorem ev_lt_eq (l : List Nat) : ∀ (dd j : Nat), ev_lt l dd j = l.getD j dd := by
  induction l with
  | nil => intro dd j; rfl
  | cons a r ih =>
    intro dd j
    cases j with
    | zero => rfl
    | succ j => exact (ih dd j).trans (by simp)
theorem ev_tk_ok {σ : Nat → Int32} {t : ev_T} {f : Nat → ev_E → ev_R} (dd : Nat) (l : List Nat) : ∀ (e : ev_E) (y : Nat) (outs : List ev_O), ev_sat σ e → ev_tk l dd t e f y = some outs → ∃ e' u, ev_sat σ e' ∧ (∀ o ∈ u, o ∈ outs) ∧ f (if ev_bi (ev_ct σ t) < y then dd else l.getD (ev_bi (ev_ct σ t) - y) dd) e' = some u := by
  induction l with
  | nil =>
    intro e y outs hs h
    refine ⟨e, outs, hs, fun o ho => ho, ?_⟩
    rw [show (if ev_bi (ev_ct σ t) < y then dd else ([] : List Nat).getD (ev_bi (ev_ct σ t) - y) dd) = dd by split <;> rfl]
    exact h
  | cons b r ih =>
    intro e y outs hs h
    obtain ⟨e', u, h1, h2, h3⟩ := ev_sp_ok hs (show ev_sp t y e (fun e' => f dd e') (fun e' => f b e') (fun e' => ev_tk r dd t e' f (y + 1)) = some outs from h)
    rcases h3 with ⟨h4, h5⟩ | ⟨h4, h5⟩ | ⟨h4, h5⟩
    · exact ⟨e', u, h1, h2, by rw [if_pos h4]; exact h5⟩
    · refine ⟨e', u, h1, h2, ?_⟩
      rw [if_neg (by omega), h4, Nat.sub_self]
      exact h5
    · obtain ⟨e2, u2, g1, g2, g3⟩ := ih e' (y + 1) u h1 h5
      refine ⟨e2, u2, g1, fun o ho => h2 o (g2 o ho), ?_⟩
      rw [if_neg (by omega)] at g3 ⊢
      rw [show ev_bi (ev_ct σ t) - y = (ev_bi (ev_ct σ t) - (y + 1)) + 1 by omega]
      exact g3
section EVC
variable {p : Program} {l : Launch} {e : Env} {R : Room} {s : State} {mm : MethodId} {args : Array Value} {below : List Frame} {meth : Method} {c : Code}
variable {m : ev_M} {d n0 : Nat} {dC : Nat → ClassId} {dI : Nat → Nat → Nat} {ca : Nat → ClassId} {cl : List vw_C} {pg : List ev_M} {gw nw : List Jvm.Cond} {A : Nat → Prop} {σ : Nat → Int32} {ρ0 : Nat → Nat} {Q : State → Prop} {os outs : List ev_O}
variable {call : ev_Q} {k : ev_K} {r : List ev_I} {ls st : List ev_V} {w : ev_Wd} {pc : Nat} {la : Array Slot} {ρ : Nat → Nat} {H : Heap} {locs : List Loc}
theorem ev_twx {cc : ByteArray} {rest : List Value} {cells slots len x1 dd : Nat} {tg : List Nat} {x : Int32} (hx : p.tables.exec = Jvm.exec) (hb : c.code = cc) (hd : decode cc pc = .ok (.tableswitch (ev_off m pc dd) ((x1 : Int) - 2147483648) ((x1 : Int) - 2147483648 + (tg.length : Int) - 1) (tg.map (ev_off m pc)).toArray, len)) (kk : W p l e R s mm args below meth c H locs cells slots Q (F0 mm (ev_pc m.1 (if ev_bi x < x1 then dd else tg.getD (ev_bi x - x1) dd)) la rest)) : W p l e R s mm args below meth c H locs cells slots Q (F0 mm pc la (.int x :: rest)) := by
  have hb1 := Int32.le_toInt x
  have e1 : (ev_bi x : Int) = x.toInt + 2147483648 := by unfold ev_bi; omega
  have ht : ∀ t, (pc : Int) + ev_off m pc t = (ev_pc m.1 t : Int) := fun t => by unfold ev_off; omega
  by_cases h1 : ev_bi x < x1
  · rw [if_pos h1] at kk
    exact lv_tableOut hx hb hd (Or.inl (by omega)) (ht dd) kk
  · rw [if_neg h1] at kk
    by_cases h2 : ev_bi x - x1 < tg.length
    · have e2 : (x.toInt - ((x1 : Int) - 2147483648)).toNat = ev_bi x - x1 := by omega
      refine lv_tableIn (off := ev_off m pc (tg.getD (ev_bi x - x1) dd)) hx hb hd (by omega) (by omega) ?_ (ht _) kk
      rw [e2]
      simp [List.getD_eq_getElem?_getD, h2]
    · have e3 : tg.getD (ev_bi x - x1) dd = dd := by
        rw [List.getD_eq_getElem?_getD, List.getElem?_eq_none (by omega)]
        rfl
      rw [e3] at kk
      exact lv_tableOut hx hb hd (Or.inr (by omega)) (ht dd) kk
theorem es_tw {x : Nat × Nat × List Nat × Nat} (C : ev_Cx p l e R s mm args below meth c m d dC dI ca cl gw nw A) (hm : ev_mok cl pg gw nw m) (hk : ev_Sn p l e R s mm args below meth c m dC dI ca cl pg gw nw A σ ρ0 n0 Q os k) (G : ev_G s m dC dI ca cl A σ ρ0 n0 ρ ls la w H locs) (hok : ev_okc cl pg gw nw m pc (ei_tw x :: r)) (h : ea_tw x call k m r ls st w = some outs) (hos : ∀ o ∈ outs, o ∈ os) : W p l e R s mm args below meth c H locs w.2.2.2.1 w.2.2.2.2 Q (F0 mm pc la (st.map (ev_cv σ ρ))) := by
  obtain ⟨hd, -, -, hs, hr⟩ := hok
  obtain ⟨hx, hb, -⟩ := C
  unfold ea_tw at h
  match st, h with
  | .inl v :: s', h =>
    refine ev_twx hx hb hd ?_
    rw [ev_bi_of]
    have h : Bool.rec (motive := fun _ => ev_R) (k (ev_lb m.1 x.2.1) ls s' w) (k (ev_lb m.1 (ev_lt x.2.2.1 x.2.1 (Nat.sub (ev_bs v) x.1))) ls s' w) (Nat.ble x.1 (ev_bs v)) = some outs := h
    cases hq : Nat.ble x.1 (ev_bs v) with
    | false =>
      rw [hq] at h
      rw [if_pos (ev_blef.mp hq)]
      exact hk _ _ _ _ _ _ _ _ _ _ G (ev_okc_to hm _) h hos
    | true =>
      rw [hq] at h
      have := Nat.le_of_ble_eq_true hq
      rw [if_neg (by omega), ← ev_lt_eq]
      exact hk _ _ _ _ _ _ _ _ _ _ G (ev_okc_to hm _) h hos
  | .inr (.inr (.inr (.inl t))) :: s', h =>
    obtain ⟨e', u, h1, h2, h3⟩ := ev_tk_ok x.2.1 x.2.2.1 _ _ _ G.2.1 h
    exact ev_twx hx hb hd (hk _ _ _ (ev_we w e') _ _ _ _ _ _ (G.env h1) (ev_okc_to hm _) h3 (fun o ho => hos o (h2 o ho)))
theorem es_gf {x : Nat × Nat × Nat × Nat} (hkk : ev_kok cl gw) (C : ev_Cx p l e R s mm args below meth c m d dC dI ca cl gw nw A) (hm : ev_mok cl pg gw nw m) (hk : ev_Sn p l e R s mm args below meth c m dC dI ca cl pg gw nw A σ ρ0 n0 Q os k) (G : ev_G s m dC dI ca cl A σ ρ0 n0 ρ ls la w H locs) (hok : ev_okc cl pg gw nw m pc (ei_gf x :: r)) (h : ea_gf x call k m r ls st w = some outs) (hos : ∀ o ∈ outs, o ∈ os) : W p l e R s mm args below meth c H locs w.2.2.2.1 w.2.2.2.2 Q (F0 mm pc la (st.map (ev_cv σ ρ))) := by
  obtain ⟨hd, hw, hn, hs, hr⟩ := hok
  obtain ⟨hs1, hs2⟩ := ev_band (show Bool.and (decide (x.2.1 < (ev_kd cl x.1).2.2)) (cl[x.1]?).isSome = true from hs)
  have hs1 : x.2.1 < (ev_kd cl x.1).2.2 := of_decide_eq_true hs1
  have hc := ev_kd_some hs2
  obtain ⟨hx, hb, -, -, -, hown, -, hts, hK, hN, -⟩ := C
  obtain ⟨hki, -⟩ := hkk _ _ hc
  have hin : ∀ w ∈ u_ws (ev_kd cl x.1).1 (ev_kd cl x.1).2.1 (ev_kd cl x.1).2.2, w ∈ ev_ws gw m := fun w h => List.mem_cons_of_mem _ (hki w h)
  cases st with
  | nil => cases h
  | cons v s' =>
    obtain ⟨i, rfl, h'⟩ := ev_cell_some (show ev_cell v (ea_gf2 x k r ls s' w) = some outs from h)
    unfold ea_gf2 at h'
    match ho : ev_tg 7 w.1 i, h' with
    | .inl o, h =>
      obtain ⟨hc2, h⟩ := ev_ite (show Bool.rec (motive := fun _ => ev_R) none _ _ = some outs from h)
      obtain ⟨c1, c2⟩ := ev_band hc2
      obtain ⟨c2, c3⟩ := ev_band c2
      have c2 : o.1 = x.1 := ev_beq.mp c2
      have c3 : i < w.2.1 := Nat.le_of_ble_eq_true c3
      have he : (ev_wl σ ρ ca w.1 w.2.1)[i]? = some (ρ i, .inr (x.1, o.2.map (ev_cv σ ρ))) := by
        rw [ev_wl_get c3, ho, ← c2]
        rfl
      have hv : (o.2.map (ev_cv σ ρ))[x.2.1]? = some (ev_cv σ ρ (ev_ln o.2 x.2.1)) := by
        rw [List.getElem?_map, ev_ln_some rfl (ev_nu_ne c1)]
        rfl
      have K := hk _ _ _ _ _ _ _ _ _ _ G hr h hos
      by_cases h0 : x.2.2.2 = 0
      · have hw : ∀ w ∈ (if x.2.2.2 = 0 then [ev_fl (ev_own m) x.2.2.1 (ev_kd cl x.1) x.2.1] else []), w ∈ gw := hw
        rw [if_pos h0] at hw
        exact va_get hx hb hts hin hown hK G.2.2.2.1 i he hc x.2.1 hs1 (hts _ (List.mem_cons_of_mem _ (hw _ List.mem_cons_self))) (fun _ z => z) hv hd K
      · have hn : ∀ w ∈ (if x.2.2.2 = 0 then [] else [Jvm.Cond.fieldLinkNest (ev_own m) x.2.2.1 ((ev_kd cl x.1).2.1 x.2.1).1 ((ev_kd cl x.1).2.1 x.2.1).2.1 ((ev_kd cl x.1).2.1 x.2.1).2.2.1 "RegisterColours"]), w ∈ nw := hn
        rw [if_neg h0] at hn
        exact va_getN hx hb hts hin hown hK G.2.2.2.1 i he hc x.2.1 hs1 (va_Nw.use rfl (hN _ (hn _ List.mem_cons_self))) (fun _ z => z) hv hd K
    | .inr _, h => cases h
theorem ev_G.put (G : ev_G s m dC dI ca cl A σ ρ0 n0 ρ ls la w H locs) {H1 : Heap} {locs1 : List Loc} {i : Nat} {cc : ev_C} (hi : i < w.2.1) (h1 : va_P (dC, dI) cl ((ev_wl σ ρ ca w.1 w.2.1).set i (ρ i, ev_ce σ ρ ca cc)) H1) (h2 : va_D A ((ev_wl σ ρ ca w.1 w.2.1).set i (ρ i, ev_ce σ ρ ca cc))) (h3 : va_S A s.heap H1 locs1) : ev_G s m dC dI ca cl A σ ρ0 n0 ρ ls la (ev_ts 7 w.1 i cc, w.2) H1 locs1 := by
  rw [← ev_wl_set hi G.2.2.1.2.1] at h1 h2
  exact ⟨G.1, G.2.1, G.2.2.1, h1, h2, h3⟩
theorem es_pf {x : Nat × Nat × Nat × Nat × Nat} (hkk : ev_kok cl gw) (C : ev_Cx p l e R s mm args below meth c m d dC dI ca cl gw nw A) (hm : ev_mok cl pg gw nw m) (hk : ev_Sn p l e R s mm args below meth c m dC dI ca cl pg gw nw A σ ρ0 n0 Q os k) (G : ev_G s m dC dI ca cl A σ ρ0 n0 ρ ls la w H locs) (hok : ev_okc cl pg gw nw m pc (ei_pf x :: r)) (h : ea_pf x call k m r ls st w = some outs) (hos : ∀ o ∈ outs, o ∈ os) : W p l e R s mm args below meth c H locs w.2.2.2.1 w.2.2.2.2 Q (F0 mm pc la (st.map (ev_cv σ ρ))) := by
  have hok0 := hok
  obtain ⟨hd, hw, -, hs, hr⟩ := hok
  obtain ⟨hs, hs3⟩ := ev_band (show Bool.and (Bool.and (ev_spf m (ev_kd cl x.1) x.2.1 x.2.2.1) (decide (x.2.2.2.2 = 0))) (cl[x.1]?).isSome = true from hs)
  obtain ⟨hs, -⟩ := ev_band hs
  obtain ⟨hs, hsf⟩ := ev_band (show Bool.and (Bool.and _ _) _ = true from hs)
  obtain ⟨hs1, hs2⟩ := ev_band (show Bool.and _ _ = true from hs)
  have hs1 : x.2.1 < (ev_kd cl x.1).2.2 := of_decide_eq_true hs1
  have hc := ev_kd_some hs3
  obtain ⟨hx, hb, -, -, -, hown, hname, hts, hK, -⟩ := C
  obtain ⟨hki, ty0, hty, hnm⟩ := hkk _ _ hc
  have hin : ∀ w ∈ u_ws (ev_kd cl x.1).1 (ev_kd cl x.1).2.1 (ev_kd cl x.1).2.2, w ∈ ev_ws gw m := fun w h => List.mem_cons_of_mem _ (hki w h)
  have hlink : (ev_fl (ev_own m) x.2.2.2.1 (ev_kd cl x.1) x.2.1).before args s = true := hts _ (List.mem_cons_of_mem _ (hw _ List.mem_cons_self))
  have hfk : ev_fk (ty0 x.2.1) = x.2.2.1 := by
    rw [hty _ hs1] at hs2
    exact of_decide_eq_true hs2
  unfold ea_pf at h
  match st, h with
  | v :: u :: s', h =>
    obtain ⟨i, rfl, h'⟩ := ev_cell_some (show ev_cell u (ea_pf2 x k r ls s' w v) = some outs from h)
    unfold ea_pf2 at h'
    match ho : ev_tg 7 w.1 i, h' with
    | .inr _, h => cases h
    | .inl o, h =>
      have h : Bool.rec (motive := fun _ => ev_R) (ea_pf4 x k r ls s' w v i) (k r ls s' (ev_ts 7 w.1 i (.inl (o.1, ev_lp o.2 x.2.1 v)), w.2)) (Bool.and (ev_nu (ev_ln o.2 x.2.1)) (Bool.and (Nat.beq o.1 x.1) (Bool.and (Nat.ble (Nat.succ i) w.2.1) (ev_fit x.2.2.1 v)))) = some outs := h
      cases hq : Bool.and (ev_nu (ev_ln o.2 x.2.1)) (Bool.and (Nat.beq o.1 x.1) (Bool.and (Nat.ble (Nat.succ i) w.2.1) (ev_fit x.2.2.1 v))) with
      | false =>
        rw [hq] at h
        unfold ea_pf4 at h
        match v, h with
        | .inr (.inr (.inr (.inl t))), h =>
          obtain ⟨-, h⟩ := ev_ite h
          obtain ⟨v', e', u, h1, h2, h3, h4⟩ := ev_rs_ok G.2.1 h
          have K := hk _ _ _ (ev_we w e') _ _ _ _ _ _ (G.env h4) hok0 h1 (fun o ho => hos o (h2 o ho))
          show W p l e R s mm args below meth c H locs w.2.2.2.1 w.2.2.2.2 Q (F0 mm pc la (.int (ev_ct σ t) :: .ref (ρ i) :: s'.map (ev_cv σ ρ)))
          rw [← h3]
          exact K
      | true =>
        rw [hq] at h
        obtain ⟨c1, c2⟩ := ev_band hq
        obtain ⟨c2, c3⟩ := ev_band c2
        obtain ⟨c3, c4⟩ := ev_band c3
        have c2 : o.1 = x.1 := ev_beq.mp c2
        have c3 : i < w.2.1 := Nat.le_of_ble_eq_true c3
        have he : (ev_wl σ ρ ca w.1 w.2.1)[i]? = some (ρ i, .inr (x.1, o.2.map (ev_cv σ ρ))) := by
          rw [ev_wl_get c3, ho, ← c2]
          rfl
        have hl : x.2.1 < (o.2.map (ev_cv σ ρ)).length := by
          rw [List.length_map]
          exact (List.getElem?_eq_some_iff.mp (ev_ln_some rfl (ev_nu_ne c1))).1
        obtain ⟨f1, f2⟩ := ev_fit_ok (σ := σ) (ρ := ρ) hfk c4
        have ec : (Sum.inr (x.1, (o.2.map (ev_cv σ ρ)).set x.2.1 (ev_cv σ ρ v)) : va_E) = ev_ce σ ρ ca (.inl (o.1, ev_lp o.2 x.2.1 v)) := by
          show _ = (Sum.inr (o.1, (ev_lp o.2 x.2.1 v).map (ev_cv σ ρ)) : va_E)
          rw [ev_lp_eq, List.map_set, c2]
        have K : ∀ (H1 : Heap) (locs1 : List Loc), va_P (dC, dI) cl ((ev_wl σ ρ ca w.1 w.2.1).set i (ρ i, .inr (x.1, (o.2.map (ev_cv σ ρ)).set x.2.1 (ev_cv σ ρ v)))) H1 → va_D A ((ev_wl σ ρ ca w.1 w.2.1).set i (ρ i, .inr (x.1, (o.2.map (ev_cv σ ρ)).set x.2.1 (ev_cv σ ρ v)))) → va_S A s.heap H1 locs1 → W p l e R s mm args below meth c H1 locs1 w.2.2.2.1 w.2.2.2.2 Q (F0 mm (pc + 3) la (s'.map (ev_cv σ ρ))) := by
          intro H1 locs1 k1 k2 k3
          rw [ec] at k1 k2
          exact hk _ _ _ (ev_ts 7 w.1 i (.inl (o.1, ev_lp o.2 x.2.1 v)), w.2) _ _ _ _ _ _ (G.put c3 k1 k2 k3) hr h hos
        cases hf : ((ev_kd cl x.1).2.1 x.2.1).2.2.2 with
        | false => exact va_put hx hb hts hin ty0 hty hnm hown hK G.2.2.2.1 G.2.2.2.2.1 G.2.2.2.2.2 i he hc x.2.1 hs1 hlink (fun _ z => z) hf (hty _ hs1) f1 f2 hl hd K
        | true =>
          rw [hf] at hsf
          obtain ⟨g1, g2⟩ := ev_band (show Bool.and _ _ = true from hsf)
          exact va_putF hx hb hts hin ty0 hty hnm hown hK G.2.2.2.1 G.2.2.2.2.1 G.2.2.2.2.2 i he hc x.2.1 hs1 hlink (fun _ z => z) hf (hname.trans (of_decide_eq_true g1)) (of_decide_eq_true g2) (hty _ hs1) f1 f2 hl hd K
end EVC
end
section
/-! ===== arrays, new cells, copies, ends ===== -/
theorem ev_ix_ok {q i j : Nat} {w : ev_Wd} {a : Nat × Nat × Nat × List (Nat × ev_V)} (h : ev_ix q i j w a = true) : j < a.2.1 ∧ a.1 = q ∧ i < w.2.1 ∧ j ≤ 2147483647 := by
  obtain ⟨h1, h2⟩ := ev_band h
  obtain ⟨h2, h3⟩ := ev_band h2
  obtain ⟨h3, h4⟩ := ev_band h3
  exact ⟨Nat.le_of_ble_eq_true h1, ev_beq.mp h2, Nat.le_of_ble_eq_true h3, Nat.le_of_ble_eq_true h4⟩
theorem ev_nil_ok {l : List (Nat × ev_V)} (h : ev_nil l = true) : l = [] := by
  cases l with
  | nil => rfl
  | cons _ _ => cases h
theorem ev_ca_i (σ : Nat → Int32) {q : Nat} (hq : q ≠ 1) (M : Nat) (ov : List (Nat × ev_V)) : ev_ca σ q M ov = .inl (ev_cf σ M ov) := by
  match q, hq with
  | 0, _ => rfl
  | 1, h => exact absurd rfl h
  | _ + 2, _ => rfl
theorem ev_notb {b : Bool} (h : Bool.not b = true) : b = false := by
  cases b with
  | false => rfl
  | true => cases h
section EVD
variable {p : Program} {l : Launch} {e : Env} {R : Room} {s : State} {mm : MethodId} {args : Array Value} {below : List Frame} {meth : Method} {c : Code}
variable {m : ev_M} {d n0 : Nat} {dC : Nat → ClassId} {dI : Nat → Nat → Nat} {ca : Nat → ClassId} {cl : List vw_C} {pg : List ev_M} {gw nw : List Jvm.Cond} {A : Nat → Prop} {σ : Nat → Int32} {ρ0 : Nat → Nat} {Q : State → Prop} {os outs : List ev_O}
variable {call : ev_Q} {k : ev_K} {r : List ev_I} {ls st : List ev_V} {w : ev_Wd} {pc : Nat} {la : Array Slot} {ρ : Nat → Nat} {H : Heap} {locs : List Loc}
section
variable {cc : ByteArray} {rest : List Value} {cells slots : Nat}
theorem ev_alx {q i j n M : Nat} (hq : q < 4) (hx : p.tables.exec = Jvm.exec) (hb : c.code = cc) (hK : va_K (dC, dI) cl (ev_ty ca) s) (hP : va_P (dC, dI) cl (ev_wl σ ρ ca w.1 w.2.1) H) (hi : i < w.2.1) (hc : ev_tg 7 w.1 i = .inr (q, n, M, [])) (h1 : j < n) (h2 : j ≤ 2147483647) (hd : decode cc pc = .ok (ev_xal q, 1)) (kk : W p l e R s mm args below meth c H locs cells slots Q (F0 mm (pc + 1) la (ev_cv σ ρ (Bool.rec (motive := fun _ => ev_V) (.inl (ev_gm 32 M j)) (.inr (.inr (.inl (ev_gm 64 M j)))) (Nat.beq q 1)) :: rest))) : W p l e R s mm args below meth c H locs cells slots Q (F0 mm pc la (.int (Int32.ofNat j) :: .ref (ρ i) :: rest)) := by
  have he : (ev_wl σ ρ ca w.1 w.2.1)[i]? = some (ρ i, .inl (ca q, n, ev_ca σ q M [])) := by
    rw [ev_wl_get hi, hc]
    rfl
  have hin := ev_in h1 h2
  have ec := ev_clamp h2
  match q, hq, he, hd, kk with
  | 0, _, he, hd, kk =>
    refine va_iald hx hb hK hP i 0 he rfl hin hd ?_
    rw [ec]
    exact kk
  | 1, _, he, hd, kk =>
    refine va_lald hx hb hK hP i 1 he rfl hin hd ?_
    rw [ec]
    exact kk
  | 2, _, he, hd, kk =>
    refine va_zald hx hb hK hP i 2 he rfl hin hd ?_
    rw [ec]
    exact kk
  | 3, _, he, hd, kk =>
    refine va_bald hx hb hK hP i 3 he rfl hin hd ?_
    rw [ec]
    exact kk
theorem ev_asx {q i j n : Nat} {x : Int32} {f f' : Nat → Int32} (hq : q < 4) (hq1 : q ≠ 1) (hx : p.tables.exec = Jvm.exec) (hb : c.code = cc) (hK : va_K (dC, dI) cl (ev_ty ca) s) (hP : va_P (dC, dI) cl (ev_wl σ ρ ca w.1 w.2.1) H) (hD : va_D A (ev_wl σ ρ ca w.1 w.2.1)) (hS : va_S A s.heap H locs) (he : (ev_wl σ ρ ca w.1 w.2.1)[i]? = some (ρ i, .inl (ca q, n, .inl f))) (h1 : j < n) (h2 : j ≤ 2147483647) (hf : f' = upd f j (ev_keep q x)) (hd : decode cc pc = .ok (ev_xas q, 1))
    (kk : ∀ (H1 : Heap) (locs1 : List Loc), va_P (dC, dI) cl ((ev_wl σ ρ ca w.1 w.2.1).set i (ρ i, .inl (ca q, n, .inl f'))) H1 → va_D A ((ev_wl σ ρ ca w.1 w.2.1).set i (ρ i, .inl (ca q, n, .inl f'))) → va_S A s.heap H1 locs1 → W p l e R s mm args below meth c H1 locs1 cells slots Q (F0 mm (pc + 1) la rest)) : W p l e R s mm args below meth c H locs cells slots Q (F0 mm pc la (.int x :: .int (Int32.ofNat j) :: .ref (ρ i) :: rest)) := by
  have hin := ev_in h1 h2
  have ec := ev_clamp h2
  rw [← ec] at hf
  subst hf
  match q, hq, hq1, he, hd, kk with
  | 0, _, _, he, hd, kk => exact va_iast hx hb hK hP hD hS i 0 he rfl hin hd kk
  | 1, _, h, _, _, _ => exact absurd rfl h
  | 2, _, _, he, hd, kk => exact va_zast hx hb hK hP hD hS i 2 he rfl hin hd kk
  | 3, _, _, he, hd, kk => exact va_bast hx hb hK hP hD hS i 3 he rfl hin hd kk
end
theorem es_al {x : Nat} (C : ev_Cx p l e R s mm args below meth c m d dC dI ca cl gw nw A) (hm : ev_mok cl pg gw nw m) (hk : ev_Sn p l e R s mm args below meth c m dC dI ca cl pg gw nw A σ ρ0 n0 Q os k) (G : ev_G s m dC dI ca cl A σ ρ0 n0 ρ ls la w H locs) (hok : ev_okc cl pg gw nw m pc (ei_al x :: r)) (h : ea_al x call k m r ls st w = some outs) (hos : ∀ o ∈ outs, o ∈ os) : W p l e R s mm args below meth c H locs w.2.2.2.1 w.2.2.2.2 Q (F0 mm pc la (st.map (ev_cv σ ρ))) := by
  have hok0 := hok
  obtain ⟨hd, -, -, hs, hr⟩ := hok
  have hs : x < 4 := of_decide_eq_true hs
  obtain ⟨hx, hb, -, -, -, -, -, -, hK, -⟩ := C
  match st, h with
  | .inr (.inr (.inr (.inl t))) :: s', h =>
    obtain ⟨v', e', u, h1, h2, h3, h4⟩ := ev_rs_ok G.2.1 (show ev_rs t w.2.2.1 (fun v e => k (ei_al x :: r) ls (.inl v :: s') (ev_we w e)) = some outs from h)
    have K := hk _ _ _ (ev_we w e') _ _ _ _ _ _ (G.env h4) hok0 h1 (fun o ho => hos o (h2 o ho))
    show W p l e R s mm args below meth c H locs w.2.2.2.1 w.2.2.2.2 Q (F0 mm pc la (.int (ev_ct σ t) :: s'.map (ev_cv σ ρ)))
    rw [← h3]
    exact K
  | .inl j :: v :: s', h =>
    obtain ⟨i, rfl, h'⟩ := ev_cell_some (show ev_cell v (ea_al2 x k r ls s' w j) = some outs from h)
    unfold ea_al2 at h'
    match ho : ev_tg 7 w.1 i, h' with
    | .inl _, h => cases h
    | .inr (q', n, M, ov), h =>
      obtain ⟨hc, h⟩ := ev_ite (show Bool.rec (motive := fun _ => ev_R) none _ _ = some outs from h)
      obtain ⟨c1, c2⟩ := ev_band hc
      obtain ⟨d1, d2, d3, d4⟩ := ev_ix_ok c1
      have d2 : q' = x := d2
      have d5 : ov = [] := ev_nil_ok c2
      subst d2; subst d5
      exact ev_alx hs hx hb hK G.2.2.2.1 d3 ho d1 d4 hd (hk _ _ _ _ _ _ _ _ _ _ G hr h hos)
theorem es_as {x : Nat} (C : ev_Cx p l e R s mm args below meth c m d dC dI ca cl gw nw A) (hm : ev_mok cl pg gw nw m) (hk : ev_Sn p l e R s mm args below meth c m dC dI ca cl pg gw nw A σ ρ0 n0 Q os k) (G : ev_G s m dC dI ca cl A σ ρ0 n0 ρ ls la w H locs) (hok : ev_okc cl pg gw nw m pc (ei_as x :: r)) (h : ea_as x call k m r ls st w = some outs) (hos : ∀ o ∈ outs, o ∈ os) : W p l e R s mm args below meth c H locs w.2.2.2.1 w.2.2.2.2 Q (F0 mm pc la (st.map (ev_cv σ ρ))) := by
  have hok0 := hok
  obtain ⟨hd, -, -, hs, hr⟩ := hok
  have hs : x < 4 := of_decide_eq_true hs
  obtain ⟨hx, hb, -, -, -, -, -, -, hK, -⟩ := C
  match st, h with
  | v :: .inr (.inr (.inr (.inl t))) :: s', h =>
    obtain ⟨v', e', u, h1, h2, h3, h4⟩ := ev_rs_ok G.2.1 (show ev_rs t w.2.2.1 (fun j e => k (ei_as x :: r) ls (v :: .inl j :: s') (ev_we w e)) = some outs from h)
    have K := hk _ _ _ (ev_we w e') _ _ _ _ _ _ (G.env h4) hok0 h1 (fun o ho => hos o (h2 o ho))
    show W p l e R s mm args below meth c H locs w.2.2.2.1 w.2.2.2.2 Q (F0 mm pc la (ev_cv σ ρ v :: .int (ev_ct σ t) :: s'.map (ev_cv σ ρ)))
    rw [← h3]
    exact K
  | v :: .inl j :: u :: s', h =>
    obtain ⟨i, rfl, h'⟩ := ev_cell_some (show ev_cell u (ea_as3 x k r ls s' w v j) = some outs from h)
    unfold ea_as3 at h'
    match ho : ev_tg 7 w.1 i, h' with
    | .inl _, h => cases h
    | .inr (q', n, M, ov), h =>
      have h : ea_as4 x k r ls s' w v j i (q', n, M, ov) = some outs := h
      have S5 : ∀ (v0 : ev_V) (y : Int32) (v2 : ev_V), ev_cv σ ρ v0 = .int y → ev_keep x y = ev_ci σ v2 → ev_ix x i j w (q', n, M, ov) = true → x ≠ 1 → k r ls s' (ev_ts 7 w.1 i (.inr (q', n, M, (j, v2) :: ov)), w.2) = some outs → W p l e R s mm args below meth c H locs w.2.2.2.1 w.2.2.2.2 Q (F0 mm pc la (ev_cv σ ρ v0 :: .int (Int32.ofNat j) :: .ref (ρ i) :: s'.map (ev_cv σ ρ))) := by
        intro v0 y v2 e1 e2 e3 e4 e5
        obtain ⟨d1, d2, d3, d4⟩ := ev_ix_ok e3
        have d1 : j < n := d1
        have d2 : q' = x := d2
        subst d2
        rw [e1]
        have he : (ev_wl σ ρ ca w.1 w.2.1)[i]? = some (ρ i, .inl (ca q', n, .inl (ev_cf σ M ov))) := by
          rw [ev_wl_get d3, ho, ← ev_ca_i σ e4]
          rfl
        refine ev_asx hs e4 hx hb hK G.2.2.2.1 G.2.2.2.2.1 G.2.2.2.2.2 he d1 d4 (f' := ev_cf σ M ((j, v2) :: ov)) (by rw [ev_cf_ov, e2]) hd ?_
        intro H1 locs1 k1 k2 k3
        have ec : (Sum.inl (ca q', n, Sum.inl (ev_cf σ M ((j, v2) :: ov))) : va_E) = ev_ce σ ρ ca (.inr (q', n, M, (j, v2) :: ov)) := by
          rw [← ev_ca_i σ e4]
          rfl
        rw [ec] at k1 k2
        exact hk _ _ _ (ev_ts 7 w.1 i (.inr (q', n, M, (j, v2) :: ov)), w.2) _ _ _ _ _ _ (G.put d3 k1 k2 k3) hr e5 hos
      match v, h with
      | .inl b, h =>
        have h : Bool.rec (motive := fun _ => ev_R) (ea_as5 x k r ls s' w (.inl b) j i (q', n, M, ov)) (ev_fo (ev_sm 32 M j (ev_nar x b)) (fun M' => k r ls s' (ev_ts 7 w.1 i (.inr (q', n, M', [])), w.2))) (Bool.and (ev_ix x i j w (q', n, M, ov)) (Bool.and (ev_nil ov) (Bool.not (Nat.beq x 1)))) = some outs := h
        cases hq : Bool.and (ev_ix x i j w (q', n, M, ov)) (Bool.and (ev_nil ov) (Bool.not (Nat.beq x 1))) with
        | false =>
          rw [hq] at h
          obtain ⟨hc, h⟩ := ev_ite (show Bool.rec (motive := fun _ => ev_R) none _ _ = some outs from h)
          obtain ⟨c1, c2⟩ := ev_band hc
          exact S5 (.inl b) (Int32.ofNat b) (.inl (ev_nar x b)) rfl (ev_nar_ok hs b) c1 (ev_beqf.mp (ev_notb c2)) h
        | true =>
          rw [hq] at h
          obtain ⟨c1, c2⟩ := ev_band hq
          obtain ⟨c2, c3⟩ := ev_band c2
          have e4 : x ≠ 1 := ev_beqf.mp (ev_notb c3)
          have e5 : ov = [] := ev_nil_ok c2
          obtain ⟨d1, d2, d3, d4⟩ := ev_ix_ok c1
          have d1 : j < n := d1
          have d2 : q' = x := d2
          subst d2; subst e5
          have h : ev_fo (ev_sm 32 M j (ev_nar q' b)) (fun M' => k r ls s' (ev_ts 7 w.1 i (.inr (q', n, M', [])), w.2)) = some outs := h
          rw [ev_fo_eq] at h
          have he : (ev_wl σ ρ ca w.1 w.2.1)[i]? = some (ρ i, .inl (ca q', n, .inl (ev_cf σ M []))) := by
            rw [ev_wl_get d3, ho, ← ev_ca_i σ e4]
            rfl
          refine ev_asx hs e4 hx hb hK G.2.2.2.1 G.2.2.2.2.1 G.2.2.2.2.2 he d1 d4 (f' := ev_cf σ (ev_sm 32 M j (ev_nar q' b)) []) (by rw [ev_cf_set, ev_nar_ok hs]) hd ?_
          intro H1 locs1 k1 k2 k3
          have ec : (Sum.inl (ca q', n, Sum.inl (ev_cf σ (ev_sm 32 M j (ev_nar q' b)) [])) : va_E) = ev_ce σ ρ ca (.inr (q', n, ev_sm 32 M j (ev_nar q' b), [])) := by
            rw [← ev_ca_i σ e4]
            rfl
          rw [ec] at k1 k2
          exact hk _ _ _ (ev_ts 7 w.1 i (.inr (q', n, ev_sm 32 M j (ev_nar q' b), [])), w.2) _ _ _ _ _ _ (G.put d3 k1 k2 k3) hr h hos
      | .inr (.inr (.inl b)), h =>
        obtain ⟨hc, h5⟩ := ev_ite (show Bool.rec (motive := fun _ => ev_R) none _ _ = some outs from h)
        obtain ⟨c1, c2⟩ := ev_band hc
        have e4 : x = 1 := ev_beq.mp c2
        obtain ⟨d1, d2, d3, d4⟩ := ev_ix_ok c1
        have d1 : j < n := d1
        have d2 : q' = x := d2
        subst d2; subst e4
        have h : ev_fo (ev_sm 64 M j b) (fun M' => k r ls s' (ev_ts 7 w.1 i (.inr (1, n, M', ov)), w.2)) = some outs := h5
        rw [ev_fo_eq] at h
        have he : (ev_wl σ ρ ca w.1 w.2.1)[i]? = some (ρ i, .inl (ca 1, n, .inr (.inl (fun i => Int64.ofNat (ev_gm 64 M i))))) := by
          rw [ev_wl_get d3, ho]
          rfl
        refine va_last hx hb hK G.2.2.2.1 G.2.2.2.2.1 G.2.2.2.2.2 i 1 he rfl (ev_in d1 d4) hd ?_
        rw [ev_clamp d4, ← ev_cl_set]
        intro H1 locs1 k1 k2 k3
        exact hk _ _ _ (ev_ts 7 w.1 i (.inr (1, n, ev_sm 64 M j b, ov)), w.2) _ _ _ _ _ _ (G.put (cc := .inr (1, n, ev_sm 64 M j b, ov)) d3 k1 k2 k3) hr h hos
      | .inr (.inr (.inr (.inl t))), h =>
        obtain ⟨hc, h⟩ := ev_ite (show Bool.rec (motive := fun _ => ev_R) none _ _ = some outs from h)
        obtain ⟨c1, c2⟩ := ev_band hc
        exact S5 (.inr (.inr (.inr (.inl t)))) (ev_ct σ t) (.inr (.inr (.inr (.inl (ev_nat x t))))) rfl (ev_nat_ok hs σ t) c1 (ev_beqf.mp (ev_notb c2)) h
      | .inr (.inl _), h => cases h
      | .inr (.inr (.inr (.inr _))), h =>
        obtain ⟨hc, h⟩ := ev_ite (show Bool.rec (motive := fun _ => ev_R) none _ _ = some outs from h)
        cases h
theorem es_an (C : ev_Cx p l e R s mm args below meth c m d dC dI ca cl gw nw A) (hm : ev_mok cl pg gw nw m) (hk : ev_Sn p l e R s mm args below meth c m dC dI ca cl pg gw nw A σ ρ0 n0 Q os k) (G : ev_G s m dC dI ca cl A σ ρ0 n0 ρ ls la w H locs) (hok : ev_okc cl pg gw nw m pc (ei_an :: r)) (h : ea_an call k m r ls st w = some outs) (hos : ∀ o ∈ outs, o ∈ os) : W p l e R s mm args below meth c H locs w.2.2.2.1 w.2.2.2.2 Q (F0 mm pc la (st.map (ev_cv σ ρ))) := by
  obtain ⟨hd, -, -, hs, hr⟩ := hok
  obtain ⟨hx, hb, -, -, -, -, -, -, hK, -⟩ := C
  unfold ea_an at h
  match st, h with
  | .inr (.inl (i + 1)) :: s', h =>
    dsimp only at h
    match ho : ev_tg 7 w.1 i, h with
    | .inr (q, n, M, ov), h =>
      obtain ⟨hc, h⟩ := ev_ite (show Bool.rec (motive := fun _ => ev_R) none _ _ = some outs from h)
      obtain ⟨c1, c2⟩ := ev_band hc
      have c1 : i < w.2.1 := Nat.le_of_ble_eq_true c1
      have c2 : q ≤ 3 := Nat.le_of_ble_eq_true c2
      have he : (ev_wl σ ρ ca w.1 w.2.1)[i]? = some (ρ i, .inl (ca q, n, ev_ca σ q M ov)) := by
        rw [ev_wl_get c1, ho]
        rfl
      exact va_alen hx hb hK G.2.2.2.1 i q he (ev_tyq (by omega)) rfl hd (hk _ _ _ _ _ _ _ _ _ _ G hr h hos)
theorem ev_G.push (G : ev_G s m dC dI ca cl A σ ρ0 n0 ρ ls la w H locs) {H1 : Heap} {q : Nat} {cc : ev_C} {mc ms : Nat} (hn : w.2.1 ≤ 127) (hl : ls.all (ev_clV w.2.1) = true) (hh : ev_clH w.2.1 w.1 = true) (hcc : ev_ce σ (fun i => if i = w.2.1 then q else ρ i) ca cc = ev_ce σ ρ ca cc) (h1 : va_P (dC, dI) cl (ev_wl σ ρ ca w.1 w.2.1 ++ [(q, ev_ce σ ρ ca cc)]) H1) (h2 : va_D A (ev_wl σ ρ ca w.1 w.2.1 ++ [(q, ev_ce σ ρ ca cc)])) (h3 : va_S A s.heap H1 locs) : ev_G s m dC dI ca cl A σ ρ0 n0 (fun i => if i = w.2.1 then q else ρ i) ls la (ev_ts 7 w.1 w.2.1 cc, w.2.1 + 1, w.2.2.1, mc, ms) H1 locs := by
  have hr : ∀ i, i < w.2.1 → (fun i => if i = w.2.1 then q else ρ i) i = ρ i := fun i h => if_neg (by omega)
  have e := ev_wl_push (σ := σ) (ca := ca) (c := cc) hn hr hh
  rw [hcc, if_pos rfl] at e
  rw [← e] at h1 h2
  obtain ⟨g1, g2, ⟨g3, g4, g5, g6⟩, g7⟩ := G
  refine ⟨?_, g2, ⟨Nat.le_succ_of_le g3, ?_, fun i hi => (hr i (by omega)).trans (g5 i hi), fun h => ?_⟩, h1, h2, h3⟩
  · rw [ev_pr_cl hr hl]
    exact g1
  · show w.2.1 + 1 ≤ 128
    omega
  · have h : w.2.1 + 1 = n0 := h
    omega
theorem ev_ca0 (σ : Nat → Int32) {q n : Nat} (hq : q < 4) (cA : ClassId) : vp_cell cA (n, ev_ca σ q 0 []) = arrV cA n (fun _ => defaultValue (ev_aty q)) := by
  have h32 : ∀ j, ev_cf σ 0 [] j = 0 := fun j => by
    show Int32.ofNat (ev_gm 32 0 j) = 0
    rw [ev_gm_0]
    rfl
  have h64 : ∀ j, Int64.ofNat (ev_gm 64 0 j) = 0 := fun j => by
    rw [ev_gm_0]
    rfl
  match q, hq with
  | 0, _ => show arrV cA n (fun j => .int (ev_cf σ 0 [] j)) = _; simp only [h32]; rfl
  | 1, _ => show arrV cA n (fun j => .long (Int64.ofNat (ev_gm 64 0 j))) = _; simp only [h64]; rfl
  | 2, _ => show arrV cA n (fun j => .int (ev_cf σ 0 [] j)) = _; simp only [h32]; rfl
  | 3, _ => show arrV cA n (fun j => .int (ev_cf σ 0 [] j)) = _; simp only [h32]; rfl
theorem es_na {x : Nat} (C : ev_Cx p l e R s mm args below meth c m d dC dI ca cl gw nw A) (hm : ev_mok cl pg gw nw m) (hk : ev_Sn p l e R s mm args below meth c m dC dI ca cl pg gw nw A σ ρ0 n0 Q os k) (G : ev_G s m dC dI ca cl A σ ρ0 n0 ρ ls la w H locs) (hok : ev_okc cl pg gw nw m pc (ei_na x :: r)) (h : ea_na x call k m r ls st w = some outs) (hos : ∀ o ∈ outs, o ∈ os) : W p l e R s mm args below meth c H locs w.2.2.2.1 w.2.2.2.2 Q (F0 mm pc la (st.map (ev_cv σ ρ))) := by
  obtain ⟨hd, hw, -, hs, hr⟩ := hok
  have hs : x < 4 := of_decide_eq_true hs
  obtain ⟨hx, hb, -, -, -, -, -, hts, hK, -, hR, hA⟩ := C
  unfold ea_na at h
  match st, h with
  | .inl n :: s', h =>
    obtain ⟨hc, h⟩ := ev_ite (show Bool.rec (motive := fun _ => ev_R) none _ _ = some outs from h)
    obtain ⟨c1, hc⟩ := ev_band hc
    obtain ⟨c2, hc⟩ := ev_band hc
    obtain ⟨c3, hc⟩ := ev_band hc
    obtain ⟨c4, hc⟩ := ev_band hc
    obtain ⟨c5, hc⟩ := ev_band hc
    obtain ⟨c6, c7⟩ := ev_band hc
    have c1 : n ≤ 1000000 := Nat.le_of_ble_eq_true c1
    have c2 : w.2.2.2.1 + 1 ≤ m.2.2.1 := Nat.le_of_ble_eq_true c2
    have c3 : w.2.2.2.2 + n ≤ m.2.2.2.1 := Nat.le_of_ble_eq_true c3
    have c4 : w.2.1 ≤ 127 := Nat.le_of_ble_eq_true c4
    have harr : (Jvm.Cond.arrayClass (ev_aty x)).before args s = true := hts _ (List.mem_cons_of_mem _ (hw _ List.mem_cons_self))
    have hty : newarray.typeOf (ev_xna x) = ev_aty x := by
      match x, hs with
      | 0, _ => rfl
      | 1, _ => rfl
      | 2, _ => rfl
      | 3, _ => rfl
    have hby : n * componentBytes (ev_aty x) ≤ 536870912 := by
      have : componentBytes (ev_aty x) ≤ 8 := by
        match x, hs with
        | 0, _ => decide
        | 1, _ => decide
        | 2, _ => decide
        | 3, _ => decide
      have := Nat.mul_le_mul c1 this
      omega
    subst hR
    refine va_newa (atype := ev_xna x) (ty := ev_aty x) (a0 := (n, ev_ca σ x 0 [])) hx hb (by rw [hty]; exact harr) hty hK G.2.2.2.1 G.2.2.2.2.1 G.2.2.2.2.2 hA (ev_ca0 σ hs) (nI_pos (n := n) (by omega)) (nI_clamp (by omega)) hby c2 c3 hd ?_
    intro q cA H1 k0 k1 k2 k3
    have ecA : cA = ca x := by
      have r1 := (k0.2 (ev_ty ca).length (cA, ev_aty x) (by simp)).2
      have r2 := (hK.2 x (ca x, ev_aty x) (ev_tyq hs)).2
      match x, hs, r1, r2 with
      | 0, _, r1, r2 => exact Option.some.inj (Eq.trans (Eq.symm r1) r2)
      | 1, _, r1, r2 => exact Option.some.inj (Eq.trans (Eq.symm r1) r2)
      | 2, _, r1, r2 => exact Option.some.inj (Eq.trans (Eq.symm r1) r2)
      | 3, _, r1, r2 => exact Option.some.inj (Eq.trans (Eq.symm r1) r2)
    subst ecA
    have G2 := G.push (cc := .inr (x, n, 0, [])) (mc := w.2.2.2.1 + 1) (ms := w.2.2.2.2 + n) c4 c6 c7 rfl k1 k2 k3
    have K := hk _ _ _ _ _ _ _ _ _ _ G2 hr h hos
    have e1 : (Sum.inr (Sum.inl (Nat.succ w.2.1)) :: s').map (ev_cv σ (fun i => if i = w.2.1 then q else ρ i)) = .ref q :: s'.map (ev_cv σ ρ) := by
      rw [List.map_cons, ev_cvs_cl (fun i hi => if_neg (by omega)) c5]
      show Value.ref (if w.2.1 = w.2.1 then q else ρ w.2.1) :: _ = _
      rw [if_pos rfl]
    rw [e1] at K
    exact K
theorem es_nw {x : Nat × Nat × List ev_V} (hkk : ev_kok cl gw) (C : ev_Cx p l e R s mm args below meth c m d dC dI ca cl gw nw A) (hm : ev_mok cl pg gw nw m) (hk : ev_Sn p l e R s mm args below meth c m dC dI ca cl pg gw nw A σ ρ0 n0 Q os k) (G : ev_G s m dC dI ca cl A σ ρ0 n0 ρ ls la w H locs) (hok : ev_okc cl pg gw nw m pc (ei_nw x :: r)) (h : ea_nw x call k m r ls st w = some outs) (hos : ∀ o ∈ outs, o ∈ os) : W p l e R s mm args below meth c H locs w.2.2.2.1 w.2.2.2.2 Q (F0 mm pc la (st.map (ev_cv σ ρ))) := by
  obtain ⟨hd, hw, -, hs, hr⟩ := hok
  obtain ⟨hs, hs3⟩ := ev_band (show Bool.and (ev_snw (ev_kd cl x.1) x.2.2) (cl[x.1]?).isSome = true from hs)
  obtain ⟨hs1, hs2⟩ := ev_band (show Bool.and _ _ = true from hs)
  have hs1 : x.2.2.length = (ev_kd cl x.1).2.2 := of_decide_eq_true hs1
  have hc0 := ev_kd_some hs3
  obtain ⟨hx, hb, -, -, -, hown, -, hts, hK, -, hR, hA⟩ := C
  obtain ⟨hki, ty0, hty, -⟩ := hkk _ _ hc0
  have hin : ∀ w ∈ u_ws (ev_kd cl x.1).1 (ev_kd cl x.1).2.1 (ev_kd cl x.1).2.2, w ∈ ev_ws gw m := fun w h => List.mem_cons_of_mem _ (hki w h)
  have hw' : ∀ w ∈ ([.classLink (ev_own m) x.2.1 (ev_kd cl x.1).1, .instantiable (ev_kd cl x.1).1 (ev_kd cl x.1).2.2, .initialized (ev_kd cl x.1).1] : List Jvm.Cond), w.before args s = true := fun w h => hts w (List.mem_cons_of_mem _ (hw w h))
  obtain ⟨hc, h⟩ := ev_ite (show Bool.rec (motive := fun _ => ev_R) none _ _ = some outs from h)
  obtain ⟨c2, hc⟩ := ev_band hc
  obtain ⟨c3, hc⟩ := ev_band hc
  obtain ⟨c4, hc⟩ := ev_band hc
  obtain ⟨c5, hc⟩ := ev_band hc
  obtain ⟨c6, hc⟩ := ev_band hc
  obtain ⟨c8, c7⟩ := ev_band hc
  have c2 : w.2.2.2.1 + 1 ≤ m.2.2.1 := Nat.le_of_ble_eq_true c2
  have c3 : w.2.2.2.2 + x.2.2.length ≤ m.2.2.2.1 := Nat.le_of_ble_eq_true c3
  have c4 : w.2.1 ≤ 127 := Nat.le_of_ble_eq_true c4
  have hfs : ∀ j, j < (ev_kd cl x.1).2.2 → defaultValue (ty0 j) = vp_V (x.2.2.map (ev_cv σ ρ)) j := by
    intro j hj
    have h1 := List.all_eq_true.mp hs2 j (List.mem_range.mpr hj)
    rw [hty j hj] at h1
    have h1 : ev_dvt (ty0 j) x.2.2[j]? = true := h1
    unfold vp_V
    rw [List.getD_eq_getElem?_getD, List.getElem?_map]
    match ty0 j, x.2.2[j]?, h1 with
    | .long, some (.inr (.inr (.inl 0))), _ => rfl
    | .object _, some (.inr (.inl 0)), _ => rfl
    | .array _, some (.inr (.inl 0)), _ => rfl
    | .int, some (.inl 0), _ => rfl
    | .boolean, some (.inl 0), _ => rfl
    | .byte, some (.inl 0), _ => rfl
  rw [hs1] at c3
  subst hR
  refine va_new hx hb hts hin ty0 hty hown (hw' _ List.mem_cons_self) (hw' _ (List.mem_cons_of_mem _ List.mem_cons_self)) (hw' _ (List.mem_cons_of_mem _ (List.mem_cons_of_mem _ List.mem_cons_self))) hK G.2.2.2.1 G.2.2.2.2.1 G.2.2.2.2.2 hA hc0 hfs c2 c3 hd ?_
  intro q H1 k1 k2 k3
  have hrr : ∀ i, i < w.2.1 → (fun i => if i = w.2.1 then q else ρ i) i = ρ i := fun i h => if_neg (by omega)
  have G2 := G.push (cc := .inl (x.1, x.2.2)) (mc := w.2.2.2.1 + 1) (ms := w.2.2.2.2 + x.2.2.length) c4 c6 c7 (ev_ce_cl (n := w.2.1) hrr c8) k1 k2 k3
  have K := hk _ _ _ _ _ _ _ _ _ _ G2 hr h hos
  have e1 : (Sum.inr (Sum.inl (Nat.succ w.2.1)) :: st).map (ev_cv σ (fun i => if i = w.2.1 then q else ρ i)) = .ref q :: st.map (ev_cv σ ρ) := by
    rw [List.map_cons, ev_cvs_cl (fun i hi => if_neg (by omega)) c5]
    show Value.ref (if w.2.1 = w.2.1 then q else ρ w.2.1) :: _ = _
    rw [if_pos rfl]
  rw [e1] at K
  rw [← hs1]
  exact K
theorem es_oi {x : Nat} (C : ev_Cx p l e R s mm args below meth c m d dC dI ca cl gw nw A) (hm : ev_mok cl pg gw nw m) (hk : ev_Sn p l e R s mm args below meth c m dC dI ca cl pg gw nw A σ ρ0 n0 Q os k) (G : ev_G s m dC dI ca cl A σ ρ0 n0 ρ ls la w H locs) (hok : ev_okc cl pg gw nw m pc (ei_oi x :: r)) (h : ea_oi x call k m r ls st w = some outs) (hos : ∀ o ∈ outs, o ∈ os) : W p l e R s mm args below meth c H locs w.2.2.2.1 w.2.2.2.2 Q (F0 mm pc la (st.map (ev_cv σ ρ))) := by
  obtain ⟨hd, hw, -, hs, hr⟩ := hok
  obtain ⟨hx, hb, -, -, hml, hown, -, hts, -, -, hR, -⟩ := C
  have hw' : ∀ w ∈ ([.methodLink (ev_own m) x Lib.objectInit, .instanceMethod Lib.objectInit, .code Lib.objectInit ⟨#[0xb1]⟩ 1 none] : List Jvm.Cond), w.before args s = true := fun w h => hts w (List.mem_cons_of_mem _ (hw w h))
  unfold ea_oi at h
  match st, h with
  | .inr (.inl (i + 1)) :: s', h =>
    obtain ⟨hc, h⟩ := ev_ite h
    have hc : ev_cat s' ≤ 8 := Nat.le_of_ble_eq_true hc
    subst hR
    refine W.objInit hx hb hown (hw' _ List.mem_cons_self) (hw' _ (List.mem_cons_of_mem _ List.mem_cons_self)) (hw' _ (List.mem_cons_of_mem _ (List.mem_cons_of_mem _ List.mem_cons_self))) (a := ρ i) (rest := s'.map (ev_cv σ ρ)) rfl (G.1.1.trans hml.symm) rfl hd (by show 1 ≤ d + 1; omega) ?_ (hk _ _ _ _ _ _ _ _ _ _ G hr h hos)
    rw [ev_cat_ok]
    show 2 * 0 + ev_cat s' + 12 ≤ 40 * (d + 1)
    omega
theorem ev_cf_cp (σ : Nat → Int32) (Md Ms sp dp n : Nat) : ev_cf σ (ev_cp 32 Md Ms sp dp n) [] = va_cpy (ev_cf σ Ms []) (ev_cf σ Md []) sp dp n := by
  funext j
  show Int32.ofNat (ev_gm 32 (ev_cp 32 Md Ms sp dp n) j) = if dp ≤ j ∧ j < dp + n then Int32.ofNat (ev_gm 32 Ms (sp + (j - dp))) else Int32.ofNat (ev_gm 32 Md j)
  rw [ev_gm_cp]
  split <;> rfl
theorem ev_cl_cp (Md Ms sp dp n : Nat) : (fun i => Int64.ofNat (ev_gm 64 (ev_cp 64 Md Ms sp dp n) i)) = va_cpy (fun i => Int64.ofNat (ev_gm 64 Ms i)) (fun i => Int64.ofNat (ev_gm 64 Md i)) sp dp n := by
  funext j
  show Int64.ofNat (ev_gm 64 (ev_cp 64 Md Ms sp dp n) j) = if dp ≤ j ∧ j < dp + n then Int64.ofNat (ev_gm 64 Ms (sp + (j - dp))) else Int64.ofNat (ev_gm 64 Md j)
  rw [ev_gm_cp]
  split <;> rfl
theorem es_cy {x : Nat} (C : ev_Cx p l e R s mm args below meth c m d dC dI ca cl gw nw A) (hm : ev_mok cl pg gw nw m) (hk : ev_Sn p l e R s mm args below meth c m dC dI ca cl pg gw nw A σ ρ0 n0 Q os k) (G : ev_G s m dC dI ca cl A σ ρ0 n0 ρ ls la w H locs) (hok : ev_okc cl pg gw nw m pc (ei_cy x :: r)) (h : ea_cy x call k m r ls st w = some outs) (hos : ∀ o ∈ outs, o ∈ os) : W p l e R s mm args below meth c H locs w.2.2.2.1 w.2.2.2.2 Q (F0 mm pc la (st.map (ev_cv σ ρ))) := by
  obtain ⟨hd, hw, -, hs, hr⟩ := hok
  obtain ⟨hx, hb, -, -, hml, hown, -, hts, hK, -, hR, -⟩ := C
  have hw' : ∀ w ∈ ([.methodLink (ev_own m) x arraycopyName, .native arraycopyName, .static arraycopyName, .initialized "java/lang/System"] : List Jvm.Cond), w.before args s = true := fun w h => hts w (List.mem_cons_of_mem _ (hw w h))
  have w1 := hw' _ List.mem_cons_self
  have w2 := hw' _ (List.mem_cons_of_mem _ List.mem_cons_self)
  have w3 := hw' _ (List.mem_cons_of_mem _ (List.mem_cons_of_mem _ List.mem_cons_self))
  have w4 := hw' _ (List.mem_cons_of_mem _ (List.mem_cons_of_mem _ (List.mem_cons_of_mem _ List.mem_cons_self)))
  unfold ea_cy at h
  match st, h with
  | .inl n :: .inl dp :: .inr (.inl (i + 1)) :: .inl sp :: .inr (.inl (i' + 1)) :: s', h =>
    dsimp only at h
    match ho : ev_tg 7 w.1 i, ho' : ev_tg 7 w.1 i', h with
    | .inr (q, n1, M1, []), .inr (q', n0', M0, []), h =>
      obtain ⟨hc, h5⟩ := ev_ite (show Bool.rec (motive := fun _ => ev_R) none _ _ = some outs from h)
      obtain ⟨c1, hc⟩ := ev_band hc
      obtain ⟨c2, hc⟩ := ev_band hc
      obtain ⟨c3, hc⟩ := ev_band hc
      obtain ⟨c4, hc⟩ := ev_band hc
      obtain ⟨c5, hc⟩ := ev_band hc
      obtain ⟨c6, hc⟩ := ev_band hc
      obtain ⟨c7, hc⟩ := ev_band hc
      obtain ⟨c8, c9⟩ := ev_band hc
      have c1 : q = q' := ev_beq.mp c1
      have c2 : q ≤ 1 := Nat.le_of_ble_eq_true c2
      have c3 : i < w.2.1 := Nat.le_of_ble_eq_true c3
      have c4 : i' < w.2.1 := Nat.le_of_ble_eq_true c4
      have c5 : sp + n ≤ n0' := Nat.le_of_ble_eq_true c5
      have c6 : dp + n ≤ n1 := Nat.le_of_ble_eq_true c6
      have c7 : sp + n ≤ 2147483647 := Nat.le_of_ble_eq_true c7
      have c8 : dp + n ≤ 2147483647 := Nat.le_of_ble_eq_true c8
      have c9 : ev_cat s' ≤ 8 := Nat.le_of_ble_eq_true c9
      rw [ev_fo_eq] at h5
      clear h
      subst c1
      subst hR
      have e1 := ev_clamp (j := sp) (by omega)
      have e2 := ev_clamp (j := dp) (by omega)
      have e3 := ev_clamp (j := n) (by omega)
      have hlo : ((s'.map (ev_cv σ ρ)).map (fun v => v.category)).sum + (nativeFrameWords "java/lang/System" "arraycopy" 5 + 11) ≤ (ev_rm (d + 1) m).locals := by
        rw [ev_cat_ok]
        have : nativeFrameWords "java/lang/System" "arraycopy" 5 = 7 := by decide +kernel
        rw [this]
        show _ ≤ 40 * (d + 1)
        omega
      have p1 := nI_pos (n := sp) (by omega)
      have p2 := nI_pos (n := dp) (by omega)
      have p3 := nI_pos (n := n) (by omega)
      match q, c2, ho, ho', h5 with
      | 0, _, ho, ho', h =>
        have he : (ev_wl σ ρ ca w.1 w.2.1)[i]? = some (ρ i, .inl (ca 0, n1, .inl (ev_cf σ M1 []))) := by
          rw [ev_wl_get c3, ho]
          rfl
        have he' : (ev_wl σ ρ ca w.1 w.2.1)[i']? = some (ρ i', .inl (ca 0, n0', .inl (ev_cf σ M0 []))) := by
          rw [ev_wl_get c4, ho']
          rfl
        refine va_copyi (ty := .int) hx hb (hml.trans G.1.1.symm) hown w1 w2 w3 w4 hK G.2.2.2.1 G.2.2.2.2.1 G.2.2.2.2.2 i' i 0 0 he' he rfl rfl rfl p1 p2 p3 (by rw [show (Int32.ofNat sp).toNatClampNeg = sp from e1, show (Int32.ofNat n).toNatClampNeg = n from e3]; exact c5) (by rw [show (Int32.ofNat dp).toNatClampNeg = dp from e2, show (Int32.ofNat n).toNatClampNeg = n from e3]; exact c6) (fun _ _ => rfl) (by show 1 ≤ d + 1; omega) hlo hd ?_
        rw [e1, e2, e3, ← ev_cf_cp]
        intro H1 locs1 k1 k2 k3
        exact hk _ _ _ (ev_ts 7 w.1 i (.inr (0, n1, ev_cp 32 M1 M0 sp dp n, [])), w.2) _ _ _ _ _ _ (G.put (cc := .inr (0, n1, ev_cp 32 M1 M0 sp dp n, [])) c3 k1 k2 k3) hr h hos
      | 1, _, ho, ho', h =>
        have he : (ev_wl σ ρ ca w.1 w.2.1)[i]? = some (ρ i, .inl (ca 1, n1, .inr (.inl (fun i => Int64.ofNat (ev_gm 64 M1 i))))) := by
          rw [ev_wl_get c3, ho]
          rfl
        have he' : (ev_wl σ ρ ca w.1 w.2.1)[i']? = some (ρ i', .inl (ca 1, n0', .inr (.inl (fun i => Int64.ofNat (ev_gm 64 M0 i))))) := by
          rw [ev_wl_get c4, ho']
          rfl
        refine va_copyl (ty := .long) hx hb (hml.trans G.1.1.symm) hown w1 w2 w3 w4 hK G.2.2.2.1 G.2.2.2.2.1 G.2.2.2.2.2 i' i 1 1 he' he rfl rfl rfl p1 p2 p3 (by rw [show (Int32.ofNat sp).toNatClampNeg = sp from e1, show (Int32.ofNat n).toNatClampNeg = n from e3]; exact c5) (by rw [show (Int32.ofNat dp).toNatClampNeg = dp from e2, show (Int32.ofNat n).toNatClampNeg = n from e3]; exact c6) (fun _ _ => rfl) (by show 1 ≤ d + 1; omega) hlo hd ?_
        rw [e1, e2, e3, ← ev_cl_cp]
        intro H1 locs1 k1 k2 k3
        exact hk _ _ _ (ev_ts 7 w.1 i (.inr (1, n1, ev_cp 64 M1 M0 sp dp n, [])), w.2) _ _ _ _ _ _ (G.put (cc := .inr (1, n1, ev_cp 64 M1 M0 sp dp n, [])) c3 k1 k2 k3) hr h hos
end EVD
end
section
/-! ===== ends and calls; the whole ===== -/
def ev_ro (σ : Nat → Int32) (ρ : Nat → Nat) (v : ev_V) : Option Value := match v with
  | .inr (.inr (.inr (.inr _))) => none
  | u => some (ev_cv σ ρ u)
/-- a method's start and end -/
def ev_Pr (dC : Nat → ClassId) (dI : Nat → Nat → Nat) (ca : Nat → ClassId) (cl : List vw_C) (nw : List Jvm.Cond) (σ : Nat → Int32) (ρ : Nat → Nat) (as : List ev_V) (h : ev_H) (n sz : Nat) : Array Value → State → Prop := va_Pc (as.map (ev_cv σ ρ)) (fun U => U.heap.size = sz ∧ va_P (dC, dI) cl (ev_wl σ ρ ca h n) U.heap ∧ va_K (dC, dI) cl (ev_ty ca) U ∧ va_D (fun _ => True) (ev_wl σ ρ ca h n) ∧ ∀ w ∈ nw, va_Nw w U)
def ev_Po (dC : Nat → ClassId) (dI : Nat → Nat → Nat) (ca : Nat → ClassId) (cl : List vw_C) (σ : Nat → Int32) (ρ0 : Nat → Nat) (n0 : Nat) (os : List ev_O) (A : Nat → Prop) : Array Value → State → Outcome → State → Prop := fun _ st oc t => (∃ o ∈ os, ∃ ρ : Nat → Nat, (n0 ≤ o.2.2.1 ∧ o.2.2.1 ≤ 128 ∧ (∀ i, i < n0 → ρ i = ρ0 i) ∧ (o.2.2.1 = n0 → ρ = ρ0)) ∧ ev_sat σ o.2.2.2 ∧ oc = .returned (ev_ro σ ρ o.1) ∧ va_P (dC, dI) cl (ev_wl σ ρ ca o.2.1 o.2.2.1) t.heap ∧ va_D A (ev_wl σ ρ ca o.2.1 o.2.2.1)) ∧ va_F A st t
def ev_Ct (cl : List vw_C) (gw nw : List Jvm.Cond) (d : Nat) (m : ev_M) (as : List ev_V) (h : ev_H) (n : Nat) (e : ev_E) (os : List ev_O) : Prop := ∀ (l : Launch) (dC : Nat → ClassId) (dI : Nat → Nat → Nat) (ca : Nat → ClassId) (σ : Nat → Int32) (ρ : Nat → Nat) (sz : Nat), ev_sat σ e → n ≤ 128 → Met l m.2.2.2.2.2.1 (ev_ws gw m) (ev_rm d m) (ev_Pr dC dI ca cl nw σ ρ as h n sz) (ev_Po dC dI ca cl σ ρ n os (va_A (ev_wl σ ρ ca h n) sz)) m.2.2.1 m.2.2.2.1 (va_A (ev_wl σ ρ ca h n) sz)
def ev_gok (gw : List Jvm.Cond) : Prop := ∀ w ∈ gw, (w.onTables && w.keeps) = true ∨ ∃ ty, w = .arrayClass ty
def ev_nok (nw : List Jvm.Cond) : Prop := ∀ w ∈ nw, (∃ a i b n d h, w = .fieldLinkNest a i b n d h) ∨ ∃ a i x h, w = .methodLinkNest a i x h
theorem ev_nok_on {nw : List Jvm.Cond} (hn : ev_nok nw) {w : Jvm.Cond} (h : w ∈ nw) : w.onTables = true := by
  rcases hn w h with ⟨a, i, b, n, d, hh, rfl⟩ | ⟨a, i, x, hh, rfl⟩ <;> rfl
theorem ev_nok_warm {nw : List Jvm.Cond} (hn : ev_nok nw) {s U : State} (hW : s.WarmedH U.vm) (h : ∀ w ∈ nw, va_Nw w s) : ∀ w ∈ nw, va_Nw w U := by
  intro w hw
  have h1 := h w hw
  rcases hn w hw with ⟨a, i, b, n, d, hh, rfl⟩ | ⟨a, i, x, hh, rfl⟩
  · exact va_Nw.warmF hW h1
  · exact va_Nw.warmM hW h1
theorem ev_Pr_blind {dC : Nat → ClassId} {dI : Nat → Nat → Nat} {ca : Nat → ClassId} {cl : List vw_C} {nw : List Jvm.Cond} {σ : Nat → Int32} {ρ : Nat → Nat} {as : List ev_V} {h : ev_H} {n sz : Nat} (hn : ev_nok nw) : FrameBlind (ev_Pr dC dI ca cl nw σ ρ as h n sz) := by
  intro a U g mk q
  obtain ⟨q0, q1, qP, qK, qD, qN⟩ := q
  exact ⟨q0, q1, qP, va_K.moved (u := U) (U := U.calling g mk a) (Vm.Alike.refl U.vm) qK, qD, fun w hw => va_Nw.same (u := U) (U := U.calling g mk a) (ev_nok_on hn hw) rfl (qN w hw)⟩
theorem ev_bo_some {f : ev_O → ev_R} : ∀ (l : List ev_O) (outs : List ev_O), ev_bo l f = some outs → ∀ o ∈ l, ∃ u, f o = some u ∧ ∀ z ∈ u, z ∈ outs
  | [], _, _, o, ho => by cases ho
  | [o1], outs, h, o, ho => by
    rw [List.mem_singleton] at ho
    subst ho
    exact ⟨outs, h, fun z hz => hz⟩
  | o1 :: o2 :: r, outs, h, o, ho => by
    obtain ⟨u, v, e1, e2, k1, k2⟩ := ev_jn_some (show ev_jn (f o1) (ev_bo (o2 :: r) f) = some outs from h)
    rcases List.mem_cons.mp ho with rfl | ho
    · exact ⟨u, e1, k1⟩
    · obtain ⟨u2, e3, k3⟩ := ev_bo_some (o2 :: r) v e2 o ho
      exact ⟨u2, e3, fun z hz => k2 z (k3 z hz)⟩
theorem ev_pop_ok : ∀ (n : Nat) (st acc as s' : List ev_V), ev_pop n st acc = (as, s') → as.length = n + acc.length → ∃ f, as = f ++ acc ∧ st = f.reverse ++ s'
  | 0, st, acc, as, s', h, _ => by
    have h : (acc, st) = (as, s') := by
      cases st <;> exact h
    cases h
    exact ⟨[], rfl, rfl⟩
  | n + 1, [], acc, as, s', h, hl => by
    have h : (([], []) : List ev_V × List ev_V) = (as, s') := h
    cases h
    simp at hl
    omega
  | n + 1, v :: st, acc, as, s', h, hl => by
    obtain ⟨f, e1, e2⟩ := ev_pop_ok n st (v :: acc) as s' h (by rw [hl, List.length_cons]; omega)
    exact ⟨f ++ [v], by rw [e1]; simp, by rw [e2]; simp⟩
theorem ev_bck_ok {σ : Nat → Int32} {ρ : Nat → Nat} (v : ev_V) (s : List ev_V) : (ev_bck v s).map (ev_cv σ ρ) = (ev_ro σ ρ v).toList ++ s.map (ev_cv σ ρ) := by
  match v with
  | .inl _ => rfl
  | .inr (.inl _) => rfl
  | .inr (.inr (.inl _)) => rfl
  | .inr (.inr (.inr (.inl _))) => rfl
  | .inr (.inr (.inr (.inr _))) => rfl
section EVE
variable {p : Program} {l : Launch} {e : Env} {R : Room} {s : State} {mm : MethodId} {args : Array Value} {below : List Frame} {meth : Method} {c : Code}
variable {m : ev_M} {d n0 : Nat} {dC : Nat → ClassId} {dI : Nat → Nat → Nat} {ca : Nat → ClassId} {cl : List vw_C} {pg : List ev_M} {gw nw : List Jvm.Cond} {A : Nat → Prop} {σ : Nat → Int32} {ρ0 : Nat → Nat} {Q : State → Prop} {os outs : List ev_O}
variable {call : ev_Q} {k : ev_K} {r : List ev_I} {ls st : List ev_V} {w : ev_Wd} {pc : Nat} {la : Array Slot} {ρ : Nat → Nat} {H : Heap} {locs : List Loc}
theorem es_re {x : Nat} (hQ : Q = MQ below (ev_Po dC dI ca cl σ ρ0 n0 os A) args s m.2.2.1 m.2.2.2.1 A) (C : ev_Cx p l e R s mm args below meth c m d dC dI ca cl gw nw A) (hm : ev_mok cl pg gw nw m) (hk : ev_Sn p l e R s mm args below meth c m dC dI ca cl pg gw nw A σ ρ0 n0 Q os k) (G : ev_G s m dC dI ca cl A σ ρ0 n0 ρ ls la w H locs) (hok : ev_okc cl pg gw nw m pc (ei_re x :: r)) (h : ea_re x call k m r ls st w = some outs) (hos : ∀ o ∈ outs, o ∈ os) : W p l e R s mm args below meth c H locs w.2.2.2.1 w.2.2.2.2 Q (F0 mm pc la (st.map (ev_cv σ ρ))) := by
  obtain ⟨hd, -, -, hs, -⟩ := hok
  obtain ⟨hx, hb, hret, hlocks, -⟩ := C
  unfold ea_re at h
  obtain ⟨hc, h⟩ := ev_ite h
  obtain ⟨c1, c2⟩ := ev_band hc
  have c1 : w.2.2.2.1 ≤ m.2.2.1 := Nat.le_of_ble_eq_true c1
  have c2 : w.2.2.2.2 ≤ m.2.2.2.1 := Nat.le_of_ble_eq_true c2
  obtain ⟨g1, g2, g3, g4, g5, g6⟩ := G
  have post : ∀ (v : ev_V) (u : Option Value), (v, w.1, w.2.1, w.2.2.1) ∈ os → u = ev_ro σ ρ v → ∀ t : State, t.heap = H → s.WarmedH t.vm → ev_Po dC dI ca cl σ ρ0 n0 os A args s (.returned u) t := by
    intro v u hv hu t ht _
    refine ⟨⟨_, hv, ρ, g3, g2, by rw [hu], ?_, g5⟩, g6.F ht⟩
    rw [ht]
    exact g4
  subst hQ
  match x, st, h with
  | 0, [.inl n], h =>
    cases hm2 : m.2.2.2.2.2.2.2 with
    | none => rw [hm2] at h; cases h
    | some ty =>
      rw [hm2] at h hret
      match ty, h, hret with
      | .int, h, hret =>
        have h : [(.inl n, w.1, w.2.1, w.2.2.1)] = outs := Option.some.inj h
        exact W.widen c1 c2 (W.zret hx hb hret rfl (post (.inl n) _ (hos _ (by rw [← h]; exact List.mem_cons_self)) rfl) (fun q hq => g6.2.2 q hq) hd hlocks)
      | .boolean, h, hret =>
        obtain ⟨hb1, h⟩ := ev_ite h
        have hb1 : n ≤ 1 := Nat.le_of_ble_eq_true hb1
        have h : [(.inl n, w.1, w.2.1, w.2.2.1)] = outs := Option.some.inj h
        have hn : narrow .boolean (.int (Int32.ofNat n)) = .int (Int32.ofNat n) := by
          match n, hb1 with
          | 0, _ => exact ev_b0.1
          | 1, _ => exact ev_b1.1
        exact W.widen c1 c2 (W.zret hx hb hret hn (post (.inl n) _ (hos _ (by rw [← h]; exact List.mem_cons_self)) rfl) (fun q hq => g6.2.2 q hq) hd hlocks)
  | 0, [.inr (.inr (.inr (.inl t)))], h =>
    cases hm2 : m.2.2.2.2.2.2.2 with
    | none => rw [hm2] at h; cases h
    | some ty =>
      rw [hm2] at h hret
      match ty, h, hret with
      | .int, h, hret =>
        have h : [(.inr (.inr (.inr (.inl t))), w.1, w.2.1, w.2.2.1)] = outs := Option.some.inj h
        exact W.widen c1 c2 (W.zret hx hb hret rfl (post (.inr (.inr (.inr (.inl t)))) _ (hos _ (by rw [← h]; exact List.mem_cons_self)) rfl) (fun q hq => g6.2.2 q hq) hd hlocks)
  | 1, [.inr (.inl y)], h =>
    cases hm2 : m.2.2.2.2.2.2.2 with
    | none => rw [hm2] at h; cases h
    | some ty =>
      rw [hm2] at h hret
      match ty, h, hret with
      | .object nm, h, hret =>
        have h : [(.inr (.inl y), w.1, w.2.1, w.2.2.1)] = outs := Option.some.inj h
        have hv : ev_cr ρ y = .null ∨ ∃ a, ev_cr ρ y = .ref a := by
          cases y with
          | zero => exact Or.inl rfl
          | succ y => exact Or.inr ⟨_, rfl⟩
        exact W.widen c1 c2 (W.aret (v := ev_cr ρ y) hx hb hret (Or.inl ⟨nm, rfl⟩) hv (post (.inr (.inl y)) _ (hos _ (by rw [← h]; exact List.mem_cons_self)) rfl) (fun q hq => g6.2.2 q hq) hd hlocks)
  | 2, [], h =>
    cases hm2 : m.2.2.2.2.2.2.2 with
    | some ty => rw [hm2] at h; cases h
    | none =>
      rw [hm2] at h hret
      have h : [(ev_U, w.1, w.2.1, w.2.2.1)] = outs := Option.some.inj h
      exact W.widen c1 c2 (W.vret hx hb hret (post ev_U _ (hos _ (by rw [← h]; exact List.mem_cons_self)) rfl) (fun q hq => g6.2.2 q hq) hd hlocks)
theorem ev_callG {os' : List ev_O} {n1 cells slots mc ms : Nat} {A1 : Nat → Prop} {free : Addr → Prop} {av : Array Value} {rest st0 : List Value} (hr : va_Run p l e R s mm args below meth c H locs cells slots mc ms (F0 mm pc la st0) rest (ev_Po dC dI ca cl σ ρ n1 os' A1 av) free) (hS : va_S A s.heap H locs) (hA : ∀ q, A1 q → A q) (hf : ∀ q, free q → A q)
    (kk : ∀ o ∈ os', ∀ (ρ' : Nat → Nat) (H1 : Heap) (locs1 : List Loc), (n1 ≤ o.2.2.1 ∧ o.2.2.1 ≤ 128 ∧ (∀ i, i < n1 → ρ' i = ρ i) ∧ (o.2.2.1 = n1 → ρ' = ρ)) → ev_sat σ o.2.2.2 → va_P (dC, dI) cl (ev_wl σ ρ' ca o.2.1 o.2.2.1) H1 → va_D A1 (ev_wl σ ρ' ca o.2.1 o.2.2.1) → va_S A s.heap H1 locs1 → W p l e R s mm args below meth c H1 locs1 (cells + mc) (slots + ms) Q (F0 mm (pc + 3) la ((ev_ro σ ρ' o.1).toList ++ rest))) : W p l e R s mm args below meth c H locs cells slots Q (F0 mm pc la st0) := by
  intro T hT X
  obtain ⟨v, st₀, t, T', L, h0, X', hL, e1, e2, ⟨⟨o, ho, ρ', h1, h2, hv, h3, h4⟩, hz, hkp⟩, stp⟩ := hr T hT X
  cases hv
  rw [h0] at hz hkp
  rw [← e1] at h3
  obtain ⟨t2, a1, b1⟩ := kk o ho ρ' T'.heap (locs ++ L) h1 h2 h3 h4
    ⟨Nat.le_trans hS.1 (by rw [e1]; exact hz), fun q k1 k2 => by rw [e1, hkp q (Nat.lt_of_lt_of_le k1 hS.1) (fun z => k2 (hA q z))]; exact hS.2.1 q k1 k2, fun q hq => by
      rcases List.mem_append.mp hq with k | k
      · exact hS.2.2 q k
      · exact hf _ (hL q k)⟩ T' rfl X'
  exact ⟨t2, stp t2 a1, b1⟩
theorem ev_good {gw : List Jvm.Cond} {m m' : ev_M} (hg : ev_gok gw) (h : ev_cw m' ∈ gw) : GoodIn (ev_ws gw m) (ev_ws gw m') := by
  intro w hw
  have h1 : w ∈ gw := by
    rcases List.mem_cons.mp hw with rfl | hw
    · exact h
    · exact hw
  exact ⟨List.mem_cons_of_mem _ h1, hg w h1⟩
theorem ev_mt_some {pg : List ev_M} {x : Nat} {m' : ev_M} (h : pg[x]? = some m') : ev_mt pg x = m' := by
  unfold ev_mt
  rw [List.getD_eq_getElem?_getD, h]
  rfl
theorem ev_room (d : Nat) {m m' : ev_M} (h : m'.2.2.2.2.1 ≤ 21) : (ev_rm d m').frames + 1 ≤ (ev_rm (d + 1) m).frames ∧ 8 + (m'.2.2.2.2.1 + 11) + (ev_rm d m').locals ≤ (ev_rm (d + 1) m).locals := by
  refine ⟨Nat.le_refl _, ?_⟩
  show 8 + (m'.2.2.2.2.1 + 11) + 40 * d ≤ 40 * (d + 1)
  omega
theorem es_ca {x : Nat × Nat × Nat × Nat × Nat × Nat × Nat} (hg : ev_gok gw) (hnk : ev_nok nw) (hpm : ∀ m1 ∈ pg, ev_mok cl pg gw nw m1) (hcall : ∀ x as h n e os1, call x as h n e = some os1 → ∃ m1, pg[x]? = some m1 ∧ ev_Ct cl gw nw d m1 as h n e os1) (C : ev_Cx p l e R s mm args below meth c m d dC dI ca cl gw nw A) (hm : ev_mok cl pg gw nw m) (hk : ev_Sn p l e R s mm args below meth c m dC dI ca cl pg gw nw A σ ρ0 n0 Q os k) (G : ev_G s m dC dI ca cl A σ ρ0 n0 ρ ls la w H locs) (hok : ev_okc cl pg gw nw m pc (ei_ca x :: r)) (h : ea_ca x call k m r ls st w = some outs) (hos : ∀ o ∈ outs, o ∈ os) : W p l e R s mm args below meth c H locs w.2.2.2.1 w.2.2.2.2 Q (F0 mm pc la (st.map (ev_cv σ ρ))) := by
  obtain ⟨hd, hw, hnw, hs, hr⟩ := hok
  obtain ⟨hs, -⟩ := ev_band (show Bool.and (ev_sca cl pg (ev_mt pg x.1) x) (pg[x.1]?).isSome = true from hs)
  obtain ⟨hx, hb, -, -, hml, hown, -, hts, hK, hN, hR, hA⟩ := C
  obtain ⟨G1, G2, G3, hP, hD, hS⟩ := G
  unfold ea_ca at h
  match hp : ev_pop x.2.1 st [], h with
  | (as, s'), h =>
    obtain ⟨hc, h⟩ := ev_ite (show Bool.rec (motive := fun _ => ev_R) none _ _ = some outs from h)
    obtain ⟨c1, hc⟩ := ev_band hc
    obtain ⟨c2, hc⟩ := ev_band hc
    obtain ⟨c3, hc⟩ := ev_band hc
    obtain ⟨c4, c5⟩ := ev_band hc
    have c2 : as.length = x.2.1 := ev_beq.mp c2
    have c3 : ev_cat s' ≤ 8 := Nat.le_of_ble_eq_true c3
    have c4 : w.2.2.2.1 + x.2.2.2.2.2.1 ≤ m.2.2.1 := Nat.le_of_ble_eq_true c4
    have c5 : w.2.2.2.2 + x.2.2.2.2.2.2 ≤ m.2.2.2.1 := Nat.le_of_ble_eq_true c5
    obtain ⟨f, e1, e2⟩ := ev_pop_ok _ _ _ _ _ hp (by simpa using c2)
    rw [List.append_nil] at e1
    subst e1
    cases hq : call x.1 as w.1 w.2.1 w.2.2.1 with
    | none => rw [hq] at h; cases h
    | some os1 =>
      rw [hq] at h
      have h : ev_bo os1 (ea_ca3 k r ls s' w x.2.2.2.2.2.1 x.2.2.2.2.2.2) = some outs := h
      obtain ⟨m1, hm1, hCt⟩ := hcall _ _ _ _ _ _ hq
      rw [ev_mt_some hm1] at hs
      have hw : ∀ w ∈ ev_wca (ev_own m) x.2.2.2.1 x.2.2.2.2.1 m1, w.before args s = true := fun w h => hts w (List.mem_cons_of_mem _ (hw w (by
        show w ∈ ev_wca (ev_own m) x.2.2.2.1 x.2.2.2.2.1 (ev_mt pg x.1)
        rw [ev_mt_some hm1]; exact h)))
      have hnw : ∀ w ∈ (if x.2.2.2.2.1 < 4 then [] else [Jvm.Cond.methodLinkNest (ev_own m) x.2.2.2.1 m1.2.2.2.2.2.1 "RegisterColours"]), va_Nw w s := fun w h => hN w (hnw w (by
        show w ∈ (if x.2.2.2.2.1 < 4 then [] else [Jvm.Cond.methodLinkNest (ev_own m) x.2.2.2.1 (ev_mt pg x.1).2.2.2.2.2.1 "RegisterColours"])
        rw [ev_mt_some hm1]; exact h))
      obtain ⟨hs, t6⟩ := ev_band (show Bool.and _ _ = true from hs)
      obtain ⟨hs, t5⟩ := ev_band (show Bool.and _ _ = true from hs)
      obtain ⟨hs, t4⟩ := ev_band (show Bool.and _ _ = true from hs)
      obtain ⟨hs, t3⟩ := ev_band (show Bool.and _ _ = true from hs)
      obtain ⟨t1, t2⟩ := ev_band (show Bool.and _ _ = true from hs)
      have t1 : m1.2.2.2.2.1 ≤ 21 := of_decide_eq_true t1
      have t2 := of_decide_eq_true t2
      have t3 := of_decide_eq_true t3
      have t4 : m1.2.2.1 = x.2.2.2.2.2.1 := of_decide_eq_true t4
      have t5 : m1.2.2.2.1 = x.2.2.2.2.2.2 := of_decide_eq_true t5
      have hm1' := hpm m1 (List.mem_of_getElem? hm1)
      have hgood : GoodIn (ev_ws gw m) (ev_ws gw m1) := ev_good hg hm1'.2.2.2.1
      have hM := hCt l dC dI ca σ ρ H.size G2 G3.2.1
      have hfree : ∀ q, va_A (ev_wl σ ρ ca w.1 w.2.1) H.size q → A q := by
        rintro q (⟨j, ee, hj⟩ | hj)
        · exact hD.2 j _ hj
        · exact hA q (Nat.le_trans hS.1 hj)
      have hpre : ∀ U : State, U.heap = H → s.WarmedH U.vm → ev_Pr dC dI ca cl nw σ ρ as w.1 w.2.1 H.size (as.map (ev_cv σ ρ)).toArray U := fun U hU hW => ⟨rfl, by rw [hU], by rw [hU]; exact hP, va_K.moved hW.alike hK, hD.weaken (fun _ _ _ _ => trivial), ev_nok_warm hnk hW hN⟩
      have hcat : 2 * (F0 mm pc la (st.map (ev_cv σ ρ))).monitorRoom + ((s'.map (ev_cv σ ρ)).map fun v => v.category).sum ≤ 8 := by
        rw [ev_cat_ok]
        show 2 * 0 + ev_cat s' ≤ 8
        omega
      subst hR
      have hfit : w.2.2.2.1 + m1.2.2.1 ≤ (ev_rm (d + 1) m).cells ∧ w.2.2.2.2 + m1.2.2.2.1 ≤ (ev_rm (d + 1) m).slots := by
        rw [t4, t5]
        exact ⟨c4, c5⟩
      have fin : ∀ av : Array Value, va_Run p l e (ev_rm (d + 1) m) s mm args below meth c H locs w.2.2.2.1 w.2.2.2.2 m1.2.2.1 m1.2.2.2.1 (F0 mm pc la (st.map (ev_cv σ ρ))) (s'.map (ev_cv σ ρ)) (ev_Po dC dI ca cl σ ρ w.2.1 os1 (va_A (ev_wl σ ρ ca w.1 w.2.1) H.size) av) (va_A (ev_wl σ ρ ca w.1 w.2.1) H.size) → W p l e (ev_rm (d + 1) m) s mm args below meth c H locs w.2.2.2.1 w.2.2.2.2 Q (F0 mm pc la (st.map (ev_cv σ ρ))) := by
        intro av hrun
        refine ev_callG hrun hS hfree hfree ?_
        intro o ho ρ' H1 locs1 k1 k2 k3 k4 k5
        obtain ⟨u, h1, h2⟩ := ev_bo_some _ _ h o ho
        obtain ⟨hc3, h1⟩ := ev_ite (show Bool.rec (motive := fun _ => ev_R) none _ _ = some u from h1)
        have hls : ev_pr σ ρ' 0 ls = ev_pr σ ρ 0 ls ∧ s'.map (ev_cv σ ρ') = s'.map (ev_cv σ ρ) := by
          cases hb1 : Nat.beq o.2.2.1 w.2.1 with
          | true =>
            have := k1.2.2.2 (ev_beq.mp hb1)
            rw [this]
            exact ⟨rfl, rfl⟩
          | false =>
            rw [hb1] at hc3
            obtain ⟨q1, q2⟩ := ev_band (show Bool.and _ _ = true from hc3)
            exact ⟨ev_pr_cl k1.2.2.1 q2 0, ev_cvs_cl k1.2.2.1 q1⟩
        have G' : ev_G s m dC dI ca cl A σ ρ0 n0 ρ' ls la (o.2.1, o.2.2.1, o.2.2.2, w.2.2.2.1 + x.2.2.2.2.2.1, w.2.2.2.2 + x.2.2.2.2.2.2) H1 locs1 := by
          refine ⟨by rw [hls.1]; exact G1, k2, ⟨Nat.le_trans G3.1 k1.1, k1.2.1, fun i hi => (k1.2.2.1 i (Nat.lt_of_lt_of_le hi G3.1)).trans (G3.2.2.1 i hi), fun hn => ?_⟩, k3, k4.weaken (fun _ q _ hq => hfree q.1 hq), k5⟩
          have hn : o.2.2.1 = n0 := hn
          have g31 := G3.1
          have k11 := k1.1
          have e3 : w.2.1 = n0 := by omega
          rw [k1.2.2.2 (by omega)]
          exact G3.2.2.2 e3
        have K := hk _ _ _ _ _ _ _ _ _ _ G' hr h1 (fun z hz => hos z (h2 z hz))
        rw [ev_bck_ok, hls.2] at K
        rw [t4, t5]
        exact K
      have hstk : st.map (ev_cv σ ρ) = (as.map (ev_cv σ ρ)).reverse ++ s'.map (ev_cv σ ρ) := by
        rw [e2, List.map_append, List.map_reverse]
      obtain ⟨xm, xn, xr, xi, xh, xc, xs⟩ := x
      dsimp only at *
      match xh, xr, t6, hw, hnw, hd, c1 with
      | 0, q + 1, t6, hw, _, hd, c1 =>
        obtain ⟨t6, t8⟩ := ev_band (show Bool.and _ _ = true from t6)
        obtain ⟨t6, t7⟩ := ev_band (show Bool.and _ _ = true from t6)
        have tp : (parseMethodDescriptor m1.2.2.2.2.2.1.desc).map (fun d => d.parameters.length + 1) = some xn := of_decide_eq_true t6
        have t7 : (ev_kd cl q).1 = m1.2.2.2.2.2.1.cls := of_decide_eq_true t7
        unfold ev_rcv at c1
        match as, c1, hstk, c2, hpre, fin, hM with
        | .inr (.inl (i + 1)) :: as', c1, hstk, c2, hpre, fin, hM =>
          dsimp only at c1
          match ho : ev_tg 7 w.1 i, c1 with
          | .inl (cc, fs), c1 =>
            obtain ⟨r1, r2⟩ := ev_band (show Bool.and _ _ = true from c1)
            have r1 : cc = q := ev_beq.mp r1
            have r2 : i < w.2.1 := Nat.le_of_ble_eq_true r2
            subst r1
            have he : (ev_wl σ ρ ca w.1 w.2.1)[i]? = some (ρ i, .inr (cc, fs.map (ev_cv σ ρ))) := by
              rw [ev_wl_get r2, ho]
              rfl
            have hrec := va_recv hK hP (ev_kd_some t8) he
            rw [t7] at hrec
            have hcb : CallB (ev_rm (d + 1) m) s args (ev_own m) xi m1.2.2.2.2.2.1 m1.2.2.2.2.2.2.1 m1.2.2.2.2.1 m1.2.2.2.2.2.2.2 (ev_ws gw m1) (ev_rm d m1) m1.2.2.1 m1.2.2.2.1 as'.length := callB_of as'.length hts hgood rfl rfl rfl (hw _ (List.mem_cons_of_mem _ (List.mem_cons_of_mem _ (List.mem_cons_of_mem _ List.mem_cons_self)))) (hw _ List.mem_cons_self) ⟨t2, t3, by
              rw [← c2] at tp
              cases hpd : parseMethodDescriptor m1.2.2.2.2.2.1.desc with
              | none => rw [hpd] at tp; cases tp
              | some sg =>
                rw [hpd] at tp
                have tq : sg.parameters.length + 1 = (as').length + 1 := Option.some.inj tp
                show some sg.parameters.length = some as'.length
                rw [Nat.succ.inj tq]⟩ (ev_room d t1)
            refine fin _ (va_runV (As := as'.map (ev_cv σ ρ)) (b := ρ i) (C := m1.2.2.2.2.2.1.cls) ⟨hx, hb, hml, hown, hts⟩ hM ⟨hcb, hw _ (List.mem_cons_of_mem _ List.mem_cons_self), hw _ (List.mem_cons_of_mem _ (List.mem_cons_of_mem _ List.mem_cons_self))⟩ ⟨ev_Pr_blind hnk, hrec, hpre⟩ rfl (by rw [List.length_map]) G1.1 ?_ hcat hd hfit)
            show st.map (ev_cv σ ρ) = _
            rw [hstk]
            simp [ev_cv, ev_cr]
      | 1, 0, t6, hw, _, hd, _ =>
        have t6 := of_decide_eq_true t6
        have hcb : CallB (ev_rm (d + 1) m) s args (ev_own m) xi m1.2.2.2.2.2.1 m1.2.2.2.2.2.2.1 m1.2.2.2.2.1 m1.2.2.2.2.2.2.2 (ev_ws gw m1) (ev_rm d m1) m1.2.2.1 m1.2.2.2.1 as.length := callB_of as.length hts hgood rfl rfl rfl (hw _ (List.mem_cons_of_mem _ (List.mem_cons_of_mem _ List.mem_cons_self))) (hw _ List.mem_cons_self) ⟨t2, t3, by rw [c2]; exact t6⟩ (ev_room d t1)
        exact fin _ (va_runS (As := as.map (ev_cv σ ρ)) ⟨hx, hb, hml, hown, hts⟩ hM ⟨hcb, hw _ (List.mem_cons_of_mem _ List.mem_cons_self)⟩ ⟨ev_Pr_blind hnk, hpre⟩ rfl (by rw [List.length_map]) G1.1 hstk hcat hd hfit)
      | 4, 0, t6, hw, hnw, hd, _ =>
        have t6 := of_decide_eq_true t6
        have hcn := va_cnB (R := ev_rm (d + 1) m) (own := ev_own m) (index := xi) as.length hts hgood rfl (rm := ev_rm d m1) rfl rfl (hnw _ List.mem_cons_self) (hw _ (List.mem_cons_of_mem _ List.mem_cons_self)) ⟨t2, t3, by rw [c2]; exact t6⟩ (ev_room d t1)
        exact fin _ (va_runSN (As := as.map (ev_cv σ ρ)) ⟨hx, hb, hml, hown, hts⟩ hM ⟨hcn, hw _ List.mem_cons_self, trivial⟩ ⟨ev_Pr_blind hnk, hpre⟩ rfl (by rw [List.length_map]) G1.1 hstk hcat hd hfit)
      | 2, q + 1, t6, hw, _, hd, c1 =>
        obtain ⟨t6, t8⟩ := ev_band (show Bool.and _ _ = true from t6)
        obtain ⟨t6, t7⟩ := ev_band (show Bool.and _ _ = true from t6)
        have tp : (parseMethodDescriptor m1.2.2.2.2.2.1.desc).map (fun d => d.parameters.length + 1) = some xn := of_decide_eq_true t6
        have t7 : m1.2.2.2.2.2.1.name = "<init>" := of_decide_eq_true t7
        have t8 : m1.2.2.2.2.2.2.2 = none := of_decide_eq_true t8
        unfold ev_rcv at c1
        match as, c1, hstk, c2, hpre, fin, hM with
        | .inr (.inl (i + 1)) :: as', c1, hstk, c2, hpre, fin, hM =>
          have hcb : CallB (ev_rm (d + 1) m) s args (ev_own m) xi m1.2.2.2.2.2.1 m1.2.2.2.2.2.2.1 m1.2.2.2.2.1 none (ev_ws gw m1) (ev_rm d m1) m1.2.2.1 m1.2.2.2.1 as'.length := callB_of as'.length hts hgood (by unfold ev_ws ev_cw; rw [t8]) rfl rfl (hw _ (List.mem_cons_of_mem _ (List.mem_cons_of_mem _ List.mem_cons_self))) (hw _ List.mem_cons_self) ⟨t2, t3, by
            rw [← c2] at tp
            cases hpd : parseMethodDescriptor m1.2.2.2.2.2.1.desc with
            | none => rw [hpd] at tp; cases tp
            | some sg =>
              rw [hpd] at tp
              have tq : sg.parameters.length + 1 = (as').length + 1 := Option.some.inj tp
              show some sg.parameters.length = some as'.length
              rw [Nat.succ.inj tq]⟩ (ev_room d t1)
          refine fin _ (va_runI (As := as'.map (ev_cv σ ρ)) (b := ρ i) ⟨hx, hb, hml, hown, hts⟩ hM ⟨hcb, t7, hw _ (List.mem_cons_of_mem _ List.mem_cons_self)⟩ ⟨ev_Pr_blind hnk, hpre⟩ rfl (by rw [List.length_map]) G1.1 ?_ hcat hd hfit)
          show st.map (ev_cv σ ρ) = _
          rw [hstk]
          simp [ev_cv, ev_cr]
      | 5, q + 1, t6, hw, hnw, hd, c1 =>
        obtain ⟨t6, t8⟩ := ev_band (show Bool.and _ _ = true from t6)
        obtain ⟨t6, t7⟩ := ev_band (show Bool.and _ _ = true from t6)
        have tp : (parseMethodDescriptor m1.2.2.2.2.2.1.desc).map (fun d => d.parameters.length + 1) = some xn := of_decide_eq_true t6
        have t7 : m1.2.2.2.2.2.1.name = "<init>" := of_decide_eq_true t7
        have t8 : m1.2.2.2.2.2.2.2 = none := of_decide_eq_true t8
        unfold ev_rcv at c1
        match as, c1, hstk, c2, hpre, fin, hM with
        | .inr (.inl (i + 1)) :: as', c1, hstk, c2, hpre, fin, hM =>
          have hcn := va_cnB (R := ev_rm (d + 1) m) (own := ev_own m) (index := xi) (ret := none) as'.length hts hgood (by unfold ev_ws ev_cw; rw [t8]) (rm := ev_rm d m1) rfl rfl (hnw _ List.mem_cons_self) (hw _ (List.mem_cons_of_mem _ List.mem_cons_self)) ⟨t2, t3, by
            rw [← c2] at tp
            cases hpd : parseMethodDescriptor m1.2.2.2.2.2.1.desc with
            | none => rw [hpd] at tp; cases tp
            | some sg =>
              rw [hpd] at tp
              have tq : sg.parameters.length + 1 = (as').length + 1 := Option.some.inj tp
              show some sg.parameters.length = some as'.length
              rw [Nat.succ.inj tq]⟩ (ev_room d t1)
          refine fin _ (va_runIN (As := as'.map (ev_cv σ ρ)) (b := ρ i) ⟨hx, hb, hml, hown, hts⟩ hM ⟨hcn, t7, hw _ List.mem_cons_self⟩ ⟨ev_Pr_blind hnk, hpre⟩ rfl (by rw [List.length_map]) G1.1 ?_ hcat hd hfit)
          show st.map (ev_cv σ ρ) = _
          rw [hstk]
          simp [ev_cv, ev_cr]
/-- all that is asked of the tables -/
def ev_Sys (cl : List vw_C) (pg : List ev_M) (gw nw : List Jvm.Cond) : Prop := ev_kok cl gw ∧ ev_gok gw ∧ ev_nok nw ∧ ∀ m ∈ pg, ev_mok cl pg gw nw m
theorem ev_run_ok (Sy : ev_Sys cl pg gw nw) (hm : ev_mok cl pg gw nw m) (C : ev_Cx p l e R s mm args below meth c m d dC dI ca cl gw nw A) (hQ : Q = MQ below (ev_Po dC dI ca cl σ ρ0 n0 os A) args s m.2.2.1 m.2.2.2.1 A) (hcall : ∀ x as h n e os1, call x as h n e = some os1 → ∃ m1, pg[x]? = some m1 ∧ ev_Ct cl gw nw d m1 as h n e os1) : ∀ fuel, ev_Sn p l e R s mm args below meth c m dC dI ca cl pg gw nw A σ ρ0 n0 Q os (ev_run call m fuel)
  | 0 => fun r ls st w outs pc la ρ H locs G hok h hos => by cases h
  | fuel + 1 => fun r ls st w outs pc la ρ H locs G hok h hos => by
    have hk := ev_run_ok Sy hm C hQ hcall fuel
    have h : ev_step call (ev_run call m fuel) m r ls st w = some outs := h
    match r, h, hok with
    | [], h, _ => cases h
    | .inl (.inl (.inl (.inl (.inl (x))))) :: r, h, hok => exact es_li (call := call) C hm hk G hok h hos
    | .inl (.inl (.inl (.inl (.inr (x))))) :: r, h, hok => exact es_la (call := call) C hm hk G hok h hos
    | .inl (.inl (.inl (.inr (.inl (x))))) :: r, h, hok => exact es_pu (call := call) C hm hk G hok h hos
    | .inl (.inl (.inl (.inr (.inr (x))))) :: r, h, hok => exact es_ic (call := call) C hm hk G hok h hos
    | .inl (.inl (.inr (.inl (.inl (x))))) :: r, h, hok => exact es_gf (call := call) Sy.1 C hm hk G hok h hos
    | .inl (.inl (.inr (.inl (.inr (x))))) :: r, h, hok => exact es_go (call := call) C hm hk G hok h hos
    | .inl (.inl (.inr (.inr (.inl (x))))) :: r, h, hok => exact es_ii (call := call) C hm hk G hok h hos
    | .inl (.inl (.inr (.inr (.inr (x))))) :: r, h, hok => exact es_ib (call := call) C hm hk G hok h hos
    | .inl (.inr (.inl (.inl (.inl (x))))) :: r, h, hok => exact es_al (call := call) C hm hk G hok h hos
    | .inl (.inr (.inl (.inl (.inr (x))))) :: r, h, hok => exact es_as (call := call) C hm hk G hok h hos
    | .inl (.inr (.inl (.inr (.inl (x))))) :: r, h, hok => exact es_if (call := call) C hm hk G hok h hos
    | .inl (.inr (.inl (.inr (.inr (x))))) :: r, h, hok => exact es_re (call := call) hQ C hm hk G hok h hos
    | .inl (.inr (.inr (.inl (.inl (x))))) :: r, h, hok => exact es_ca (call := call) Sy.2.1 Sy.2.2.1 Sy.2.2.2 hcall C hm hk G hok h hos
    | .inl (.inr (.inr (.inl (.inr (x))))) :: r, h, hok => exact es_si (call := call) C hm hk G hok h hos
    | .inl (.inr (.inr (.inr (.inl (()))))) :: r, h, hok => exact es_dv (call := call) C hm hk G hok h hos
    | .inl (.inr (.inr (.inr (.inr (x))))) :: r, h, hok => exact es_ll (call := call) C hm hk G hok h hos
    | .inr (.inl (.inl (.inl (.inl (x))))) :: r, h, hok => exact es_fa (call := call) C hm hk G hok h hos
    | .inr (.inl (.inl (.inl (.inr (x))))) :: r, h, hok => exact es_pf (call := call) Sy.1 C hm hk G hok h hos
    | .inr (.inl (.inl (.inr (.inl (x))))) :: r, h, hok => exact es_lb (call := call) C hm hk G hok h hos
    | .inr (.inl (.inl (.inr (.inr (x))))) :: r, h, hok => exact es_ls (call := call) C hm hk G hok h hos
    | .inr (.inl (.inr (.inl (.inl (()))))) :: r, h, hok => exact es_lc (call := call) C hm hk G hok h hos
    | .inr (.inl (.inr (.inl (.inr (x))))) :: r, h, hok => exact es_sl (call := call) C hm hk G hok h hos
    | .inr (.inl (.inr (.inr (.inl (x))))) :: r, h, hok => exact es_un (call := call) C hm hk G hok h hos
    | .inr (.inl (.inr (.inr (.inr (x))))) :: r, h, hok => exact es_st (call := call) C hm hk G hok h hos
    | .inr (.inr (.inl (.inl (.inl (()))))) :: r, h, hok => exact es_an (call := call) C hm hk G hok h hos
    | .inr (.inr (.inl (.inl (.inr (x))))) :: r, h, hok => exact es_na (call := call) C hm hk G hok h hos
    | .inr (.inr (.inl (.inr (.inl (x))))) :: r, h, hok => exact es_nw (call := call) Sy.1 C hm hk G hok h hos
    | .inr (.inr (.inl (.inr (.inr (x))))) :: r, h, hok => exact es_oi (call := call) C hm hk G hok h hos
    | .inr (.inr (.inr (.inl (.inl (x))))) :: r, h, hok => exact es_cy (call := call) C hm hk G hok h hos
    | .inr (.inr (.inr (.inl (.inr (x))))) :: r, h, hok => exact es_tw (call := call) C hm hk G hok h hos
    | .inr (.inr (.inr (.inr (.inl (x))))) :: r, h, hok => exact es_nn (call := call) C hm hk G hok h hos
    | .inr (.inr (.inr (.inr (.inr (x))))) :: r, h, hok => exact es_sa (call := call) C hm hk G hok h hos
theorem ev_ent_len (σ : Nat → Int32) (ρ : Nat → Nat) (as : List ev_V) : (lg_sl (as.map (ev_cv σ ρ))).length = (ev_ent as).length := by
  induction as with
  | nil => rfl
  | cons v r ih =>
    have e : lg_sl ((v :: r).map (ev_cv σ ρ)) = (if (ev_cv σ ρ v).category = 2 then [.val (ev_cv σ ρ v), .second] else [.val (ev_cv σ ρ v)]) ++ lg_sl (r.map (ev_cv σ ρ)) := by
      simp [lg_sl]
    rw [e, List.length_append, ih]
    show _ = (Bool.rec (motive := fun _ => List ev_V) (v :: ev_ent r) (v :: ev_U :: ev_ent r) (ev_isl v)).length
    cases hv : ev_isl v with
    | false =>
      rw [if_neg (by rw [ev_isl_cat hv]; decide)]
      simp
      omega
    | true =>
      match v, hv with
      | .inr (.inr (.inl n)), _ =>
        rw [if_pos (show (ev_cv σ ρ (.inr (.inr (.inl n)))).category = 2 from rfl)]
        simp
        omega
theorem ev_ent_in (σ : Nat → Int32) (ρ : Nat → Nat) (as : List ev_V) (z : Nat) : ∀ (j : Nat) (q : Nat × Value), q ∈ ev_pr σ ρ j (ev_ent as ++ List.replicate z ev_U) → q ∈ lv_args j (as.map (ev_cv σ ρ)) := by
  induction as with
  | nil =>
    intro j q hq
    obtain ⟨i, v, h1, h2, -⟩ := (ev_pr_mem _ j q).mp hq
    have h1 : (List.replicate z ev_U)[i]? = some v := h1
    exact absurd (List.eq_of_mem_replicate (List.mem_of_getElem? h1)) h2
  | cons v r ih =>
    intro j q hq
    have hq : q ∈ ev_pr σ ρ j ((Bool.rec (motive := fun _ => List ev_V) (v :: ev_ent r) (v :: ev_U :: ev_ent r) (ev_isl v)) ++ List.replicate z ev_U) := hq
    show q ∈ (j, ev_cv σ ρ v) :: lv_args (if (ev_cv σ ρ v).category = 2 then j + 2 else j + 1) (r.map (ev_cv σ ρ))
    cases hv : ev_isl v with
    | false =>
      rw [hv] at hq
      rw [if_neg (by rw [ev_isl_cat hv]; decide)]
      by_cases hu : v = ev_U
      · subst hu
        exact List.mem_cons_of_mem _ (ih (j + 1) q hq)
      · have hq : q ∈ ev_pr σ ρ j (v :: (ev_ent r ++ List.replicate z ev_U)) := hq
        rw [ev_pr_cons _ _ _ _ _ hu] at hq
        rcases List.mem_cons.mp hq with rfl | hq
        · exact List.mem_cons_self
        · exact List.mem_cons_of_mem _ (ih (j + 1) q hq)
    | true =>
      match v, hv, hq with
      | .inr (.inr (.inl n)), _, hq =>
        rw [if_pos (show (ev_cv σ ρ (.inr (.inr (.inl n)))).category = 2 from rfl)]
        have hq : q ∈ ev_pr σ ρ j (.inr (.inr (.inl n)) :: ev_U :: (ev_ent r ++ List.replicate z ev_U)) := hq
        rw [ev_pr_cons _ _ _ _ _ (fun q => by cases q)] at hq
        rcases List.mem_cons.mp hq with rfl | hq
        · exact List.mem_cons_self
        · exact List.mem_cons_of_mem _ (ih (j + 2) q hq)
/-- THE WHOLE: what the evaluator says of a method is a contract of it -/
theorem ev_sound (Sy : ev_Sys cl pg gw nw) : ∀ (d x : Nat) (as : List ev_V) (h : ev_H) (n : Nat) (e : ev_E) (os : List ev_O), ev_met pg d x as h n e = some os → ∃ m1, pg[x]? = some m1 ∧ ev_Ct cl gw nw d m1 as h n e os
  | 0, x, as, h, n, e, os, hh => by cases hh
  | d + 1, x, as, h, n, e, os, hh => by
    have IH := ev_sound Sy d
    have hh : (match ev_lm pg x with
      | none => none
      | some m => ev_beg (ev_met pg d) as h n e m (ev_ent as)) = some os := hh
    rw [ev_lm_eq] at hh
    cases hx : pg[x]? with
    | none => rw [hx] at hh; cases hh
    | some m1 =>
      rw [hx] at hh
      refine ⟨m1, rfl, ?_⟩
      have hmok := Sy.2.2.2 m1 (List.mem_of_getElem? hx)
      obtain ⟨hc, hh⟩ := ev_ite (show Bool.rec (motive := fun _ => ev_R) none (ev_run (ev_met pg d) m1 10000000 (ev_lb m1.1 m1.2.1) (ev_ent as ++ List.replicate (Nat.sub m1.2.2.2.2.1 (ev_ent as).length) ev_U) [] (h, n, e, 0, 0)) (Nat.ble (ev_ent as).length m1.2.2.2.2.1) = some os from hh)
      have hc : (ev_ent as).length ≤ m1.2.2.2.2.1 := Nat.le_of_ble_eq_true hc
      intro l dC dI ca σ ρ sz hsat hn
      refine Met.ofW (cc := m1.2.2.2.2.2.2.1) (maxL := m1.2.2.2.2.1) (ret := m1.2.2.2.2.2.2.2) hmok.2.2.1 rfl ?_
      intro p e' s mm args below meth c s₁ B hml hv
      obtain ⟨rfl, hsz, hP, hK, hD0, hN⟩ := hv
      have hts := atoms_spec (ws := ev_ws gw m1) B.pre
      have hown : s.vm.findClass (ev_own m1) = some mm.cls := findClass_of_methodNamed B.named
      have hname : meth.name = m1.2.2.2.2.2.1.name := (name_of_methodNamed B.named B.method).1
      subst hsz
      have hD := hD0.self (sz := s.heap.size)
      have hA : ∀ q : Nat, s.heap.size ≤ q → va_A (ev_wl σ ρ ca h n) s.heap.size q := fun q hq => Or.inr hq
      have hlen : (lg_sl (as.map (ev_cv σ ρ))).length ≤ m1.2.2.2.2.1 := by
        rw [ev_ent_len]
        exact hc
      have hl := lv_entry (as.map (ev_cv σ ρ)) (n := m1.2.2.2.2.1) hlen
      rw [lg_entry_eq]
      generalize (lg_sl (as.map (ev_cv σ ρ)) ++ List.replicate (m1.2.2.2.2.1 - (lg_sl (as.map (ev_cv σ ρ))).length) Slot.unset).toArray = la at hl ⊢
      have hl2 : lv_has la m1.2.2.2.2.1 (ev_pr σ ρ 0 (ev_ent as ++ List.replicate (Nat.sub m1.2.2.2.2.1 (ev_ent as).length) ev_U)) := ev_has_sub hl (ev_ent_in σ ρ as _ 0)
      have C : ev_Cx p l e' (headSpec (ev_ws gw m1) (ev_rm (d + 1) m1)).room s mm (as.map (ev_cv σ ρ)).toArray below meth c m1 d dC dI ca cl gw nw (va_A (ev_wl σ ρ ca h n) s.heap.size) := ⟨B.exec, B.bytes, B.returns, B.notSynchronized, hml, hown, hname, hts, hK, hN, rfl, hA⟩
      have K := ev_run_ok (Q := MQ below (ev_Po dC dI ca cl σ ρ n os (va_A (ev_wl σ ρ ca h n) s.heap.size)) (as.map (ev_cv σ ρ)).toArray s m1.2.2.1 m1.2.2.2.1 (va_A (ev_wl σ ρ ca h n) s.heap.size)) (os := os) (σ := σ) (ρ0 := ρ) (n0 := n) Sy hmok C rfl (fun x as h n e os1 hq => IH x as h n e os1 hq) 10000000 _ _ _ (h, n, e, 0, 0) _ _ la ρ s.heap [] ⟨hl2, hsat, ⟨Nat.le_refl _, hn, fun _ _ => rfl, fun _ => rfl⟩, hP, hD, va_S.rf⟩ (ev_okc_to hmok m1.2.1) hh (fun o ho => ho)
      rw [hmok.2.1] at K
      exact K
end EVE
end
