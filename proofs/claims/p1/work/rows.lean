section
/-! ===== a symbolic evaluator of bytecode, run by the kernel: what it computes with =====
ev_T: a token (an unknown int of the start) and what was done to it, the latest first; ev_V: a known int, a reference (0: null, k + 1: cell k), a long, a token, nothing; ev_C: an object (number of its kind, fields) or an array (kind: 0 int, 1 long, 2 boolean, 3 byte; length, contents as one number, tokens laid over it) -/
abbrev ev_T : Type := Nat × List (Nat × Nat)
abbrev ev_V : Type := Nat ⊕ (Nat ⊕ (Nat ⊕ (ev_T ⊕ Unit)))
abbrev ev_C : Type := (Nat × List ev_V) ⊕ (Nat × Nat × Nat × List (Nat × ev_V))
def ev_tr (α : Type) : Nat → Type
  | 0 => α
  | n + 1 => ev_tr α n × ev_tr α n
/-- a leaf of a tree, the lowest bit of its number first -/
noncomputable def ev_tg {α : Type} (d : Nat) : ev_tr α d → Nat → α := Nat.rec (motive := fun d => ev_tr α d → Nat → α) (fun t _ => t) (fun d ih (t : ev_tr α d × ev_tr α d) i => Bool.rec (motive := fun _ => α) (ih t.2 (Nat.div i 2)) (ih t.1 (Nat.div i 2)) (Nat.beq (Nat.mod i 2) 0)) d
noncomputable def ev_ts {α : Type} (d : Nat) : ev_tr α d → Nat → α → ev_tr α d := Nat.rec (motive := fun d => ev_tr α d → Nat → α → ev_tr α d) (fun _ _ v => v) (fun d ih (t : ev_tr α d × ev_tr α d) i v => (Bool.rec (motive := fun _ => ev_tr α d × ev_tr α d) (t.1, ih t.2 (Nat.div i 2) v) (ih t.1 (Nat.div i 2) v, t.2) (Nat.beq (Nat.mod i 2) 0) : ev_tr α d × ev_tr α d)) d
abbrev ev_U : ev_V := .inr (.inr (.inr (.inr ())))
noncomputable def ev_ln (l : List ev_V) : Nat → ev_V := List.rec (motive := fun _ => Nat → ev_V) (fun _ => ev_U) (fun a _ ih j => Nat.rec (motive := fun _ => ev_V) a (fun j' _ => ih j') j) l
noncomputable def ev_lp (l : List ev_V) : Nat → ev_V → List ev_V := List.rec (motive := fun _ => Nat → ev_V → List ev_V) (fun _ _ => []) (fun a r ih j v => Nat.rec (motive := fun _ => List ev_V) (v :: r) (fun j' _ => a :: ih j' v) j) l
noncomputable def ev_isl : ev_V → Bool
  | .inr (.inr (.inl _)) => true
  | _ => false
/-- the place ahead of j holds no long -/
noncomputable def ev_nl (l : List ev_V) (j : Nat) : Bool := Nat.rec (motive := fun _ => Bool) true (fun j' _ => Bool.not (ev_isl (ev_ln l j'))) j
/-! ints by their numbers -/
noncomputable def ev_bs (a : Nat) : Nat := Nat.mod (Nat.add a 2147483648) 4294967296
noncomputable def ev_gm (w M i : Nat) : Nat := Nat.mod (Nat.shiftRight M (Nat.mul w i)) (Nat.pow 2 w)
noncomputable def ev_sm (w M i v : Nat) : Nat := Nat.xor M (Nat.shiftLeft (Nat.xor (ev_gm w M i) (Nat.mod v (Nat.pow 2 w))) (Nat.mul w i))
noncomputable def ev_cp (w Md Ms sp dp n : Nat) : Nat := Nat.add (Nat.mod Md (Nat.pow 2 (Nat.mul w dp))) (Nat.shiftLeft (Nat.add (Nat.mod (Nat.shiftRight Ms (Nat.mul w sp)) (Nat.pow 2 (Nat.mul w n))) (Nat.shiftLeft (Nat.shiftRight Md (Nat.mul w (Nat.add dp n))) (Nat.mul w n))) (Nat.mul w dp))
noncomputable def ev_sh (a k : Nat) : Nat := Bool.rec (motive := fun _ => Nat) (Nat.sub 4294967295 (Nat.shiftRight (Nat.sub 4294967295 (Nat.mod a 4294967296)) k)) (Nat.shiftRight (Nat.mod a 4294967296) k) (Nat.ble (Nat.mod a 4294967296) 2147483647)
noncomputable def ev_i2b (a : Nat) : Nat := Bool.rec (motive := fun _ => Nat) (Nat.add (Nat.mod a 256) 4294967040) (Nat.mod a 256) (Nat.ble (Nat.mod a 256) 127)
noncomputable def ev_bin (op a b : Nat) : Nat := match op with
  | 0 => Nat.mod (Nat.add a b) 4294967296
  | 1 => Nat.mod (Nat.mul a b) 4294967296
  | 2 => ev_sh a (Nat.land b 31)
  | 3 => Nat.land a b
  | 4 => Nat.mod (Nat.add a (Nat.sub 4294967296 (Nat.mod b 4294967296))) 4294967296
  | 5 => Nat.lor a b
  | 6 => Nat.mod (Nat.shiftLeft a (Nat.land b 31)) 4294967296
  | _ => Nat.shiftRight (Nat.mod a 4294967296) (Nat.land b 31)
noncomputable def ev_lbn (op a b : Nat) : Nat := match op with
  | 0 => Nat.land a b
  | 1 => Nat.mod (Nat.add a b) 18446744073709551616
  | 2 => Nat.mod (Nat.add a (Nat.sub 18446744073709551616 (Nat.mod b 18446744073709551616))) 18446744073709551616
  | _ => Nat.lor a b
noncomputable def ev_lsh (op a b : Nat) : Nat := match op with
  | 0 => Nat.shiftRight (Nat.mod a 18446744073709551616) (Nat.land b 63)
  | _ => Nat.mod (Nat.shiftLeft a (Nat.land b 63)) 18446744073709551616
noncomputable def ev_lcm (a b : Nat) : Nat := Bool.rec (motive := fun _ => Nat) (Bool.rec (motive := fun _ => Nat) 1 4294967295 (Nat.ble (Nat.mod (Nat.add a 9223372036854775808) 18446744073709551616) (Nat.mod (Nat.add b 9223372036854775808) 18446744073709551616))) 0 (Nat.beq (Nat.mod a 18446744073709551616) (Nat.mod b 18446744073709551616))
/-- less, equal, greater -/
noncomputable def ev_c3 (q : Bool × Bool × Bool) (a b : Nat) : Bool := Bool.rec (motive := fun _ => Bool) (Bool.rec (motive := fun _ => Bool) q.2.2 q.1 (Nat.ble (ev_bs a) (ev_bs b))) q.2.1 (Nat.beq (ev_bs a) (ev_bs b))
/-! instructions: load (int, reference, long), push, compare, field .. -/
abbrev ev_I : Type := ((((((Nat) ⊕ (Nat)) ⊕ ((ev_V × Nat × Nat) ⊕ ((Bool × Bool × Bool) × Nat))) ⊕ (((Nat × Nat × Nat × Nat) ⊕ (Nat)) ⊕ ((Nat × Nat) ⊕ (Nat)))) ⊕ ((((Nat) ⊕ (Nat)) ⊕ (((Bool × Bool × Bool) × Nat) ⊕ (Nat))) ⊕ (((Nat × Nat × Nat × Nat × Nat × Nat × Nat) ⊕ (Nat)) ⊕ ((Unit) ⊕ (Nat))))) ⊕ (((((Nat) ⊕ (Nat × Nat × Nat × Nat × Nat)) ⊕ ((Nat) ⊕ (Nat))) ⊕ (((Unit) ⊕ (Nat)) ⊕ ((Nat) ⊕ (Nat)))) ⊕ ((((Unit) ⊕ (Nat)) ⊕ ((Nat × Nat × List ev_V) ⊕ (Nat))) ⊕ (((Nat) ⊕ (Nat × Nat × List Nat × Nat)) ⊕ ((Nat) ⊕ (Nat))))))
noncomputable def ei_li (x : Nat) : ev_I := .inl (.inl (.inl (.inl (.inl (x)))))
noncomputable def ei_la (x : Nat) : ev_I := .inl (.inl (.inl (.inl (.inr (x)))))
noncomputable def ei_pu (x : ev_V × Nat × Nat) : ev_I := .inl (.inl (.inl (.inr (.inl (x)))))
noncomputable def ei_ic (x : (Bool × Bool × Bool) × Nat) : ev_I := .inl (.inl (.inl (.inr (.inr (x)))))
noncomputable def ei_gf (x : Nat × Nat × Nat × Nat) : ev_I := .inl (.inl (.inr (.inl (.inl (x)))))
noncomputable def ei_go (x : Nat) : ev_I := .inl (.inl (.inr (.inl (.inr (x)))))
noncomputable def ei_ii (x : Nat × Nat) : ev_I := .inl (.inl (.inr (.inr (.inl (x)))))
noncomputable def ei_ib (x : Nat) : ev_I := .inl (.inl (.inr (.inr (.inr (x)))))
noncomputable def ei_al (x : Nat) : ev_I := .inl (.inr (.inl (.inl (.inl (x)))))
noncomputable def ei_as (x : Nat) : ev_I := .inl (.inr (.inl (.inl (.inr (x)))))
noncomputable def ei_if (x : (Bool × Bool × Bool) × Nat) : ev_I := .inl (.inr (.inl (.inr (.inl (x)))))
noncomputable def ei_re (x : Nat) : ev_I := .inl (.inr (.inl (.inr (.inr (x)))))
noncomputable def ei_ca (x : Nat × Nat × Nat × Nat × Nat × Nat × Nat) : ev_I := .inl (.inr (.inr (.inl (.inl (x)))))
noncomputable def ei_si (x : Nat) : ev_I := .inl (.inr (.inr (.inl (.inr (x)))))
noncomputable def ei_dv : ev_I := .inl (.inr (.inr (.inr (.inl (())))))
noncomputable def ei_ll (x : Nat) : ev_I := .inl (.inr (.inr (.inr (.inr (x)))))
noncomputable def ei_fa (x : Nat) : ev_I := .inr (.inl (.inl (.inl (.inl (x)))))
noncomputable def ei_pf (x : Nat × Nat × Nat × Nat × Nat) : ev_I := .inr (.inl (.inl (.inl (.inr (x)))))
noncomputable def ei_lb (x : Nat) : ev_I := .inr (.inl (.inl (.inr (.inl (x)))))
noncomputable def ei_ls (x : Nat) : ev_I := .inr (.inl (.inl (.inr (.inr (x)))))
noncomputable def ei_lc : ev_I := .inr (.inl (.inr (.inl (.inl (())))))
noncomputable def ei_sl (x : Nat) : ev_I := .inr (.inl (.inr (.inl (.inr (x)))))
noncomputable def ei_un (x : Nat) : ev_I := .inr (.inl (.inr (.inr (.inl (x)))))
noncomputable def ei_st (x : Nat) : ev_I := .inr (.inl (.inr (.inr (.inr (x)))))
noncomputable def ei_an : ev_I := .inr (.inr (.inl (.inl (.inl (())))))
noncomputable def ei_na (x : Nat) : ev_I := .inr (.inr (.inl (.inl (.inr (x)))))
noncomputable def ei_nw (x : Nat × Nat × List ev_V) : ev_I := .inr (.inr (.inl (.inr (.inl (x)))))
noncomputable def ei_oi (x : Nat) : ev_I := .inr (.inr (.inl (.inr (.inr (x)))))
noncomputable def ei_cy (x : Nat) : ev_I := .inr (.inr (.inr (.inl (.inl (x)))))
noncomputable def ei_tw (x : Nat × Nat × List Nat × Nat) : ev_I := .inr (.inr (.inr (.inl (.inr (x)))))
noncomputable def ei_nn (x : Nat) : ev_I := .inr (.inr (.inr (.inr (.inl (x)))))
noncomputable def ei_sa (x : Nat) : ev_I := .inr (.inr (.inr (.inr (.inr (x)))))
abbrev ev_H : Type := ev_tr ev_C 7
abbrev ev_E : Type := List (Nat × Nat)
/-- the heap, how many cells it has, the tokens' bounds, cells and slots made -/
abbrev ev_Wd : Type := ev_H × Nat × ev_E × Nat × Nat
abbrev ev_O : Type := ev_V × ev_H × Nat × ev_E
abbrev ev_R : Type := Option (List ev_O)
/-- a method: blocks (place, instructions), the first block's number, most cells and slots made, locals, name, bytes, what it returns -/
abbrev ev_M : Type := List (Nat × List ev_I) × Nat × Nat × Nat × Nat × MethodName × ByteArray × Option FieldType
abbrev ev_K : Type := List ev_I → List ev_V → List ev_V → ev_Wd → ev_R
abbrev ev_Q : Type := Nat → List ev_V → ev_H → Nat → ev_E → ev_R
abbrev ev_A : Type := ev_Q → ev_K → ev_M → List ev_I → List ev_V → List ev_V → ev_Wd → ev_R
noncomputable def ev_lb (l : List (Nat × List ev_I)) : Nat → List ev_I := List.rec (motive := fun _ => Nat → List ev_I) (fun _ => []) (fun a _ ih j => Nat.rec (motive := fun _ => List ev_I) a.2 (fun j' _ => ih j') j) l
noncomputable def ev_pc (l : List (Nat × List ev_I)) : Nat → Nat := List.rec (motive := fun _ => Nat → Nat) (fun _ => 0) (fun a _ ih j => Nat.rec (motive := fun _ => Nat) a.1 (fun j' _ => ih j') j) l
noncomputable def ev_jn (a b : ev_R) : ev_R := match a with
  | none => none
  | some x => match b with
    | none => none
    | some y => some (x ++ y)
noncomputable def ev_en (c : Nat) : Nat → (Nat → ev_R) → ev_R := Nat.rec (motive := fun _ => Nat → (Nat → ev_R) → ev_R) (fun _ _ => some []) (fun _ ih lo f => ev_jn (f lo) (ih (Nat.succ lo) f)) c
noncomputable def ev_bo (l : List ev_O) (f : ev_O → ev_R) : ev_R := match l with
  | [] => some []
  | o :: r => match r with
    | [] => f o
    | _ => ev_jn (f o) (ev_bo r f)
/-- an int of the start, of few values: each of them -/
noncomputable def ev_rs (t : ev_T) (e : ev_E) (f : Nat → ev_E → ev_R) : ev_R := match t with
  | (k, []) => match e[k]? with
    | none => none
    | some (lo, hi) => Bool.rec (motive := fun _ => ev_R) (Bool.rec (motive := fun _ => ev_R) none (ev_en (Nat.succ (Nat.sub hi lo)) lo (fun v => f (ev_bs v) (e.set k (v, v)))) (Nat.ble (Nat.sub hi lo) 64)) (f (ev_bs lo) e) (Nat.beq lo hi)
  | _ => none
noncomputable def ev_wide (t : ev_T) (e : ev_E) : Bool := match t with
  | (k, []) => match e[k]? with
    | none => false
    | some (lo, hi) => Nat.ble 65 (Nat.sub hi lo)
  | _ => true
/-- a token beside a known int (biased): less, equal, greater -/
noncomputable def ev_sp (t : ev_T) (y : Nat) (e : ev_E) (f g h : ev_E → ev_R) : ev_R := match t with
  | (k, []) => match e[k]? with
    | none => none
    | some (lo, hi) => ev_jn (Bool.rec (motive := fun _ => ev_R) (some []) (f (e.set k (lo, Nat.min hi (Nat.pred y)))) (Nat.ble (Nat.succ lo) y)) (ev_jn (Bool.rec (motive := fun _ => ev_R) (some []) (Bool.rec (motive := fun _ => ev_R) (some []) (g (e.set k (y, y))) (Nat.ble y hi)) (Nat.ble lo y)) (Bool.rec (motive := fun _ => ev_R) (some []) (h (e.set k (Nat.max lo (Nat.succ y), hi))) (Nat.ble (Nat.succ y) hi)))
  | _ => none
/-! references that lie in the heap -/
noncomputable def ev_clV (n : Nat) (v : ev_V) : Bool := match v with
  | .inr (.inl r) => Nat.ble r n
  | _ => true
noncomputable def ev_clC (n : Nat) (c : ev_C) : Bool := match c with
  | .inl (_, fs) => fs.all (ev_clV n)
  | .inr _ => true
noncomputable def ev_clH (n : Nat) (h : ev_H) : Bool := (List.range n).all (fun i => ev_clC n (ev_tg 7 h i))
noncomputable def ev_cat (l : List ev_V) : Nat := match l with
  | [] => 0
  | v :: r => Bool.rec (motive := fun _ => Nat) (Nat.succ (ev_cat r)) (Nat.succ (Nat.succ (ev_cat r))) (ev_isl v)
/-! what an instruction does -/
noncomputable def ea_li2 (u : Nat ⊕ (Nat ⊕ (ev_T ⊕ Unit))) (k : ev_K) (r : List ev_I) (ls st : List ev_V) (w : ev_Wd) : ev_R := match u with
  | .inr (.inr (.inl t)) => k r ls (.inr (.inr (.inr (.inl t))) :: st) w
  | _ => none
noncomputable def ea_li (j : Nat) : ev_A := fun _ k _ r ls st w => Sum.rec (motive := fun _ => ev_R) (fun n => k r ls (.inl n :: st) w) (fun u => ea_li2 u k r ls st w) (ev_ln ls j)
noncomputable def ea_la (j : Nat) : ev_A := fun _ k _ r ls st w => Sum.rec (motive := fun _ => ev_R) (fun _ => none) (fun u => Sum.rec (motive := fun _ => ev_R) (fun x => k r ls (.inr (.inl x) :: st) w) (fun _ => none) u) (ev_ln ls j)
noncomputable def ea_ll (j : Nat) : ev_A := fun _ k _ r ls st w => match ev_ln ls j with
  | .inr (.inr (.inl x)) => k r ls (.inr (.inr (.inl x)) :: st) w
  | _ => none
noncomputable def ea_pu (x : ev_V × Nat × Nat) : ev_A := fun _ k _ r ls st w => k r ls (x.1 :: st) w
noncomputable def ea_go (t : Nat) : ev_A := fun _ k m _ ls st w => k (ev_lb m.1 t) ls st w
noncomputable def ea_ii (x : Nat × Nat) : ev_A := fun _ k _ r ls st w => Sum.rec (motive := fun _ => ev_R) (fun n => k r (ev_lp ls x.1 (.inl (Nat.mod (Nat.add n x.2) 4294967296))) st w) (fun _ => none) (ev_ln ls x.1)
noncomputable def ea_si (j : Nat) : ev_A := fun _ k _ r ls st w => match st with
  | .inl n :: s => Bool.rec (motive := fun _ => ev_R) none (k r (ev_lp ls j (.inl n)) s w) (ev_nl ls j)
  | .inr (.inr (.inr (.inl t))) :: s => Bool.rec (motive := fun _ => ev_R) none (k r (ev_lp ls j (.inr (.inr (.inr (.inl t))))) s w) (ev_nl ls j)
  | _ => none
noncomputable def ea_sa (j : Nat) : ev_A := fun _ k _ r ls st w => match st with
  | .inr (.inl x) :: s => Bool.rec (motive := fun _ => ev_R) none (k r (ev_lp ls j (.inr (.inl x))) s w) (ev_nl ls j)
  | _ => none
noncomputable def ea_sl (j : Nat) : ev_A := fun _ k _ r ls st w => match st with
  | .inr (.inr (.inl x)) :: s => Bool.rec (motive := fun _ => ev_R) none (k r (ev_lp (ev_lp ls (Nat.succ j) ev_U) j (.inr (.inr (.inl x)))) s w) (ev_nl ls j)
  | _ => none
/-- the world with other bounds of the tokens -/
noncomputable def ev_we (w : ev_Wd) (e : ev_E) : ev_Wd := (w.1, w.2.1, e, w.2.2.2)
noncomputable def ea_ib4 (op b : Nat) (k : ev_K) (r : List ev_I) (ls s : List ev_V) (w : ev_Wd) (u : Nat ⊕ (Nat ⊕ (ev_T ⊕ Unit))) : ev_R := match u with
  | .inr (.inr (.inl t)) => Bool.rec (motive := fun _ => ev_R) (ev_rs t w.2.2.1 (fun v e => k (ei_ib op :: r) ls (.inl b :: .inl v :: s) (ev_we w e))) (k r ls (.inr (.inr (.inr (.inl (t.1, (op, b) :: t.2)))) :: s) w) (Bool.and (ev_wide t w.2.2.1) (Bool.or (Nat.beq op 2) (Bool.or (Nat.beq op 3) (Nat.beq op 7))))
  | _ => none
noncomputable def ea_ib3 (op : Nat) (k : ev_K) (r : List ev_I) (ls s : List ev_V) (w : ev_Wd) (u : Nat ⊕ (Nat ⊕ (ev_T ⊕ Unit))) : ev_R := match u with
  | .inr (.inr (.inl t)) => ev_rs t w.2.2.1 (fun v e => k (ei_ib op :: r) ls (.inl v :: s) (ev_we w e))
  | _ => none
noncomputable def ea_ib2 (op : Nat) (k : ev_K) (r : List ev_I) (ls s : List ev_V) (w : ev_Wd) (b : Nat) : ev_R := List.rec (motive := fun _ => ev_R) none (fun v s _ => Sum.rec (motive := fun _ => ev_R) (fun a => k r ls (.inl (ev_bin op a b) :: s) w) (fun u => ea_ib4 op b k r ls s w u) v) s
noncomputable def ea_ib (op : Nat) : ev_A := fun _ k _ r ls st w => List.rec (motive := fun _ => ev_R) none (fun v s _ => Sum.rec (motive := fun _ => ev_R) (fun b => ea_ib2 op k r ls s w b) (fun u => ea_ib3 op k r ls s w u) v) st
noncomputable def ea_dv : ev_A := fun _ k _ r ls st w => match st with
  | .inl b :: .inl a :: s => Bool.rec (motive := fun _ => ev_R) none (k r ls (.inl (Nat.div a b) :: s) w) (Bool.and (Nat.ble a 2147483647) (Bool.and (Nat.ble b 2147483647) (Nat.ble 1 b)))
  | _ => none
noncomputable def ea_lb (op : Nat) : ev_A := fun _ k _ r ls st w => match st with
  | .inr (.inr (.inl b)) :: .inr (.inr (.inl a)) :: s => k r ls (.inr (.inr (.inl (ev_lbn op a b))) :: s) w
  | _ => none
noncomputable def ea_ls (op : Nat) : ev_A := fun _ k _ r ls st w => match st with
  | .inl b :: .inr (.inr (.inl a)) :: s => k r ls (.inr (.inr (.inl (ev_lsh op a b))) :: s) w
  | .inr (.inr (.inr (.inl t))) :: s => ev_rs t w.2.2.1 (fun v e => k (ei_ls op :: r) ls (.inl v :: s) (ev_we w e))
  | _ => none
noncomputable def ea_lc : ev_A := fun _ k _ r ls st w => match st with
  | .inr (.inr (.inl b)) :: .inr (.inr (.inl a)) :: s => k r ls (.inl (ev_lcm a b) :: s) w
  | _ => none
noncomputable def ea_un (op : Nat) : ev_A := fun _ k _ r ls st w => match st with
  | .inr (.inr (.inl a)) :: s => Bool.rec (motive := fun _ => ev_R) none (k r ls (.inl (Nat.mod a 4294967296) :: s) w) (Nat.beq op 0)
  | .inl a :: s => Bool.rec (motive := fun _ => ev_R) none (k r ls (.inl (ev_i2b a) :: s) w) (Nat.beq op 1)
  | .inr (.inr (.inr (.inl t))) :: s => Bool.rec (motive := fun _ => ev_R) none (k r ls (.inr (.inr (.inr (.inl (t.1, (9, 0) :: t.2)))) :: s) w) (Nat.beq op 1)
  | _ => none
noncomputable def ea_st (op : Nat) : ev_A := fun _ k _ r ls st w => match op, st with
  | 0, v :: s => Bool.rec (motive := fun _ => ev_R) (k r ls (v :: v :: s) w) none (ev_isl v)
  | 1, v :: u :: s => Bool.rec (motive := fun _ => ev_R) (k r ls (v :: u :: v :: u :: s) w) none (Bool.or (ev_isl v) (ev_isl u))
  | 2, v :: s => Bool.rec (motive := fun _ => ev_R) (k r ls s w) none (ev_isl v)
  | _, _ => none
/-- on the one way or the other -/
noncomputable def ev_to (b : Bool) (k : ev_K) (m : ev_M) (t : Nat) (r : List ev_I) (ls s : List ev_V) (w : ev_Wd) (e : ev_E) : ev_R := k (Bool.rec (motive := fun _ => List ev_I) r (ev_lb m.1 t) b) ls s (ev_we w e)
noncomputable def ea_ic4 (x : (Bool × Bool × Bool) × Nat) (k : ev_K) (m : ev_M) (r : List ev_I) (ls s : List ev_V) (w : ev_Wd) (b : Nat) (u : Nat ⊕ (Nat ⊕ (ev_T ⊕ Unit))) : ev_R := match u with
  | .inr (.inr (.inl t)) => ev_sp t (ev_bs b) w.2.2.1 (ev_to x.1.1 k m x.2 r ls s w) (ev_to x.1.2.1 k m x.2 r ls s w) (ev_to x.1.2.2 k m x.2 r ls s w)
  | _ => none
noncomputable def ea_ic3 (x : (Bool × Bool × Bool) × Nat) (k : ev_K) (m : ev_M) (r : List ev_I) (ls s : List ev_V) (w : ev_Wd) (u : Nat ⊕ (Nat ⊕ (ev_T ⊕ Unit))) : ev_R := match u, s with
  | .inr (.inr (.inl t)), .inl a :: s => ev_sp t (ev_bs a) w.2.2.1 (ev_to x.1.2.2 k m x.2 r ls s w) (ev_to x.1.2.1 k m x.2 r ls s w) (ev_to x.1.1 k m x.2 r ls s w)
  | _, _ => none
noncomputable def ea_ic2 (x : (Bool × Bool × Bool) × Nat) (k : ev_K) (m : ev_M) (r : List ev_I) (ls s : List ev_V) (w : ev_Wd) (b : Nat) : ev_R := List.rec (motive := fun _ => ev_R) none (fun v s _ => Sum.rec (motive := fun _ => ev_R) (fun a => Bool.rec (motive := fun _ => ev_R) (k r ls s w) (k (ev_lb m.1 x.2) ls s w) (ev_c3 x.1 a b)) (fun u => ea_ic4 x k m r ls s w b u) v) s
noncomputable def ea_ic (x : (Bool × Bool × Bool) × Nat) : ev_A := fun _ k m r ls st w => List.rec (motive := fun _ => ev_R) none (fun v s _ => Sum.rec (motive := fun _ => ev_R) (fun b => ea_ic2 x k m r ls s w b) (fun u => ea_ic3 x k m r ls s w u) v) st
noncomputable def ea_if (x : (Bool × Bool × Bool) × Nat) : ev_A := fun _ k m r ls st w => List.rec (motive := fun _ => ev_R) none (fun v s _ => Sum.rec (motive := fun _ => ev_R) (fun a => Bool.rec (motive := fun _ => ev_R) (k r ls s w) (k (ev_lb m.1 x.2) ls s w) (ev_c3 x.1 a 0)) (fun u => ea_ic4 x k m r ls s w 0 u) v) st
noncomputable def ea_nn (t : Nat) : ev_A := fun _ k m r ls st w => match st with
  | .inr (.inl 0) :: s => k r ls s w
  | .inr (.inl (_ + 1)) :: s => k (ev_lb m.1 t) ls s w
  | _ => none
/-- a switch: the place of a known int among the goals; of a token, by splitting at each place -/
noncomputable def ev_lt (l : List Nat) : Nat → Nat → Nat := List.rec (motive := fun _ => Nat → Nat → Nat) (fun d _ => d) (fun a _ ih d j => Nat.rec (motive := fun _ => Nat) a (fun j' _ => ih d j') j) l
noncomputable def ev_tk (l : List Nat) : Nat → ev_T → ev_E → (Nat → ev_E → ev_R) → Nat → ev_R := List.rec (motive := fun _ => Nat → ev_T → ev_E → (Nat → ev_E → ev_R) → Nat → ev_R) (fun d _ e f _ => f d e) (fun a _ ih d t e f y => ev_sp t y e (fun e' => f d e') (fun e' => f a e') (fun e' => ih d t e' f (Nat.succ y))) l
noncomputable def ea_tw (x : Nat × Nat × List Nat × Nat) : ev_A := fun _ k m _ ls st w => match st with
  | .inl a :: s => Bool.rec (motive := fun _ => ev_R) (k (ev_lb m.1 x.2.1) ls s w) (k (ev_lb m.1 (ev_lt x.2.2.1 x.2.1 (Nat.sub (ev_bs a) x.1))) ls s w) (Nat.ble x.1 (ev_bs a))
  | .inr (.inr (.inr (.inl t))) :: s => ev_tk x.2.2.1 x.2.1 t w.2.2.1 (fun g e => k (ev_lb m.1 g) ls s (ev_we w e)) x.1
  | _ => none
noncomputable def ea_gf3 (x : Nat × Nat × Nat × Nat) (k : ev_K) (r : List ev_I) (ls s : List ev_V) (w : ev_Wd) (i : Nat) (o : Nat × List ev_V) : ev_R := Bool.rec (motive := fun _ => ev_R) none (k r ls (ev_ln o.2 x.2.1 :: s) w) (Bool.and (Nat.beq o.1 x.1) (Nat.ble (Nat.succ i) w.2.1))
noncomputable def ea_gf2 (x : Nat × Nat × Nat × Nat) (k : ev_K) (r : List ev_I) (ls s : List ev_V) (w : ev_Wd) (i : Nat) : ev_R := Sum.rec (motive := fun _ => ev_R) (fun o => ea_gf3 x k r ls s w i o) (fun _ => none) (ev_tg 7 w.1 i)
/-- a reference that isn't null: the number of its cell -/
noncomputable def ev_cell (v : ev_V) (f : Nat → ev_R) : ev_R := Sum.rec (motive := fun _ => ev_R) (fun _ => none) (fun u => Sum.rec (motive := fun _ => ev_R) (fun y => Nat.rec (motive := fun _ => ev_R) none (fun i _ => f i) y) (fun _ => none) u) v
noncomputable def ea_gf (x : Nat × Nat × Nat × Nat) : ev_A := fun _ k _ r ls st w => List.rec (motive := fun _ => ev_R) none (fun v s _ => ev_cell v (ea_gf2 x k r ls s w)) st
/-- what a field of a kind takes: 0 int, 1 boolean, 2 long, 3 reference -/
noncomputable def ev_fit (q : Nat) (v : ev_V) : Bool := match q, v with
  | 0, .inl _ => true
  | 0, .inr (.inr (.inr (.inl _))) => true
  | 1, .inl n => Nat.ble n 1
  | 2, .inr (.inr (.inl _)) => true
  | 3, .inr (.inl _) => true
  | _, _ => false
noncomputable def ea_pf4 (x : Nat × Nat × Nat × Nat × Nat) (k : ev_K) (r : List ev_I) (ls s : List ev_V) (w : ev_Wd) (v : ev_V) (i : Nat) : ev_R := match v with
  | .inr (.inr (.inr (.inl t))) => Bool.rec (motive := fun _ => ev_R) none (ev_rs t w.2.2.1 (fun u e => k (ei_pf x :: r) ls (.inl u :: .inr (.inl (Nat.succ i)) :: s) (ev_we w e))) (Nat.beq x.2.2.1 1)
  | _ => none
noncomputable def ea_pf3 (x : Nat × Nat × Nat × Nat × Nat) (k : ev_K) (r : List ev_I) (ls s : List ev_V) (w : ev_Wd) (v : ev_V) (i : Nat) (o : Nat × List ev_V) : ev_R := Bool.rec (motive := fun _ => ev_R) (ea_pf4 x k r ls s w v i) (k r ls s (ev_ts 7 w.1 i (.inl (o.1, ev_lp o.2 x.2.1 v)), w.2)) (Bool.and (Nat.beq o.1 x.1) (Bool.and (Nat.ble (Nat.succ i) w.2.1) (ev_fit x.2.2.1 v)))
noncomputable def ea_pf2 (x : Nat × Nat × Nat × Nat × Nat) (k : ev_K) (r : List ev_I) (ls s : List ev_V) (w : ev_Wd) (v : ev_V) (i : Nat) : ev_R := Sum.rec (motive := fun _ => ev_R) (fun o => ea_pf3 x k r ls s w v i o) (fun _ => none) (ev_tg 7 w.1 i)
noncomputable def ea_pf (x : Nat × Nat × Nat × Nat × Nat) : ev_A := fun _ k _ r ls st w => match st with
  | v :: u :: s => ev_cell u (ea_pf2 x k r ls s w v)
  | _ => none
/-- an array and a place in it -/
noncomputable def ev_ix (q i j : Nat) (w : ev_Wd) (a : Nat × Nat × Nat × List (Nat × ev_V)) : Bool := Bool.and (Nat.ble (Nat.succ j) a.2.1) (Bool.and (Nat.beq a.1 q) (Bool.and (Nat.ble (Nat.succ i) w.2.1) (Nat.ble j 2147483647)))
noncomputable def ev_nil (l : List (Nat × ev_V)) : Bool := List.rec (motive := fun _ => Bool) true (fun _ _ _ => false) l
noncomputable def ea_al3 (q : Nat) (k : ev_K) (r : List ev_I) (ls s : List ev_V) (w : ev_Wd) (j i : Nat) (a : Nat × Nat × Nat × List (Nat × ev_V)) : ev_R := Bool.rec (motive := fun _ => ev_R) none (k r ls (Bool.rec (motive := fun _ => ev_V) (.inl (ev_gm 32 a.2.2.1 j)) (.inr (.inr (.inl (ev_gm 64 a.2.2.1 j)))) (Nat.beq q 1) :: s) w) (Bool.and (ev_ix q i j w a) (ev_nil a.2.2.2))
noncomputable def ea_al2 (q : Nat) (k : ev_K) (r : List ev_I) (ls s : List ev_V) (w : ev_Wd) (j i : Nat) : ev_R := Sum.rec (motive := fun _ => ev_R) (fun _ => none) (fun a => ea_al3 q k r ls s w j i a) (ev_tg 7 w.1 i)
noncomputable def ea_al1 (q : Nat) (k : ev_K) (r : List ev_I) (ls s : List ev_V) (w : ev_Wd) (j : Nat) : ev_R := List.rec (motive := fun _ => ev_R) none (fun v s _ => ev_cell v (ea_al2 q k r ls s w j)) s
noncomputable def ea_al4 (q : Nat) (k : ev_K) (r : List ev_I) (ls s : List ev_V) (w : ev_Wd) (u : Nat ⊕ (Nat ⊕ (ev_T ⊕ Unit))) : ev_R := match u with
  | .inr (.inr (.inl t)) => ev_rs t w.2.2.1 (fun v e => k (ei_al q :: r) ls (.inl v :: s) (ev_we w e))
  | _ => none
noncomputable def ea_al (q : Nat) : ev_A := fun _ k _ r ls st w => List.rec (motive := fun _ => ev_R) none (fun v s _ => Sum.rec (motive := fun _ => ev_R) (fun j => ea_al1 q k r ls s w j) (fun u => ea_al4 q k r ls s w u) v) st
/-- a number as a literal -/
noncomputable def ev_fo (M : Nat) (f : Nat → ev_R) : ev_R := Nat.rec (motive := fun _ => ev_R) (f 0) (fun m _ => f (Nat.succ m)) M
/-- what an array of a kind keeps of an int -/
noncomputable def ev_nar (q v : Nat) : Nat := match q with
  | 0 => v
  | 2 => Nat.land v 1
  | _ => ev_i2b v
noncomputable def ev_nat (q : Nat) (t : ev_T) : ev_T := match q with
  | 0 => t
  | 2 => (t.1, (3, 1) :: t.2)
  | _ => (t.1, (9, 0) :: t.2)
noncomputable def ea_as5 (q : Nat) (k : ev_K) (r : List ev_I) (ls s : List ev_V) (w : ev_Wd) (v : ev_V) (j i : Nat) (a : Nat × Nat × Nat × List (Nat × ev_V)) : ev_R := Bool.rec (motive := fun _ => ev_R) none
  (match v with
    | .inl v => k r ls s (ev_ts 7 w.1 i (.inr (a.1, a.2.1, a.2.2.1, (j, .inl (ev_nar q v)) :: a.2.2.2)), w.2)
    | .inr (.inr (.inr (.inl t))) => k r ls s (ev_ts 7 w.1 i (.inr (a.1, a.2.1, a.2.2.1, (j, .inr (.inr (.inr (.inl (ev_nat q t))))) :: a.2.2.2)), w.2)
    | _ => none) (Bool.and (ev_ix q i j w a) (Bool.not (Nat.beq q 1)))
/-- a known int, a long -/
noncomputable def ea_as4 (q : Nat) (k : ev_K) (r : List ev_I) (ls s : List ev_V) (w : ev_Wd) (v : ev_V) (j i : Nat) (a : Nat × Nat × Nat × List (Nat × ev_V)) : ev_R := Sum.rec (motive := fun _ => ev_R)
  (fun n => Bool.rec (motive := fun _ => ev_R) (ea_as5 q k r ls s w v j i a) (ev_fo (ev_sm 32 a.2.2.1 j (ev_nar q n)) (fun M' => k r ls s (ev_ts 7 w.1 i (.inr (a.1, a.2.1, M', [])), w.2))) (Bool.and (ev_ix q i j w a) (Bool.and (ev_nil a.2.2.2) (Bool.not (Nat.beq q 1)))))
  (fun u => Sum.rec (motive := fun _ => ev_R) (fun _ => none) (fun u => Sum.rec (motive := fun _ => ev_R) (fun n => Bool.rec (motive := fun _ => ev_R) none (ev_fo (ev_sm 64 a.2.2.1 j n) (fun M' => k r ls s (ev_ts 7 w.1 i (.inr (a.1, a.2.1, M', a.2.2.2)), w.2))) (Bool.and (ev_ix q i j w a) (Nat.beq q 1))) (fun _ => ea_as5 q k r ls s w v j i a) u) u) v
noncomputable def ea_as3 (q : Nat) (k : ev_K) (r : List ev_I) (ls s : List ev_V) (w : ev_Wd) (v : ev_V) (j i : Nat) : ev_R := Sum.rec (motive := fun _ => ev_R) (fun _ => none) (fun a => ea_as4 q k r ls s w v j i a) (ev_tg 7 w.1 i)
noncomputable def ea_as2 (q : Nat) (k : ev_K) (r : List ev_I) (ls s : List ev_V) (w : ev_Wd) (v : ev_V) (j : Nat) : ev_R := List.rec (motive := fun _ => ev_R) none (fun u s _ => ev_cell u (ea_as3 q k r ls s w v j)) s
noncomputable def ea_as6 (q : Nat) (k : ev_K) (r : List ev_I) (ls s : List ev_V) (w : ev_Wd) (v : ev_V) (u : Nat ⊕ (Nat ⊕ (ev_T ⊕ Unit))) : ev_R := match u with
  | .inr (.inr (.inl t)) => ev_rs t w.2.2.1 (fun j e => k (ei_as q :: r) ls (v :: .inl j :: s) (ev_we w e))
  | _ => none
noncomputable def ea_as1 (q : Nat) (k : ev_K) (r : List ev_I) (ls s : List ev_V) (w : ev_Wd) (v : ev_V) : ev_R := List.rec (motive := fun _ => ev_R) none (fun x s _ => Sum.rec (motive := fun _ => ev_R) (fun j => ea_as2 q k r ls s w v j) (fun u => ea_as6 q k r ls s w v u) x) s
noncomputable def ea_as (q : Nat) : ev_A := fun _ k _ r ls st w => List.rec (motive := fun _ => ev_R) none (fun v s _ => ea_as1 q k r ls s w v) st
noncomputable def ea_an : ev_A := fun _ k _ r ls st w => match st with
  | .inr (.inl (i + 1)) :: s => match ev_tg 7 w.1 i with
    | .inr (q, n, _, _) => Bool.rec (motive := fun _ => ev_R) none (k r ls (.inl n :: s) w) (Bool.and (Nat.ble (Nat.succ i) w.2.1) (Nat.ble q 3))
    | _ => none
  | _ => none
noncomputable def ea_na (q : Nat) : ev_A := fun _ k m r ls st w => match st with
  | .inl n :: s => Bool.rec (motive := fun _ => ev_R) none
      (k r ls (.inr (.inl (Nat.succ w.2.1)) :: s) (ev_ts 7 w.1 w.2.1 (.inr (q, n, 0, [])), Nat.succ w.2.1, w.2.2.1, Nat.succ w.2.2.2.1, Nat.add w.2.2.2.2 n))
      (Bool.and (Nat.ble n 1000000) (Bool.and (Nat.ble (Nat.succ w.2.2.2.1) m.2.2.1) (Bool.and (Nat.ble (Nat.add w.2.2.2.2 n) m.2.2.2.1) (Bool.and (Nat.ble w.2.1 127) (Bool.and (s.all (ev_clV w.2.1)) (Bool.and (ls.all (ev_clV w.2.1)) (ev_clH w.2.1 w.1)))))))
  | _ => none
noncomputable def ea_nw (x : Nat × Nat × List ev_V) : ev_A := fun _ k m r ls s w => Bool.rec (motive := fun _ => ev_R) none
      (k r ls (.inr (.inl (Nat.succ w.2.1)) :: s) (ev_ts 7 w.1 w.2.1 (.inl (x.1, x.2.2)), Nat.succ w.2.1, w.2.2.1, Nat.succ w.2.2.2.1, Nat.add w.2.2.2.2 x.2.2.length))
      (Bool.and (Nat.ble (Nat.succ w.2.2.2.1) m.2.2.1) (Bool.and (Nat.ble (Nat.add w.2.2.2.2 x.2.2.length) m.2.2.2.1) (Bool.and (Nat.ble w.2.1 127) (Bool.and (s.all (ev_clV w.2.1)) (Bool.and (ls.all (ev_clV w.2.1)) (Bool.and (x.2.2.all (ev_clV w.2.1)) (ev_clH w.2.1 w.1)))))))
noncomputable def ea_oi (_ : Nat) : ev_A := fun _ k _ r ls st w => match st with
  | .inr (.inl (_ + 1)) :: s => Bool.rec (motive := fun _ => ev_R) none (k r ls s w) (Nat.ble (ev_cat s) 8)
  | _ => none
noncomputable def ea_cy (_ : Nat) : ev_A := fun _ k _ r ls st w => match st with
  | .inl n :: .inl dp :: .inr (.inl (i + 1)) :: .inl sp :: .inr (.inl (i' + 1)) :: s => match ev_tg 7 w.1 i, ev_tg 7 w.1 i' with
    | .inr (q, n1, M1, []), .inr (q', n0, M0, []) => Bool.rec (motive := fun _ => ev_R) none
        (ev_fo (Bool.rec (motive := fun _ => Nat) (ev_cp 64 M1 M0 sp dp n) (ev_cp 32 M1 M0 sp dp n) (Nat.beq q 0)) (fun M' => k r ls s (ev_ts 7 w.1 i (.inr (q, n1, M', [])), w.2)))
        (Bool.and (Nat.beq q q') (Bool.and (Nat.ble q 1) (Bool.and (Nat.ble (Nat.succ i) w.2.1) (Bool.and (Nat.ble (Nat.succ i') w.2.1) (Bool.and (Nat.ble (Nat.add sp n) n0) (Bool.and (Nat.ble (Nat.add dp n) n1) (Bool.and (Nat.ble (Nat.add sp n) 2147483647) (Bool.and (Nat.ble (Nat.add dp n) 2147483647) (Nat.ble (ev_cat s) 8)))))))))
    | _, _ => none
  | _ => none
noncomputable def ea_re (q : Nat) : ev_A := fun _ _ m _ _ st w => Bool.rec (motive := fun _ => ev_R) none
  (match q, st with
    | 0, [.inl n] => match m.2.2.2.2.2.2.2 with
      | some .int => some [(.inl n, w.1, w.2.1, w.2.2.1)]
      | some .boolean => Bool.rec (motive := fun _ => ev_R) none (some [(.inl n, w.1, w.2.1, w.2.2.1)]) (Nat.ble n 1)
      | _ => none
    | 0, [.inr (.inr (.inr (.inl t)))] => match m.2.2.2.2.2.2.2 with
      | some .int => some [(.inr (.inr (.inr (.inl t))), w.1, w.2.1, w.2.2.1)]
      | _ => none
    | 1, [.inr (.inl x)] => match m.2.2.2.2.2.2.2 with
      | some (.object _) => some [(.inr (.inl x), w.1, w.2.1, w.2.2.1)]
      | _ => none
    | 2, [] => match m.2.2.2.2.2.2.2 with
      | none => some [(ev_U, w.1, w.2.1, w.2.2.1)]
      | _ => none
    | _, _ => none)
  (Bool.and (Nat.ble w.2.2.2.1 m.2.2.1) (Nat.ble w.2.2.2.2 m.2.2.2.1))
/-- the arguments of a call, and what lies below them -/
noncomputable def ev_pop (n : Nat) (st acc : List ev_V) : List ev_V × List ev_V := match n, st with
  | 0, s => (acc, s)
  | n + 1, v :: s => ev_pop n s (v :: acc)
  | _, [] => ([], [])
/-- a call's receiver, where one is asked for (1 and the number of its kind) -/
noncomputable def ev_rcv (x : Nat) (as : List ev_V) (h : ev_H) (n : Nat) : Bool := match x, as with
  | 0, _ => true
  | q + 1, .inr (.inl (i + 1)) :: _ => match ev_tg 7 h i with
    | .inl (c, _) => Bool.and (Nat.beq c q) (Nat.ble (Nat.succ i) n)
    | _ => false
  | _, _ => false
noncomputable def ev_bck (v : ev_V) (s : List ev_V) : List ev_V := match v with
  | .inr (.inr (.inr (.inr _))) => s
  | v => v :: s
/-- a call: number of the method, arguments (the receiver too), receiver, index, how, its cells and slots -/
noncomputable def ea_ca3 (k : ev_K) (r : List ev_I) (ls s : List ev_V) (w : ev_Wd) (mc ms : Nat) (o : ev_O) : ev_R := Bool.rec (motive := fun _ => ev_R) none
  (k r ls (ev_bck o.1 s) (o.2.1, o.2.2.1, o.2.2.2, Nat.add w.2.2.2.1 mc, Nat.add w.2.2.2.2 ms))
  (Bool.or (Nat.beq o.2.2.1 w.2.1) (Bool.and (s.all (ev_clV w.2.1)) (ls.all (ev_clV w.2.1))))
noncomputable def ea_ca2 (x : Nat × Nat × Nat × Nat × Nat × Nat × Nat) (call : ev_Q) (k : ev_K) (m : ev_M) (r : List ev_I) (ls : List ev_V) (w : ev_Wd) (as s : List ev_V) : ev_R := Bool.rec (motive := fun _ => ev_R) none
  (match call x.1 as w.1 w.2.1 w.2.2.1 with
    | none => none
    | some os => ev_bo os (ea_ca3 k r ls s w x.2.2.2.2.2.1 x.2.2.2.2.2.2))
  (Bool.and (ev_rcv x.2.2.1 as w.1 w.2.1) (Bool.and (Nat.ble (ev_cat s) 8) (Bool.and (Nat.ble (Nat.add w.2.2.2.1 x.2.2.2.2.2.1) m.2.2.1) (Nat.ble (Nat.add w.2.2.2.2 x.2.2.2.2.2.2) m.2.2.2.1))))
noncomputable def ea_ca (x : Nat × Nat × Nat × Nat × Nat × Nat × Nat) : ev_A := fun call k m r ls st w => Prod.rec (motive := fun _ => ev_R) (fun as s => ea_ca2 x call k m r ls w as s) (ev_pop x.2.1 st [])
noncomputable def ev_act (i : ev_I) : ev_A := Sum.rec (motive := fun _ => ev_A) (Sum.rec (motive := fun _ => ev_A) (Sum.rec (motive := fun _ => ev_A) (Sum.rec (motive := fun _ => ev_A) (Sum.rec (motive := fun _ => ev_A) ea_li ea_la) (Sum.rec (motive := fun _ => ev_A) ea_pu ea_ic)) (Sum.rec (motive := fun _ => ev_A) (Sum.rec (motive := fun _ => ev_A) ea_gf ea_go) (Sum.rec (motive := fun _ => ev_A) ea_ii ea_ib))) (Sum.rec (motive := fun _ => ev_A) (Sum.rec (motive := fun _ => ev_A) (Sum.rec (motive := fun _ => ev_A) ea_al ea_as) (Sum.rec (motive := fun _ => ev_A) ea_if ea_re)) (Sum.rec (motive := fun _ => ev_A) (Sum.rec (motive := fun _ => ev_A) ea_ca ea_si) (Sum.rec (motive := fun _ => ev_A) (fun _ => ea_dv) ea_ll)))) (Sum.rec (motive := fun _ => ev_A) (Sum.rec (motive := fun _ => ev_A) (Sum.rec (motive := fun _ => ev_A) (Sum.rec (motive := fun _ => ev_A) ea_go ea_pf) (Sum.rec (motive := fun _ => ev_A) ea_lb ea_ls)) (Sum.rec (motive := fun _ => ev_A) (Sum.rec (motive := fun _ => ev_A) (fun _ => ea_lc) ea_sl) (Sum.rec (motive := fun _ => ev_A) ea_un ea_st))) (Sum.rec (motive := fun _ => ev_A) (Sum.rec (motive := fun _ => ev_A) (Sum.rec (motive := fun _ => ev_A) (fun _ => ea_an) ea_na) (Sum.rec (motive := fun _ => ev_A) ea_nw ea_oi)) (Sum.rec (motive := fun _ => ev_A) (Sum.rec (motive := fun _ => ev_A) ea_cy ea_tw) (Sum.rec (motive := fun _ => ev_A) ea_nn ea_sa)))) i
noncomputable def ev_step (call : ev_Q) (k : ev_K) (m : ev_M) (p : List ev_I) (ls st : List ev_V) (w : ev_Wd) : ev_R := List.rec (motive := fun _ => ev_R) none (fun i r _ => ev_act i call k m r ls st w) p
noncomputable def ev_run (call : ev_Q) (m : ev_M) (fuel : Nat) : ev_K := Nat.rec (motive := fun _ => ev_K) (fun _ _ _ _ => none) (fun _ ih => ev_step call ih m) fuel
/-- the values of the arguments as the first of the places for values; a long takes two -/
noncomputable def ev_ent (l : List ev_V) : List ev_V := match l with
  | [] => []
  | v :: r => Bool.rec (motive := fun _ => List ev_V) (v :: ev_ent r) (v :: ev_U :: ev_ent r) (ev_isl v)
noncomputable def ev_lm (l : List ev_M) : Nat → Option ev_M := List.rec (motive := fun _ => Nat → Option ev_M) (fun _ => none) (fun a _ ih j => Nat.rec (motive := fun _ => Option ev_M) (some a) (fun j' _ => ih j') j) l
noncomputable def ev_beg (call : ev_Q) (as : List ev_V) (h : ev_H) (n : Nat) (e : ev_E) (m : ev_M) (ls : List ev_V) : ev_R := Bool.rec (motive := fun _ => ev_R) none (ev_run call m 10000000 (ev_lb m.1 m.2.1) (ls ++ List.replicate (Nat.sub m.2.2.2.2.1 ls.length) ev_U) [] (h, n, e, 0, 0)) (Nat.ble ls.length m.2.2.2.2.1)
noncomputable def ev_met (pg : List ev_M) (d : Nat) : ev_Q := Nat.rec (motive := fun _ => ev_Q) (fun _ _ _ _ _ => none) (fun _ ih x as h n e => match ev_lm pg x with
  | none => none
  | some m => ev_beg ih as h n e m (ev_ent as)) d
end
section
/-! ===== the kinds of objects, their fields in an order of my own; the methods that a first call reaches, block by block (printed by wip/p1/gen02.py out of javap's listing) ===== -/
def kd_0 : u_T := fun k => match k with
  | 0 => ("RegisterColours", "taped", "I", false)
  | 1 => ("RegisterColours", "told", "LRegisterColours$Told;", true)
  | 2 => ("RegisterColours", "drawnIsFresh", "Z", false)
  | 3 => ("RegisterColours", "drawn", "LRegisterColours$Graph;", true)
  | 4 => ("RegisterColours", "tape", "[B", true)
  | 5 => ("RegisterColours", "latestRun", "I", false)
  | 6 => ("RegisterColours", "reader", "LRegisterColours$Reader;", true)
  | 7 => ("RegisterColours", "runner", "LRegisterColours$Runner;", true)
  | 8 => ("RegisterColours", "classes", "[I", true)
  | 9 => ("RegisterColours", "allocator", "LRegisterColours$Allocator;", false)
  | 10 => ("RegisterColours", "kept", "LRegisterColours$Told;", false)
  | _ => ("RegisterColours", "prover", "LRegisterColours$Prover;", false)
def kd_1 : u_T := fun k => match k with
  | 0 => ("RegisterColours$Allocator", "draft", "LRegisterColours$Left;", true)
  | 1 => ("RegisterColours$Allocator", "merger", "LRegisterColours$Merger;", true)
  | 2 => ("RegisterColours$Allocator", "colourer", "LRegisterColours$Colourer;", true)
  | 3 => ("RegisterColours$Allocator", "graph", "LRegisterColours$Graph;", true)
  | _ => ("RegisterColours$Allocator", "spiller", "LRegisterColours$Spiller;", true)
def kd_2 : u_T := fun k => match k with
  | 0 => ("RegisterColours$Colourer", "graph", "LRegisterColours$Graph;", true)
  | 1 => ("RegisterColours$Colourer", "register", "[I", true)
  | 2 => ("RegisterColours$Colourer", "isSpilled", "[Z", true)
  | 3 => ("RegisterColours$Colourer", "remaining", "[J", true)
  | 4 => ("RegisterColours$Colourer", "spilled", "I", false)
  | 5 => ("RegisterColours$Colourer", "saved", "I", false)
  | 6 => ("RegisterColours$Colourer", "takenCount", "I", false)
  | 7 => ("RegisterColours$Colourer", "taken", "[I", true)
  | 8 => ("RegisterColours$Colourer", "takenHeavy", "[Z", true)
  | _ => ("RegisterColours$Colourer", "degree", "[I", true)
def kd_3 : u_T := fun k => match k with
  | 0 => ("RegisterColours$Graph", "words", "I", true)
  | 1 => ("RegisterColours$Graph", "edges", "[J", true)
  | 2 => ("RegisterColours$Graph", "values", "I", false)
  | 3 => ("RegisterColours$Graph", "k", "I", false)
  | 4 => ("RegisterColours$Graph", "classes", "[I", true)
  | 5 => ("RegisterColours$Graph", "inUse", "I", false)
  | 6 => ("RegisterColours$Graph", "there", "[J", true)
  | 7 => ("RegisterColours$Graph", "pairs", "[J", true)
  | 8 => ("RegisterColours$Graph", "ofB", "[J", true)
  | 9 => ("RegisterColours$Graph", "steps", "LRegisterColours$Steps;", true)
  | 10 => ("RegisterColours$Graph", "m", "I", false)
  | 11 => ("RegisterColours$Graph", "cost", "[I", true)
  | 12 => ("RegisterColours$Graph", "live", "[J", true)
  | 13 => ("RegisterColours$Graph", "clobbered", "I", false)
  | 14 => ("RegisterColours$Graph", "behind", "[J", true)
  | 15 => ("RegisterColours$Graph", "fresh", "[J", true)
  | 16 => ("RegisterColours$Graph", "beginsLoop", "[Z", true)
  | _ => ("RegisterColours$Graph", "weight", "[I", true)
def kd_4 : u_T := fun k => match k with
  | 0 => ("RegisterColours$Left", "register", "[I", true)
  | 1 => ("RegisterColours$Left", "node", "[I", true)
  | 2 => ("RegisterColours$Left", "steps", "LRegisterColours$Steps;", true)
  | 3 => ("RegisterColours$Left", "saved", "I", false)
  | 4 => ("RegisterColours$Left", "classes", "[I", true)
  | 5 => ("RegisterColours$Left", "values", "I", false)
  | 6 => ("RegisterColours$Left", "rounds", "I", false)
  | 7 => ("RegisterColours$Left", "merged", "I", false)
  | 8 => ("RegisterColours$Left", "fate", "[I", true)
  | 9 => ("RegisterColours$Left", "slots", "I", false)
  | 10 => ("RegisterColours$Left", "spilled", "I", false)
  | 11 => ("RegisterColours$Left", "anew", "I", false)
  | _ => ("RegisterColours$Left", "spilledCost", "I", false)
def kd_5 : u_T := fun k => match k with
  | 0 => ("RegisterColours$Merger", "nodeOf", "[I", true)
  | 1 => ("RegisterColours$Merger", "graph", "LRegisterColours$Graph;", true)
  | 2 => ("RegisterColours$Merger", "steps", "LRegisterColours$Steps;", true)
  | 3 => ("RegisterColours$Merger", "merged", "I", false)
  | 4 => ("RegisterColours$Merger", "moveCount", "I", false)
  | _ => ("RegisterColours$Merger", "moves", "[I", true)
def kd_6 : u_T := fun k => match k with
  | 0 => ("RegisterColours$Reader", "lines", "I", false)
  | 1 => ("RegisterColours$Reader", "fault", "I", false)
  | 2 => ("RegisterColours$Reader", "steps", "LRegisterColours$Steps;", true)
  | 3 => ("RegisterColours$Reader", "faultPlace", "I", false)
  | 4 => ("RegisterColours$Reader", "tokens", "[I", true)
  | 5 => ("RegisterColours$Reader", "at", "I", false)
  | 6 => ("RegisterColours$Reader", "places", "[I", true)
  | 7 => ("RegisterColours$Reader", "firstStep", "[I", true)
  | 8 => ("RegisterColours$Reader", "text", "[B", true)
  | 9 => ("RegisterColours$Reader", "numbers", "[I", true)
  | _ => ("RegisterColours$Reader", "jumpPlace", "[I", true)
def kd_7 : u_T := fun k => match k with
  | 0 => ("RegisterColours$Runner", "steps", "LRegisterColours$Steps;", false)
  | 1 => ("RegisterColours$Runner", "atEnd", "Z", false)
  | 2 => ("RegisterColours$Runner", "done", "I", false)
  | 3 => ("RegisterColours$Runner", "outs", "I", false)
  | 4 => ("RegisterColours$Runner", "outNumber", "I", false)
  | 5 => ("RegisterColours$Runner", "held", "[J", true)
  | 6 => ("RegisterColours$Runner", "registers", "[I", true)
  | 7 => ("RegisterColours$Runner", "slots", "[J", true)
  | 8 => ("RegisterColours$Runner", "told", "LRegisterColours$Told;", true)
  | 9 => ("RegisterColours$Runner", "codeClasses", "[I", true)
  | 10 => ("RegisterColours$Runner", "byRegisters", "Z", false)
  | 11 => ("RegisterColours$Runner", "classes", "[I", false)
  | _ => ("RegisterColours$Runner", "nextInput", "I", false)
def kd_8 : u_T := fun k => match k with
  | 0 => ("RegisterColours$Spiller", "fate", "[I", true)
  | 1 => ("RegisterColours$Spiller", "fateNumber", "[I", true)
  | 2 => ("RegisterColours$Spiller", "firstNew", "[I", true)
  | 3 => ("RegisterColours$Spiller", "next", "LRegisterColours$Steps;", true)
  | 4 => ("RegisterColours$Spiller", "draft", "LRegisterColours$Left;", true)
  | 5 => ("RegisterColours$Spiller", "steps", "LRegisterColours$Steps;", true)
  | _ => ("RegisterColours$Spiller", "nodeOf", "[I", true)
def kd_9 : u_T := fun k => match k with
  | 0 => ("RegisterColours$Steps", "count", "I", false)
  | 1 => ("RegisterColours$Steps", "kind", "[I", true)
  | 2 => ("RegisterColours$Steps", "made", "[I", true)
  | 3 => ("RegisterColours$Steps", "one", "[I", true)
  | 4 => ("RegisterColours$Steps", "two", "[I", true)
  | _ => ("RegisterColours$Steps", "number", "[I", true)
def kd_10 : u_T := fun k => match k with
  | 0 => ("RegisterColours$Told", "painted", "[I", true)
  | 1 => ("RegisterColours$Told", "k", "I", false)
  | 2 => ("RegisterColours$Told", "clobbered", "I", false)
  | 3 => ("RegisterColours$Told", "m", "I", false)
  | 4 => ("RegisterColours$Told", "allocated", "Z", false)
  | 5 => ("RegisterColours$Told", "code", "LRegisterColours$Steps;", true)
  | 6 => ("RegisterColours$Told", "inputs", "I", false)
  | 7 => ("RegisterColours$Told", "lines", "I", false)
  | 8 => ("RegisterColours$Told", "input", "[I", true)
  | _ => ("RegisterColours$Told", "left", "LRegisterColours$Left;", true)
def kd_11 : u_T := fun k => match k with
  | 0 => ("RegisterColoursModel", "isIn", "[Z", true)
  | 1 => ("RegisterColoursModel", "imaged", "I", false)
  | 2 => ("RegisterColoursModel", "isThere", "[Z", true)
  | 3 => ("RegisterColoursModel", "edges", "[I", true)
  | 4 => ("RegisterColoursModel", "registers", "I", false)
  | 5 => ("RegisterColoursModel", "images", "[I", true)
  | 6 => ("RegisterColoursModel", "isTaking", "Z", false)
  | 7 => ("RegisterColoursModel", "nodeOf", "[I", true)
  | 8 => ("RegisterColoursModel", "costs", "[I", true)
  | 9 => ("RegisterColoursModel", "everSpilled", "[I", true)
  | 10 => ("RegisterColoursModel", "painted", "[I", true)
  | 11 => ("RegisterColoursModel", "madeClass", "[I", true)
  | 12 => ("RegisterColoursModel", "colours", "[I", true)
  | 13 => ("RegisterColoursModel", "leftClass", "[I", true)
  | 14 => ("RegisterColoursModel", "leftColour", "[I", true)
  | 15 => ("RegisterColoursModel", "leftSpilled", "[I", true)
  | 16 => ("RegisterColoursModel", "leftNode", "[I", true)
  | 17 => ("RegisterColoursModel", "values", "[J", true)
  | 18 => ("RegisterColoursModel", "slots", "[J", true)
  | 19 => ("RegisterColoursModel", "many", "[I", true)
  | 20 => ("RegisterColoursModel", "taped", "I", false)
  | 21 => ("RegisterColoursModel", "tape", "[I", true)
  | 22 => ("RegisterColoursModel", "told", "I", false)
  | 23 => ("RegisterColoursModel", "lives", "[I", true)
  | 24 => ("RegisterColoursModel", "others", "I", false)
  | 25 => ("RegisterColoursModel", "isLeft", "Z", false)
  | 26 => ("RegisterColoursModel", "leftTold", "[I", true)
  | 27 => ("RegisterColoursModel", "clobbered", "I", false)
  | 28 => ("RegisterColoursModel", "inputMany", "I", false)
  | 29 => ("RegisterColoursModel", "holdsA", "[I", true)
  | 30 => ("RegisterColoursModel", "lineMany", "I", false)
  | 31 => ("RegisterColoursModel", "spot", "I", false)
  | 32 => ("RegisterColoursModel", "holdsB", "[I", true)
  | 33 => ("RegisterColoursModel", "token", "I", false)
  | 34 => ("RegisterColoursModel", "faultPlace", "I", false)
  | 35 => ("RegisterColoursModel", "readMany", "I", false)
  | 36 => ("RegisterColoursModel", "inputs", "[I", true)
  | 37 => ("RegisterColoursModel", "fewest", "I", false)
  | 38 => ("RegisterColoursModel", "steps", "[I", true)
  | 39 => ("RegisterColoursModel", "moveMany", "I", false)
  | 40 => ("RegisterColoursModel", "mergedMany", "I", false)
  | 41 => ("RegisterColoursModel", "laidMany", "I", false)
  | 42 => ("RegisterColoursModel", "luckyMany", "I", false)
  | 43 => ("RegisterColoursModel", "slotMany", "I", false)
  | 44 => ("RegisterColoursModel", "spilledMany", "I", false)
  | 45 => ("RegisterColoursModel", "anewMany", "I", false)
  | 46 => ("RegisterColoursModel", "spilledCost", "I", false)
  | 47 => ("RegisterColoursModel", "faultKind", "I", false)
  | 48 => ("RegisterColoursModel", "lineRow", "[I", true)
  | 49 => ("RegisterColoursModel", "stepOfLine", "[I", true)
  | 50 => ("RegisterColoursModel", "outMany", "I", false)
  | 51 => ("RegisterColoursModel", "outSum", "I", false)
  | 52 => ("RegisterColoursModel", "doneMany", "I", false)
  | 53 => ("RegisterColoursModel", "hasImage", "Z", false)
  | 54 => ("RegisterColoursModel", "behind", "[I", true)
  | 55 => ("RegisterColoursModel", "moves", "[I", true)
  | 56 => ("RegisterColoursModel", "laid", "[I", true)
  | 57 => ("RegisterColoursModel", "wasHeavy", "[Z", true)
  | 58 => ("RegisterColoursModel", "spills", "[I", true)
  | 59 => ("RegisterColoursModel", "spillNumber", "[I", true)
  | 60 => ("RegisterColoursModel", "valueMany", "I", false)
  | 61 => ("RegisterColoursModel", "firstOf", "[I", true)
  | 62 => ("RegisterColoursModel", "from", "I", false)
  | 63 => ("RegisterColoursModel", "words", "[I", true)
  | 64 => ("RegisterColoursModel", "draftRow", "[I", true)
  | 65 => ("RegisterColoursModel", "taken", "I", false)
  | 66 => ("RegisterColoursModel", "held", "[I", true)
  | 67 => ("RegisterColoursModel", "heldThen", "[I", true)
  | 68 => ("RegisterColoursModel", "isReached", "[Z", true)
  | 69 => ("RegisterColoursModel", "isTooMuch", "Z", false)
  | 70 => ("RegisterColoursModel", "value", "I", false)
  | 71 => ("RegisterColoursModel", "readFault", "I", false)
  | _ => ("RegisterColoursModel", "readPlace", "I", false)
abbrev ev_cl : List vw_C := [("RegisterColours", kd_0, 12), ("RegisterColours$Allocator", kd_1, 5), ("RegisterColours$Colourer", kd_2, 10), ("RegisterColours$Graph", kd_3, 18), ("RegisterColours$Left", kd_4, 13), ("RegisterColours$Merger", kd_5, 6), ("RegisterColours$Reader", kd_6, 11), ("RegisterColours$Runner", kd_7, 13), ("RegisterColours$Spiller", kd_8, 7), ("RegisterColours$Steps", kd_9, 6), ("RegisterColours$Told", kd_10, 10), ("RegisterColoursModel", kd_11, 73)]
/-- RegisterColoursModel.isFixed(I)Z -/
noncomputable def mt_0 : ev_M := ([(0, [ei_li 1, ei_la 0, ei_gf (11, 4, 7, 0), ei_ic ((false, true, true), 2), ei_pu (.inl 1, 0, 0), ei_go 1]),
  (13, [ei_re 0]),
  (12, [ei_pu (.inl 0, 0, 0), ei_fa 1])], 0, 0, 0, 2, ⟨"RegisterColoursModel", "isFixed", "(I)Z"⟩, prog_14_method_29_code, some .boolean)
/-- RegisterColours.asNumber(Z)I -/
noncomputable def mt_1 : ev_M := ([(0, [ei_li 0, ei_if ((false, true, false), 2), ei_pu (.inl 1, 0, 0), ei_go 1]),
  (9, [ei_re 0]),
  (8, [ei_pu (.inl 0, 0, 0), ei_fa 1])], 0, 0, 0, 1, ⟨"RegisterColours", "asNumber", "(Z)I"⟩, prog_1_method_25_code, some .int)
/-- RegisterColoursModel.empties([II)V -/
noncomputable def mt_2 : ev_M := ([(2, [ei_li 3, ei_pu (.inl 7, 1, 0), ei_ic ((false, true, true), 2), ei_la 1, ei_pu (.inl 7, 1, 0), ei_li 2, ei_ib 1, ei_li 3, ei_ib 0, ei_pu (.inl 0, 0, 0), ei_as 0, ei_ii (3, 1), ei_go 0]),
  (0, [ei_pu (.inl 0, 0, 0), ei_si 3, ei_fa 0]),
  (23, [ei_re 2])], 1, 0, 0, 4, ⟨"RegisterColoursModel", "empties", "([II)V"⟩, prog_14_method_9_code, none)
/-- RegisterColoursModel.has([III)Z -/
noncomputable def mt_3 : ev_M := ([(26, [ei_re 0]),
  (25, [ei_pu (.inl 0, 0, 0), ei_fa 0]),
  (0, [ei_la 1, ei_pu (.inl 7, 1, 0), ei_li 2, ei_ib 1, ei_li 3, ei_pu (.inl 5, 0, 0), ei_ib 2, ei_ib 0, ei_al 0, ei_li 3, ei_pu (.inl 31, 1, 0), ei_ib 3, ei_ib 2, ei_pu (.inl 1, 0, 0), ei_ib 3, ei_pu (.inl 1, 0, 0), ei_ic ((true, false, true), 1), ei_pu (.inl 1, 0, 0), ei_go 0])], 2, 0, 0, 4, ⟨"RegisterColoursModel", "has", "([III)Z"⟩, prog_14_method_6_code, some .boolean)
/-- RegisterColours.hasBit([JII)Z -/
noncomputable def mt_4 : ev_M := ([(25, [ei_re 0]),
  (24, [ei_pu (.inl 0, 0, 0), ei_fa 0]),
  (0, [ei_la 0, ei_li 1, ei_li 2, ei_pu (.inl 6, 1, 0), ei_ib 2, ei_ib 0, ei_al 1, ei_li 2, ei_pu (.inl 63, 1, 0), ei_ib 3, ei_ls 0, ei_pu (.inr (.inr (.inl 1)), 3, 0), ei_lb 0, ei_pu (.inr (.inr (.inl 0)), 3, 0), ei_lc, ei_if ((false, true, false), 1), ei_pu (.inl 1, 0, 0), ei_go 0])], 2, 0, 0, 3, ⟨"RegisterColours", "hasBit", "([JII)Z"⟩, prog_1_method_28_code, some .boolean)
/-- RegisterColours$Graph.hasEdge(II)Z -/
noncomputable def mt_5 : ev_M := ([(0, [ei_la 0, ei_gf (3, 1, 47, 0), ei_li 1, ei_la 0, ei_gf (3, 0, 40, 0), ei_ib 1, ei_li 2, ei_ca (4, 3, 0, 174, 4, 0, 0), ei_re 0])], 0, 0, 0, 3, ⟨"RegisterColours$Graph", "hasEdge", "(II)Z"⟩, prog_4_method_16_code, some .boolean)
/-- RegisterColours.putBit([JII)V -/
noncomputable def mt_6 : ev_M := ([(0, [ei_la 0, ei_li 1, ei_li 2, ei_pu (.inl 6, 1, 0), ei_ib 2, ei_ib 0, ei_st 1, ei_al 1, ei_pu (.inr (.inr (.inl 1)), 3, 0), ei_li 2, ei_pu (.inl 63, 1, 0), ei_ib 3, ei_ls 1, ei_lb 3, ei_as 1, ei_re 2])], 0, 0, 0, 3, ⟨"RegisterColours", "putBit", "([JII)V"⟩, prog_1_method_29_code, none)
/-- RegisterColours.classAtFirst(I)I -/
noncomputable def mt_7 : ev_M := ([(0, [ei_li 0, ei_pu (.inl 32, 1, 0), ei_ic ((false, true, true), 1), ei_pu (.inl 0, 0, 0), ei_re 0]),
  (8, [ei_li 0, ei_pu (.inl 40, 1, 0), ei_ic ((false, true, true), 3), ei_pu (.inl 1, 0, 0), ei_go 2]),
  (19, [ei_re 0]),
  (18, [ei_pu (.inl 2, 0, 0), ei_fa 2])], 0, 0, 0, 1, ⟨"RegisterColours", "classAtFirst", "(I)I"⟩, prog_1_method_27_code, some .int)
/-- RegisterColoursModel.puts([III)V -/
noncomputable def mt_8 : ev_M := ([(0, [ei_la 1, ei_pu (.inl 7, 1, 0), ei_li 2, ei_ib 1, ei_li 3, ei_pu (.inl 5, 0, 0), ei_ib 2, ei_ib 0, ei_la 1, ei_pu (.inl 7, 1, 0), ei_li 2, ei_ib 1, ei_li 3, ei_pu (.inl 5, 0, 0), ei_ib 2, ei_ib 0, ei_al 0, ei_pu (.inl 1, 0, 0), ei_li 3, ei_pu (.inl 31, 1, 0), ei_ib 3, ei_ib 6, ei_ib 5, ei_as 0, ei_re 2])], 0, 0, 0, 4, ⟨"RegisterColoursModel", "puts", "([III)V"⟩, prog_14_method_7_code, none)
/-- java/lang/Long.bitCount(J)I -/
noncomputable def mt_9 : ev_M := ([(0, [ei_ll 0, ei_ll 0, ei_pu (.inl 1, 0, 0), ei_ls 0, ei_pu (.inr (.inr (.inl 6148914691236517205)), 7, 314), ei_lb 0, ei_lb 2, ei_sl 0, ei_ll 0, ei_pu (.inr (.inr (.inl 3689348814741910323)), 7, 316), ei_lb 0, ei_ll 0, ei_pu (.inl 2, 0, 0), ei_ls 0, ei_pu (.inr (.inr (.inl 3689348814741910323)), 7, 316), ei_lb 0, ei_lb 1, ei_sl 0, ei_ll 0, ei_ll 0, ei_pu (.inl 4, 0, 0), ei_ls 0, ei_lb 1, ei_pu (.inr (.inr (.inl 1085102592571150095)), 7, 318), ei_lb 0, ei_sl 0, ei_ll 0, ei_ll 0, ei_pu (.inl 8, 1, 0), ei_ls 0, ei_lb 1, ei_sl 0, ei_ll 0, ei_ll 0, ei_pu (.inl 16, 1, 0), ei_ls 0, ei_lb 1, ei_sl 0, ei_ll 0, ei_ll 0, ei_pu (.inl 32, 1, 0), ei_ls 0, ei_lb 1, ei_sl 0, ei_ll 0, ei_un 0, ei_pu (.inl 127, 1, 0), ei_ib 3, ei_re 0])], 0, 0, 0, 2, ⟨"java/lang/Long", "bitCount", "(J)I"⟩, prog_16_method_50_code, some .int)
/-- RegisterColoursModel.joins(II)V -/
noncomputable def mt_10 : ev_M := ([(0, [ei_la 0, ei_la 0, ei_gf (11, 3, 38, 0), ei_li 1, ei_li 2, ei_ca (8, 4, 12, 190, 0, 0, 0), ei_la 0, ei_la 0, ei_gf (11, 3, 38, 0), ei_li 2, ei_li 1, ei_ca (8, 4, 12, 190, 0, 0, 0), ei_re 2])], 0, 0, 0, 3, ⟨"RegisterColoursModel", "joins", "(II)V"⟩, prog_14_method_31_code, none)
/-- RegisterColours$Graph.isThere(I)Z -/
noncomputable def mt_11 : ev_M := ([(0, [ei_la 0, ei_gf (3, 6, 66, 0), ei_pu (.inl 0, 0, 0), ei_li 1, ei_ca (4, 3, 0, 174, 4, 0, 0), ei_re 0])], 0, 0, 0, 2, ⟨"RegisterColours$Graph", "isThere", "(I)Z"⟩, prog_4_method_15_code, some .boolean)
/-- RegisterColours$Graph.connect(II)V -/
noncomputable def mt_12 : ev_M := ([(0, [ei_la 0, ei_gf (3, 1, 47, 0), ei_li 1, ei_la 0, ei_gf (3, 0, 40, 0), ei_ib 1, ei_li 2, ei_ca (6, 3, 0, 139, 4, 0, 0), ei_la 0, ei_gf (3, 1, 47, 0), ei_li 2, ei_la 0, ei_gf (3, 0, 40, 0), ei_ib 1, ei_li 1, ei_ca (6, 3, 0, 139, 4, 0, 0), ei_re 2])], 0, 0, 0, 3, ⟨"RegisterColours$Graph", "connect", "(II)V"⟩, prog_4_method_11_code, none)
/-- java/util/Arrays.fill([JJ)V -/
noncomputable def mt_13 : ev_M := ([(6, [ei_li 3, ei_li 4, ei_ic ((false, true, true), 2), ei_la 0, ei_li 3, ei_ll 1, ei_as 1, ei_ii (3, 1), ei_go 0]),
  (0, [ei_pu (.inl 0, 0, 0), ei_si 3, ei_la 0, ei_an, ei_si 4, ei_fa 0]),
  (22, [ei_re 2])], 1, 0, 0, 5, ⟨"java/util/Arrays", "fill", "([JJ)V"⟩, prog_22_method_101_code, none)
/-- RegisterColoursModel.classOf(I)I -/
noncomputable def mt_14 : ev_M := ([(0, [ei_la 0, ei_la 0, ei_gf (11, 11, 26, 0), ei_li 1, ei_ca (15, 3, 12, 161, 0, 0, 0), ei_re 0])], 0, 0, 0, 2, ⟨"RegisterColoursModel", "classOf", "(I)I"⟩, prog_14_method_16_code, some .int)
/-- RegisterColoursModel.classIn([II)I -/
noncomputable def mt_15 : ev_M := ([(31, [ei_re 0]),
  (0, [ei_li 2, ei_pu (.inl 44, 1, 0), ei_ic ((true, false, false), 2)]),
  (10, [ei_li 2, ei_pu (.inl 32, 1, 0), ei_ic ((false, true, true), 3), ei_pu (.inl 0, 0, 0), ei_go 0]),
  (20, [ei_li 2, ei_pu (.inl 40, 1, 0), ei_ic ((false, true, true), 4), ei_pu (.inl 1, 0, 0), ei_go 0]),
  (30, [ei_pu (.inl 2, 0, 0), ei_fa 0])], 1, 0, 0, 3, ⟨"RegisterColoursModel", "classIn", "([II)I"⟩, prog_14_method_15_code, some .int)
/-- RegisterColoursModel.limitOf(I)I -/
noncomputable def mt_16 : ev_M := ([(0, [ei_li 1, ei_if ((true, false, true), 2), ei_la 0, ei_gf (11, 4, 7, 0), ei_go 1]),
  (29, [ei_re 0]),
  (11, [ei_li 1, ei_pu (.inl 1, 0, 0), ei_ic ((true, false, true), 3), ei_la 0, ei_gf (11, 24, 13, 0), ei_go 1]),
  (23, [ei_la 0, ei_gf (11, 4, 7, 0), ei_pu (.inl 2, 0, 0), ei_dv, ei_fa 1])], 0, 0, 0, 2, ⟨"RegisterColoursModel", "limitOf", "(I)I"⟩, prog_14_method_12_code, some .int)
/-- RegisterColours$Graph.limitOf(I)I -/
noncomputable def mt_17 : ev_M := ([(0, [ei_la 0, ei_gf (3, 4, 31, 0), ei_li 1, ei_al 0, ei_if ((true, false, true), 1), ei_la 0, ei_gf (3, 3, 9, 0), ei_re 0]),
  (14, [ei_la 0, ei_gf (3, 4, 31, 0), ei_li 1, ei_al 0, ei_pu (.inl 1, 0, 0), ei_ic ((true, false, true), 3), ei_la 0, ei_gf (3, 10, 21, 0), ei_go 2]),
  (37, [ei_re 0]),
  (31, [ei_la 0, ei_gf (3, 3, 9, 0), ei_pu (.inl 2, 0, 0), ei_dv, ei_fa 2])], 0, 0, 0, 2, ⟨"RegisterColours$Graph", "limitOf", "(I)I"⟩, prog_4_method_18_code, some .int)
/-- RegisterColoursModel.isIn(III)Z -/
noncomputable def mt_18 : ev_M := ([(15, [ei_re 0]),
  (14, [ei_pu (.inl 0, 0, 0), ei_fa 0]),
  (0, [ei_li 1, ei_li 2, ei_ic ((true, false, false), 1), ei_li 1, ei_li 3, ei_ic ((false, false, true), 1), ei_pu (.inl 1, 0, 0), ei_go 0])], 2, 0, 0, 4, ⟨"RegisterColoursModel", "isIn", "(III)Z"⟩, prog_14_method_3_code, some .boolean)
/-- java/util/Arrays.fill([II)V -/
noncomputable def mt_19 : ev_M := ([(5, [ei_li 2, ei_li 3, ei_ic ((false, true, true), 2), ei_la 0, ei_li 2, ei_li 1, ei_as 0, ei_ii (2, 1), ei_go 0]),
  (0, [ei_pu (.inl 0, 0, 0), ei_si 2, ei_la 0, ei_an, ei_si 3, ei_fa 0]),
  (20, [ei_re 2])], 1, 0, 0, 4, ⟨"java/util/Arrays", "fill", "([II)V"⟩, prog_22_method_103_code, none)
/-- java/lang/Math.min(II)I -/
noncomputable def mt_20 : ev_M := ([(0, [ei_li 0, ei_li 1, ei_ic ((false, false, true), 2), ei_li 0, ei_go 1]),
  (10, [ei_re 0]),
  (9, [])], 0, 0, 0, 2, ⟨"java/lang/Math", "min", "(II)I"⟩, prog_17_method_69_code, some .int)
/-- RegisterColoursModel.findsLives(I)V -/
noncomputable def mt_21 : ev_M := ([(2, [ei_li 2, ei_la 0, ei_gf (11, 19, 23, 0), ei_li 1, ei_al 0, ei_ic ((false, false, true), 3), ei_la 0, ei_la 0, ei_gf (11, 23, 32, 0), ei_li 2, ei_ca (2, 3, 12, 193, 0, 0, 0), ei_ii (2, 1), ei_go 0]),
  (29, [ei_li 2, ei_if ((false, true, false), 5), ei_pu (.inl 0, 0, 0), ei_si 2, ei_la 0, ei_gf (11, 19, 23, 0), ei_li 1, ei_al 0, ei_pu (.inl 1, 0, 0), ei_ib 4, ei_si 3, ei_li 3, ei_if ((true, false, false), 4)]),
  (0, [ei_pu (.inl 0, 0, 0), ei_si 2, ei_fa 0]),
  (27, [ei_pu (.inl 1, 0, 0), ei_si 2, ei_fa 1]),
  (65, [ei_go 1]),
  (68, [ei_re 2])], 2, 0, 0, 4, ⟨"RegisterColoursModel", "findsLives", "(I)V"⟩, prog_14_method_27_code, none)
/-- RegisterColoursModel.findsGraph(I)V -/
noncomputable def mt_22 : ev_M := ([(7, [ei_li 2, ei_pu (.inl 200, 2, 0), ei_ic ((false, true, true), 8), ei_la 0, ei_la 0, ei_gf (11, 3, 38, 0), ei_li 2, ei_ca (2, 3, 12, 193, 0, 0, 0), ei_la 0, ei_gf (11, 8, 41, 0), ei_li 2, ei_li 2, ei_pu (.inl 44, 1, 0), ei_ic ((false, true, true), 3), ei_pu (.inl 0, 0, 0), ei_go 2]),
  (133, [ei_li 2, ei_pu (.inl 200, 2, 0), ei_ic ((false, true, true), 11), ei_la 0, ei_gf (11, 0, 51, 0), ei_li 2, ei_la 0, ei_gf (11, 2, 44, 0), ei_li 2, ei_al 2, ei_as 2, ei_ii (2, 1), ei_go 1]),
  (40, [ei_as 0, ei_la 0, ei_gf (11, 2, 44, 0), ei_li 2, ei_la 0, ei_li 2, ei_ca (0, 2, 12, 228, 0, 0, 0), ei_as 2, ei_la 0, ei_gf (11, 7, 48, 0), ei_li 2, ei_li 2, ei_as 0, ei_la 0, ei_gf (11, 0, 51, 0), ei_li 2, ei_pu (.inl 1, 0, 0), ei_as 2, ei_ii (2, 1), ei_go 0]),
  (38, [ei_pu (.inl 1000000, 5, 227), ei_fa 2]),
  (84, [ei_li 3, ei_li 2, ei_ic ((false, true, true), 6), ei_la 0, ei_li 2, ei_li 3, ei_ca (10, 3, 12, 210, 0, 0, 0), ei_ii (3, 1), ei_go 4]),
  (74, [ei_li 2, ei_la 0, ei_gf (11, 4, 7, 0), ei_ic ((false, true, true), 9), ei_pu (.inl 0, 0, 0), ei_si 3, ei_fa 4]),
  (101, [ei_ii (2, 1), ei_go 5]),
  (0, [ei_la 0, ei_li 1, ei_ca (21, 2, 12, 223, 0, 0, 0), ei_pu (.inl 0, 0, 0), ei_si 2, ei_fa 0]),
  (72, [ei_pu (.inl 0, 0, 0), ei_si 2, ei_fa 5]),
  (107, [ei_pu (.inl 0, 0, 0), ei_si 2, ei_li 2, ei_la 0, ei_gf (11, 19, 23, 0), ei_li 1, ei_al 0, ei_ic ((false, true, true), 10)]),
  (131, [ei_pu (.inl 0, 0, 0), ei_si 2, ei_fa 1]),
  (158, [ei_re 2])], 7, 0, 0, 4, ⟨"RegisterColoursModel", "findsGraph", "(I)V"⟩, prog_14_method_35_code, none)
/-- RegisterColours$Graph.draw(LRegisterColours$Told;I)V -/
noncomputable def mt_23 : ev_M := ([(0, [ei_la 0, ei_li 2, ei_la 0, ei_gf (3, 4, 31, 0), ei_an, ei_ca (20, 2, 0, 75, 1, 0, 0), ei_pf (3, 2, 0, 15, 0), ei_la 0, ei_la 0, ei_gf (3, 2, 15, 0), ei_pu (.inl 63, 1, 0), ei_ib 0, ei_pu (.inl 64, 1, 0), ei_dv, ei_pf (3, 5, 0, 18, 0), ei_la 0, ei_la 1, ei_gf (10, 1, 81, 0), ei_pf (3, 3, 0, 9, 0), ei_la 0, ei_la 1, ei_gf (10, 3, 84, 0), ei_pf (3, 10, 0, 21, 0), ei_la 0, ei_la 1, ei_gf (10, 2, 85, 0), ei_pf (3, 13, 0, 24, 0), ei_la 0, ei_ca (24, 1, 4, 86, 0, 0, 0), ei_la 0, ei_ca (25, 1, 4, 89, 0, 0, 0), ei_la 0, ei_ca (26, 1, 4, 92, 0, 0, 0), ei_la 0, ei_ca (27, 1, 4, 95, 0, 0, 0), ei_la 0, ei_ca (28, 1, 4, 98, 0, 0, 0), ei_re 2])], 0, 0, 0, 3, ⟨"RegisterColours$Graph", "draw", "(LRegisterColours$Told;I)V"⟩, prog_4_method_2_code, none)
/-- RegisterColours$Graph.weigh()V -/
noncomputable def mt_24 : ev_M := ([(0, [ei_pu (.inl 0, 0, 0), ei_si 1, ei_li 1, ei_la 0, ei_gf (3, 9, 27, 0), ei_gf (9, 0, 101, 0), ei_ic ((false, true, true), 1)]),
  (33, [ei_pu (.inl 0, 0, 0), ei_si 1, ei_li 1, ei_la 0, ei_gf (3, 9, 27, 0), ei_gf (9, 0, 101, 0), ei_ic ((false, true, true), 2)]),
  (122, [ei_pu (.inl 0, 0, 0), ei_si 1, ei_li 1, ei_la 0, ei_gf (3, 9, 27, 0), ei_gf (9, 0, 101, 0), ei_ic ((false, true, true), 3)]),
  (156, [ei_re 2])], 0, 0, 0, 3, ⟨"RegisterColours$Graph", "weigh", "()V"⟩, prog_4_method_3_code, none)
/-- RegisterColours$Graph.flowBackwards()V -/
noncomputable def mt_25 : ev_M := ([(12, [ei_li 2, ei_pu (.inl 1000000, 5, 121), ei_ic ((false, true, true), 3), ei_li 1, ei_if ((false, true, false), 3), ei_pu (.inl 0, 0, 0), ei_si 1, ei_la 0, ei_gf (3, 9, 27, 0), ei_gf (9, 0, 101, 0), ei_pu (.inl 1, 0, 0), ei_ib 4, ei_si 3, ei_li 3, ei_if ((true, false, false), 2)]),
  (0, [ei_la 0, ei_gf (3, 12, 43, 0), ei_pu (.inr (.inr (.inl 0)), 3, 0), ei_ca (13, 2, 0, 115, 1, 0, 0), ei_pu (.inl 1, 0, 0), ei_si 1, ei_pu (.inl 0, 0, 0), ei_si 2, ei_fa 0]),
  (63, [ei_ii (2, 1), ei_go 0]),
  (69, [ei_re 2])], 1, 0, 0, 4, ⟨"RegisterColours$Graph", "flowBackwards", "()V"⟩, prog_4_method_5_code, none)
/-- RegisterColours$Graph.markClasses()V -/
noncomputable def mt_26 : ev_M := ([(19, [ei_li 1, ei_la 0, ei_gf (3, 2, 15, 0), ei_ic ((false, true, true), 4), ei_la 0, ei_gf (3, 4, 31, 0), ei_li 1, ei_al 0, ei_pu (.inl 2, 0, 0), ei_ic ((true, false, true), 2), ei_la 0, ei_gf (3, 7, 56, 0), ei_pu (.inl 0, 0, 0), ei_li 1, ei_ca (6, 3, 0, 139, 4, 0, 0), ei_go 1]),
  (68, [ei_ii (1, 1), ei_go 0]),
  (49, [ei_la 0, ei_gf (3, 4, 31, 0), ei_li 1, ei_al 0, ei_pu (.inl 1, 0, 0), ei_ic ((true, false, true), 1), ei_la 0, ei_gf (3, 8, 59, 0), ei_pu (.inl 0, 0, 0), ei_li 1, ei_ca (6, 3, 0, 139, 4, 0, 0), ei_fa 1]),
  (0, [ei_la 0, ei_gf (3, 7, 56, 0), ei_pu (.inr (.inr (.inl 0)), 3, 0), ei_ca (13, 2, 0, 115, 1, 0, 0), ei_la 0, ei_gf (3, 8, 59, 0), ei_pu (.inr (.inr (.inl 0)), 3, 0), ei_ca (13, 2, 0, 115, 1, 0, 0), ei_pu (.inl 32, 1, 0), ei_si 1, ei_fa 0]),
  (74, [ei_re 2])], 3, 0, 0, 2, ⟨"RegisterColours$Graph", "markClasses", "()V"⟩, prog_4_method_8_code, none)
/-- RegisterColours$Graph.connectAll()V -/
noncomputable def mt_27 : ev_M := ([(20, [ei_li 2, ei_li 1, ei_ic ((false, true, true), 2), ei_la 0, ei_li 1, ei_li 2, ei_ca (12, 3, 4, 151, 0, 0, 0), ei_ii (2, 1), ei_go 0]),
  (10, [ei_li 1, ei_la 0, ei_gf (3, 3, 9, 0), ei_ic ((false, true, true), 4), ei_pu (.inl 0, 0, 0), ei_si 2, ei_fa 0]),
  (37, [ei_ii (1, 1), ei_go 1]),
  (0, [ei_la 0, ei_gf (3, 1, 47, 0), ei_pu (.inr (.inr (.inl 0)), 3, 0), ei_ca (13, 2, 0, 115, 1, 0, 0), ei_pu (.inl 0, 0, 0), ei_si 1, ei_fa 1]),
  (43, [ei_pu (.inl 0, 0, 0), ei_si 1, ei_li 1, ei_la 0, ei_gf (3, 9, 27, 0), ei_gf (9, 0, 101, 0), ei_ic ((false, true, true), 5)]),
  (167, [ei_re 2])], 3, 0, 0, 3, ⟨"RegisterColours$Graph", "connectAll", "()V"⟩, prog_4_method_9_code, none)
/-- RegisterColours$Graph.countCosts()V -/
noncomputable def mt_28 : ev_M := ([(18, [ei_li 1, ei_la 0, ei_gf (3, 3, 9, 0), ei_ic ((false, true, true), 2), ei_la 0, ei_gf (3, 6, 66, 0), ei_pu (.inl 0, 0, 0), ei_li 1, ei_ca (6, 3, 0, 139, 4, 0, 0), ei_ii (1, 1), ei_go 0]),
  (0, [ei_la 0, ei_gf (3, 11, 72, 0), ei_pu (.inl 0, 0, 0), ei_ca (19, 2, 0, 168, 1, 0, 0), ei_la 0, ei_gf (3, 6, 66, 0), ei_pu (.inr (.inr (.inl 0)), 3, 0), ei_ca (13, 2, 0, 115, 1, 0, 0), ei_pu (.inl 0, 0, 0), ei_si 1, ei_fa 0]),
  (41, [ei_pu (.inl 44, 1, 0), ei_si 1, ei_li 1, ei_la 0, ei_gf (3, 2, 15, 0), ei_ic ((false, true, true), 3)]),
  (66, [ei_pu (.inl 0, 0, 0), ei_si 1, ei_li 1, ei_la 0, ei_gf (3, 9, 27, 0), ei_gf (9, 0, 101, 0), ei_ic ((false, true, true), 4)]),
  (183, [ei_re 2])], 1, 0, 0, 3, ⟨"RegisterColours$Graph", "countCosts", "()V"⟩, prog_4_method_12_code, none)
/-- RegisterColours.freshGraph()LRegisterColours$Graph; -/
noncomputable def mt_29 : ev_M := ([(0, [ei_la 0, ei_gf (0, 2, 50, 0), ei_if ((true, false, true), 1), ei_la 0, ei_gf (0, 3, 46, 0), ei_la 0, ei_gf (0, 1, 29, 0), ei_pu (.inl 44, 1, 0), ei_ca (23, 3, 4, 314, 0, 0, 0), ei_la 0, ei_pu (.inl 1, 0, 0), ei_pf (0, 2, 1, 50, 0), ei_fa 1]),
  (25, [ei_la 0, ei_gf (0, 3, 46, 0), ei_re 1])], 0, 0, 0, 1, ⟨"RegisterColours", "freshGraph", "()LRegisterColours$Graph;"⟩, prog_1_method_23_code, some (.object "RegisterColours$Graph"))
/-- RegisterColoursModel.countsFor(II)I -/
noncomputable def mt_30 : ev_M := ([(0, [ei_la 0, ei_li 1, ei_ca (14, 2, 12, 169, 0, 0, 0), ei_if ((true, false, true), 1), ei_la 0, ei_li 2, ei_ca (14, 2, 12, 169, 0, 0, 0), ei_pu (.inl 2, 0, 0), ei_ic ((true, false, true), 1)]),
  (21, [ei_pu (.inl 1, 0, 0), ei_re 0])], 0, 0, 0, 3, ⟨"RegisterColoursModel", "countsFor", "(II)I"⟩, prog_14_method_36_code, some .int)
/-- RegisterColoursModel.keepsRow([III)V -/
noncomputable def mt_31 : ev_M := ([(3, [ei_li 4, ei_li 3, ei_ic ((false, true, true), 3), ei_la 0, ei_gf (11, 6, 553, 0), ei_if ((false, true, false), 4), ei_la 0, ei_gf (11, 5, 137, 0), ei_la 0, ei_gf (11, 1, 556, 0), ei_la 1, ei_li 2, ei_li 4, ei_ib 0, ei_al 0, ei_as 0, ei_go 1]),
  (49, [ei_la 0, ei_la 0, ei_gf (11, 1, 556, 0), ei_pu (.inl 1, 0, 0), ei_ib 0, ei_pf (11, 1, 0, 556, 0), ei_ii (4, 1), ei_go 0]),
  (0, [ei_pu (.inl 0, 0, 0), ei_si 4, ei_fa 0]),
  (65, [ei_re 2]),
  (34, [])], 2, 0, 0, 5, ⟨"RegisterColoursModel", "keepsRow", "([III)V"⟩, prog_14_method_123_code, none)
/-- RegisterColours$Steps.<init>(I)V -/
noncomputable def mt_32 : ev_M := ([(0, [ei_la 0, ei_oi 3, ei_la 0, ei_pu (.inl 0, 0, 0), ei_pf (9, 0, 0, 9, 0), ei_la 0, ei_li 1, ei_na 0, ei_pf (9, 1, 3, 15, 0), ei_la 0, ei_li 1, ei_na 0, ei_pf (9, 2, 3, 19, 0), ei_la 0, ei_li 1, ei_na 0, ei_pf (9, 3, 3, 22, 0), ei_la 0, ei_li 1, ei_na 0, ei_pf (9, 4, 3, 25, 0), ei_la 0, ei_li 1, ei_na 0, ei_pf (9, 5, 3, 28, 0), ei_re 2])], 0, 5, 2000, 2, ⟨"RegisterColours$Steps", "<init>", "(I)V"⟩, prog_11_method_1_code, none)
/-- RegisterColoursModel.keepsOne(I)I -/
noncomputable def mt_33 : ev_M := ([(0, [ei_la 0, ei_gf (11, 6, 553, 0), ei_if ((false, true, false), 1), ei_la 0, ei_gf (11, 5, 137, 0), ei_la 0, ei_gf (11, 1, 556, 0), ei_li 1, ei_as 0, ei_fa 1]),
  (17, [ei_la 0, ei_la 0, ei_gf (11, 1, 556, 0), ei_pu (.inl 1, 0, 0), ei_ib 0, ei_pf (11, 1, 0, 556, 0), ei_la 0, ei_gf (11, 5, 137, 0), ei_la 0, ei_gf (11, 1, 556, 0), ei_pu (.inl 1, 0, 0), ei_ib 4, ei_al 0, ei_re 0])], 0, 0, 0, 2, ⟨"RegisterColoursModel", "keepsOne", "(I)I"⟩, prog_14_method_124_code, some .int)
/-- RegisterColours.putOnTape(I)V -/
noncomputable def mt_34 : ev_M := ([(3, [ei_li 2, ei_if ((true, false, false), 2), ei_la 0, ei_gf (0, 0, 13, 0), ei_pu (.inl 400, 2, 0), ei_ic ((false, true, true), 2), ei_la 0, ei_gf (0, 4, 9, 0), ei_la 0, ei_gf (0, 0, 13, 0), ei_li 1, ei_li 2, ei_ib 7, ei_un 1, ei_as 3, ei_la 0, ei_st 0, ei_gf (0, 0, 13, 0), ei_pu (.inl 1, 0, 0), ei_ib 0, ei_pf (0, 0, 0, 13, 0), ei_ii (2, 4294967288), ei_go 0]),
  (0, [ei_pu (.inl 24, 1, 0), ei_si 2, ei_fa 0]),
  (46, [ei_re 2])], 1, 0, 0, 3, ⟨"RegisterColours", "putOnTape", "(I)V"⟩, prog_1_method_21_code, none)
/-- RegisterColoursModel.types(I)V -/
noncomputable def mt_35 : ev_M := ([(3, [ei_li 2, ei_if ((true, false, false), 2), ei_la 0, ei_gf (11, 21, 90, 0), ei_la 0, ei_gf (11, 20, 363, 0), ei_li 1, ei_li 2, ei_ib 2, ei_pu (.inl 255, 2, 0), ei_ib 3, ei_as 0, ei_la 0, ei_la 0, ei_gf (11, 20, 363, 0), ei_pu (.inl 1, 0, 0), ei_ib 0, ei_pf (11, 20, 0, 363, 0), ei_ii (2, 4294967288), ei_go 0]),
  (0, [ei_pu (.inl 24, 1, 0), ei_si 2, ei_fa 0]),
  (39, [ei_re 2])], 1, 0, 0, 3, ⟨"RegisterColoursModel", "types", "(I)V"⟩, prog_14_method_66_code, none)
/-- RegisterColours.forgetAllocation()V -/
noncomputable def mt_36 : ev_M := ([(0, [ei_la 0, ei_gf (0, 1, 29, 0), ei_pu (.inl 0, 0, 0), ei_pf (10, 4, 1, 151, 0), ei_la 0, ei_pu (.inl 0, 0, 0), ei_pf (0, 2, 1, 50, 0), ei_la 0, ei_pu (.inl 4294967295, 0, 0), ei_pf (0, 5, 0, 63, 0), ei_re 2])], 0, 0, 0, 1, ⟨"RegisterColours", "forgetAllocation", "()V"⟩, prog_1_method_22_code, none)
/-- RegisterColours$Steps.takeFrom(LRegisterColours$Steps;)V -/
noncomputable def mt_37 : ev_M := ([(0, [ei_la 1, ei_gf (9, 0, 9, 0), ei_la 0, ei_gf (9, 1, 15, 0), ei_an, ei_ca (20, 2, 0, 31, 1, 0, 0), ei_si 2, ei_la 1, ei_gf (9, 1, 15, 0), ei_pu (.inl 0, 0, 0), ei_la 0, ei_gf (9, 1, 15, 0), ei_pu (.inl 0, 0, 0), ei_li 2, ei_cy 37, ei_la 1, ei_gf (9, 2, 19, 0), ei_pu (.inl 0, 0, 0), ei_la 0, ei_gf (9, 2, 19, 0), ei_pu (.inl 0, 0, 0), ei_li 2, ei_cy 37, ei_la 1, ei_gf (9, 3, 22, 0), ei_pu (.inl 0, 0, 0), ei_la 0, ei_gf (9, 3, 22, 0), ei_pu (.inl 0, 0, 0), ei_li 2, ei_cy 37, ei_la 1, ei_gf (9, 4, 25, 0), ei_pu (.inl 0, 0, 0), ei_la 0, ei_gf (9, 4, 25, 0), ei_pu (.inl 0, 0, 0), ei_li 2, ei_cy 37, ei_la 1, ei_gf (9, 5, 28, 0), ei_pu (.inl 0, 0, 0), ei_la 0, ei_gf (9, 5, 28, 0), ei_pu (.inl 0, 0, 0), ei_li 2, ei_cy 37, ei_la 0, ei_li 2, ei_pf (9, 0, 0, 9, 0), ei_re 2])], 0, 0, 0, 3, ⟨"RegisterColours$Steps", "takeFrom", "(LRegisterColours$Steps;)V"⟩, prog_11_method_3_code, none)
/-- RegisterColours.isValue(I)Z -/
noncomputable def mt_38 : ev_M := ([(32, [ei_re 0]),
  (31, [ei_pu (.inl 0, 0, 0), ei_fa 0]),
  (27, [ei_pu (.inl 1, 0, 0), ei_go 0]),
  (0, [ei_li 1, ei_if ((true, false, false), 1), ei_li 1, ei_pu (.inl 44, 1, 0), ei_ic ((false, true, true), 1), ei_li 1, ei_la 0, ei_gf (0, 1, 29, 0), ei_gf (10, 1, 81, 0), ei_ic ((true, false, false), 2), ei_li 1, ei_pu (.inl 8, 1, 0), ei_ic ((true, false, false), 1), ei_fa 2])], 3, 0, 0, 2, ⟨"RegisterColours", "isValue", "(I)Z"⟩, prog_1_method_24_code, some .boolean)
/-- RegisterColoursModel.isValue(I)Z -/
noncomputable def mt_39 : ev_M := ([(30, [ei_re 0]),
  (29, [ei_pu (.inl 0, 0, 0), ei_fa 0]),
  (0, [ei_la 0, ei_li 1, ei_pu (.inl 0, 0, 0), ei_pu (.inl 43, 1, 0), ei_ca (18, 4, 12, 143, 0, 0, 0), ei_if ((false, true, false), 1), ei_la 0, ei_li 1, ei_la 0, ei_gf (11, 4, 7, 0), ei_pu (.inl 7, 1, 0), ei_ca (18, 4, 12, 143, 0, 0, 0), ei_if ((true, false, true), 1), ei_pu (.inl 1, 0, 0), ei_go 0])], 2, 0, 0, 2, ⟨"RegisterColoursModel", "isValue", "(I)Z"⟩, prog_14_method_106_code, some .boolean)
/-- RegisterColours$Left.<init>()V -/
noncomputable def mt_40 : ev_M := ([(0, [ei_la 0, ei_oi 3, ei_la 0, ei_nw (9, 9, [.inl 0, .inr (.inl 0), .inr (.inl 0), .inr (.inl 0), .inr (.inl 0), .inr (.inl 0)]), ei_st 0, ei_pu (.inl 400, 2, 0), ei_ca (32, 2, 0, 11, 2, 5, 2000), ei_pf (4, 2, 3, 14, 0), ei_la 0, ei_pu (.inl 200, 2, 0), ei_na 0, ei_pf (4, 4, 3, 20, 0), ei_la 0, ei_pu (.inl 200, 2, 0), ei_na 0, ei_pf (4, 0, 3, 24, 0), ei_la 0, ei_pu (.inl 200, 2, 0), ei_na 0, ei_pf (4, 8, 3, 27, 0), ei_la 0, ei_pu (.inl 200, 2, 0), ei_na 0, ei_pf (4, 1, 3, 30, 0), ei_la 0, ei_pu (.inl 44, 1, 0), ei_pf (4, 5, 0, 33, 0), ei_la 0, ei_pu (.inl 0, 0, 0), ei_pf (4, 6, 0, 37, 0), ei_la 0, ei_pu (.inl 0, 0, 0), ei_pf (4, 9, 0, 40, 0), ei_la 0, ei_pu (.inl 0, 0, 0), ei_pf (4, 10, 0, 43, 0), ei_la 0, ei_pu (.inl 0, 0, 0), ei_pf (4, 11, 0, 46, 0), ei_la 0, ei_pu (.inl 0, 0, 0), ei_pf (4, 7, 0, 49, 0), ei_la 0, ei_pu (.inl 0, 0, 0), ei_pf (4, 12, 0, 52, 0), ei_la 0, ei_pu (.inl 0, 0, 0), ei_pf (4, 3, 0, 55, 0), ei_re 2])], 0, 10, 2806, 1, ⟨"RegisterColours$Left", "<init>", "()V"⟩, prog_5_method_1_code, none)
/-- RegisterColoursModel.lesser(II)I -/
noncomputable def mt_41 : ev_M := ([(10, [ei_re 0]),
  (0, [ei_li 1, ei_li 2, ei_ic ((false, true, true), 2), ei_li 1, ei_go 0]),
  (9, [ei_li 2, ei_fa 0])], 1, 0, 0, 3, ⟨"RegisterColoursModel", "lesser", "(II)I"⟩, prog_14_method_5_code, some .int)
/-- RegisterColoursModel.raw(I)I -/
noncomputable def mt_42 : ev_M := ([(0, [ei_li 1, ei_la 0, ei_gf (11, 20, 363, 0), ei_ic ((false, true, true), 1)]),
  (17, [ei_pu (.inl 4294967295, 0, 0), ei_re 0])], 0, 0, 0, 2, ⟨"RegisterColoursModel", "raw", "(I)I"⟩, prog_14_method_69_code, some .int)
/-- RegisterColours$Colourer.nextLeft(I)I -/
noncomputable def mt_43 : ev_M := ([(0, [ei_la 0, ei_gf (2, 3, 47, 0), ei_pu (.inl 0, 0, 0), ei_la 0, ei_gf (2, 0, 38, 0), ei_gf (3, 2, 64, 0), ei_li 1, ei_ca (44, 4, 0, 82, 4, 0, 0), ei_re 0])], 0, 0, 0, 2, ⟨"RegisterColours$Colourer", "nextLeft", "(I)I"⟩, prog_3_method_3_code, some .int)
/-- RegisterColours.nextBit([JIII)I -/
noncomputable def mt_44 : ev_M := ([(16, [ei_pu (.inl 64, 1, 0), ei_li 6, ei_ib 1, ei_li 2, ei_ic ((false, true, true), 3), ei_la 0, ei_li 1, ei_li 6, ei_ib 0, ei_al 1, ei_ll 4, ei_lb 0, ei_sl 7, ei_ll 7, ei_pu (.inr (.inr (.inl 0)), 3, 0), ei_lc, ei_if ((false, true, false), 2)]),
  (0, [ei_pu (.inr (.inr (.inl 18446744073709551615)), 7, 321), ei_li 3, ei_pu (.inl 63, 1, 0), ei_ib 3, ei_ls 1, ei_sl 4, ei_li 3, ei_pu (.inl 6, 1, 0), ei_ib 2, ei_si 6, ei_fa 0]),
  (61, [ei_pu (.inr (.inr (.inl 18446744073709551615)), 7, 321), ei_sl 4, ei_ii (6, 1), ei_go 0]),
  (72, [ei_li 2, ei_re 0])], 1, 0, 0, 9, ⟨"RegisterColours", "nextBit", "([JIII)I"⟩, prog_1_method_31_code, some .int)
/-- RegisterColours$Graph.degreeAmong(I[J)I -/
noncomputable def mt_45 : ev_M := ([(21, [ei_li 5, ei_la 0, ei_gf (3, 5, 18, 0), ei_ic ((false, true, true), 3), ei_la 0, ei_gf (3, 1, 47, 0), ei_li 1, ei_la 0, ei_gf (3, 0, 40, 0), ei_ib 1, ei_li 5, ei_ib 0, ei_al 1, ei_la 2, ei_li 5, ei_al 1, ei_lb 0, ei_sl 6, ei_li 4, ei_ll 6, ei_ca (9, 1, 0, 178, 1, 0, 0), ei_ib 0, ei_si 4, ei_li 3, ei_if ((false, true, false), 2), ei_li 4, ei_ll 6, ei_la 0, ei_gf (3, 7, 56, 0), ei_li 5, ei_al 1, ei_lb 0, ei_ca (9, 1, 0, 178, 1, 0, 0), ei_ib 0, ei_si 4, ei_fa 2]),
  (14, [ei_si 3, ei_pu (.inl 0, 0, 0), ei_si 4, ei_pu (.inl 0, 0, 0), ei_si 5, ei_fa 0]),
  (83, [ei_ii (5, 1), ei_go 0]),
  (89, [ei_li 4, ei_re 0]),
  (13, [ei_pu (.inl 0, 0, 0), ei_fa 1]),
  (0, [ei_la 0, ei_gf (3, 4, 31, 0), ei_li 1, ei_al 0, ei_if ((true, false, true), 4), ei_pu (.inl 1, 0, 0), ei_go 1])], 5, 0, 0, 8, ⟨"RegisterColours$Graph", "degreeAmong", "(I[J)I"⟩, prog_4_method_20_code, some .int)
/-- RegisterColoursModel.degreeOf(I)I -/
noncomputable def mt_46 : ev_M := ([(4, [ei_li 3, ei_pu (.inl 200, 2, 0), ei_ic ((false, true, true), 2), ei_la 0, ei_gf (11, 0, 51, 0), ei_li 3, ei_al 2, ei_if ((false, true, false), 1), ei_la 0, ei_la 0, ei_gf (11, 3, 38, 0), ei_li 1, ei_li 3, ei_ca (3, 4, 12, 203, 0, 0, 0), ei_if ((false, true, false), 1), ei_li 2, ei_la 0, ei_li 1, ei_li 3, ei_ca (30, 3, 12, 235, 0, 0, 0), ei_ib 0, ei_si 2, ei_fa 1]),
  (42, [ei_ii (3, 1), ei_go 0]),
  (48, [ei_li 2, ei_re 0]),
  (0, [ei_pu (.inl 0, 0, 0), ei_si 2, ei_pu (.inl 0, 0, 0), ei_si 3, ei_fa 0])], 3, 0, 0, 4, ⟨"RegisterColoursModel", "degreeOf", "(I)I"⟩, prog_14_method_37_code, some .int)
/-- RegisterColours$Told.<init>()V -/
noncomputable def mt_47 : ev_M := ([(0, [ei_la 0, ei_oi 3, ei_la 0, ei_pu (.inl 4, 0, 0), ei_pf (10, 1, 0, 9, 0), ei_la 0, ei_pu (.inl 2, 0, 0), ei_pf (10, 3, 0, 15, 0), ei_la 0, ei_pu (.inl 1, 0, 0), ei_pf (10, 2, 0, 18, 0), ei_la 0, ei_pu (.inl 0, 0, 0), ei_pf (10, 7, 0, 21, 0), ei_la 0, ei_pu (.inl 0, 0, 0), ei_pf (10, 6, 0, 24, 0), ei_la 0, ei_pu (.inl 0, 0, 0), ei_pf (10, 4, 1, 27, 0), ei_la 0, ei_nw (9, 31, [.inl 0, .inr (.inl 0), .inr (.inl 0), .inr (.inl 0), .inr (.inl 0), .inr (.inl 0)]), ei_st 0, ei_pu (.inl 120, 1, 0), ei_ca (32, 2, 0, 33, 2, 5, 2000), ei_pf (10, 5, 3, 36, 0), ei_la 0, ei_pu (.inl 16, 1, 0), ei_na 0, ei_pf (10, 8, 3, 40, 0), ei_la 0, ei_pu (.inl 24, 1, 0), ei_na 0, ei_pf (10, 0, 3, 44, 0), ei_la 0, ei_nw (4, 47, [.inr (.inl 0), .inr (.inl 0), .inr (.inl 0), .inl 0, .inr (.inl 0), .inl 0, .inl 0, .inl 0, .inr (.inl 0), .inl 0, .inl 0, .inl 0, .inl 0]), ei_st 0, ei_ca (40, 1, 0, 49, 5, 10, 2806), ei_pf (10, 9, 3, 50, 0), ei_la 0, ei_gf (10, 0, 44, 0), ei_pu (.inl 4294967295, 0, 0), ei_ca (19, 2, 0, 54, 1, 0, 0), ei_re 2])], 0, 19, 4865, 1, ⟨"RegisterColours$Told", "<init>", "()V"⟩, prog_12_method_1_code, none)
/-- RegisterColours$Graph.<init>(LRegisterColours$Steps;[I)V -/
noncomputable def mt_48 : ev_M := ([(0, [ei_la 0, ei_oi 3, ei_la 0, ei_pu (.inl 0, 0, 0), ei_pf (3, 3, 0, 9, 0), ei_la 0, ei_pu (.inl 0, 0, 0), ei_pf (3, 2, 0, 15, 0), ei_la 0, ei_pu (.inl 0, 0, 0), ei_pf (3, 5, 0, 18, 0), ei_la 0, ei_pu (.inl 0, 0, 0), ei_pf (3, 10, 0, 21, 0), ei_la 0, ei_pu (.inl 0, 0, 0), ei_pf (3, 13, 0, 24, 0), ei_la 0, ei_la 1, ei_pf (3, 9, 3, 27, 0), ei_la 0, ei_la 2, ei_pf (3, 4, 3, 31, 0), ei_la 1, ei_gf (9, 1, 35, 0), ei_an, ei_si 3, ei_la 2, ei_an, ei_si 4, ei_la 0, ei_li 4, ei_pu (.inl 63, 1, 0), ei_ib 0, ei_pu (.inl 64, 1, 0), ei_dv, ei_pf (3, 0, 0, 40, 0), ei_la 0, ei_li 3, ei_pu (.inl 1, 0, 0), ei_ib 0, ei_la 0, ei_gf (3, 0, 40, 0), ei_ib 1, ei_na 1, ei_pf (3, 12, 3, 43, 0), ei_la 0, ei_li 4, ei_la 0, ei_gf (3, 0, 40, 0), ei_ib 1, ei_na 1, ei_pf (3, 1, 3, 47, 0), ei_la 0, ei_la 0, ei_gf (3, 0, 40, 0), ei_na 1, ei_pf (3, 14, 3, 50, 0), ei_la 0, ei_la 0, ei_gf (3, 0, 40, 0), ei_na 1, ei_pf (3, 15, 3, 53, 0), ei_la 0, ei_la 0, ei_gf (3, 0, 40, 0), ei_na 1, ei_pf (3, 7, 3, 56, 0), ei_la 0, ei_la 0, ei_gf (3, 0, 40, 0), ei_na 1, ei_pf (3, 8, 3, 59, 0), ei_la 0, ei_li 3, ei_na 2, ei_pf (3, 16, 3, 62, 0), ei_la 0, ei_la 0, ei_gf (3, 0, 40, 0), ei_na 1, ei_pf (3, 6, 3, 66, 0), ei_la 0, ei_li 3, ei_na 0, ei_pf (3, 17, 3, 69, 0), ei_la 0, ei_li 4, ei_na 0, ei_pf (3, 11, 3, 72, 0), ei_re 2])], 0, 10, 3424, 5, ⟨"RegisterColours$Graph", "<init>", "(LRegisterColours$Steps;[I)V"⟩, prog_4_method_1_code, none)
/-- RegisterColours.fillClasses([I)V -/
noncomputable def mt_49 : ev_M := ([(2, [ei_li 1, ei_la 0, ei_an, ei_ic ((false, true, true), 2), ei_la 0, ei_li 1, ei_li 1, ei_ca (7, 1, 0, 318, 1, 0, 0), ei_as 0, ei_ii (1, 1), ei_go 0]),
  (0, [ei_pu (.inl 0, 0, 0), ei_si 1, ei_fa 0]),
  (21, [ei_re 2])], 1, 0, 0, 2, ⟨"RegisterColours", "fillClasses", "([I)V"⟩, prog_1_method_26_code, none)
/-- RegisterColoursModel.copiesSteps(II)V -/
noncomputable def mt_50 : ev_M := ([(0, [ei_pu (.inl 0, 0, 0), ei_si 3, ei_li 3, ei_pu (.inl 5, 0, 0), ei_la 0, ei_gf (11, 19, 23, 0), ei_li 1, ei_al 0, ei_ib 1, ei_ic ((false, true, true), 1)]),
  (46, [ei_la 0, ei_gf (11, 19, 23, 0), ei_li 2, ei_la 0, ei_gf (11, 19, 23, 0), ei_li 1, ei_al 0, ei_as 0, ei_re 2])], 0, 0, 0, 4, ⟨"RegisterColoursModel", "copiesSteps", "(II)V"⟩, prog_14_method_18_code, none)
/-- RegisterColoursModel.usedMany(Z)I -/
noncomputable def mt_51 : ev_M := ([(0, [ei_pu (.inl 0, 0, 0), ei_si 2, ei_pu (.inl 0, 0, 0), ei_si 3, ei_li 3, ei_la 0, ei_gf (11, 19, 23, 0), ei_pu (.inl 3, 0, 0), ei_al 0, ei_ic ((false, true, true), 1)]),
  (61, [ei_pu (.inl 0, 0, 0), ei_si 3, ei_li 2, ei_si 4, ei_li 4, ei_if ((false, true, false), 2)]),
  (87, [ei_li 3, ei_re 0])], 0, 0, 0, 5, ⟨"RegisterColoursModel", "usedMany", "(Z)I"⟩, prog_14_method_62_code, some .int)
/-- RegisterColours$Graph.isHeavy(I[J)Z -/
noncomputable def mt_52 : ev_M := ([(25, [ei_re 0]),
  (24, [ei_pu (.inl 0, 0, 0), ei_fa 0]),
  (0, [ei_li 1, ei_pu (.inl 8, 1, 0), ei_ic ((true, false, false), 3), ei_la 0, ei_li 1, ei_la 2, ei_ca (45, 3, 4, 184, 0, 0, 0), ei_la 0, ei_li 1, ei_ca (17, 2, 4, 188, 0, 0, 0), ei_ic ((true, false, false), 1), ei_fa 3]),
  (20, [ei_pu (.inl 1, 0, 0), ei_go 0])], 2, 0, 0, 3, ⟨"RegisterColours$Graph", "isHeavy", "(I[J)Z"⟩, prog_4_method_21_code, some .boolean)
/-- RegisterColoursModel.isHeavy(I)Z -/
noncomputable def mt_53 : ev_M := ([(30, [ei_re 0]),
  (29, [ei_pu (.inl 0, 0, 0), ei_fa 0]),
  (0, [ei_la 0, ei_li 1, ei_ca (0, 2, 12, 228, 0, 0, 0), ei_if ((true, false, true), 3), ei_la 0, ei_li 1, ei_ca (46, 2, 12, 238, 0, 0, 0), ei_la 0, ei_la 0, ei_li 1, ei_ca (14, 2, 12, 169, 0, 0, 0), ei_ca (16, 2, 12, 241, 0, 0, 0), ei_ic ((true, false, false), 1), ei_fa 3]),
  (25, [ei_pu (.inl 1, 0, 0), ei_go 0])], 2, 0, 0, 2, ⟨"RegisterColoursModel", "isHeavy", "(I)Z"⟩, prog_14_method_38_code, some .boolean)
/-- RegisterColours$Graph.fewestColours()I -/
noncomputable def mt_54 : ev_M := ([(0, [ei_la 0, ei_gf (3, 6, 66, 0), ei_pu (.inl 0, 0, 0), ei_ca (55, 2, 0, 211, 1, 0, 0), ei_si 1, ei_pu (.inl 0, 0, 0), ei_si 2, ei_pu (.inl 0, 0, 0), ei_si 3, ei_li 3, ei_pu (.inl 24, 1, 0), ei_ic ((false, true, true), 1), ei_li 1, ei_if ((false, true, false), 1)]),
  (71, [ei_li 2, ei_re 0])], 0, 0, 0, 5, ⟨"RegisterColours$Graph", "fewestColours", "()I"⟩, prog_4_method_27_code, some .int)
/-- RegisterColours$Graph.vsIn([JI)I -/
noncomputable def mt_55 : ev_M := ([(0, [ei_la 0, ei_li 1, ei_al 1, ei_pu (.inl 8, 1, 0), ei_ls 0, ei_un 0, ei_pu (.inl 16777215, 5, 228), ei_ib 3, ei_re 0])], 0, 0, 0, 2, ⟨"RegisterColours$Graph", "vsIn", "([JI)I"⟩, prog_4_method_31_code, some .int)
/-- RegisterColoursModel.isChordal()Z -/
noncomputable def mt_56 : ev_M := ([(15, [ei_li 2, ei_pu (.inl 32, 1, 0), ei_ic ((false, true, true), 3), ei_la 0, ei_gf (11, 0, 51, 0), ei_li 2, ei_al 2, ei_if ((false, true, false), 1)]),
  (34, [ei_ii (2, 1), ei_go 0]),
  (0, [ei_la 0, ei_pu (.inl 0, 0, 0), ei_ca (22, 2, 12, 330, 0, 0, 0), ei_la 0, ei_pu (.inl 0, 0, 0), ei_pf (11, 37, 0, 519, 0), ei_pu (.inl 0, 0, 0), ei_si 1, ei_pu (.inl 8, 1, 0), ei_si 2, ei_fa 0]),
  (40, [ei_li 1, ei_if ((true, true, false), 4)]),
  (118, [ei_pu (.inl 1, 0, 0), ei_re 0])], 2, 0, 0, 3, ⟨"RegisterColoursModel", "isChordal", "()Z"⟩, prog_14_method_113_code, some .boolean)
/-- RegisterColours.<init>()V -/
noncomputable def mt_57 : ev_M := ([(0, [ei_la 0, ei_oi 3, ei_la 0, ei_pu (.inl 400, 2, 0), ei_na 3, ei_pf (0, 4, 3, 9, 0), ei_la 0, ei_pu (.inl 0, 0, 0), ei_pf (0, 0, 0, 13, 0), ei_la 0, ei_nw (6, 17, [.inl 0, .inl 0, .inr (.inl 0), .inl 0, .inr (.inl 0), .inl 0, .inr (.inl 0), .inr (.inl 0), .inr (.inl 0), .inr (.inl 0), .inr (.inl 0)]), ei_st 0, ei_la 0, ei_gf (0, 4, 9, 0), ei_ca (58, 2, 0, 19, 2, 11, 3290), ei_pf (0, 6, 3, 22, 0), ei_la 0, ei_nw (10, 26, [.inr (.inl 0), .inl 0, .inl 0, .inl 0, .inl 0, .inr (.inl 0), .inl 0, .inl 0, .inr (.inl 0), .inr (.inl 0)]), ei_st 0, ei_ca (47, 1, 0, 28, 2, 19, 4865), ei_pf (0, 1, 3, 29, 0), ei_la 0, ei_pu (.inl 44, 1, 0), ei_na 0, ei_pf (0, 8, 3, 33, 0), ei_la 0, ei_nw (3, 37, [.inl 0, .inr (.inl 0), .inl 0, .inl 0, .inr (.inl 0), .inl 0, .inr (.inl 0), .inr (.inl 0), .inr (.inl 0), .inr (.inl 0), .inl 0, .inr (.inl 0), .inr (.inl 0), .inl 0, .inr (.inl 0), .inr (.inl 0), .inr (.inl 0), .inr (.inl 0)]), ei_st 0, ei_la 0, ei_gf (0, 1, 29, 0), ei_gf (10, 5, 39, 0), ei_la 0, ei_gf (0, 8, 33, 0), ei_ca (48, 3, 0, 43, 2, 10, 3424), ei_pf (0, 3, 3, 46, 0), ei_la 0, ei_pu (.inl 0, 0, 0), ei_pf (0, 2, 1, 50, 0), ei_la 0, ei_nw (7, 54, [.inr (.inl 0), .inl 0, .inl 0, .inl 0, .inl 0, .inr (.inl 0), .inr (.inl 0), .inr (.inl 0), .inr (.inl 0), .inr (.inl 0), .inl 0, .inr (.inl 0), .inl 0]), ei_st 0, ei_la 0, ei_gf (0, 1, 29, 0), ei_la 0, ei_gf (0, 8, 33, 0), ei_ca (59, 3, 0, 56, 2, 3, 256), ei_pf (0, 7, 3, 59, 0), ei_la 0, ei_pu (.inl 4294967295, 0, 0), ei_pf (0, 5, 0, 63, 0), ei_la 0, ei_pu (.inr (.inl 0), 4, 0), ei_pf (0, 9, 3, 66, 0), ei_la 0, ei_pu (.inr (.inl 0), 4, 0), ei_pf (0, 11, 3, 70, 0), ei_la 0, ei_pu (.inr (.inl 0), 4, 0), ei_pf (0, 10, 3, 74, 0), ei_la 0, ei_gf (0, 8, 33, 0), ei_ca (49, 1, 0, 77, 1, 0, 0), ei_re 2])], 0, 49, 12331, 1, ⟨"RegisterColours", "<init>", "()V"⟩, prog_1_method_1_code, none)
/-- RegisterColours$Reader.<init>([B)V -/
noncomputable def mt_58 : ev_M := ([(0, [ei_la 0, ei_oi 3, ei_la 0, ei_nw (9, 9, [.inl 0, .inr (.inl 0), .inr (.inl 0), .inr (.inl 0), .inr (.inl 0), .inr (.inl 0)]), ei_st 0, ei_pu (.inl 120, 1, 0), ei_ca (32, 2, 0, 11, 2, 5, 2000), ei_pf (6, 2, 3, 14, 0), ei_la 0, ei_pu (.inl 0, 0, 0), ei_pf (6, 0, 0, 20, 0), ei_la 0, ei_pu (.inl 0, 0, 0), ei_pf (6, 1, 0, 24, 0), ei_la 0, ei_pu (.inl 4294967295, 0, 0), ei_pf (6, 3, 0, 27, 0), ei_la 0, ei_pu (.inl 401, 2, 0), ei_na 0, ei_pf (6, 4, 3, 30, 0), ei_la 0, ei_pu (.inl 401, 2, 0), ei_na 0, ei_pf (6, 6, 3, 34, 0), ei_la 0, ei_pu (.inl 401, 2, 0), ei_na 0, ei_pf (6, 9, 3, 37, 0), ei_la 0, ei_pu (.inl 41, 1, 0), ei_na 0, ei_pf (6, 7, 3, 40, 0), ei_la 0, ei_pu (.inl 40, 1, 0), ei_na 0, ei_pf (6, 10, 3, 43, 0), ei_la 0, ei_pu (.inl 0, 0, 0), ei_pf (6, 5, 0, 46, 0), ei_la 0, ei_la 1, ei_pf (6, 8, 3, 49, 0), ei_re 2])], 0, 11, 3290, 2, ⟨"RegisterColours$Reader", "<init>", "([B)V"⟩, prog_8_method_1_code, none)
/-- RegisterColours$Runner.<init>(LRegisterColours$Told;[I)V -/
noncomputable def mt_59 : ev_M := ([(0, [ei_la 0, ei_oi 3, ei_la 0, ei_pu (.inl 1, 0, 0), ei_pf (7, 1, 1, 9, 0), ei_la 0, ei_pu (.inl 0, 0, 0), ei_pf (7, 2, 0, 15, 0), ei_la 0, ei_pu (.inl 0, 0, 0), ei_pf (7, 3, 0, 19, 0), ei_la 0, ei_pu (.inl 0, 0, 0), ei_pf (7, 4, 0, 22, 0), ei_la 0, ei_pu (.inl 44, 1, 0), ei_na 1, ei_pf (7, 5, 3, 25, 0), ei_la 0, ei_pu (.inl 12, 1, 0), ei_na 0, ei_pf (7, 6, 3, 29, 0), ei_la 0, ei_pu (.inl 200, 2, 0), ei_na 1, ei_pf (7, 7, 3, 33, 0), ei_la 0, ei_pu (.inl 0, 0, 0), ei_pf (7, 10, 1, 36, 0), ei_la 0, ei_pu (.inl 0, 0, 0), ei_pf (7, 12, 0, 39, 0), ei_la 0, ei_la 1, ei_pf (7, 8, 3, 42, 0), ei_la 0, ei_la 2, ei_pf (7, 9, 3, 46, 0), ei_la 0, ei_la 2, ei_pf (7, 11, 3, 49, 0), ei_la 0, ei_la 1, ei_gf (10, 5, 52, 0), ei_pf (7, 0, 3, 58, 0), ei_re 2])], 0, 3, 256, 3, ⟨"RegisterColours$Runner", "<init>", "(LRegisterColours$Told;[I)V"⟩, prog_9_method_1_code, none)
/-- RegisterColoursModel.<init>()V -/
noncomputable def mt_60 : ev_M := ([(0, [ei_la 0, ei_oi 1, ei_la 0, ei_pu (.inl 4, 0, 0), ei_pf (11, 4, 0, 7, 0), ei_la 0, ei_pu (.inl 2, 0, 0), ei_pf (11, 24, 0, 13, 0), ei_la 0, ei_pu (.inl 1, 0, 0), ei_pf (11, 27, 0, 16, 0), ei_la 0, ei_pu (.inl 8200, 2, 0), ei_na 0, ei_pf (11, 38, 3, 19, 0), ei_la 0, ei_pu (.inl 4, 0, 0), ei_na 0, ei_pf (11, 19, 3, 23, 0), ei_la 0, ei_pu (.inl 200, 2, 0), ei_na 0, ei_pf (11, 11, 3, 26, 0), ei_la 0, ei_pu (.inl 200, 2, 0), ei_na 0, ei_pf (11, 13, 3, 29, 0), ei_la 0, ei_pu (.inl 2877, 2, 0), ei_na 0, ei_pf (11, 23, 3, 32, 0), ei_la 0, ei_pu (.inl 7, 1, 0), ei_na 0, ei_pf (11, 54, 3, 35, 0), ei_la 0, ei_pu (.inl 1400, 2, 0), ei_na 0, ei_pf (11, 3, 3, 38, 0), ei_la 0, ei_pu (.inl 200, 2, 0), ei_na 0, ei_pf (11, 8, 3, 41, 0), ei_la 0, ei_pu (.inl 200, 2, 0), ei_na 2, ei_pf (11, 2, 3, 44, 0), ei_la 0, ei_pu (.inl 200, 2, 0), ei_na 0, ei_pf (11, 7, 3, 48, 0), ei_la 0, ei_pu (.inl 200, 2, 0), ei_na 2, ei_pf (11, 0, 3, 51, 0), ei_la 0, ei_pu (.inl 410, 2, 0), ei_na 0, ei_pf (11, 55, 3, 54, 0), ei_la 0, ei_pu (.inl 200, 2, 0), ei_na 0, ei_pf (11, 56, 3, 57, 0), ei_la 0, ei_pu (.inl 200, 2, 0), ei_na 2, ei_pf (11, 57, 3, 60, 0), ei_la 0, ei_pu (.inl 200, 2, 0), ei_na 0, ei_pf (11, 12, 3, 63, 0), ei_la 0, ei_pu (.inl 200, 2, 0), ei_na 0, ei_pf (11, 58, 3, 66, 0), ei_la 0, ei_pu (.inl 200, 2, 0), ei_na 0, ei_pf (11, 59, 3, 69, 0), ei_la 0, ei_pu (.inl 200, 2, 0), ei_na 0, ei_pf (11, 9, 3, 72, 0), ei_la 0, ei_pu (.inl 410, 2, 0), ei_na 0, ei_pf (11, 61, 3, 75, 0), ei_la 0, ei_pu (.inl 200, 2, 0), ei_na 0, ei_pf (11, 14, 3, 78, 0), ei_la 0, ei_pu (.inl 200, 2, 0), ei_na 0, ei_pf (11, 15, 3, 81, 0), ei_la 0, ei_pu (.inl 200, 2, 0), ei_na 0, ei_pf (11, 16, 3, 84, 0), ei_la 0, ei_pu (.inl 12, 1, 0), ei_na 0, ei_pf (11, 26, 3, 87, 0), ei_la 0, ei_pu (.inl 400, 2, 0), ei_na 0, ei_pf (11, 21, 3, 90, 0), ei_la 0, ei_pu (.inl 36, 1, 0), ei_na 0, ei_st 0, ei_pu (.inl 0, 0, 0), ei_pu (.inl 32, 1, 0), ei_as 0, ei_st 0, ei_pu (.inl 1, 0, 0), ei_pu (.inl 105, 1, 0), ei_as 0, ei_st 0, ei_pu (.inl 2, 0, 0), ei_pu (.inl 102, 1, 0), ei_as 0, ei_st 0, ei_pu (.inl 3, 0, 0), ei_pu (.inl 32, 1, 0), ei_as 0, ei_st 0, ei_pu (.inl 4, 0, 0), ei_pu (.inl 103, 1, 0), ei_as 0, ei_st 0, ei_pu (.inl 5, 0, 0), ei_pu (.inl 111, 1, 0), ei_as 0, ei_st 0, ei_pu (.inl 6, 1, 0), ei_pu (.inl 116, 1, 0), ei_as 0, ei_st 0, ei_pu (.inl 7, 1, 0), ei_pu (.inl 111, 1, 0), ei_as 0, ei_st 0, ei_pu (.inl 8, 1, 0), ei_pu (.inl 32, 1, 0), ei_as 0, ei_st 0, ei_pu (.inl 9, 1, 0), ei_pu (.inl 111, 1, 0), ei_as 0, ei_st 0, ei_pu (.inl 10, 1, 0), ei_pu (.inl 117, 1, 0), ei_as 0, ei_st 0, ei_pu (.inl 11, 1, 0), ei_pu (.inl 116, 1, 0), ei_as 0, ei_st 0, ei_pu (.inl 12, 1, 0), ei_pu (.inl 32, 1, 0), ei_as 0, ei_st 0, ei_pu (.inl 13, 1, 0), ei_pu (.inl 105, 1, 0), ei_as 0, ei_st 0, ei_pu (.inl 14, 1, 0), ei_pu (.inl 110, 1, 0), ei_as 0, ei_st 0, ei_pu (.inl 15, 1, 0), ei_pu (.inl 32, 1, 0), ei_as 0, ei_st 0, ei_pu (.inl 16, 1, 0), ei_pu (.inl 99, 1, 0), ei_as 0, ei_st 0, ei_pu (.inl 17, 1, 0), ei_pu (.inl 97, 1, 0), ei_as 0, ei_st 0, ei_pu (.inl 18, 1, 0), ei_pu (.inl 108, 1, 0), ei_as 0, ei_st 0, ei_pu (.inl 19, 1, 0), ei_pu (.inl 108, 1, 0), ei_as 0, ei_st 0, ei_pu (.inl 20, 1, 0), ei_pu (.inl 32, 1, 0), ei_as 0, ei_st 0, ei_pu (.inl 21, 1, 0), ei_pu (.inl 108, 1, 0), ei_as 0, ei_st 0, ei_pu (.inl 22, 1, 0), ei_pu (.inl 111, 1, 0), ei_as 0, ei_st 0, ei_pu (.inl 23, 1, 0), ei_pu (.inl 119, 1, 0), ei_as 0, ei_st 0, ei_pu (.inl 24, 1, 0), ei_pu (.inl 32, 1, 0), ei_as 0, ei_st 0, ei_pu (.inl 25, 1, 0), ei_pu (.inl 104, 1, 0), ei_as 0, ei_st 0, ei_pu (.inl 26, 1, 0), ei_pu (.inl 105, 1, 0), ei_as 0, ei_st 0, ei_pu (.inl 27, 1, 0), ei_pu (.inl 103, 1, 0), ei_as 0, ei_st 0, ei_pu (.inl 28, 1, 0), ei_pu (.inl 104, 1, 0), ei_as 0, ei_st 0, ei_pu (.inl 29, 1, 0), ei_pu (.inl 32, 1, 0), ei_as 0, ei_st 0, ei_pu (.inl 30, 1, 0), ei_pu (.inl 118, 1, 0), ei_as 0, ei_st 0, ei_pu (.inl 31, 1, 0), ei_pu (.inl 32, 1, 0), ei_as 0, ei_st 0, ei_pu (.inl 32, 1, 0), ei_pu (.inl 119, 1, 0), ei_as 0, ei_st 0, ei_pu (.inl 33, 1, 0), ei_pu (.inl 32, 1, 0), ei_as 0, ei_st 0, ei_pu (.inl 34, 1, 0), ei_pu (.inl 100, 1, 0), ei_as 0, ei_st 0, ei_pu (.inl 35, 1, 0), ei_pu (.inl 32, 1, 0), ei_as 0, ei_pf (11, 63, 3, 93, 0), ei_la 0, ei_pu (.inl 4294967295, 0, 0), ei_pf (11, 34, 0, 96, 0), ei_la 0, ei_pu (.inl 246, 2, 0), ei_na 0, ei_pf (11, 48, 3, 99, 0), ei_la 0, ei_pu (.inl 246, 2, 0), ei_na 0, ei_pf (11, 64, 3, 102, 0), ei_la 0, ei_pu (.inl 41, 1, 0), ei_na 0, ei_pf (11, 49, 3, 105, 0), ei_la 0, ei_pu (.inl 16, 1, 0), ei_na 0, ei_pf (11, 36, 3, 108, 0), ei_la 0, ei_pu (.inl 200, 2, 0), ei_na 1, ei_pf (11, 17, 3, 111, 0), ei_la 0, ei_pu (.inl 8, 1, 0), ei_na 0, ei_pf (11, 29, 3, 115, 0), ei_la 0, ei_pu (.inl 4, 0, 0), ei_na 0, ei_pf (11, 32, 3, 118, 0), ei_la 0, ei_pu (.inl 200, 2, 0), ei_na 1, ei_pf (11, 18, 3, 121, 0), ei_la 0, ei_pu (.inl 34440, 5, 124), ei_na 0, ei_pf (11, 66, 3, 125, 0), ei_la 0, ei_pu (.inl 84, 1, 0), ei_na 0, ei_pf (11, 67, 3, 128, 0), ei_la 0, ei_pu (.inl 410, 2, 0), ei_na 2, ei_pf (11, 68, 3, 131, 0), ei_la 0, ei_pu (.inl 24, 1, 0), ei_na 0, ei_pf (11, 10, 3, 134, 0), ei_la 0, ei_pu (.inl 3300, 2, 0), ei_na 0, ei_pf (11, 5, 3, 137, 0), ei_re 2])], 0, 38, 55975, 1, ⟨"RegisterColoursModel", "<init>", "()V"⟩, prog_14_method_1_code, none)
/-- RegisterColours.set(II)Z -/
noncomputable def mt_61 : ev_M := ([(107, [ei_li 3, ei_if ((false, true, false), 1), ei_la 0, ei_ca (36, 1, 1, 96, 0, 0, 0), ei_fa 1]),
  (115, [ei_li 3, ei_re 0]),
  (76, [ei_li 1, ei_pu (.inl 2, 0, 0), ei_ic ((true, false, true), 0), ei_li 2, ei_pu (.inl 1, 0, 0), ei_ic ((true, false, false), 0), ei_li 2, ei_la 0, ei_gf (0, 1, 29, 0), ei_gf (10, 1, 81, 0), ei_ic ((false, false, true), 0), ei_la 0, ei_gf (0, 1, 29, 0), ei_li 2, ei_pf (10, 2, 0, 84, 0), ei_pu (.inl 1, 0, 0), ei_si 3, ei_fa 0]),
  (48, [ei_li 1, ei_pu (.inl 1, 0, 0), ei_ic ((true, false, true), 2), ei_li 2, ei_pu (.inl 1, 0, 0), ei_ic ((true, false, false), 2), ei_li 2, ei_pu (.inl 4, 0, 0), ei_ic ((false, false, true), 2), ei_la 0, ei_gf (0, 1, 29, 0), ei_li 2, ei_pf (10, 3, 0, 93, 0), ei_pu (.inl 1, 0, 0), ei_si 3, ei_go 0]),
  (0, [ei_pu (.inl 0, 0, 0), ei_si 3, ei_li 1, ei_if ((true, false, true), 3), ei_li 2, ei_pu (.inl 2, 0, 0), ei_ic ((true, false, false), 3), ei_li 2, ei_pu (.inl 8, 1, 0), ei_ic ((false, false, true), 3), ei_la 0, ei_gf (0, 1, 29, 0), ei_li 2, ei_pf (10, 1, 0, 81, 0), ei_la 0, ei_gf (0, 1, 29, 0), ei_la 0, ei_gf (0, 1, 29, 0), ei_gf (10, 2, 84, 0), ei_li 2, ei_ca (20, 2, 0, 87, 1, 0, 0), ei_pf (10, 2, 0, 84, 0), ei_pu (.inl 1, 0, 0), ei_si 3, ei_go 0])], 4, 0, 0, 4, ⟨"RegisterColours", "set", "(II)Z"⟩, prog_1_method_2_code, some .boolean)
/-- RegisterColoursModel.set(II)Z -/
noncomputable def mt_62 : ev_M := ([(16, [ei_li 1, ei_if ((true, false, true), 1), ei_la 0, ei_li 2, ei_pf (11, 4, 0, 7, 0), ei_fa 1]),
  (25, [ei_li 1, ei_pu (.inl 1, 0, 0), ei_ic ((true, false, true), 2), ei_la 0, ei_li 2, ei_pf (11, 24, 0, 13, 0), ei_fa 2]),
  (35, [ei_li 1, ei_pu (.inl 2, 0, 0), ei_ic ((true, false, true), 3), ei_la 0, ei_li 2, ei_pf (11, 27, 0, 16, 0), ei_fa 3]),
  (45, [ei_la 0, ei_la 0, ei_la 0, ei_gf (11, 27, 16, 0), ei_la 0, ei_gf (11, 4, 7, 0), ei_ca (41, 3, 12, 150, 0, 0, 0), ei_pf (11, 27, 0, 16, 0), ei_la 0, ei_pu (.inl 0, 0, 0), ei_pf (11, 25, 1, 154, 0), ei_pu (.inl 1, 0, 0), ei_re 0]),
  (0, [ei_la 0, ei_pu (.inl 0, 0, 0), ei_pf (11, 22, 0, 140, 0), ei_la 0, ei_li 1, ei_li 2, ei_ca (63, 3, 12, 146, 0, 0, 0), ei_if ((true, false, true), 0), ei_pu (.inl 0, 0, 0), ei_re 0])], 4, 0, 0, 3, ⟨"RegisterColoursModel", "set", "(II)Z"⟩, prog_14_method_11_code, some .boolean)
/-- RegisterColoursModel.canSet(II)Z -/
noncomputable def mt_63 : ev_M := ([(51, [ei_re 0]),
  (50, [ei_pu (.inl 0, 0, 0), ei_fa 0]),
  (13, [ei_li 1, ei_pu (.inl 1, 0, 0), ei_ic ((true, false, true), 3), ei_la 0, ei_li 2, ei_pu (.inl 1, 0, 0), ei_pu (.inl 4, 0, 0), ei_ca (18, 4, 12, 143, 0, 0, 0), ei_go 0]),
  (28, [ei_li 1, ei_pu (.inl 2, 0, 0), ei_ic ((true, false, true), 1), ei_la 0, ei_li 2, ei_pu (.inl 1, 0, 0), ei_la 0, ei_gf (11, 4, 7, 0), ei_ca (18, 4, 12, 143, 0, 0, 0), ei_if ((false, true, false), 1), ei_pu (.inl 1, 0, 0), ei_go 0]),
  (0, [ei_li 1, ei_if ((true, false, true), 2), ei_la 0, ei_li 2, ei_pu (.inl 2, 0, 0), ei_pu (.inl 8, 1, 0), ei_ca (18, 4, 12, 143, 0, 0, 0), ei_re 0])], 4, 0, 0, 3, ⟨"RegisterColoursModel", "canSet", "(II)Z"⟩, prog_14_method_10_code, some .boolean)
/-- RegisterColours.feed(IIIII)I -/
noncomputable def mt_64 : ev_M := ([(0, [ei_la 0, ei_gf (0, 0, 13, 0), ei_pu (.inl 20, 1, 0), ei_ib 0, ei_pu (.inl 400, 2, 0), ei_ic ((true, true, false), 1)]),
  (15, [ei_la 0, ei_li 1, ei_ca (34, 2, 1, 99, 0, 0, 0), ei_la 0, ei_li 2, ei_ca (34, 2, 1, 99, 0, 0, 0), ei_la 0, ei_li 3, ei_ca (34, 2, 1, 99, 0, 0, 0), ei_la 0, ei_li 4, ei_ca (34, 2, 1, 99, 0, 0, 0), ei_la 0, ei_li 5, ei_ca (34, 2, 1, 99, 0, 0, 0), ei_la 0, ei_gf (0, 0, 13, 0), ei_re 0])], 0, 0, 0, 6, ⟨"RegisterColours", "feed", "(IIIII)I"⟩, prog_1_method_3_code, some .int)
/-- RegisterColoursModel.feed(IIIII)I -/
noncomputable def mt_65 : ev_M := ([(0, [ei_la 0, ei_pu (.inl 0, 0, 0), ei_pf (11, 22, 0, 140, 0), ei_la 0, ei_gf (11, 20, 363, 0), ei_pu (.inl 380, 2, 0), ei_ic ((true, true, false), 1)]),
  (17, [ei_la 0, ei_li 1, ei_ca (35, 2, 12, 366, 0, 0, 0), ei_la 0, ei_li 2, ei_ca (35, 2, 12, 366, 0, 0, 0), ei_la 0, ei_li 3, ei_ca (35, 2, 12, 366, 0, 0, 0), ei_la 0, ei_li 4, ei_ca (35, 2, 12, 366, 0, 0, 0), ei_la 0, ei_li 5, ei_ca (35, 2, 12, 366, 0, 0, 0), ei_la 0, ei_gf (11, 20, 363, 0), ei_re 0])], 0, 0, 0, 6, ⟨"RegisterColoursModel", "feed", "(IIIII)I"⟩, prog_14_method_67_code, some .int)
/-- RegisterColours.end(I)Z -/
noncomputable def mt_66 : ev_M := ([(12, [ei_pu (.inl 0, 0, 0), ei_re 0]),
  (0, [ei_li 1, ei_if ((true, false, false), 0), ei_li 1, ei_la 0, ei_gf (0, 0, 13, 0), ei_ic ((true, true, false), 2), ei_fa 0]),
  (14, [ei_la 0, ei_li 1, ei_pf (0, 0, 0, 13, 0), ei_pu (.inl 1, 0, 0), ei_re 0])], 1, 0, 0, 2, ⟨"RegisterColours", "end", "(I)Z"⟩, prog_1_method_4_code, some .boolean)
/-- RegisterColoursModel.end(I)Z -/
noncomputable def mt_67 : ev_M := ([(0, [ei_la 0, ei_pu (.inl 0, 0, 0), ei_pf (11, 22, 0, 140, 0), ei_la 0, ei_li 1, ei_pu (.inl 0, 0, 0), ei_la 0, ei_gf (11, 20, 363, 0), ei_ca (18, 4, 12, 143, 0, 0, 0), ei_if ((true, false, true), 1), ei_pu (.inl 0, 0, 0), ei_re 0]),
  (20, [ei_la 0, ei_li 1, ei_pf (11, 20, 0, 363, 0), ei_pu (.inl 1, 0, 0), ei_re 0])], 0, 0, 0, 2, ⟨"RegisterColoursModel", "end", "(I)Z"⟩, prog_14_method_68_code, some .boolean)
/-- RegisterColours.code()I -/
noncomputable def mt_68 : ev_M := ([(0, [ei_la 0, ei_gf (0, 6, 22, 0), ei_la 0, ei_gf (0, 0, 13, 0), ei_ca (69, 2, 7, 103, 0, 0, 0), ei_si 1, ei_la 0, ei_pu (.inl 0, 0, 0), ei_pf (0, 0, 0, 13, 0), ei_li 1, ei_if ((true, false, true), 1)]),
  (23, [ei_la 0, ei_gf (0, 1, 29, 0), ei_gf (10, 5, 39, 0), ei_la 0, ei_gf (0, 6, 22, 0), ei_gf (6, 2, 107, 0), ei_ca (37, 2, 10, 110, 0, 0, 0), ei_la 0, ei_gf (0, 1, 29, 0), ei_la 0, ei_gf (0, 6, 22, 0), ei_gf (6, 0, 116, 0), ei_pf (10, 7, 0, 119, 0), ei_la 0, ei_ca (36, 1, 1, 96, 0, 0, 0), ei_la 0, ei_gf (0, 1, 29, 0), ei_gf (10, 7, 119, 0), ei_re 0])], 0, 0, 0, 2, ⟨"RegisterColours", "code", "()I"⟩, prog_1_method_5_code, some .int)
/-- RegisterColours$Reader.readText(I)Z -/
noncomputable def mt_69 : ev_M := ([(0, [ei_la 0, ei_li 1, ei_ca (70, 2, 7, 53, 0, 0, 0), ei_la 0, ei_pu (.inl 0, 0, 0), ei_pf (6, 5, 0, 46, 0), ei_la 0, ei_pu (.inl 0, 0, 0), ei_pf (6, 0, 0, 20, 0), ei_la 0, ei_pu (.inl 0, 0, 0), ei_pf (6, 1, 0, 24, 0), ei_la 0, ei_pu (.inl 4294967295, 0, 0), ei_pf (6, 3, 0, 27, 0), ei_la 0, ei_gf (6, 2, 14, 0), ei_pu (.inl 0, 0, 0), ei_pf (9, 0, 0, 56, 0), ei_pu (.inl 0, 0, 0), ei_si 2, ei_li 2, ei_pu (.inl 40, 1, 0), ei_ic ((false, false, true), 1), ei_la 0, ei_gf (6, 4, 30, 0), ei_la 0, ei_gf (6, 5, 46, 0), ei_al 0, ei_if ((false, true, false), 1)]),
  (70, [ei_la 0, ei_gf (6, 1, 24, 0), ei_if ((true, false, true), 2), ei_la 0, ei_ca (71, 1, 7, 62, 0, 0, 0), ei_fa 2]),
  (81, [ei_la 0, ei_gf (6, 1, 24, 0), ei_if ((true, false, true), 4), ei_pu (.inl 1, 0, 0), ei_go 3]),
  (93, [ei_re 0]),
  (92, [])], 0, 0, 0, 3, ⟨"RegisterColours$Reader", "readText", "(I)Z"⟩, prog_8_method_2_code, some .boolean)
/-- RegisterColours$Reader.cutTokens(I)V -/
noncomputable def mt_70 : ev_M := ([(0, [ei_pu (.inl 0, 0, 0), ei_si 2, ei_pu (.inl 0, 0, 0), ei_si 3, ei_pu (.inl 0, 0, 0), ei_si 4, ei_li 4, ei_pu (.inl 400, 2, 0), ei_ic ((false, true, true), 1), ei_li 3, ei_li 1, ei_ic ((false, true, true), 1)]),
  (99, [ei_la 0, ei_gf (6, 4, 30, 0), ei_li 2, ei_pu (.inl 0, 0, 0), ei_as 0, ei_la 0, ei_gf (6, 6, 34, 0), ei_li 2, ei_li 1, ei_as 0, ei_re 2])], 0, 0, 0, 6, ⟨"RegisterColours$Reader", "cutTokens", "(I)V"⟩, prog_8_method_18_code, none)
/-- RegisterColours$Reader.settleJumps()V -/
noncomputable def mt_71 : ev_M := ([(0, [ei_la 0, ei_gf (6, 7, 40, 0), ei_la 0, ei_gf (6, 0, 20, 0), ei_la 0, ei_gf (6, 2, 14, 0), ei_gf (9, 0, 56, 0), ei_as 0, ei_pu (.inl 0, 0, 0), ei_si 1, ei_li 1, ei_la 0, ei_gf (6, 0, 20, 0), ei_ic ((false, true, true), 1)]),
  (114, [ei_re 2])], 0, 0, 0, 3, ⟨"RegisterColours$Reader", "settleJumps", "()V"⟩, prog_8_method_17_code, none)
/-- RegisterColoursModel.code()I -/
noncomputable def mt_72 : ev_M := ([(0, [ei_la 0, ei_pu (.inl 0, 0, 0), ei_pf (11, 22, 0, 140, 0), ei_la 0, ei_pu (.inl 0, 0, 0), ei_pf (11, 47, 0, 448, 0), ei_la 0, ei_pu (.inl 4294967295, 0, 0), ei_pf (11, 34, 0, 96, 0), ei_la 0, ei_ca (73, 1, 12, 451, 0, 0, 0), ei_si 1, ei_la 0, ei_pu (.inl 0, 0, 0), ei_pf (11, 20, 0, 363, 0), ei_li 1, ei_pu (.inl 4294967295, 0, 0), ei_ic ((true, false, true), 1)]),
  (48, [ei_pu (.inl 0, 0, 0), ei_si 2, ei_li 2, ei_pu (.inl 6, 1, 0), ei_li 1, ei_ib 1, ei_ic ((false, true, true), 2)]),
  (76, [ei_la 0, ei_li 1, ei_pf (11, 30, 0, 445, 0), ei_la 0, ei_ca (75, 1, 12, 454, 0, 0, 0), ei_la 0, ei_pu (.inl 0, 0, 0), ei_pf (11, 25, 1, 154, 0), ei_li 1, ei_re 0])], 0, 0, 0, 3, ⟨"RegisterColoursModel", "code", "()I"⟩, prog_14_method_89_code, some .int)
/-- RegisterColoursModel.readCode()I -/
noncomputable def mt_73 : ev_M := ([(0, [ei_la 0, ei_pu (.inl 0, 0, 0), ei_pf (11, 35, 0, 414, 0), ei_la 0, ei_pu (.inl 0, 0, 0), ei_pf (11, 31, 0, 369, 0), ei_la 0, ei_ca (74, 1, 12, 408, 0, 0, 0), ei_la 0, ei_gf (11, 33, 378, 0), ei_if ((false, true, false), 1)]),
  (31, [ei_pu (.inl 0, 0, 0), ei_si 1, ei_li 1, ei_la 0, ei_gf (11, 35, 414, 0), ei_ic ((false, true, true), 2)]),
  (120, [ei_la 0, ei_gf (11, 35, 414, 0), ei_re 0])], 0, 0, 0, 4, ⟨"RegisterColoursModel", "readCode", "()I"⟩, prog_14_method_87_code, some .int)
/-- RegisterColoursModel.reads()V -/
noncomputable def mt_74 : ev_M := ([(0, [ei_la 0, ei_la 0, ei_gf (11, 31, 369, 0), ei_ca (42, 2, 12, 372, 0, 0, 0), ei_pu (.inl 32, 1, 0), ei_ic ((false, true, false), 2), ei_la 0, ei_la 0, ei_gf (11, 31, 369, 0), ei_ca (42, 2, 12, 372, 0, 0, 0), ei_pu (.inl 10, 1, 0), ei_ic ((true, false, true), 1), ei_fa 2]),
  (39, [ei_la 0, ei_la 0, ei_gf (11, 31, 369, 0), ei_pf (11, 62, 0, 375, 0), ei_la 0, ei_pu (.inl 1, 0, 0), ei_pf (11, 33, 0, 378, 0), ei_la 0, ei_la 0, ei_gf (11, 31, 369, 0), ei_ca (42, 2, 12, 372, 0, 0, 0), ei_si 1, ei_li 1, ei_pu (.inl 4294967295, 0, 0), ei_ic ((true, false, true), 3), ei_la 0, ei_pu (.inl 0, 0, 0), ei_pf (11, 33, 0, 378, 0), ei_re 2]),
  (26, []),
  (72, [])], 0, 0, 0, 2, ⟨"RegisterColoursModel", "reads", "()V"⟩, prog_14_method_74_code, none)
/-- RegisterColoursModel.makesSteps()V -/
noncomputable def mt_75 : ev_M := ([(0, [ei_la 0, ei_gf (11, 19, 23, 0), ei_pu (.inl 0, 0, 0), ei_pu (.inl 0, 0, 0), ei_as 0, ei_pu (.inl 0, 0, 0), ei_si 1, ei_li 1, ei_la 0, ei_gf (11, 30, 445, 0), ei_ic ((false, true, true), 1)]),
  (142, [ei_la 0, ei_gf (11, 49, 105, 0), ei_la 0, ei_gf (11, 30, 445, 0), ei_la 0, ei_gf (11, 19, 23, 0), ei_pu (.inl 0, 0, 0), ei_al 0, ei_as 0, ei_pu (.inl 0, 0, 0), ei_si 1, ei_li 1, ei_la 0, ei_gf (11, 19, 23, 0), ei_pu (.inl 0, 0, 0), ei_al 0, ei_ic ((false, true, true), 2)]),
  (209, [ei_re 2])], 0, 0, 0, 3, ⟨"RegisterColoursModel", "makesSteps", "()V"⟩, prog_14_method_88_code, none)
/-- RegisterColours.fault(I)I -/
noncomputable def mt_76 : ev_M := ([(28, [ei_re 0]),
  (12, [ei_li 1, ei_pu (.inl 1, 0, 0), ei_ic ((true, false, true), 2), ei_la 0, ei_gf (0, 6, 22, 0), ei_gf (6, 3, 123, 0), ei_go 0]),
  (27, [ei_pu (.inl 4294967295, 0, 0), ei_fa 0]),
  (0, [ei_li 1, ei_if ((true, false, true), 1), ei_la 0, ei_gf (0, 6, 22, 0), ei_gf (6, 1, 120, 0), ei_re 0])], 3, 0, 0, 2, ⟨"RegisterColours", "fault", "(I)I"⟩, prog_1_method_6_code, some .int)
/-- RegisterColoursModel.fault(I)I -/
noncomputable def mt_77 : ev_M := ([(29, [ei_re 0]),
  (16, [ei_li 1, ei_pu (.inl 1, 0, 0), ei_ic ((true, false, true), 2), ei_la 0, ei_gf (11, 34, 96, 0), ei_go 0]),
  (28, [ei_pu (.inl 4294967295, 0, 0), ei_fa 0]),
  (0, [ei_la 0, ei_pu (.inl 0, 0, 0), ei_pf (11, 22, 0, 140, 0), ei_li 1, ei_if ((true, false, true), 1), ei_la 0, ei_gf (11, 47, 448, 0), ei_go 0])], 3, 0, 0, 2, ⟨"RegisterColoursModel", "fault", "(I)I"⟩, prog_14_method_90_code, some .int)
/-- RegisterColours.input(IZ)I -/
noncomputable def mt_78 : ev_M := ([(18, [ei_li 2, ei_if ((false, true, false), 3), ei_la 0, ei_gf (0, 1, 29, 0), ei_gf (10, 8, 129, 0), ei_la 0, ei_gf (0, 1, 29, 0), ei_gf (10, 6, 126, 0), ei_li 1, ei_as 0, ei_la 0, ei_gf (0, 1, 29, 0), ei_st 0, ei_gf (10, 6, 126, 0), ei_pu (.inl 1, 0, 0), ei_ib 0, ei_pf (10, 6, 0, 126, 0), ei_go 1]),
  (62, [ei_la 0, ei_pu (.inl 4294967295, 0, 0), ei_pf (0, 5, 0, 63, 0), ei_la 0, ei_gf (0, 1, 29, 0), ei_gf (10, 6, 126, 0), ei_re 0]),
  (0, [ei_li 2, ei_if ((false, true, false), 0), ei_la 0, ei_gf (0, 1, 29, 0), ei_gf (10, 6, 126, 0), ei_pu (.inl 16, 1, 0), ei_ic ((true, false, false), 0)]),
  (54, [ei_la 0, ei_gf (0, 1, 29, 0), ei_pu (.inl 0, 0, 0), ei_pf (10, 6, 0, 126, 0), ei_fa 1])], 2, 0, 0, 3, ⟨"RegisterColours", "input", "(IZ)I"⟩, prog_1_method_7_code, some .int)
/-- RegisterColoursModel.input(IZ)I -/
noncomputable def mt_79 : ev_M := ([(0, [ei_la 0, ei_pu (.inl 0, 0, 0), ei_pf (11, 22, 0, 140, 0), ei_li 2, ei_if ((true, false, true), 1), ei_la 0, ei_pu (.inl 0, 0, 0), ei_pf (11, 28, 0, 457, 0), ei_pu (.inl 0, 0, 0), ei_re 0]),
  (16, [ei_la 0, ei_gf (11, 28, 457, 0), ei_pu (.inl 16, 1, 0), ei_ic ((true, false, true), 2)]),
  (27, [ei_la 0, ei_gf (11, 36, 108, 0), ei_la 0, ei_gf (11, 28, 457, 0), ei_li 1, ei_as 0, ei_la 0, ei_la 0, ei_gf (11, 28, 457, 0), ei_pu (.inl 1, 0, 0), ei_ib 0, ei_pf (11, 28, 0, 457, 0), ei_la 0, ei_gf (11, 28, 457, 0), ei_re 0])], 0, 0, 0, 3, ⟨"RegisterColoursModel", "input", "(IZ)I"⟩, prog_14_method_91_code, some .int)
/-- RegisterColours.allocate()I -/
noncomputable def mt_80 : ev_M := ([(0, [ei_la 0, ei_gf (0, 9, 66, 0), ei_nn 1, ei_la 0, ei_nw (1, 132, [.inr (.inl 0), .inr (.inl 0), .inr (.inl 0), .inr (.inl 0), .inr (.inl 0)]), ei_st 0, ei_ca (81, 1, 0, 134, 5, 42, 10695), ei_pf (0, 9, 3, 66, 0), ei_fa 1]),
  (18, [ei_la 0, ei_gf (0, 9, 66, 0), ei_la 0, ei_gf (0, 1, 29, 0), ei_ca (85, 2, 2, 135, 0, 0, 0), ei_si 1, ei_li 1, ei_pu (.inl 4294967295, 0, 0), ei_ic ((false, true, false), 2), ei_la 0, ei_gf (0, 1, 29, 0), ei_gf (10, 9, 139, 0), ei_la 0, ei_gf (0, 9, 66, 0), ei_gf (1, 0, 143, 0), ei_ca (94, 2, 5, 146, 0, 0, 0), ei_la 0, ei_gf (0, 1, 29, 0), ei_pu (.inl 1, 0, 0), ei_pf (10, 4, 1, 151, 0), ei_la 0, ei_pu (.inl 4294967295, 0, 0), ei_pf (0, 5, 0, 63, 0), ei_fa 2]),
  (65, [ei_li 1, ei_re 0])], 0, 43, 10700, 2, ⟨"RegisterColours", "allocate", "()I"⟩, prog_1_method_8_code, some .int)
/-- RegisterColours$Allocator.<init>()V -/
noncomputable def mt_81 : ev_M := ([(0, [ei_la 0, ei_oi 3, ei_la 0, ei_nw (4, 9, [.inr (.inl 0), .inr (.inl 0), .inr (.inl 0), .inl 0, .inr (.inl 0), .inl 0, .inl 0, .inl 0, .inr (.inl 0), .inl 0, .inl 0, .inl 0, .inl 0]), ei_st 0, ei_ca (40, 1, 0, 11, 5, 10, 2806), ei_pf (1, 0, 3, 12, 0), ei_la 0, ei_nw (3, 18, [.inl 0, .inr (.inl 0), .inl 0, .inl 0, .inr (.inl 0), .inl 0, .inr (.inl 0), .inr (.inl 0), .inr (.inl 0), .inr (.inl 0), .inl 0, .inr (.inl 0), .inr (.inl 0), .inl 0, .inr (.inl 0), .inr (.inl 0), .inr (.inl 0), .inr (.inl 0)]), ei_st 0, ei_la 0, ei_gf (1, 0, 12, 0), ei_gf (4, 2, 20, 0), ei_la 0, ei_gf (1, 0, 12, 0), ei_gf (4, 4, 24, 0), ei_ca (48, 3, 0, 28, 2, 10, 3424), ei_pf (1, 3, 3, 31, 0), ei_la 0, ei_nw (5, 35, [.inr (.inl 0), .inr (.inl 0), .inr (.inl 0), .inl 0, .inl 0, .inr (.inl 0)]), ei_st 0, ei_la 0, ei_gf (1, 0, 12, 0), ei_gf (4, 2, 20, 0), ei_la 0, ei_gf (1, 3, 31, 0), ei_ca (82, 3, 0, 37, 2, 2, 600), ei_pf (1, 1, 3, 40, 0), ei_la 0, ei_nw (2, 44, [.inr (.inl 0), .inr (.inl 0), .inr (.inl 0), .inr (.inl 0), .inl 0, .inl 0, .inl 0, .inr (.inl 0), .inr (.inl 0), .inr (.inl 0)]), ei_st 0, ei_la 0, ei_gf (1, 3, 31, 0), ei_ca (83, 2, 0, 46, 2, 6, 1004), ei_pf (1, 2, 3, 49, 0), ei_la 0, ei_nw (8, 53, [.inr (.inl 0), .inr (.inl 0), .inr (.inl 0), .inr (.inl 0), .inr (.inl 0), .inr (.inl 0), .inr (.inl 0)]), ei_st 0, ei_la 0, ei_gf (1, 0, 12, 0), ei_la 0, ei_gf (1, 1, 40, 0), ei_gf (5, 0, 55, 0), ei_ca (84, 3, 0, 58, 2, 9, 2807), ei_pf (1, 4, 3, 61, 0), ei_re 2])], 0, 42, 10695, 1, ⟨"RegisterColours$Allocator", "<init>", "()V"⟩, prog_2_method_1_code, none)
/-- RegisterColours$Merger.<init>(LRegisterColours$Steps;LRegisterColours$Graph;)V -/
noncomputable def mt_82 : ev_M := ([(0, [ei_la 0, ei_oi 3, ei_la 0, ei_pu (.inl 200, 2, 0), ei_na 0, ei_pf (5, 0, 3, 9, 0), ei_la 0, ei_pu (.inl 0, 0, 0), ei_pf (5, 3, 0, 15, 0), ei_la 0, ei_pu (.inl 400, 2, 0), ei_na 0, ei_pf (5, 5, 3, 19, 0), ei_la 0, ei_pu (.inl 0, 0, 0), ei_pf (5, 4, 0, 22, 0), ei_la 0, ei_la 1, ei_pf (5, 2, 3, 25, 0), ei_la 0, ei_la 2, ei_pf (5, 1, 3, 29, 0), ei_re 2])], 0, 2, 600, 3, ⟨"RegisterColours$Merger", "<init>", "(LRegisterColours$Steps;LRegisterColours$Graph;)V"⟩, prog_6_method_1_code, none)
/-- RegisterColours$Colourer.<init>(LRegisterColours$Graph;)V -/
noncomputable def mt_83 : ev_M := ([(0, [ei_la 0, ei_oi 3, ei_la 0, ei_pu (.inl 200, 2, 0), ei_na 0, ei_pf (2, 1, 3, 9, 0), ei_la 0, ei_pu (.inl 200, 2, 0), ei_na 2, ei_pf (2, 2, 3, 15, 0), ei_la 0, ei_pu (.inl 0, 0, 0), ei_pf (2, 4, 0, 19, 0), ei_la 0, ei_pu (.inl 0, 0, 0), ei_pf (2, 5, 0, 23, 0), ei_la 0, ei_pu (.inl 200, 2, 0), ei_na 0, ei_pf (2, 7, 3, 26, 0), ei_la 0, ei_pu (.inl 200, 2, 0), ei_na 2, ei_pf (2, 8, 3, 29, 0), ei_la 0, ei_pu (.inl 0, 0, 0), ei_pf (2, 6, 0, 32, 0), ei_la 0, ei_pu (.inl 200, 2, 0), ei_na 0, ei_pf (2, 9, 3, 35, 0), ei_la 0, ei_la 1, ei_pf (2, 0, 3, 38, 0), ei_la 0, ei_la 1, ei_gf (3, 0, 42, 1), ei_na 1, ei_pf (2, 3, 3, 47, 0), ei_re 2])], 0, 6, 1004, 2, ⟨"RegisterColours$Colourer", "<init>", "(LRegisterColours$Graph;)V"⟩, prog_3_method_1_code, none)
/-- RegisterColours$Spiller.<init>(LRegisterColours$Left;[I)V -/
noncomputable def mt_84 : ev_M := ([(0, [ei_la 0, ei_oi 3, ei_la 0, ei_pu (.inl 200, 2, 0), ei_na 0, ei_pf (8, 0, 3, 9, 0), ei_la 0, ei_pu (.inl 200, 2, 0), ei_na 0, ei_pf (8, 1, 3, 15, 0), ei_la 0, ei_pu (.inl 401, 2, 0), ei_na 0, ei_pf (8, 2, 3, 18, 0), ei_la 0, ei_nw (9, 21, [.inl 0, .inr (.inl 0), .inr (.inl 0), .inr (.inl 0), .inr (.inl 0), .inr (.inl 0)]), ei_st 0, ei_pu (.inl 400, 2, 0), ei_ca (32, 2, 0, 23, 2, 5, 2000), ei_pf (8, 3, 3, 26, 0), ei_la 0, ei_la 1, ei_pf (8, 4, 3, 30, 0), ei_la 0, ei_la 1, ei_gf (4, 2, 34, 0), ei_pf (8, 5, 3, 39, 0), ei_la 0, ei_la 2, ei_pf (8, 6, 3, 40, 0), ei_re 2])], 0, 9, 2807, 3, ⟨"RegisterColours$Spiller", "<init>", "(LRegisterColours$Left;[I)V"⟩, prog_10_method_1_code, none)
/-- RegisterColours$Allocator.doRounds(LRegisterColours$Told;)I -/
noncomputable def mt_85 : ev_M := ([(0, [ei_la 0, ei_gf (1, 0, 12, 0), ei_la 1, ei_gf (10, 5, 65, 0), ei_ca (86, 2, 5, 70, 0, 0, 0), ei_pu (.inl 1, 0, 0), ei_si 2, ei_li 2, ei_pu (.inl 8, 1, 0), ei_ic ((false, false, true), 2), ei_la 0, ei_gf (1, 3, 31, 0), ei_la 1, ei_la 0, ei_gf (1, 0, 12, 0), ei_gf (4, 5, 74, 0), ei_ca (23, 3, 4, 78, 0, 0, 0), ei_la 0, ei_gf (1, 1, 40, 0), ei_ca (87, 1, 6, 82, 0, 0, 0), ei_la 0, ei_gf (1, 2, 49, 0), ei_ca (89, 1, 3, 85, 0, 0, 0), ei_la 0, ei_gf (1, 2, 49, 0), ei_ca (92, 1, 3, 88, 0, 0, 0), ei_la 0, ei_gf (1, 0, 12, 0), ei_la 0, ei_gf (1, 1, 40, 0), ei_gf (5, 3, 91, 0), ei_pf (4, 7, 0, 94, 0), ei_la 0, ei_gf (1, 0, 12, 0), ei_st 0, ei_gf (4, 3, 95, 0), ei_la 0, ei_gf (1, 2, 49, 0), ei_gf (2, 5, 98, 0), ei_ib 0, ei_pf (4, 3, 0, 95, 0), ei_la 0, ei_gf (1, 2, 49, 0), ei_gf (2, 4, 99, 0), ei_if ((true, false, true), 1), ei_la 0, ei_gf (1, 0, 12, 0), ei_li 2, ei_pf (4, 6, 0, 102, 0), ei_la 0, ei_ca (93, 1, 2, 105, 0, 0, 0), ei_li 2, ei_re 0]),
  (112, []),
  (141, [])], 0, 0, 0, 3, ⟨"RegisterColours$Allocator", "doRounds", "(LRegisterColours$Told;)I"⟩, prog_2_method_2_code, some .int)
/-- RegisterColours$Left.begin(LRegisterColours$Steps;)V -/
noncomputable def mt_86 : ev_M := ([(0, [ei_la 0, ei_gf (4, 2, 14, 0), ei_la 1, ei_ca (37, 2, 10, 58, 0, 0, 0), ei_la 0, ei_gf (4, 4, 20, 0), ei_ca (49, 1, 0, 62, 4, 0, 0), ei_la 0, ei_gf (4, 0, 24, 0), ei_pu (.inl 4294967295, 0, 0), ei_ca (19, 2, 0, 66, 1, 0, 0), ei_la 0, ei_gf (4, 8, 27, 0), ei_pu (.inl 0, 0, 0), ei_ca (19, 2, 0, 66, 1, 0, 0), ei_la 0, ei_gf (4, 1, 30, 0), ei_pu (.inl 4294967295, 0, 0), ei_ca (19, 2, 0, 66, 1, 0, 0), ei_la 0, ei_pu (.inl 44, 1, 0), ei_pf (4, 5, 0, 33, 0), ei_la 0, ei_pu (.inl 0, 0, 0), ei_pf (4, 6, 0, 37, 0), ei_la 0, ei_pu (.inl 0, 0, 0), ei_pf (4, 9, 0, 40, 0), ei_la 0, ei_pu (.inl 0, 0, 0), ei_pf (4, 10, 0, 43, 0), ei_la 0, ei_pu (.inl 0, 0, 0), ei_pf (4, 11, 0, 46, 0), ei_la 0, ei_pu (.inl 0, 0, 0), ei_pf (4, 7, 0, 49, 0), ei_la 0, ei_pu (.inl 0, 0, 0), ei_pf (4, 12, 0, 52, 0), ei_la 0, ei_pu (.inl 0, 0, 0), ei_pf (4, 3, 0, 55, 0), ei_re 2])], 0, 0, 0, 2, ⟨"RegisterColours$Left", "begin", "(LRegisterColours$Steps;)V"⟩, prog_5_method_2_code, none)
/-- RegisterColours$Merger.mergeMoves()V -/
noncomputable def mt_87 : ev_M := ([(7, [ei_li 1, ei_pu (.inl 200, 2, 0), ei_ic ((false, true, true), 5), ei_la 0, ei_gf (5, 0, 9, 0), ei_li 1, ei_li 1, ei_la 0, ei_gf (5, 1, 29, 0), ei_gf (3, 2, 33, 0), ei_ic ((false, true, true), 2), ei_la 0, ei_gf (5, 1, 29, 0), ei_li 1, ei_ca (11, 2, 4, 38, 0, 0, 0), ei_if ((false, true, false), 2), ei_li 1, ei_go 1]),
  (46, [ei_as 0, ei_ii (1, 1), ei_go 0]),
  (45, [ei_pu (.inl 4294967295, 0, 0), ei_fa 1]),
  (61, [ei_li 2, ei_pu (.inl 1000000, 5, 45), ei_ic ((false, true, true), 7), ei_li 1, ei_if ((false, true, false), 7), ei_pu (.inl 0, 0, 0), ei_si 1, ei_pu (.inl 0, 0, 0), ei_si 3, ei_li 3, ei_la 0, ei_gf (5, 4, 22, 0), ei_ic ((false, true, true), 6)]),
  (0, [ei_la 0, ei_pu (.inl 0, 0, 0), ei_pf (5, 3, 0, 15, 0), ei_pu (.inl 0, 0, 0), ei_si 1, ei_fa 0]),
  (53, [ei_la 0, ei_ca (88, 1, 6, 42, 0, 0, 0), ei_pu (.inl 1, 0, 0), ei_si 1, ei_pu (.inl 0, 0, 0), ei_si 2, ei_fa 3]),
  (136, [ei_ii (2, 1), ei_go 3]),
  (142, [ei_re 2])], 4, 0, 0, 5, ⟨"RegisterColours$Merger", "mergeMoves", "()V"⟩, prog_6_method_2_code, none)
/-- RegisterColours$Merger.orderMoves()V -/
noncomputable def mt_88 : ev_M := ([(9, [ei_li 1, ei_if ((true, true, false), 3), ei_pu (.inl 0, 0, 0), ei_si 2, ei_li 2, ei_la 0, ei_gf (5, 2, 25, 0), ei_gf (9, 0, 58, 0), ei_ic ((false, true, true), 1)]),
  (83, [ei_li 1, ei_pu (.inl 10, 1, 0), ei_dv, ei_si 1, ei_go 0]),
  (0, [ei_la 0, ei_pu (.inl 0, 0, 0), ei_pf (5, 4, 0, 22, 0), ei_pu (.inl 1000, 2, 0), ei_si 1, ei_fa 0]),
  (91, [ei_re 2])], 2, 0, 0, 3, ⟨"RegisterColours$Merger", "orderMoves", "()V"⟩, prog_6_method_3_code, none)
/-- RegisterColours$Colourer.layAll()V -/
noncomputable def mt_89 : ev_M := ([(0, [ei_la 0, ei_gf (2, 0, 38, 0), ei_gf (3, 6, 51, 0), ei_pu (.inl 0, 0, 0), ei_la 0, ei_gf (2, 3, 47, 0), ei_pu (.inl 0, 0, 0), ei_la 0, ei_gf (2, 3, 47, 0), ei_an, ei_cy 54, ei_la 0, ei_pu (.inl 8, 1, 0), ei_ca (43, 2, 3, 60, 0, 0, 0), ei_si 1, ei_li 1, ei_la 0, ei_gf (2, 0, 38, 0), ei_gf (3, 2, 64, 0), ei_ic ((false, true, true), 1)]),
  (68, [ei_la 0, ei_pu (.inl 0, 0, 0), ei_pf (2, 6, 0, 32, 0), ei_pu (.inl 0, 0, 0), ei_si 1, ei_li 1, ei_pu (.inl 200, 2, 0), ei_ic ((false, true, true), 6), ei_la 0, ei_ca (90, 1, 3, 71, 0, 0, 0), ei_si 2, ei_li 2, ei_pu (.inl 4294967295, 0, 0), ei_ic ((true, false, true), 4), ei_pu (.inl 1, 0, 0), ei_go 2]),
  (97, [ei_si 3, ei_li 3, ei_if ((false, true, false), 3), ei_la 0, ei_ca (91, 1, 3, 75, 0, 0, 0), ei_si 2, ei_fa 3]),
  (107, [ei_li 2, ei_pu (.inl 4294967295, 0, 0), ei_ic ((true, false, true), 5), ei_re 2]),
  (96, []),
  (113, []),
  (154, [])], 0, 0, 0, 4, ⟨"RegisterColours$Colourer", "layAll", "()V"⟩, prog_3_method_2_code, none)
/-- RegisterColours$Colourer.leastLight()I -/
noncomputable def mt_90 : ev_M := ([(0, [ei_la 0, ei_pu (.inl 8, 1, 0), ei_ca (43, 2, 3, 60, 0, 0, 0), ei_si 1, ei_li 1, ei_la 0, ei_gf (2, 0, 38, 0), ei_gf (3, 2, 64, 0), ei_ic ((false, true, true), 1)]),
  (48, [ei_pu (.inl 4294967295, 0, 0), ei_re 0])], 0, 0, 0, 2, ⟨"RegisterColours$Colourer", "leastLight", "()I"⟩, prog_3_method_5_code, some .int)
/-- RegisterColours$Colourer.cheapest()I -/
noncomputable def mt_91 : ev_M := ([(0, [ei_pu (.inl 4294967295, 0, 0), ei_si 1, ei_la 0, ei_pu (.inl 8, 1, 0), ei_ca (43, 2, 3, 60, 0, 0, 0), ei_si 2, ei_li 2, ei_la 0, ei_gf (2, 0, 38, 0), ei_gf (3, 2, 64, 0), ei_ic ((false, true, true), 1)]),
  (47, [ei_li 1, ei_re 0])], 0, 0, 0, 3, ⟨"RegisterColours$Colourer", "cheapest", "()I"⟩, prog_3_method_6_code, some .int)
/-- RegisterColours$Colourer.colourAll()V -/
noncomputable def mt_92 : ev_M := ([(12, [ei_li 1, ei_pu (.inl 200, 2, 0), ei_ic ((false, true, true), 4), ei_la 0, ei_gf (2, 1, 9, 0), ei_li 1, ei_li 1, ei_la 0, ei_gf (2, 0, 38, 0), ei_gf (3, 3, 107, 0), ei_ic ((false, true, true), 2), ei_li 1, ei_go 1]),
  (40, [ei_as 0, ei_la 0, ei_gf (2, 2, 15, 0), ei_li 1, ei_pu (.inl 0, 0, 0), ei_as 2, ei_ii (1, 1), ei_go 0]),
  (39, [ei_pu (.inl 4294967295, 0, 0), ei_fa 1]),
  (0, [ei_la 0, ei_pu (.inl 0, 0, 0), ei_pf (2, 4, 0, 19, 0), ei_la 0, ei_pu (.inl 0, 0, 0), ei_pf (2, 5, 0, 23, 0), ei_pu (.inl 0, 0, 0), ei_si 1, ei_fa 0]),
  (54, [ei_la 0, ei_gf (2, 6, 32, 0), ei_pu (.inl 1, 0, 0), ei_ib 4, ei_si 1, ei_li 1, ei_if ((true, false, false), 5)]),
  (151, [ei_re 2])], 3, 0, 0, 3, ⟨"RegisterColours$Colourer", "colourAll", "()V"⟩, prog_3_method_8_code, none)
/-- RegisterColours$Allocator.keepColours()V -/
noncomputable def mt_93 : ev_M := ([(2, [ei_li 1, ei_pu (.inl 200, 2, 0), ei_ic ((false, true, true), 4), ei_la 0, ei_gf (1, 1, 40, 0), ei_gf (5, 0, 55, 0), ei_li 1, ei_al 0, ei_si 2, ei_la 0, ei_gf (1, 0, 12, 0), ei_gf (4, 1, 115, 0), ei_li 1, ei_li 2, ei_as 0, ei_la 0, ei_gf (1, 0, 12, 0), ei_gf (4, 0, 118, 0), ei_li 1, ei_li 2, ei_if ((false, true, true), 2), ei_pu (.inl 4294967295, 0, 0), ei_go 1]),
  (54, [ei_as 0, ei_ii (1, 1), ei_go 0]),
  (45, [ei_la 0, ei_gf (1, 2, 49, 0), ei_gf (2, 1, 121, 0), ei_li 2, ei_al 0, ei_fa 1]),
  (0, [ei_pu (.inl 0, 0, 0), ei_si 1, ei_fa 0]),
  (61, [ei_re 2])], 3, 0, 0, 3, ⟨"RegisterColours$Allocator", "keepColours", "()V"⟩, prog_2_method_3_code, none)
/-- RegisterColours$Left.takeFrom(LRegisterColours$Left;)V -/
noncomputable def mt_94 : ev_M := ([(0, [ei_la 0, ei_gf (4, 2, 14, 0), ei_la 1, ei_gf (4, 2, 14, 0), ei_ca (37, 2, 10, 58, 0, 0, 0), ei_la 1, ei_gf (4, 4, 20, 0), ei_pu (.inl 0, 0, 0), ei_la 0, ei_gf (4, 4, 20, 0), ei_pu (.inl 0, 0, 0), ei_pu (.inl 200, 2, 0), ei_cy 72, ei_la 1, ei_gf (4, 0, 24, 0), ei_pu (.inl 0, 0, 0), ei_la 0, ei_gf (4, 0, 24, 0), ei_pu (.inl 0, 0, 0), ei_pu (.inl 200, 2, 0), ei_cy 72, ei_la 1, ei_gf (4, 8, 27, 0), ei_pu (.inl 0, 0, 0), ei_la 0, ei_gf (4, 8, 27, 0), ei_pu (.inl 0, 0, 0), ei_pu (.inl 200, 2, 0), ei_cy 72, ei_la 1, ei_gf (4, 1, 30, 0), ei_pu (.inl 0, 0, 0), ei_la 0, ei_gf (4, 1, 30, 0), ei_pu (.inl 0, 0, 0), ei_pu (.inl 200, 2, 0), ei_cy 72, ei_la 0, ei_la 1, ei_gf (4, 5, 33, 0), ei_pf (4, 5, 0, 33, 0), ei_la 0, ei_la 1, ei_gf (4, 6, 37, 0), ei_pf (4, 6, 0, 37, 0), ei_la 0, ei_la 1, ei_gf (4, 9, 40, 0), ei_pf (4, 9, 0, 40, 0), ei_la 0, ei_la 1, ei_gf (4, 10, 43, 0), ei_pf (4, 10, 0, 43, 0), ei_la 0, ei_la 1, ei_gf (4, 11, 46, 0), ei_pf (4, 11, 0, 46, 0), ei_la 0, ei_la 1, ei_gf (4, 7, 49, 0), ei_pf (4, 7, 0, 49, 0), ei_la 0, ei_la 1, ei_gf (4, 12, 52, 0), ei_pf (4, 12, 0, 52, 0), ei_la 0, ei_la 1, ei_gf (4, 3, 55, 0), ei_pf (4, 3, 0, 55, 0), ei_re 2])], 0, 0, 0, 2, ⟨"RegisterColours$Left", "takeFrom", "(LRegisterColours$Left;)V"⟩, prog_5_method_3_code, none)
/-- RegisterColoursModel.allocate()I -/
noncomputable def mt_95 : ev_M := ([(13, [ei_li 1, ei_pu (.inl 200, 2, 0), ei_ic ((false, true, true), 2), ei_la 0, ei_gf (11, 9, 72, 0), ei_li 1, ei_pu (.inl 0, 0, 0), ei_as 0, ei_ii (1, 1), ei_go 0]),
  (0, [ei_la 0, ei_pu (.inl 0, 0, 0), ei_pf (11, 22, 0, 140, 0), ei_la 0, ei_pu (.inl 0, 0, 0), ei_pu (.inl 1, 0, 0), ei_ca (50, 3, 12, 327, 0, 0, 0), ei_pu (.inl 0, 0, 0), ei_si 1, ei_fa 0]),
  (33, [ei_la 0, ei_pu (.inl 0, 0, 0), ei_pf (11, 43, 0, 293, 0), ei_la 0, ei_pu (.inl 0, 0, 0), ei_pf (11, 44, 0, 299, 0), ei_la 0, ei_pu (.inl 0, 0, 0), ei_pf (11, 45, 0, 296, 0), ei_la 0, ei_pu (.inl 0, 0, 0), ei_pf (11, 46, 0, 302, 0), ei_la 0, ei_pu (.inl 0, 0, 0), ei_pf (11, 42, 0, 281, 0), ei_la 0, ei_pu (.inl 44, 1, 0), ei_pf (11, 60, 0, 305, 0), ei_la 0, ei_ca (96, 1, 12, 357, 0, 0, 0), ei_si 1, ei_li 1, ei_pu (.inl 4294967295, 0, 0), ei_ic ((false, true, false), 3), ei_la 0, ei_li 1, ei_ca (101, 2, 12, 360, 0, 0, 0), ei_fa 3]),
  (79, [ei_li 1, ei_re 0])], 1, 0, 0, 2, ⟨"RegisterColoursModel", "allocate", "()I"⟩, prog_14_method_63_code, some .int)
/-- RegisterColoursModel.rounds()I -/
noncomputable def mt_96 : ev_M := ([(0, [ei_pu (.inl 1, 0, 0), ei_si 1, ei_li 1, ei_pu (.inl 9, 1, 0), ei_ic ((false, false, true), 2), ei_la 0, ei_pu (.inl 1, 0, 0), ei_ca (22, 2, 12, 330, 0, 0, 0), ei_la 0, ei_ca (97, 1, 12, 333, 0, 0, 0), ei_la 0, ei_ca (98, 1, 12, 336, 0, 0, 0), ei_la 0, ei_ca (100, 1, 12, 339, 0, 0, 0), ei_if ((true, false, true), 1), ei_li 1, ei_re 0]),
  (30, []),
  (57, [])], 0, 0, 0, 2, ⟨"RegisterColoursModel", "rounds", "()I"⟩, prog_14_method_59_code, some .int)
/-- RegisterColoursModel.mergesAll()V -/
noncomputable def mt_97 : ev_M := ([(9, [ei_li 1, ei_if ((true, true, false), 4), ei_pu (.inl 0, 0, 0), ei_si 2, ei_li 2, ei_la 0, ei_gf (11, 19, 23, 0), ei_pu (.inl 1, 0, 0), ei_al 0, ei_ic ((false, true, true), 1)]),
  (73, [ei_li 1, ei_pu (.inl 10, 1, 0), ei_dv, ei_si 1, ei_go 0]),
  (88, [ei_li 1, ei_if ((false, true, false), 6), ei_pu (.inl 0, 0, 0), ei_si 1, ei_pu (.inl 0, 0, 0), ei_si 2, ei_li 2, ei_la 0, ei_gf (11, 39, 256, 0), ei_ic ((false, true, true), 5)]),
  (0, [ei_la 0, ei_pu (.inl 0, 0, 0), ei_pf (11, 39, 0, 256, 0), ei_pu (.inl 1000, 2, 0), ei_si 1, ei_fa 0]),
  (81, [ei_la 0, ei_pu (.inl 0, 0, 0), ei_pf (11, 40, 0, 259, 0), ei_pu (.inl 1, 0, 0), ei_si 1, ei_fa 2]),
  (138, [ei_go 2]),
  (141, [ei_re 2])], 3, 0, 0, 3, ⟨"RegisterColoursModel", "mergesAll", "()V"⟩, prog_14_method_43_code, none)
/-- RegisterColoursModel.laysAll()V -/
noncomputable def mt_98 : ev_M := ([(0, [ei_la 0, ei_pu (.inl 0, 0, 0), ei_pf (11, 41, 0, 268, 0), ei_la 0, ei_ca (99, 1, 12, 271, 0, 0, 0), ei_si 1, ei_li 1, ei_pu (.inl 4294967295, 0, 0), ei_ic ((false, true, false), 1)]),
  (61, [ei_re 2])], 0, 0, 0, 2, ⟨"RegisterColoursModel", "laysAll", "()V"⟩, prog_14_method_46_code, none)
/-- RegisterColoursModel.nextOut()I -/
noncomputable def mt_99 : ev_M := ([(7, [ei_li 2, ei_pu (.inl 200, 2, 0), ei_ic ((false, true, true), 3), ei_la 0, ei_gf (11, 0, 51, 0), ei_li 2, ei_al 2, ei_if ((true, false, true), 4), ei_go 1]),
  (52, [ei_ii (2, 1), ei_go 0]),
  (0, [ei_pu (.inl 4294967295, 0, 0), ei_si 1, ei_la 0, ei_gf (11, 4, 7, 0), ei_si 2, ei_fa 0]),
  (58, [ei_li 1, ei_re 0]),
  (26, [])], 2, 0, 0, 3, ⟨"RegisterColoursModel", "nextOut", "()I"⟩, prog_14_method_45_code, some .int)
/-- RegisterColoursModel.coloursAll()I -/
noncomputable def mt_100 : ev_M := ([(2, [ei_li 1, ei_pu (.inl 200, 2, 0), ei_ic ((false, true, true), 4), ei_la 0, ei_gf (11, 12, 63, 0), ei_li 1, ei_la 0, ei_li 1, ei_ca (0, 2, 12, 228, 0, 0, 0), ei_if ((false, true, false), 2), ei_li 1, ei_go 1]),
  (27, [ei_as 0, ei_ii (1, 1), ei_go 0]),
  (26, [ei_pu (.inl 4294967295, 0, 0), ei_fa 1]),
  (0, [ei_pu (.inl 0, 0, 0), ei_si 1, ei_fa 0]),
  (34, [ei_pu (.inl 0, 0, 0), ei_si 1, ei_la 0, ei_gf (11, 41, 268, 0), ei_pu (.inl 1, 0, 0), ei_ib 4, ei_si 2, ei_li 2, ei_if ((true, false, false), 5)]),
  (107, [ei_li 1, ei_re 0])], 3, 0, 0, 4, ⟨"RegisterColoursModel", "coloursAll", "()I"⟩, prog_14_method_49_code, some .int)
/-- RegisterColoursModel.keepsLeft(I)V -/
noncomputable def mt_101 : ev_M := ([(8, [ei_li 2, ei_pu (.inl 200, 2, 0), ei_ic ((false, true, true), 6), ei_la 0, ei_gf (11, 14, 78, 0), ei_li 2, ei_la 0, ei_gf (11, 2, 44, 0), ei_li 2, ei_al 2, ei_if ((false, true, false), 3), ei_la 0, ei_gf (11, 12, 63, 0), ei_la 0, ei_gf (11, 7, 48, 0), ei_li 2, ei_al 0, ei_al 0, ei_go 1]),
  (44, [ei_as 0, ei_la 0, ei_gf (11, 16, 84, 0), ei_li 2, ei_la 0, ei_gf (11, 2, 44, 0), ei_li 2, ei_al 2, ei_if ((false, true, false), 4), ei_la 0, ei_gf (11, 7, 48, 0), ei_li 2, ei_al 0, ei_go 2]),
  (69, [ei_as 0, ei_la 0, ei_gf (11, 15, 81, 0), ei_li 2, ei_la 0, ei_gf (11, 9, 72, 0), ei_li 2, ei_al 0, ei_as 0, ei_la 0, ei_gf (11, 13, 29, 0), ei_li 2, ei_la 0, ei_gf (11, 11, 26, 0), ei_li 2, ei_al 0, ei_as 0, ei_ii (2, 1), ei_go 0]),
  (43, [ei_pu (.inl 4294967295, 0, 0), ei_fa 1]),
  (68, [ei_pu (.inl 4294967295, 0, 0), ei_fa 2]),
  (0, [ei_la 0, ei_pu (.inl 1, 0, 0), ei_pu (.inl 3, 0, 0), ei_ca (50, 3, 12, 327, 0, 0, 0), ei_pu (.inl 0, 0, 0), ei_si 2, ei_fa 0]),
  (100, [ei_la 0, ei_gf (11, 26, 87, 0), ei_pu (.inl 0, 0, 0), ei_li 1, ei_as 0, ei_la 0, ei_gf (11, 26, 87, 0), ei_pu (.inl 1, 0, 0), ei_la 0, ei_gf (11, 19, 23, 0), ei_pu (.inl 3, 0, 0), ei_al 0, ei_as 0, ei_la 0, ei_gf (11, 26, 87, 0), ei_pu (.inl 2, 0, 0), ei_la 0, ei_gf (11, 43, 293, 0), ei_as 0, ei_la 0, ei_gf (11, 26, 87, 0), ei_pu (.inl 3, 0, 0), ei_la 0, ei_gf (11, 44, 299, 0), ei_as 0, ei_la 0, ei_gf (11, 26, 87, 0), ei_pu (.inl 4, 0, 0), ei_la 0, ei_gf (11, 45, 296, 0), ei_as 0, ei_la 0, ei_gf (11, 26, 87, 0), ei_pu (.inl 5, 0, 0), ei_la 0, ei_gf (11, 40, 259, 0), ei_as 0, ei_la 0, ei_gf (11, 26, 87, 0), ei_pu (.inl 6, 1, 0), ei_pu (.inl 0, 0, 0), ei_as 0, ei_la 0, ei_gf (11, 26, 87, 0), ei_pu (.inl 7, 1, 0), ei_pu (.inl 0, 0, 0), ei_as 0, ei_pu (.inl 0, 0, 0), ei_si 2, ei_li 2, ei_la 0, ei_gf (11, 19, 23, 0), ei_pu (.inl 3, 0, 0), ei_al 0, ei_ic ((false, true, true), 7)]),
  (264, [ei_la 0, ei_gf (11, 26, 87, 0), ei_pu (.inl 8, 1, 0), ei_la 0, ei_pu (.inl 0, 0, 0), ei_ca (51, 2, 12, 349, 0, 0, 0), ei_as 0, ei_la 0, ei_gf (11, 26, 87, 0), ei_pu (.inl 9, 1, 0), ei_la 0, ei_pu (.inl 1, 0, 0), ei_ca (51, 2, 12, 349, 0, 0, 0), ei_as 0, ei_la 0, ei_gf (11, 26, 87, 0), ei_pu (.inl 10, 1, 0), ei_la 0, ei_gf (11, 46, 302, 0), ei_as 0, ei_la 0, ei_gf (11, 26, 87, 0), ei_pu (.inl 11, 1, 0), ei_la 0, ei_gf (11, 42, 281, 0), ei_as 0, ei_la 0, ei_pu (.inl 1, 0, 0), ei_pf (11, 25, 1, 154, 0), ei_re 2])], 5, 0, 0, 3, ⟨"RegisterColoursModel", "keepsLeft", "(I)V"⟩, prog_14_method_60_code, none)
/-- RegisterColours.step(IZI)I -/
noncomputable def mt_102 : ev_M := ([(55, [ei_pu (.inl 4294967295, 0, 0), ei_re 0]),
  (0, [ei_li 2, ei_if ((false, true, false), 2), ei_la 0, ei_gf (0, 1, 29, 0), ei_gf (10, 4, 151, 0), ei_if ((true, false, true), 2), ei_pu (.inl 4294967295, 0, 0), ei_re 0]),
  (16, [ei_li 2, ei_if ((false, true, false), 3)]),
  (33, [ei_la 0, ei_gf (0, 1, 29, 0), ei_gf (10, 5, 39, 0), ei_sa 4, ei_li 1, ei_if ((true, false, false), 0), ei_li 1, ei_la 4, ei_gf (9, 0, 155, 0), ei_ic ((true, false, false), 4), ei_fa 0]),
  (57, [])], 1, 0, 0, 5, ⟨"RegisterColours", "step", "(IZI)I"⟩, prog_1_method_9_code, some .int)
/-- RegisterColoursModel.step(IZI)I -/
noncomputable def mt_103 : ev_M := ([(56, [ei_pu (.inl 4294967295, 0, 0), ei_re 0]),
  (14, [ei_si 4, ei_li 2, ei_if ((false, true, false), 4), ei_la 0, ei_gf (11, 25, 154, 0), ei_if ((false, true, false), 0), ei_fa 4]),
  (0, [ei_la 0, ei_pu (.inl 0, 0, 0), ei_pf (11, 22, 0, 140, 0), ei_li 2, ei_if ((false, true, false), 3), ei_pu (.inl 3, 0, 0), ei_go 1]),
  (13, [ei_pu (.inl 0, 0, 0), ei_fa 1]),
  (27, [ei_la 0, ei_li 1, ei_pu (.inl 0, 0, 0), ei_la 0, ei_gf (11, 19, 23, 0), ei_li 4, ei_al 0, ei_pu (.inl 1, 0, 0), ei_ib 4, ei_ca (18, 4, 12, 143, 0, 0, 0), ei_if ((false, true, false), 0)])], 2, 0, 0, 7, ⟨"RegisterColoursModel", "step", "(IZI)I"⟩, prog_14_method_107_code, some .int)
/-- RegisterColours.live(II)I -/
noncomputable def mt_104 : ev_M := ([(26, [ei_pu (.inl 4294967295, 0, 0), ei_re 0]),
  (0, [ei_li 1, ei_if ((true, false, false), 0), ei_li 1, ei_la 0, ei_gf (0, 1, 29, 0), ei_gf (10, 5, 39, 0), ei_gf (9, 0, 155, 0), ei_ic ((false, true, true), 0)])], 1, 0, 0, 3, ⟨"RegisterColours", "live", "(II)I"⟩, prog_1_method_10_code, some .int)
/-- RegisterColoursModel.live(II)I -/
noncomputable def mt_105 : ev_M := ([(30, [ei_pu (.inl 4294967295, 0, 0), ei_re 0]),
  (0, [ei_la 0, ei_pu (.inl 0, 0, 0), ei_pf (11, 22, 0, 140, 0), ei_la 0, ei_li 1, ei_pu (.inl 0, 0, 0), ei_la 0, ei_gf (11, 19, 23, 0), ei_pu (.inl 0, 0, 0), ei_al 0, ei_pu (.inl 1, 0, 0), ei_ib 4, ei_ca (18, 4, 12, 143, 0, 0, 0), ei_if ((false, true, false), 0)])], 1, 0, 0, 3, ⟨"RegisterColoursModel", "live", "(II)I"⟩, prog_14_method_108_code, some .int)
/-- RegisterColours.value(II)I -/
noncomputable def mt_106 : ev_M := ([(97, [ei_pu (.inl 4294967295, 0, 0), ei_re 0]),
  (10, [ei_la 0, ei_ca (29, 1, 1, 173, 0, 0, 0), ei_sa 3, ei_li 2, ei_tw (2147483648, 0, [2, 3, 4, 5, 6], 36)]),
  (52, [ei_la 3, ei_li 1, ei_ca (11, 2, 4, 195, 0, 0, 0), ei_ca (1, 1, 0, 191, 1, 0, 0), ei_re 0]),
  (61, [ei_la 3, ei_gf (3, 11, 198, 0), ei_li 1, ei_al 0, ei_re 0]),
  (68, [ei_la 3, ei_li 1, ei_la 3, ei_gf (3, 6, 201, 0), ei_ca (45, 3, 4, 205, 0, 0, 0), ei_re 0]),
  (78, [ei_la 3, ei_li 1, ei_ca (17, 2, 4, 209, 0, 0, 0), ei_re 0]),
  (84, [ei_la 3, ei_li 1, ei_la 3, ei_gf (3, 6, 201, 0), ei_ca (52, 3, 4, 212, 0, 0, 0), ei_ca (1, 1, 0, 191, 1, 0, 0), ei_re 0]),
  (0, [ei_la 0, ei_li 1, ei_ca (38, 2, 1, 184, 0, 0, 0), ei_if ((true, false, true), 1), ei_pu (.inl 4294967295, 0, 0), ei_re 0])], 7, 0, 0, 4, ⟨"RegisterColours", "value", "(II)I"⟩, prog_1_method_11_code, some .int)
/-- RegisterColoursModel.value(II)I -/
noncomputable def mt_107 : ev_M := ([(102, [ei_re 0]),
  (63, [ei_re 0]),
  (62, [ei_pu (.inl 0, 0, 0), ei_fa 1]),
  (101, [ei_pu (.inl 0, 0, 0), ei_fa 0]),
  (23, [ei_pu (.inl 4294967295, 0, 0), ei_re 0]),
  (40, [ei_la 0, ei_pu (.inl 0, 0, 0), ei_ca (22, 2, 12, 330, 0, 0, 0), ei_li 2, ei_if ((true, false, true), 6), ei_la 0, ei_gf (11, 2, 44, 0), ei_li 1, ei_al 2, ei_if ((false, true, false), 2), ei_pu (.inl 1, 0, 0), ei_go 1]),
  (64, [ei_li 2, ei_pu (.inl 1, 0, 0), ei_ic ((true, false, true), 7), ei_la 0, ei_gf (11, 8, 41, 0), ei_li 1, ei_al 0, ei_re 0]),
  (76, [ei_li 2, ei_pu (.inl 2, 0, 0), ei_ic ((true, false, true), 9), ei_la 0, ei_li 1, ei_ca (46, 2, 12, 238, 0, 0, 0), ei_go 0]),
  (25, [ei_li 2, ei_pu (.inl 3, 0, 0), ei_ic ((true, false, true), 5), ei_la 0, ei_la 0, ei_li 1, ei_ca (14, 2, 12, 169, 0, 0, 0), ei_ca (16, 2, 12, 241, 0, 0, 0), ei_re 0]),
  (89, [ei_la 0, ei_li 1, ei_ca (53, 2, 12, 244, 0, 0, 0), ei_if ((false, true, false), 3), ei_pu (.inl 1, 0, 0), ei_go 0]),
  (0, [ei_la 0, ei_pu (.inl 0, 0, 0), ei_pf (11, 22, 0, 140, 0), ei_la 0, ei_li 1, ei_ca (39, 2, 12, 516, 0, 0, 0), ei_if ((false, true, false), 4), ei_la 0, ei_li 2, ei_pu (.inl 0, 0, 0), ei_pu (.inl 4, 0, 0), ei_ca (18, 4, 12, 143, 0, 0, 0), ei_if ((true, false, true), 8), ei_fa 4])], 10, 0, 0, 3, ⟨"RegisterColoursModel", "value", "(II)I"⟩, prog_14_method_109_code, some .int)
/-- RegisterColours.edge(II)I -/
noncomputable def mt_108 : ev_M := ([(16, [ei_pu (.inl 4294967295, 0, 0), ei_re 0]),
  (18, [ei_la 0, ei_ca (29, 1, 1, 173, 0, 0, 0), ei_li 1, ei_li 2, ei_ca (5, 3, 4, 216, 0, 0, 0), ei_ca (1, 1, 0, 191, 1, 0, 0), ei_re 0]),
  (0, [ei_la 0, ei_li 1, ei_ca (38, 2, 1, 184, 0, 0, 0), ei_if ((false, true, false), 0), ei_la 0, ei_li 2, ei_ca (38, 2, 1, 184, 0, 0, 0), ei_if ((true, false, true), 1), ei_fa 0])], 2, 0, 0, 3, ⟨"RegisterColours", "edge", "(II)I"⟩, prog_1_method_12_code, some .int)
/-- RegisterColoursModel.edge(II)I -/
noncomputable def mt_109 : ev_M := ([(46, [ei_re 0]),
  (45, [ei_pu (.inl 0, 0, 0), ei_fa 0]),
  (21, [ei_pu (.inl 4294967295, 0, 0), ei_re 0]),
  (23, [ei_la 0, ei_pu (.inl 0, 0, 0), ei_ca (22, 2, 12, 330, 0, 0, 0), ei_la 0, ei_la 0, ei_gf (11, 3, 38, 0), ei_li 1, ei_li 2, ei_ca (3, 4, 12, 203, 0, 0, 0), ei_if ((false, true, false), 1), ei_pu (.inl 1, 0, 0), ei_go 0]),
  (0, [ei_la 0, ei_pu (.inl 0, 0, 0), ei_pf (11, 22, 0, 140, 0), ei_la 0, ei_li 1, ei_ca (39, 2, 12, 516, 0, 0, 0), ei_if ((false, true, false), 2), ei_la 0, ei_li 2, ei_ca (39, 2, 12, 516, 0, 0, 0), ei_if ((true, false, true), 3), ei_fa 2])], 4, 0, 0, 3, ⟨"RegisterColoursModel", "edge", "(II)I"⟩, prog_14_method_110_code, some .int)
/-- RegisterColours.colour(II)I -/
noncomputable def mt_110 : ev_M := ([(22, [ei_si 3, ei_la 0, ei_gf (0, 1, 29, 0), ei_gf (10, 4, 151, 0), ei_if ((false, true, false), 1)]),
  (48, [ei_pu (.inl 4294967295, 0, 0), ei_re 0]),
  (21, [ei_pu (.inl 0, 0, 0), ei_fa 0]),
  (0, [ei_li 1, ei_la 0, ei_gf (0, 1, 29, 0), ei_gf (10, 1, 81, 0), ei_ic ((true, false, false), 2), ei_li 1, ei_pu (.inl 8, 1, 0), ei_ic ((false, true, true), 2), ei_pu (.inl 1, 0, 0), ei_go 0])], 3, 0, 0, 4, ⟨"RegisterColours", "colour", "(II)I"⟩, prog_1_method_13_code, some .int)
/-- RegisterColoursModel.colour(II)I -/
noncomputable def mt_111 : ev_M := ([(0, [ei_la 0, ei_pu (.inl 0, 0, 0), ei_pf (11, 22, 0, 140, 0), ei_la 0, ei_gf (11, 25, 154, 0), ei_if ((false, true, false), 1)]),
  (48, [ei_pu (.inl 4294967295, 0, 0), ei_re 0])], 0, 0, 0, 3, ⟨"RegisterColoursModel", "colour", "(II)I"⟩, prog_14_method_64_code, some .int)
/-- RegisterColours.left(I)I -/
noncomputable def mt_112 : ev_M := ([(0, [ei_la 0, ei_gf (0, 1, 29, 0), ei_gf (10, 4, 151, 0), ei_if ((true, false, true), 1), ei_pu (.inl 4294967295, 0, 0), ei_re 0]),
  (12, [])], 0, 0, 0, 3, ⟨"RegisterColours", "left", "(I)I"⟩, prog_1_method_14_code, some .int)
/-- RegisterColoursModel.left(I)I -/
noncomputable def mt_113 : ev_M := ([(0, [ei_la 0, ei_pu (.inl 0, 0, 0), ei_pf (11, 22, 0, 140, 0), ei_la 0, ei_gf (11, 25, 154, 0), ei_if ((false, true, false), 1)]),
  (32, [ei_pu (.inl 4294967295, 0, 0), ei_re 0])], 0, 0, 0, 2, ⟨"RegisterColoursModel", "left", "(I)I"⟩, prog_14_method_65_code, some .int)
/-- RegisterColours.run(II)I -/
noncomputable def mt_114 : ev_M := ([(24, [ei_pu (.inl 4294967295, 0, 0), ei_re 0]),
  (131, [ei_pu (.inl 4294967295, 0, 0), ei_re 0]),
  (0, [ei_li 1, ei_if ((true, false, false), 0), ei_li 1, ei_pu (.inl 1, 0, 0), ei_ic ((false, false, true), 0), ei_li 1, ei_pu (.inl 1, 0, 0), ei_ic ((true, false, true), 3), ei_la 0, ei_gf (0, 1, 29, 0), ei_gf (10, 4, 151, 0), ei_if ((true, false, true), 3), ei_fa 0]),
  (26, [ei_la 0, ei_gf (0, 5, 63, 0), ei_li 1, ei_ic ((false, true, false), 5), ei_la 0, ei_gf (0, 7, 59, 0), ei_li 1, ei_pu (.inl 1, 0, 0), ei_ic ((true, false, true), 4)]),
  (47, [ei_pu (.inl 0, 0, 0), ei_ca (115, 2, 8, 266, 0, 0, 0), ei_la 0, ei_li 1, ei_pf (0, 5, 0, 63, 0), ei_fa 5]),
  (56, [ei_li 2, ei_tw (2147483648, 1, [6, 8, 9, 10], 31)]),
  (88, [ei_la 0, ei_gf (0, 7, 59, 0), ei_gf (7, 1, 270, 0), ei_if ((true, false, true), 7)]),
  (102, [ei_pu (.inl 0, 0, 0), ei_ca (1, 1, 0, 191, 1, 0, 0), ei_re 0]),
  (107, [ei_la 0, ei_gf (0, 7, 59, 0), ei_gf (7, 2, 273, 0), ei_re 0]),
  (115, [ei_la 0, ei_gf (0, 7, 59, 0), ei_gf (7, 3, 276, 0), ei_re 0]),
  (123, [ei_la 0, ei_gf (0, 7, 59, 0), ei_gf (7, 4, 279, 0), ei_re 0])], 2, 0, 0, 3, ⟨"RegisterColours", "run", "(II)I"⟩, prog_1_method_15_code, some .int)
/-- RegisterColours$Runner.runSteps(Z)V -/
noncomputable def mt_115 : ev_M := ([(0, [ei_la 0, ei_li 1, ei_pf (7, 10, 1, 36, 0), ei_la 0, ei_li 1, ei_if ((false, true, false), 1)]),
  (23, [ei_la 0, ei_gf (7, 8, 42, 0), ei_gf (10, 5, 52, 0), ei_pf (7, 0, 3, 58, 0), ei_la 0, ei_li 1, ei_if ((false, true, false), 2)]),
  (51, [ei_la 0, ei_gf (7, 9, 46, 0), ei_pf (7, 11, 3, 49, 0), ei_la 0, ei_gf (7, 5, 25, 0), ei_pu (.inr (.inr (.inl 0)), 3, 0), ei_ca (13, 2, 0, 69, 1, 0, 0), ei_la 0, ei_gf (7, 6, 29, 0), ei_pu (.inl 0, 0, 0), ei_ca (19, 2, 0, 75, 1, 0, 0), ei_la 0, ei_gf (7, 7, 33, 0), ei_pu (.inr (.inr (.inl 0)), 3, 0), ei_ca (13, 2, 0, 69, 1, 0, 0), ei_la 0, ei_pu (.inl 0, 0, 0), ei_pf (7, 2, 0, 15, 0), ei_la 0, ei_pu (.inl 0, 0, 0), ei_pf (7, 3, 0, 19, 0), ei_la 0, ei_pu (.inl 0, 0, 0), ei_pf (7, 4, 0, 22, 0), ei_la 0, ei_pu (.inl 0, 0, 0), ei_pf (7, 12, 0, 39, 0), ei_pu (.inl 0, 0, 0), ei_si 2, ei_li 2, ei_la 0, ei_gf (7, 0, 58, 0), ei_gf (9, 0, 78, 0), ei_ic ((false, true, true), 3)]),
  (144, [ei_la 0, ei_li 2, ei_la 0, ei_gf (7, 0, 58, 0), ei_gf (9, 0, 78, 0), ei_ic ((true, false, false), 5), ei_pu (.inl 1, 0, 0), ei_go 4]),
  (161, [ei_pf (7, 1, 1, 9, 0), ei_re 2]),
  (160, [])], 0, 0, 0, 3, ⟨"RegisterColours$Runner", "runSteps", "(Z)V"⟩, prog_9_method_2_code, none)
/-- RegisterColoursModel.run(II)I -/
noncomputable def mt_116 : ev_M := ([(52, [ei_li 4, ei_pu (.inl 200, 2, 0), ei_ic ((false, true, true), 8), ei_la 0, ei_gf (11, 17, 111, 0), ei_li 4, ei_pu (.inr (.inr (.inl 0)), 3, 0), ei_as 1, ei_la 0, ei_gf (11, 18, 121, 0), ei_li 4, ei_pu (.inr (.inr (.inl 0)), 3, 0), ei_as 1, ei_ii (4, 1), ei_go 0]),
  (85, [ei_li 4, ei_pu (.inl 8, 1, 0), ei_ic ((false, true, true), 9), ei_la 0, ei_gf (11, 29, 115, 0), ei_li 4, ei_pu (.inl 0, 0, 0), ei_as 0, ei_ii (4, 1), ei_go 1]),
  (37, [ei_pu (.inl 4294967295, 0, 0), ei_re 0]),
  (109, [ei_li 4, ei_pu (.inl 4, 0, 0), ei_ic ((false, true, true), 10), ei_la 0, ei_gf (11, 32, 118, 0), ei_li 4, ei_pu (.inl 0, 0, 0), ei_as 0, ei_ii (4, 1), ei_go 3]),
  (244, [ei_re 0]),
  (0, [ei_la 0, ei_pu (.inl 0, 0, 0), ei_pf (11, 22, 0, 140, 0), ei_la 0, ei_li 1, ei_pu (.inl 0, 0, 0), ei_pu (.inl 1, 0, 0), ei_ca (18, 4, 12, 143, 0, 0, 0), ei_if ((false, true, false), 2), ei_la 0, ei_li 2, ei_pu (.inl 0, 0, 0), ei_pu (.inl 3, 0, 0), ei_ca (18, 4, 12, 143, 0, 0, 0), ei_if ((false, true, false), 2), ei_li 1, ei_pu (.inl 1, 0, 0), ei_ic ((true, false, true), 6), ei_la 0, ei_gf (11, 25, 154, 0), ei_if ((true, false, true), 6), ei_fa 2]),
  (39, [ei_li 1, ei_if ((true, false, true), 16), ei_pu (.inl 0, 0, 0), ei_go 7]),
  (48, [ei_si 3, ei_pu (.inl 0, 0, 0), ei_si 4, ei_fa 0]),
  (82, [ei_pu (.inl 0, 0, 0), ei_si 4, ei_fa 1]),
  (106, [ei_pu (.inl 0, 0, 0), ei_si 4, ei_fa 3]),
  (129, [ei_la 0, ei_pu (.inl 0, 0, 0), ei_pf (11, 65, 0, 474, 0), ei_la 0, ei_pu (.inl 0, 0, 0), ei_pf (11, 50, 0, 477, 0), ei_la 0, ei_pu (.inl 0, 0, 0), ei_pf (11, 51, 0, 480, 0), ei_la 0, ei_pu (.inl 0, 0, 0), ei_pf (11, 52, 0, 489, 0), ei_pu (.inl 0, 0, 0), ei_si 4, ei_li 4, ei_la 0, ei_gf (11, 19, 23, 0), ei_li 3, ei_al 0, ei_ic ((false, true, true), 11)]),
  (195, [ei_li 2, ei_if ((true, false, true), 13), ei_li 4, ei_la 0, ei_gf (11, 19, 23, 0), ei_li 3, ei_al 0, ei_ic ((false, true, true), 12)]),
  (214, [ei_pu (.inl 0, 0, 0), ei_re 0]),
  (216, [ei_li 2, ei_pu (.inl 1, 0, 0), ei_ic ((true, false, true), 14), ei_la 0, ei_gf (11, 52, 489, 0), ei_go 4]),
  (228, [ei_li 2, ei_pu (.inl 2, 0, 0), ei_ic ((true, false, true), 15), ei_la 0, ei_gf (11, 50, 477, 0), ei_go 4]),
  (240, [ei_la 0, ei_gf (11, 51, 480, 0), ei_fa 4]),
  (47, [])], 5, 0, 0, 5, ⟨"RegisterColoursModel", "run", "(II)I"⟩, prog_14_method_97_code, some .int)
/-- RegisterColours.proved()I -/
noncomputable def mt_117 : ev_M := ([(0, [ei_la 0, ei_gf (0, 1, 29, 0), ei_gf (10, 4, 151, 0), ei_if ((true, false, true), 1), ei_pu (.inl 4294967295, 0, 0), ei_re 0]),
  (12, [])], 0, 0, 0, 1, ⟨"RegisterColours", "proved", "()I"⟩, prog_1_method_16_code, some .int)
/-- RegisterColoursModel.proved()I -/
noncomputable def mt_118 : ev_M := ([(0, [ei_la 0, ei_pu (.inl 0, 0, 0), ei_pf (11, 22, 0, 140, 0), ei_la 0, ei_gf (11, 25, 154, 0), ei_if ((true, false, true), 1), ei_pu (.inl 4294967295, 0, 0), ei_re 0]),
  (14, [])], 0, 0, 0, 3, ⟨"RegisterColoursModel", "proved", "()I"⟩, prog_14_method_105_code, some .int)
/-- RegisterColours.graph(I)I -/
noncomputable def mt_119 : ev_M := ([(83, [ei_pu (.inl 4294967295, 0, 0), ei_re 0]),
  (0, [ei_li 1, ei_tw (2147483648, 0, [2, 4, 5, 6], 31)]),
  (32, [ei_la 0, ei_ca (29, 1, 1, 173, 0, 0, 0), ei_ca (54, 1, 4, 289, 0, 0, 0), ei_pu (.inl 4294967295, 0, 0), ei_ic ((false, true, false), 7), ei_pu (.inl 1, 0, 0), ei_go 3]),
  (48, [ei_ca (1, 1, 0, 191, 1, 0, 0), ei_re 0]),
  (52, [ei_la 0, ei_ca (29, 1, 1, 173, 0, 0, 0), ei_ca (54, 1, 4, 289, 0, 0, 0), ei_re 0]),
  (60, [ei_la 0, ei_ca (29, 1, 1, 173, 0, 0, 0), ei_la 0, ei_gf (0, 1, 29, 0), ei_gf (10, 0, 292, 0), ei_ca (121, 2, 4, 295, 0, 0, 0), ei_re 0]),
  (75, [ei_la 0, ei_ca (29, 1, 1, 173, 0, 0, 0), ei_ca (120, 1, 4, 298, 0, 0, 0), ei_re 0]),
  (47, [])], 1, 0, 0, 2, ⟨"RegisterColours", "graph", "(I)I"⟩, prog_1_method_17_code, some .int)
/-- RegisterColours$Graph.heaviest()I -/
noncomputable def mt_120 : ev_M := ([(0, [ei_pu (.inl 0, 0, 0), ei_si 1, ei_pu (.inl 0, 0, 0), ei_si 2, ei_li 2, ei_la 0, ei_gf (3, 9, 27, 0), ei_gf (9, 0, 101, 0), ei_ic ((false, true, true), 1)]),
  (87, [ei_li 1, ei_re 0])], 0, 0, 0, 5, ⟨"RegisterColours$Graph", "heaviest", "()I"⟩, prog_4_method_25_code, some .int)
/-- RegisterColours$Graph.clashes([I)I -/
noncomputable def mt_121 : ev_M := ([(13, [ei_li 4, ei_li 3, ei_ic ((false, true, true), 4), ei_la 1, ei_li 3, ei_al 0, ei_pu (.inl 4294967295, 0, 0), ei_ic ((false, true, false), 1)]),
  (40, [ei_pu (.inl 0, 0, 0), ei_si 5, ei_li 2, ei_li 5, ei_if ((false, true, false), 2)]),
  (69, [ei_pu (.inl 0, 0, 0), ei_ca (1, 1, 0, 197, 4, 0, 0), ei_ib 0, ei_si 2, ei_ii (4, 1), ei_go 0]),
  (4, [ei_li 3, ei_pu (.inl 24, 1, 0), ei_ic ((false, true, true), 6), ei_pu (.inl 0, 0, 0), ei_si 4, ei_fa 0]),
  (81, [ei_ii (3, 1), ei_go 3]),
  (0, [ei_pu (.inl 0, 0, 0), ei_si 2, ei_pu (.inl 0, 0, 0), ei_si 3, ei_fa 3]),
  (87, [ei_li 2, ei_re 0])], 5, 0, 0, 6, ⟨"RegisterColours$Graph", "clashes", "([I)I"⟩, prog_4_method_26_code, some .int)
/-- RegisterColoursModel.graph(I)I -/
noncomputable def mt_122 : ev_M := ([(68, [ei_re 0]),
  (22, [ei_li 1, ei_pu (.inl 1, 0, 0), ei_ic ((true, false, true), 2), ei_la 0, ei_ca (56, 1, 12, 531, 0, 0, 0), ei_if ((false, true, false), 9), ei_la 0, ei_gf (11, 37, 519, 0), ei_go 7]),
  (43, [ei_li 1, ei_pu (.inl 2, 0, 0), ei_ic ((true, false, true), 3), ei_la 0, ei_ca (123, 1, 12, 534, 0, 0, 0), ei_go 0]),
  (55, [ei_li 1, ei_pu (.inl 3, 0, 0), ei_ic ((true, false, true), 4), ei_la 0, ei_ca (124, 1, 12, 537, 0, 0, 0), ei_go 0]),
  (67, [ei_pu (.inl 4294967295, 0, 0), ei_fa 0]),
  (0, [ei_la 0, ei_pu (.inl 0, 0, 0), ei_pf (11, 22, 0, 140, 0), ei_li 1, ei_if ((true, false, true), 1), ei_la 0, ei_ca (56, 1, 12, 531, 0, 0, 0), ei_if ((false, true, false), 8), ei_pu (.inl 1, 0, 0), ei_go 6]),
  (21, [ei_re 0]),
  (42, [ei_re 0]),
  (20, []),
  (41, [])], 5, 0, 0, 2, ⟨"RegisterColoursModel", "graph", "(I)I"⟩, prog_14_method_116_code, some .int)
/-- RegisterColoursModel.clashes()I -/
noncomputable def mt_123 : ev_M := ([(17, [ei_li 3, ei_li 2, ei_ic ((false, true, true), 3), ei_la 0, ei_gf (11, 10, 134, 0), ei_li 2, ei_al 0, ei_if ((true, true, false), 1)]),
  (69, [ei_ii (3, 1), ei_go 0]),
  (9, [ei_li 2, ei_pu (.inl 24, 1, 0), ei_ic ((false, true, true), 5), ei_pu (.inl 0, 0, 0), ei_si 3, ei_fa 0]),
  (75, [ei_ii (2, 1), ei_go 2]),
  (0, [ei_la 0, ei_pu (.inl 0, 0, 0), ei_ca (22, 2, 12, 330, 0, 0, 0), ei_pu (.inl 0, 0, 0), ei_si 1, ei_pu (.inl 0, 0, 0), ei_si 2, ei_fa 2]),
  (81, [ei_li 1, ei_re 0])], 4, 0, 0, 4, ⟨"RegisterColoursModel", "clashes", "()I"⟩, prog_14_method_114_code, some .int)
/-- RegisterColoursModel.heaviest()I -/
noncomputable def mt_124 : ev_M := ([(0, [ei_la 0, ei_pu (.inl 0, 0, 0), ei_ca (21, 2, 12, 223, 0, 0, 0), ei_pu (.inl 0, 0, 0), ei_si 1, ei_pu (.inl 0, 0, 0), ei_si 2, ei_li 2, ei_la 0, ei_gf (11, 19, 23, 0), ei_pu (.inl 0, 0, 0), ei_al 0, ei_ic ((false, true, true), 1)]),
  (92, [ei_li 1, ei_re 0])], 0, 0, 0, 5, ⟨"RegisterColoursModel", "heaviest", "()I"⟩, prog_14_method_115_code, some .int)
/-- RegisterColours.paint(II)Z -/
noncomputable def mt_125 : ev_M := ([(21, [ei_pu (.inl 0, 0, 0), ei_re 0]),
  (0, [ei_li 1, ei_if ((true, false, false), 0), ei_li 1, ei_pu (.inl 24, 1, 0), ei_ic ((false, true, true), 0), ei_li 2, ei_pu (.inl 4294967295, 0, 0), ei_ic ((true, false, false), 0), ei_li 2, ei_pu (.inl 8, 1, 0), ei_ic ((true, false, false), 2), ei_fa 0]),
  (23, [ei_la 0, ei_gf (0, 1, 29, 0), ei_gf (10, 0, 292, 0), ei_li 1, ei_li 2, ei_as 0, ei_pu (.inl 1, 0, 0), ei_re 0])], 1, 0, 0, 3, ⟨"RegisterColours", "paint", "(II)Z"⟩, prog_1_method_18_code, some .boolean)
/-- RegisterColoursModel.paint(II)Z -/
noncomputable def mt_126 : ev_M := ([(27, [ei_pu (.inl 0, 0, 0), ei_re 0]),
  (0, [ei_la 0, ei_pu (.inl 0, 0, 0), ei_pf (11, 22, 0, 140, 0), ei_la 0, ei_li 1, ei_pu (.inl 0, 0, 0), ei_pu (.inl 23, 1, 0), ei_ca (18, 4, 12, 143, 0, 0, 0), ei_if ((false, true, false), 0), ei_la 0, ei_li 2, ei_pu (.inl 4294967295, 0, 0), ei_pu (.inl 7, 1, 0), ei_ca (18, 4, 12, 143, 0, 0, 0), ei_if ((true, false, true), 2), ei_fa 0]),
  (29, [ei_la 0, ei_gf (11, 10, 134, 0), ei_li 1, ei_li 2, ei_pu (.inl 1, 0, 0), ei_ib 0, ei_as 0, ei_pu (.inl 1, 0, 0), ei_re 0])], 1, 0, 0, 3, ⟨"RegisterColoursModel", "paint", "(II)Z"⟩, prog_14_method_117_code, some .boolean)
/-- RegisterColours.image(Z)Z -/
noncomputable def mt_127 : ev_M := ([(0, [ei_li 1, ei_if ((false, true, false), 2), ei_la 0, ei_gf (0, 10, 74, 0), ei_nn 1, ei_la 0, ei_nw (10, 26, [.inr (.inl 0), .inl 0, .inl 0, .inl 0, .inl 0, .inr (.inl 0), .inl 0, .inl 0, .inr (.inl 0), .inr (.inl 0)]), ei_st 0, ei_ca (47, 1, 0, 28, 2, 19, 4865), ei_pf (0, 10, 3, 74, 0), ei_fa 1]),
  (22, [ei_la 0, ei_gf (0, 10, 74, 0), ei_la 0, ei_gf (0, 1, 29, 0), ei_ca (128, 2, 11, 301, 0, 0, 0), ei_pu (.inl 1, 0, 0), ei_re 0]),
  (35, [ei_la 0, ei_gf (0, 10, 74, 0), ei_nn 3, ei_pu (.inl 0, 0, 0), ei_re 0]),
  (44, [])], 0, 20, 4875, 2, ⟨"RegisterColours", "image", "(Z)Z"⟩, prog_1_method_19_code, some .boolean)
/-- RegisterColours$Told.takeFrom(LRegisterColours$Told;)V -/
noncomputable def mt_128 : ev_M := ([(0, [ei_la 0, ei_la 1, ei_gf (10, 1, 9, 0), ei_pf (10, 1, 0, 9, 0), ei_la 0, ei_la 1, ei_gf (10, 3, 15, 0), ei_pf (10, 3, 0, 15, 0), ei_la 0, ei_la 1, ei_gf (10, 2, 18, 0), ei_pf (10, 2, 0, 18, 0), ei_la 0, ei_la 1, ei_gf (10, 7, 21, 0), ei_pf (10, 7, 0, 21, 0), ei_la 0, ei_la 1, ei_gf (10, 6, 24, 0), ei_pf (10, 6, 0, 24, 0), ei_la 0, ei_la 1, ei_gf (10, 4, 27, 0), ei_pf (10, 4, 1, 27, 0), ei_la 0, ei_gf (10, 5, 36, 0), ei_la 1, ei_gf (10, 5, 36, 0), ei_ca (37, 2, 10, 60, 0, 0, 0), ei_la 1, ei_gf (10, 8, 40, 0), ei_pu (.inl 0, 0, 0), ei_la 0, ei_gf (10, 8, 40, 0), ei_pu (.inl 0, 0, 0), ei_pu (.inl 16, 1, 0), ei_cy 64, ei_la 1, ei_gf (10, 0, 44, 0), ei_pu (.inl 0, 0, 0), ei_la 0, ei_gf (10, 0, 44, 0), ei_pu (.inl 0, 0, 0), ei_pu (.inl 24, 1, 0), ei_cy 64, ei_la 1, ei_gf (10, 4, 27, 0), ei_if ((false, true, false), 1)]),
  (107, [ei_re 2])], 0, 0, 0, 2, ⟨"RegisterColours$Told", "takeFrom", "(LRegisterColours$Told;)V"⟩, prog_12_method_2_code, none)
/-- RegisterColoursModel.image(Z)Z -/
noncomputable def mt_129 : ev_M := ([(0, [ei_la 0, ei_pu (.inl 0, 0, 0), ei_pf (11, 22, 0, 140, 0), ei_li 1, ei_if ((true, false, true), 1), ei_la 0, ei_gf (11, 53, 559, 0), ei_if ((true, false, true), 1), ei_pu (.inl 0, 0, 0), ei_re 0]),
  (18, [ei_la 0, ei_pu (.inl 1, 0, 0), ei_pf (11, 53, 1, 559, 0), ei_la 0, ei_li 1, ei_pf (11, 6, 1, 553, 0), ei_la 0, ei_pu (.inl 0, 0, 0), ei_pf (11, 1, 0, 556, 0), ei_la 0, ei_la 0, ei_la 0, ei_gf (11, 4, 7, 0), ei_ca (33, 2, 12, 562, 0, 0, 0), ei_pf (11, 4, 0, 7, 0), ei_la 0, ei_la 0, ei_la 0, ei_gf (11, 24, 13, 0), ei_ca (33, 2, 12, 562, 0, 0, 0), ei_pf (11, 24, 0, 13, 0), ei_la 0, ei_la 0, ei_la 0, ei_gf (11, 27, 16, 0), ei_ca (33, 2, 12, 562, 0, 0, 0), ei_pf (11, 27, 0, 16, 0), ei_la 0, ei_la 0, ei_la 0, ei_gf (11, 30, 445, 0), ei_ca (33, 2, 12, 562, 0, 0, 0), ei_pf (11, 30, 0, 445, 0), ei_la 0, ei_la 0, ei_la 0, ei_gf (11, 28, 457, 0), ei_ca (33, 2, 12, 562, 0, 0, 0), ei_pf (11, 28, 0, 457, 0), ei_la 0, ei_gf (11, 19, 23, 0), ei_pu (.inl 3, 0, 0), ei_la 0, ei_la 0, ei_gf (11, 19, 23, 0), ei_pu (.inl 3, 0, 0), ei_al 0, ei_ca (33, 2, 12, 562, 0, 0, 0), ei_as 0, ei_la 0, ei_la 0, ei_la 0, ei_gf (11, 25, 154, 0), ei_if ((false, true, false), 2)]),
  (122, [ei_pu (.inl 0, 0, 0), ei_ca (33, 2, 12, 562, 0, 0, 0), ei_pu (.inl 1, 0, 0), ei_ic ((true, false, true), 3)]),
  (134, [ei_pu (.inl 0, 0, 0), ei_pf (11, 25, 1, 154, 0), ei_la 0, ei_la 0, ei_gf (11, 48, 99, 0), ei_pu (.inl 0, 0, 0), ei_pu (.inl 240, 2, 0), ei_ca (31, 4, 12, 565, 0, 0, 0), ei_la 0, ei_la 0, ei_gf (11, 36, 108, 0), ei_pu (.inl 0, 0, 0), ei_pu (.inl 16, 1, 0), ei_ca (31, 4, 12, 565, 0, 0, 0), ei_la 0, ei_la 0, ei_gf (11, 10, 134, 0), ei_pu (.inl 0, 0, 0), ei_pu (.inl 24, 1, 0), ei_ca (31, 4, 12, 565, 0, 0, 0), ei_la 0, ei_la 0, ei_gf (11, 14, 78, 0), ei_pu (.inl 0, 0, 0), ei_pu (.inl 200, 2, 0), ei_ca (31, 4, 12, 565, 0, 0, 0), ei_la 0, ei_la 0, ei_gf (11, 15, 81, 0), ei_pu (.inl 0, 0, 0), ei_pu (.inl 200, 2, 0), ei_ca (31, 4, 12, 565, 0, 0, 0), ei_la 0, ei_la 0, ei_gf (11, 16, 84, 0), ei_pu (.inl 0, 0, 0), ei_pu (.inl 200, 2, 0), ei_ca (31, 4, 12, 565, 0, 0, 0), ei_la 0, ei_la 0, ei_gf (11, 13, 29, 0), ei_pu (.inl 0, 0, 0), ei_pu (.inl 200, 2, 0), ei_ca (31, 4, 12, 565, 0, 0, 0), ei_la 0, ei_la 0, ei_gf (11, 26, 87, 0), ei_pu (.inl 0, 0, 0), ei_pu (.inl 12, 1, 0), ei_ca (31, 4, 12, 565, 0, 0, 0), ei_la 0, ei_la 0, ei_gf (11, 38, 19, 0), ei_la 0, ei_pu (.inl 3, 0, 0), ei_pu (.inl 0, 0, 0), ei_ca (130, 3, 12, 158, 0, 0, 0), ei_pu (.inl 2000, 2, 0), ei_ca (31, 4, 12, 565, 0, 0, 0), ei_li 1, ei_if ((true, false, true), 4)]),
  (256, [ei_pu (.inl 1, 0, 0), ei_re 0])], 0, 0, 0, 2, ⟨"RegisterColoursModel", "image", "(Z)Z"⟩, prog_14_method_125_code, some .boolean)
/-- RegisterColoursModel.at(II)I -/
noncomputable def mt_130 : ev_M := ([(0, [ei_pu (.inl 5, 0, 0), ei_pu (.inl 410, 2, 0), ei_li 1, ei_ib 1, ei_li 2, ei_ib 0, ei_ib 1, ei_re 0])], 0, 0, 0, 3, ⟨"RegisterColoursModel", "at", "(II)I"⟩, prog_14_method_13_code, some .int)
/-- RegisterColours.look(I)I -/
noncomputable def mt_131 : ev_M := ([(161, [ei_pu (.inl 4294867296, 6, 313), ei_re 0]),
  (0, [ei_li 1, ei_tw (2147483648, 0, [2, 3, 4, 5, 6, 7, 8, 9, 10, 11, 12], 59)]),
  (60, [ei_la 0, ei_gf (0, 1, 29, 0), ei_gf (10, 7, 119, 0), ei_re 0]),
  (68, [ei_la 0, ei_gf (0, 1, 29, 0), ei_gf (10, 5, 39, 0), ei_gf (9, 0, 155, 0), ei_re 0]),
  (79, [ei_la 0, ei_gf (0, 1, 29, 0), ei_gf (10, 1, 81, 0), ei_re 0]),
  (87, [ei_la 0, ei_gf (0, 1, 29, 0), ei_gf (10, 3, 93, 0), ei_re 0]),
  (95, [ei_la 0, ei_gf (0, 1, 29, 0), ei_gf (10, 2, 84, 0), ei_re 0]),
  (103, [ei_la 0, ei_gf (0, 1, 29, 0), ei_gf (10, 6, 126, 0), ei_re 0]),
  (111, [ei_la 0, ei_ca (29, 1, 1, 173, 0, 0, 0), ei_ca (135, 1, 4, 304, 0, 0, 0), ei_re 0]),
  (119, [ei_la 0, ei_ca (29, 1, 1, 173, 0, 0, 0), ei_ca (134, 1, 4, 307, 0, 0, 0), ei_re 0]),
  (127, [ei_la 0, ei_gf (0, 1, 29, 0), ei_gf (10, 5, 39, 0), ei_la 0, ei_gf (0, 8, 33, 0), ei_ca (133, 2, 10, 248, 0, 0, 0), ei_re 0]),
  (142, [ei_la 0, ei_gf (0, 1, 29, 0), ei_ca (132, 1, 11, 310, 0, 0, 0), ei_re 0]),
  (150, [ei_la 0, ei_gf (0, 1, 29, 0), ei_gf (10, 4, 151, 0), ei_ca (1, 1, 0, 191, 1, 0, 0), ei_re 0])], 1, 0, 0, 2, ⟨"RegisterColours", "look", "(I)I"⟩, prog_1_method_20_code, some .int)
/-- RegisterColours$Told.paintedCount()I -/
noncomputable def mt_132 : ev_M := ([(4, [ei_li 2, ei_pu (.inl 24, 1, 0), ei_ic ((false, true, true), 3), ei_la 0, ei_gf (10, 0, 44, 0), ei_li 2, ei_al 0, ei_pu (.inl 4294967295, 0, 0), ei_ic ((false, true, false), 1)]),
  (23, [ei_ii (2, 1), ei_go 0]),
  (0, [ei_pu (.inl 0, 0, 0), ei_si 1, ei_pu (.inl 0, 0, 0), ei_si 2, ei_fa 0]),
  (29, [ei_li 1, ei_re 0])], 2, 0, 0, 3, ⟨"RegisterColours$Told", "paintedCount", "()I"⟩, prog_12_method_3_code, some .int)
/-- RegisterColours$Steps.moves([I)I -/
noncomputable def mt_133 : ev_M := ([(0, [ei_pu (.inl 0, 0, 0), ei_si 2, ei_pu (.inl 0, 0, 0), ei_si 3, ei_li 3, ei_la 0, ei_gf (9, 0, 9, 0), ei_ic ((false, true, true), 1)]),
  (30, [ei_li 2, ei_re 0])], 0, 0, 0, 4, ⟨"RegisterColours$Steps", "moves", "([I)I"⟩, prog_11_method_6_code, some .int)
/-- RegisterColours$Graph.edgesNotFixed()I -/
noncomputable def mt_134 : ev_M := ([(15, [ei_li 3, ei_li 2, ei_ic ((false, true, true), 2), ei_li 1, ei_la 0, ei_li 2, ei_li 3, ei_ca (5, 3, 4, 201, 0, 0, 0), ei_ca (1, 1, 0, 197, 4, 0, 0), ei_ib 0, ei_si 1, ei_ii (3, 1), ei_go 0]),
  (5, [ei_li 2, ei_la 0, ei_gf (3, 2, 15, 0), ei_ic ((false, true, true), 4), ei_pu (.inl 0, 0, 0), ei_si 3, ei_fa 0]),
  (38, [ei_ii (2, 1), ei_go 1]),
  (0, [ei_pu (.inl 0, 0, 0), ei_si 1, ei_pu (.inl 8, 1, 0), ei_si 2, ei_fa 1]),
  (44, [ei_li 1, ei_re 0])], 3, 0, 0, 4, ⟨"RegisterColours$Graph", "edgesNotFixed", "()I"⟩, prog_4_method_24_code, some .int)
/-- RegisterColours$Graph.thereNotFixed()I -/
noncomputable def mt_135 : ev_M := ([(5, [ei_li 2, ei_la 0, ei_gf (3, 2, 15, 0), ei_ic ((false, true, true), 2), ei_li 1, ei_la 0, ei_li 2, ei_ca (11, 2, 4, 194, 0, 0, 0), ei_ca (1, 1, 0, 197, 4, 0, 0), ei_ib 0, ei_si 1, ei_ii (2, 1), ei_go 0]),
  (0, [ei_pu (.inl 0, 0, 0), ei_si 1, ei_pu (.inl 8, 1, 0), ei_si 2, ei_fa 0]),
  (30, [ei_li 1, ei_re 0])], 1, 0, 0, 3, ⟨"RegisterColours$Graph", "thereNotFixed", "()I"⟩, prog_4_method_23_code, some .int)
/-- RegisterColoursModel.look(I)I -/
noncomputable def mt_136 : ev_M := ([(134, [ei_re 0]),
  (14, [ei_li 1, ei_pu (.inl 1, 0, 0), ei_ic ((true, false, true), 2), ei_la 0, ei_gf (11, 19, 23, 0), ei_pu (.inl 0, 0, 0), ei_al 0, ei_re 0]),
  (26, [ei_li 1, ei_pu (.inl 2, 0, 0), ei_ic ((true, false, true), 3), ei_la 0, ei_gf (11, 4, 7, 0), ei_re 0]),
  (36, [ei_li 1, ei_pu (.inl 3, 0, 0), ei_ic ((true, false, true), 4), ei_la 0, ei_gf (11, 24, 13, 0), ei_re 0]),
  (46, [ei_li 1, ei_pu (.inl 4, 0, 0), ei_ic ((true, false, true), 5), ei_la 0, ei_gf (11, 27, 16, 0), ei_re 0]),
  (56, [ei_li 1, ei_pu (.inl 5, 0, 0), ei_ic ((true, false, true), 6), ei_la 0, ei_gf (11, 28, 457, 0), ei_re 0]),
  (66, [ei_li 1, ei_pu (.inl 6, 1, 0), ei_ic ((true, false, true), 7), ei_la 0, ei_ca (137, 1, 12, 540, 0, 0, 0), ei_re 0]),
  (77, [ei_li 1, ei_pu (.inl 7, 1, 0), ei_ic ((true, false, true), 8), ei_la 0, ei_ca (138, 1, 12, 543, 0, 0, 0), ei_re 0]),
  (88, [ei_li 1, ei_pu (.inl 8, 1, 0), ei_ic ((true, false, true), 9), ei_la 0, ei_ca (139, 1, 12, 546, 0, 0, 0), ei_re 0]),
  (99, [ei_li 1, ei_pu (.inl 9, 1, 0), ei_ic ((true, false, true), 10), ei_la 0, ei_ca (140, 1, 12, 549, 0, 0, 0), ei_re 0]),
  (110, [ei_li 1, ei_pu (.inl 10, 1, 0), ei_ic ((true, false, true), 11), ei_la 0, ei_gf (11, 25, 154, 0), ei_if ((false, true, false), 13)]),
  (131, [ei_pu (.inl 4294867296, 6, 552), ei_fa 0]),
  (0, [ei_la 0, ei_pu (.inl 0, 0, 0), ei_pf (11, 22, 0, 140, 0), ei_li 1, ei_if ((true, false, true), 1), ei_la 0, ei_gf (11, 30, 445, 0), ei_re 0]),
  (127, [ei_pu (.inl 0, 0, 0), ei_go 0])], 12, 0, 0, 2, ⟨"RegisterColoursModel", "look", "(I)I"⟩, prog_14_method_122_code, some .int)
/-- RegisterColoursModel.thereMany()I -/
noncomputable def mt_137 : ev_M := ([(10, [ei_li 2, ei_pu (.inl 44, 1, 0), ei_ic ((false, true, true), 3), ei_la 0, ei_gf (11, 2, 44, 0), ei_li 2, ei_al 2, ei_if ((false, true, false), 1)]),
  (29, [ei_ii (2, 1), ei_go 0]),
  (0, [ei_la 0, ei_pu (.inl 0, 0, 0), ei_ca (22, 2, 12, 330, 0, 0, 0), ei_pu (.inl 0, 0, 0), ei_si 1, ei_pu (.inl 8, 1, 0), ei_si 2, ei_fa 0]),
  (35, [ei_li 1, ei_re 0])], 2, 0, 0, 3, ⟨"RegisterColoursModel", "thereMany", "()I"⟩, prog_14_method_118_code, some .int)
/-- RegisterColoursModel.edgeMany()I -/
noncomputable def mt_138 : ev_M := ([(18, [ei_li 3, ei_li 2, ei_ic ((false, true, true), 3), ei_la 0, ei_la 0, ei_gf (11, 3, 38, 0), ei_li 2, ei_li 3, ei_ca (3, 4, 12, 203, 0, 0, 0), ei_if ((false, true, false), 1)]),
  (40, [ei_ii (3, 1), ei_go 0]),
  (10, [ei_li 2, ei_pu (.inl 44, 1, 0), ei_ic ((false, true, true), 5), ei_pu (.inl 0, 0, 0), ei_si 3, ei_fa 0]),
  (46, [ei_ii (2, 1), ei_go 2]),
  (0, [ei_la 0, ei_pu (.inl 0, 0, 0), ei_ca (22, 2, 12, 330, 0, 0, 0), ei_pu (.inl 0, 0, 0), ei_si 1, ei_pu (.inl 8, 1, 0), ei_si 2, ei_fa 2]),
  (52, [ei_li 1, ei_re 0])], 4, 0, 0, 4, ⟨"RegisterColoursModel", "edgeMany", "()I"⟩, prog_14_method_119_code, some .int)
/-- RegisterColoursModel.moveCount()I -/
noncomputable def mt_139 : ev_M := ([(0, [ei_pu (.inl 0, 0, 0), ei_si 1, ei_pu (.inl 0, 0, 0), ei_si 2, ei_li 2, ei_la 0, ei_gf (11, 19, 23, 0), ei_pu (.inl 0, 0, 0), ei_al 0, ei_ic ((false, true, true), 1)]),
  (33, [ei_li 1, ei_re 0])], 0, 0, 0, 3, ⟨"RegisterColoursModel", "moveCount", "()I"⟩, prog_14_method_120_code, some .int)
/-- RegisterColoursModel.paintedMany()I -/
noncomputable def mt_140 : ev_M := ([(4, [ei_li 2, ei_pu (.inl 24, 1, 0), ei_ic ((false, true, true), 3), ei_la 0, ei_gf (11, 10, 134, 0), ei_li 2, ei_al 0, ei_if ((true, true, false), 1)]),
  (23, [ei_ii (2, 1), ei_go 0]),
  (0, [ei_pu (.inl 0, 0, 0), ei_si 1, ei_pu (.inl 0, 0, 0), ei_si 2, ei_fa 0]),
  (29, [ei_li 1, ei_re 0])], 2, 0, 0, 3, ⟨"RegisterColoursModel", "paintedMany", "()I"⟩, prog_14_method_121_code, some .int)
noncomputable def ev_pg : List ev_M := [mt_0, mt_1, mt_2, mt_3, mt_4, mt_5, mt_6, mt_7, mt_8, mt_9, mt_10, mt_11, mt_12, mt_13, mt_14, mt_15, mt_16, mt_17, mt_18, mt_19, mt_20, mt_21, mt_22, mt_23, mt_24, mt_25, mt_26, mt_27, mt_28, mt_29, mt_30, mt_31, mt_32, mt_33, mt_34, mt_35, mt_36, mt_37, mt_38, mt_39, mt_40, mt_41, mt_42, mt_43, mt_44, mt_45, mt_46, mt_47, mt_48, mt_49, mt_50, mt_51, mt_52, mt_53, mt_54, mt_55, mt_56, mt_57, mt_58, mt_59, mt_60, mt_61, mt_62, mt_63, mt_64, mt_65, mt_66, mt_67, mt_68, mt_69, mt_70, mt_71, mt_72, mt_73, mt_74, mt_75, mt_76, mt_77, mt_78, mt_79, mt_80, mt_81, mt_82, mt_83, mt_84, mt_85, mt_86, mt_87, mt_88, mt_89, mt_90, mt_91, mt_92, mt_93, mt_94, mt_95, mt_96, mt_97, mt_98, mt_99, mt_100, mt_101, mt_102, mt_103, mt_104, mt_105, mt_106, mt_107, mt_108, mt_109, mt_110, mt_111, mt_112, mt_113, mt_114, mt_115, mt_116, mt_117, mt_118, mt_119, mt_120, mt_121, mt_122, mt_123, mt_124, mt_125, mt_126, mt_127, mt_128, mt_129, mt_130, mt_131, mt_132, mt_133, mt_134, mt_135, mt_136, mt_137, mt_138, mt_139, mt_140]
end
section
noncomputable def ev_tz {α : Type} (d : Nat) : α → ev_tr α d := Nat.rec (motive := fun d => α → ev_tr α d) (fun a => a) (fun d ih a => ((ih a, ih a) : ev_tr α d × ev_tr α d)) d
noncomputable def ev_h0 : ev_H := ev_tz 7 (.inr (9, 0, 0, []))
noncomputable def ev_nxx : ev_H := ev_ts 7 ev_h0 0 (.inl (0, [.inl 0, .inr (.inl 0), .inl 0, .inr (.inl 0), .inr (.inl 0), .inl 0, .inr (.inl 0), .inr (.inl 0), .inr (.inl 0), .inr (.inl 0), .inr (.inl 0), .inr (.inl 0)]))
noncomputable def ev_oxx : Option (List ev_O) := ev_met ev_pg 7 57 [.inr (.inl 1)] ev_nxx 1 []
noncomputable def ev_hxx : ev_H := match ev_oxx with
  | some [o] => o.2.1
  | _ => ev_nxx
theorem t_oxx : ev_oxx.isSome = true := by decide +kernel
noncomputable def ev_nmm : ev_H := ev_ts 7 ev_h0 0 (.inl (11, [.inr (.inl 0), .inl 0, .inr (.inl 0), .inr (.inl 0), .inl 0, .inr (.inl 0), .inl 0, .inr (.inl 0), .inr (.inl 0), .inr (.inl 0), .inr (.inl 0), .inr (.inl 0), .inr (.inl 0), .inr (.inl 0), .inr (.inl 0), .inr (.inl 0), .inr (.inl 0), .inr (.inl 0), .inr (.inl 0), .inr (.inl 0), .inl 0, .inr (.inl 0), .inl 0, .inr (.inl 0), .inl 0, .inl 0, .inr (.inl 0), .inl 0, .inl 0, .inr (.inl 0), .inl 0, .inl 0, .inr (.inl 0), .inl 0, .inl 0, .inl 0, .inr (.inl 0), .inl 0, .inr (.inl 0), .inl 0, .inl 0, .inl 0, .inl 0, .inl 0, .inl 0, .inl 0, .inl 0, .inl 0, .inr (.inl 0), .inr (.inl 0), .inl 0, .inl 0, .inl 0, .inl 0, .inr (.inl 0), .inr (.inl 0), .inr (.inl 0), .inr (.inl 0), .inr (.inl 0), .inr (.inl 0), .inl 0, .inr (.inl 0), .inl 0, .inr (.inl 0), .inr (.inl 0), .inl 0, .inr (.inl 0), .inr (.inl 0), .inr (.inl 0), .inl 0, .inl 0, .inl 0, .inl 0]))
noncomputable def ev_omm : Option (List ev_O) := ev_met ev_pg 7 60 [.inr (.inl 1)] ev_nmm 1 []
noncomputable def ev_hmm : ev_H := match ev_omm with
  | some [o] => o.2.1
  | _ => ev_nmm
theorem t_omm : ev_omm.isSome = true := by decide +kernel
theorem t_del_allocate : (ev_met ev_pg 7 95 [.inr (.inl 1)] ev_hmm 39 []).isSome = true := by decide +kernel
end
