section
/-! ===== a symbolic evaluator of bytecode, run by the kernel: what it computes with =====
ev_T: a token (an unknown int of the start) and what was done to it, the latest first; ev_V: a known int, a reference (0: null, k + 1: cell k), a long, a token, nothing; ev_C: an object (number of its kind, fields) or an array (kind: 0 int, 1 long, 2 boolean, 3 byte; length, contents as one number, tokens laid over it) -/
abbrev ev_T : Type := Nat × List (Nat × Nat)
abbrev ev_V : Type := Nat ⊕ (Nat ⊕ (Nat ⊕ (ev_T ⊕ Unit)))
abbrev ev_C : Type := (Nat × List ev_V) ⊕ (Nat × Nat × Nat × List (Nat × ev_V))
def ev_tr (α : Type) : Nat → Type
  | 0 => α
  | n + 1 => ev_tr α n × ev_tr α n
/-- a leaf of a tree, the lowest bit of its number first -/
noncomputable def ev_tg {α : Type} (d : Nat) : ev_tr α d → Nat → α := Nat.rec (motive := fun d => ev_tr α d → Nat → α) (fun t _ => t) (fun d ih (t : ev_tr α d × ev_tr α d) i => Bool.rec (motive := fun _ => α) (ih t.2 (Nat.div i 2)) (ih t.1 (Nat.div i 2)) (Nat.beq (Nat.mod i 2) 0)) d
noncomputable def ev_ts {α : Type} (d : Nat) : ev_tr α d → Nat → α → ev_tr α d := Nat.rec (motive := fun d => ev_tr α d → Nat → α → ev_tr α d) (fun _ _ v => v) (fun d ih (t : ev_tr α d × ev_tr α d) i v => (Bool.rec (motive := fun _ => ev_tr α d × ev_tr α d) (t.1, ih t.2 (Nat.div i 2) v) (ih t.1 (Nat.div i 2) v, t.2) (Nat.beq (Nat.mod i 2) 0) : ev_tr α d × ev_tr α d)) d
abbrev ev_U : ev_V := .inr (.inr (.inr (.inr ())))
noncomputable def ev_ln (l : List ev_V) : Nat → ev_V := List.rec (motive := fun _ => Nat → ev_V) (fun _ => ev_U) (fun a _ ih j => Nat.rec (motive := fun _ => ev_V) a (fun j' _ => ih j') j) l
noncomputable def ev_lp (l : List ev_V) : Nat → ev_V → List ev_V := List.rec (motive := fun _ => Nat → ev_V → List ev_V) (fun _ _ => []) (fun a r ih j v => Nat.rec (motive := fun _ => List ev_V) (v :: r) (fun j' _ => a :: ih j' v) j) l
noncomputable def ev_isl : ev_V → Bool
  | .inr (.inr (.inl _)) => true
  | _ => false
/-- the place ahead of j holds no long -/
noncomputable def ev_nl (l : List ev_V) (j : Nat) : Bool := Nat.rec (motive := fun _ => Bool) true (fun j' _ => Bool.not (ev_isl (ev_ln l j'))) j
/-! ints by their numbers -/
noncomputable def ev_bs (a : Nat) : Nat := Nat.rec (motive := fun _ => Nat) 2147483648 (fun n _ => Nat.mod (Nat.add (Nat.succ n) 2147483648) 4294967296) a
noncomputable def ev_gm (w M i : Nat) : Nat := Nat.mod (Nat.shiftRight M (Nat.mul w i)) (Nat.pow 2 w)
noncomputable def ev_sm (w M i v : Nat) : Nat := Nat.xor M (Nat.shiftLeft (Nat.xor (ev_gm w M i) (Nat.mod v (Nat.pow 2 w))) (Nat.mul w i))
noncomputable def ev_cp (w Md Ms sp dp n : Nat) : Nat := Nat.add (Nat.mod Md (Nat.pow 2 (Nat.mul w dp))) (Nat.shiftLeft (Nat.add (Nat.mod (Nat.shiftRight Ms (Nat.mul w sp)) (Nat.pow 2 (Nat.mul w n))) (Nat.shiftLeft (Nat.shiftRight Md (Nat.mul w (Nat.add dp n))) (Nat.mul w n))) (Nat.mul w dp))
noncomputable def ev_sh (a k : Nat) : Nat := Bool.rec (motive := fun _ => Nat) (Nat.sub 4294967295 (Nat.shiftRight (Nat.sub 4294967295 (Nat.mod a 4294967296)) k)) (Nat.shiftRight (Nat.mod a 4294967296) k) (Nat.ble (Nat.mod a 4294967296) 2147483647)
noncomputable def ev_i2b (a : Nat) : Nat := Bool.rec (motive := fun _ => Nat) (Nat.add (Nat.mod a 256) 4294967040) (Nat.mod a 256) (Nat.ble (Nat.mod a 256) 127)
noncomputable def ev_bin (op a b : Nat) : Nat := match op with
  | 0 => Nat.mod (Nat.add a b) 4294967296
  | 1 => Nat.mod (Nat.mul a b) 4294967296
  | 2 => ev_sh a (Nat.land b 31)
  | 3 => Nat.land a b
  | 4 => Nat.mod (Nat.add a (Nat.sub 4294967296 (Nat.mod b 4294967296))) 4294967296
  | 5 => Nat.lor a b
  | 6 => Nat.mod (Nat.shiftLeft a (Nat.land b 31)) 4294967296
  | _ => Nat.shiftRight (Nat.mod a 4294967296) (Nat.land b 31)
noncomputable def ev_lbn (op a b : Nat) : Nat := match op with
  | 0 => Nat.land a b
  | 1 => Nat.mod (Nat.add a b) 18446744073709551616
  | 2 => Nat.mod (Nat.add a (Nat.sub 18446744073709551616 (Nat.mod b 18446744073709551616))) 18446744073709551616
  | _ => Nat.lor a b
noncomputable def ev_lsh (op a b : Nat) : Nat := match op with
  | 0 => Nat.shiftRight (Nat.mod a 18446744073709551616) (Nat.land b 63)
  | _ => Nat.mod (Nat.shiftLeft a (Nat.land b 63)) 18446744073709551616
noncomputable def ev_3l (x y X Y : Nat) : Nat := Bool.rec (motive := fun _ => Nat) (Bool.rec (motive := fun _ => Nat) 1 4294967295 (Nat.ble X Y)) 0 (Nat.beq x y)
noncomputable def ev_lcm (a b : Nat) : Nat := ev_3l (Nat.mod a 18446744073709551616) (Nat.mod b 18446744073709551616) (Nat.mod (Nat.add a 9223372036854775808) 18446744073709551616) (Nat.mod (Nat.add b 9223372036854775808) 18446744073709551616)
/-- less, equal, greater -/
noncomputable def ev_3w (q : Bool × Bool × Bool) (x y : Nat) : Bool := Bool.rec (motive := fun _ => Bool) (Bool.rec (motive := fun _ => Bool) q.2.2 q.1 (Nat.ble x y)) q.2.1 (Nat.beq x y)
noncomputable def ev_c3 (q : Bool × Bool × Bool) (a b : Nat) : Bool := ev_3w q (ev_bs a) (ev_bs b)
/-! instructions: load (int, reference, long), push, compare, field .. -/
abbrev ev_I : Type := ((((((Nat) ⊕ (Nat)) ⊕ ((ev_V × Nat × Nat) ⊕ ((Bool × Bool × Bool) × Nat))) ⊕ (((Nat × Nat × Nat × Nat) ⊕ (Nat)) ⊕ ((Nat × Nat) ⊕ (Nat)))) ⊕ ((((Nat) ⊕ (Nat)) ⊕ (((Bool × Bool × Bool) × Nat) ⊕ (Nat))) ⊕ (((Nat × Nat × Nat × Nat × Nat × Nat × Nat) ⊕ (Nat)) ⊕ ((Nat) ⊕ (Nat))))) ⊕ (((((Nat) ⊕ (Nat × Nat × Nat × Nat × Nat)) ⊕ ((Nat) ⊕ (Nat))) ⊕ (((Unit) ⊕ (Nat)) ⊕ ((Nat) ⊕ (Nat)))) ⊕ ((((Unit) ⊕ (Nat)) ⊕ ((Nat × Nat × List ev_V) ⊕ (Nat))) ⊕ (((Nat) ⊕ (Nat × Nat × List Nat × Nat)) ⊕ ((Nat) ⊕ (Nat))))))
noncomputable def ei_li (x : Nat) : ev_I := .inl (.inl (.inl (.inl (.inl (x)))))
noncomputable def ei_la (x : Nat) : ev_I := .inl (.inl (.inl (.inl (.inr (x)))))
noncomputable def ei_pu (x : ev_V × Nat × Nat) : ev_I := .inl (.inl (.inl (.inr (.inl (x)))))
noncomputable def ei_ic (x : (Bool × Bool × Bool) × Nat) : ev_I := .inl (.inl (.inl (.inr (.inr (x)))))
noncomputable def ei_gf (x : Nat × Nat × Nat × Nat) : ev_I := .inl (.inl (.inr (.inl (.inl (x)))))
noncomputable def ei_go (x : Nat) : ev_I := .inl (.inl (.inr (.inl (.inr (x)))))
noncomputable def ei_ii (x : Nat × Nat) : ev_I := .inl (.inl (.inr (.inr (.inl (x)))))
noncomputable def ei_ib (x : Nat) : ev_I := .inl (.inl (.inr (.inr (.inr (x)))))
noncomputable def ei_al (x : Nat) : ev_I := .inl (.inr (.inl (.inl (.inl (x)))))
noncomputable def ei_as (x : Nat) : ev_I := .inl (.inr (.inl (.inl (.inr (x)))))
noncomputable def ei_if (x : (Bool × Bool × Bool) × Nat) : ev_I := .inl (.inr (.inl (.inr (.inl (x)))))
noncomputable def ei_re (x : Nat) : ev_I := .inl (.inr (.inl (.inr (.inr (x)))))
noncomputable def ei_ca (x : Nat × Nat × Nat × Nat × Nat × Nat × Nat) : ev_I := .inl (.inr (.inr (.inl (.inl (x)))))
noncomputable def ei_si (x : Nat) : ev_I := .inl (.inr (.inr (.inl (.inr (x)))))
noncomputable def ei_dv (x : Nat) : ev_I := .inl (.inr (.inr (.inr (.inl (x)))))
noncomputable def ei_ll (x : Nat) : ev_I := .inl (.inr (.inr (.inr (.inr (x)))))
noncomputable def ei_fa (x : Nat) : ev_I := .inr (.inl (.inl (.inl (.inl (x)))))
noncomputable def ei_pf (x : Nat × Nat × Nat × Nat × Nat) : ev_I := .inr (.inl (.inl (.inl (.inr (x)))))
noncomputable def ei_lb (x : Nat) : ev_I := .inr (.inl (.inl (.inr (.inl (x)))))
noncomputable def ei_ls (x : Nat) : ev_I := .inr (.inl (.inl (.inr (.inr (x)))))
noncomputable def ei_lc : ev_I := .inr (.inl (.inr (.inl (.inl (())))))
noncomputable def ei_sl (x : Nat) : ev_I := .inr (.inl (.inr (.inl (.inr (x)))))
noncomputable def ei_un (x : Nat) : ev_I := .inr (.inl (.inr (.inr (.inl (x)))))
noncomputable def ei_st (x : Nat) : ev_I := .inr (.inl (.inr (.inr (.inr (x)))))
noncomputable def ei_an : ev_I := .inr (.inr (.inl (.inl (.inl (())))))
noncomputable def ei_na (x : Nat) : ev_I := .inr (.inr (.inl (.inl (.inr (x)))))
noncomputable def ei_nw (x : Nat × Nat × List ev_V) : ev_I := .inr (.inr (.inl (.inr (.inl (x)))))
noncomputable def ei_oi (x : Nat) : ev_I := .inr (.inr (.inl (.inr (.inr (x)))))
noncomputable def ei_cy (x : Nat) : ev_I := .inr (.inr (.inr (.inl (.inl (x)))))
noncomputable def ei_tw (x : Nat × Nat × List Nat × Nat) : ev_I := .inr (.inr (.inr (.inl (.inr (x)))))
noncomputable def ei_nn (x : Nat) : ev_I := .inr (.inr (.inr (.inr (.inl (x)))))
noncomputable def ei_sa (x : Nat) : ev_I := .inr (.inr (.inr (.inr (.inr (x)))))
abbrev ev_H : Type := ev_tr ev_C 7
abbrev ev_E : Type := List (Nat × Nat)
/-- the heap, how many cells it has, the tokens' bounds, cells and slots made -/
abbrev ev_Wd : Type := ev_H × Nat × ev_E × Nat × Nat
abbrev ev_O : Type := ev_V × ev_H × Nat × ev_E
abbrev ev_R : Type := Option (List ev_O)
/-- a method: blocks (place, instructions), the first block's number, most cells and slots made, locals, name, bytes, what it returns -/
abbrev ev_M : Type := List (Nat × List ev_I) × Nat × Nat × Nat × Nat × MethodName × ByteArray × Option FieldType
abbrev ev_K : Type := List ev_I → List ev_V → List ev_V → ev_Wd → ev_R
abbrev ev_Q : Type := Nat → List ev_V → ev_H → Nat → ev_E → ev_R
abbrev ev_A : Type := ev_Q → ev_K → ev_M → List ev_I → List ev_V → List ev_V → ev_Wd → ev_R
noncomputable def ev_lb (l : List (Nat × List ev_I)) : Nat → List ev_I := List.rec (motive := fun _ => Nat → List ev_I) (fun _ => []) (fun a _ ih j => Nat.rec (motive := fun _ => List ev_I) a.2 (fun j' _ => ih j') j) l
noncomputable def ev_pc (l : List (Nat × List ev_I)) : Nat → Nat := List.rec (motive := fun _ => Nat → Nat) (fun _ => 0) (fun a _ ih j => Nat.rec (motive := fun _ => Nat) a.1 (fun j' _ => ih j') j) l
noncomputable def ev_jn (a b : ev_R) : ev_R := match a with
  | none => none
  | some x => match b with
    | none => none
    | some y => some (x ++ y)
noncomputable def ev_en (c : Nat) : Nat → (Nat → ev_R) → ev_R := Nat.rec (motive := fun _ => Nat → (Nat → ev_R) → ev_R) (fun _ _ => some []) (fun _ ih lo f => ev_jn (f lo) (ih (Nat.succ lo) f)) c
noncomputable def ev_bo (l : List ev_O) (f : ev_O → ev_R) : ev_R := match l with
  | [] => some []
  | o :: r => match r with
    | [] => f o
    | _ => ev_jn (f o) (ev_bo r f)
/-- an int of the start, of few values: each of them -/
noncomputable def ev_rs (t : ev_T) (e : ev_E) (f : Nat → ev_E → ev_R) : ev_R := match t with
  | (k, []) => match e[k]? with
    | none => none
    | some (lo, hi) => Bool.rec (motive := fun _ => ev_R) (Bool.rec (motive := fun _ => ev_R) none (ev_en (Nat.succ (Nat.sub hi lo)) lo (fun v => f (ev_bs v) (e.set k (v, v)))) (Nat.ble (Nat.sub hi lo) 64)) (f (ev_bs lo) e) (Nat.beq lo hi)
  | _ => none
noncomputable def ev_wide (t : ev_T) (e : ev_E) : Bool := match t with
  | (k, []) => match e[k]? with
    | none => false
    | some (lo, hi) => Nat.ble 65 (Nat.sub hi lo)
  | _ => true
/-- a token beside a known int (biased): less, equal, greater -/
noncomputable def ev_sp (t : ev_T) (y : Nat) (e : ev_E) (f g h : ev_E → ev_R) : ev_R := match t with
  | (k, []) => match e[k]? with
    | none => none
    | some (lo, hi) => ev_jn (Bool.rec (motive := fun _ => ev_R) (some []) (f (e.set k (lo, Nat.min hi (Nat.pred y)))) (Nat.ble (Nat.succ lo) y)) (ev_jn (Bool.rec (motive := fun _ => ev_R) (some []) (Bool.rec (motive := fun _ => ev_R) (some []) (g (e.set k (y, y))) (Nat.ble y hi)) (Nat.ble lo y)) (Bool.rec (motive := fun _ => ev_R) (some []) (h (e.set k (Nat.max lo (Nat.succ y), hi))) (Nat.ble (Nat.succ y) hi)))
  | _ => none
/-! references that lie in the heap -/
noncomputable def ev_clV (n : Nat) (v : ev_V) : Bool := match v with
  | .inr (.inl r) => Nat.ble r n
  | _ => true
noncomputable def ev_clC (n : Nat) (c : ev_C) : Bool := match c with
  | .inl (_, fs) => fs.all (ev_clV n)
  | .inr _ => true
noncomputable def ev_clH (n : Nat) (h : ev_H) : Bool := (List.range n).all (fun i => ev_clC n (ev_tg 7 h i))
noncomputable def ev_cat (l : List ev_V) : Nat := match l with
  | [] => 0
  | v :: r => Bool.rec (motive := fun _ => Nat) (Nat.succ (ev_cat r)) (Nat.succ (Nat.succ (ev_cat r))) (ev_isl v)
/-! what an instruction does -/
noncomputable def ea_li2 (u : Nat ⊕ (Nat ⊕ (ev_T ⊕ Unit))) (k : ev_K) (r : List ev_I) (ls st : List ev_V) (w : ev_Wd) : ev_R := match u with
  | .inr (.inr (.inl t)) => k r ls (.inr (.inr (.inr (.inl t))) :: st) w
  | _ => none
noncomputable def ea_li (j : Nat) : ev_A := fun _ k _ r ls st w => Sum.rec (motive := fun _ => ev_R) (fun n => k r ls (.inl n :: st) w) (fun u => ea_li2 u k r ls st w) (ev_ln ls j)
noncomputable def ea_la (j : Nat) : ev_A := fun _ k _ r ls st w => Sum.rec (motive := fun _ => ev_R) (fun _ => none) (fun u => Sum.rec (motive := fun _ => ev_R) (fun x => k r ls (.inr (.inl x) :: st) w) (fun _ => none) u) (ev_ln ls j)
noncomputable def ea_ll (j : Nat) : ev_A := fun _ k _ r ls st w => match ev_ln ls j with
  | .inr (.inr (.inl x)) => k r ls (.inr (.inr (.inl x)) :: st) w
  | _ => none
noncomputable def ea_pu (x : ev_V × Nat × Nat) : ev_A := fun _ k _ r ls st w => k r ls (x.1 :: st) w
noncomputable def ea_go (t : Nat) : ev_A := fun _ k m _ ls st w => k (ev_lb m.1 t) ls st w
noncomputable def ea_ii (x : Nat × Nat) : ev_A := fun _ k _ r ls st w => Sum.rec (motive := fun _ => ev_R) (fun n => k r (ev_lp ls x.1 (.inl (Nat.mod (Nat.add n x.2) 4294967296))) st w) (fun _ => none) (ev_ln ls x.1)
noncomputable def ea_si (j : Nat) : ev_A := fun _ k _ r ls st w => match st with
  | .inl n :: s => Bool.rec (motive := fun _ => ev_R) none (k r (ev_lp ls j (.inl n)) s w) (ev_nl ls j)
  | .inr (.inr (.inr (.inl t))) :: s => Bool.rec (motive := fun _ => ev_R) none (k r (ev_lp ls j (.inr (.inr (.inr (.inl t))))) s w) (ev_nl ls j)
  | _ => none
noncomputable def ea_sa (j : Nat) : ev_A := fun _ k _ r ls st w => match st with
  | .inr (.inl x) :: s => Bool.rec (motive := fun _ => ev_R) none (k r (ev_lp ls j (.inr (.inl x))) s w) (ev_nl ls j)
  | _ => none
noncomputable def ea_sl (j : Nat) : ev_A := fun _ k _ r ls st w => match st with
  | .inr (.inr (.inl x)) :: s => Bool.rec (motive := fun _ => ev_R) none (k r (ev_lp (ev_lp ls (Nat.succ j) ev_U) j (.inr (.inr (.inl x)))) s w) (ev_nl ls j)
  | _ => none
/-- the world with other bounds of the tokens -/
noncomputable def ev_we (w : ev_Wd) (e : ev_E) : ev_Wd := (w.1, w.2.1, e, w.2.2.2)
noncomputable def ea_ib4 (op b : Nat) (k : ev_K) (r : List ev_I) (ls s : List ev_V) (w : ev_Wd) (u : Nat ⊕ (Nat ⊕ (ev_T ⊕ Unit))) : ev_R := match u with
  | .inr (.inr (.inl t)) => Bool.rec (motive := fun _ => ev_R) (ev_rs t w.2.2.1 (fun v e => k (ei_ib op :: r) ls (.inl b :: .inl v :: s) (ev_we w e))) (k r ls (.inr (.inr (.inr (.inl (t.1, (op, b) :: t.2)))) :: s) w) (Bool.and (ev_wide t w.2.2.1) (Bool.or (Nat.beq op 2) (Bool.or (Nat.beq op 3) (Nat.beq op 7))))
  | _ => none
noncomputable def ea_ib3 (op : Nat) (k : ev_K) (r : List ev_I) (ls s : List ev_V) (w : ev_Wd) (u : Nat ⊕ (Nat ⊕ (ev_T ⊕ Unit))) : ev_R := match u with
  | .inr (.inr (.inl t)) => ev_rs t w.2.2.1 (fun v e => k (ei_ib op :: r) ls (.inl v :: s) (ev_we w e))
  | _ => none
noncomputable def ea_ib2 (op : Nat) (k : ev_K) (r : List ev_I) (ls s : List ev_V) (w : ev_Wd) (b : Nat) : ev_R := List.rec (motive := fun _ => ev_R) none (fun v s _ => Sum.rec (motive := fun _ => ev_R) (fun a => k r ls (.inl (ev_bin op a b) :: s) w) (fun u => ea_ib4 op b k r ls s w u) v) s
noncomputable def ea_ib (op : Nat) : ev_A := fun _ k _ r ls st w => List.rec (motive := fun _ => ev_R) none (fun v s _ => Sum.rec (motive := fun _ => ev_R) (fun b => ea_ib2 op k r ls s w b) (fun u => ea_ib3 op k r ls s w u) v) st
/-- a quotient; the lesser of two (1 and the index of the call) -/
noncomputable def ea_dv (x : Nat) : ev_A := fun _ k m r ls st w => match x, st with
  | 0, .inl b :: .inl a :: s => Bool.rec (motive := fun _ => ev_R) none (k r ls (.inl (Nat.div a b) :: s) w) (Bool.and (Nat.ble a 2147483647) (Bool.and (Nat.ble b 2147483647) (Nat.ble 1 b)))
  | _ + 1, .inl b :: .inl a :: s => Bool.rec (motive := fun _ => ev_R) none (k r ls (.inl (Bool.rec (motive := fun _ => Nat) a b (ev_c3 (true, false, false) b a)) :: s) w) (Bool.and (Nat.ble (ev_cat s) 8) (Bool.and (Nat.ble w.2.2.2.1 m.2.2.1) (Nat.ble w.2.2.2.2 m.2.2.2.1)))
  | i + 1, .inr (.inr (.inr (.inl t))) :: s => ev_rs t w.2.2.1 (fun v e => k (ei_dv (i + 1) :: r) ls (.inl v :: s) (ev_we w e))
  | i + 1, .inl b :: .inr (.inr (.inr (.inl t))) :: s => ev_rs t w.2.2.1 (fun v e => k (ei_dv (i + 1) :: r) ls (.inl b :: .inl v :: s) (ev_we w e))
  | _, _ => none
noncomputable def ea_lb (op : Nat) : ev_A := fun _ k _ r ls st w => match st with
  | .inr (.inr (.inl b)) :: .inr (.inr (.inl a)) :: s => k r ls (.inr (.inr (.inl (ev_lbn op a b))) :: s) w
  | _ => none
noncomputable def ea_ls (op : Nat) : ev_A := fun _ k _ r ls st w => match st with
  | .inl b :: .inr (.inr (.inl a)) :: s => k r ls (.inr (.inr (.inl (ev_lsh op a b))) :: s) w
  | .inr (.inr (.inr (.inl t))) :: s => ev_rs t w.2.2.1 (fun v e => k (ei_ls op :: r) ls (.inl v :: s) (ev_we w e))
  | _ => none
noncomputable def ea_lc : ev_A := fun _ k _ r ls st w => match st with
  | .inr (.inr (.inl b)) :: .inr (.inr (.inl a)) :: s => k r ls (.inl (ev_lcm a b) :: s) w
  | _ => none
noncomputable def ea_un (op : Nat) : ev_A := fun _ k _ r ls st w => match st with
  | .inr (.inr (.inl a)) :: s => Bool.rec (motive := fun _ => ev_R) none (k r ls (.inl (Nat.mod a 4294967296) :: s) w) (Nat.beq op 0)
  | .inl a :: s => Bool.rec (motive := fun _ => ev_R) none (k r ls (.inl (ev_i2b a) :: s) w) (Nat.beq op 1)
  | .inr (.inr (.inr (.inl t))) :: s => Bool.rec (motive := fun _ => ev_R) none (k r ls (.inr (.inr (.inr (.inl (t.1, (9, 0) :: t.2)))) :: s) w) (Nat.beq op 1)
  | _ => none
noncomputable def ea_st (op : Nat) : ev_A := fun _ k _ r ls st w => match op, st with
  | 0, v :: s => Bool.rec (motive := fun _ => ev_R) (k r ls (v :: v :: s) w) none (ev_isl v)
  | 1, v :: u :: s => Bool.rec (motive := fun _ => ev_R) (k r ls (v :: u :: v :: u :: s) w) none (Bool.or (ev_isl v) (ev_isl u))
  | 2, v :: s => Bool.rec (motive := fun _ => ev_R) (k r ls s w) none (ev_isl v)
  | _, _ => none
/-- on the one way or the other -/
noncomputable def ev_to (b : Bool) (k : ev_K) (m : ev_M) (t : Nat) (r : List ev_I) (ls s : List ev_V) (w : ev_Wd) (e : ev_E) : ev_R := k (Bool.rec (motive := fun _ => List ev_I) r (ev_lb m.1 t) b) ls s (ev_we w e)
noncomputable def ea_ic4 (x : (Bool × Bool × Bool) × Nat) (k : ev_K) (m : ev_M) (r : List ev_I) (ls s : List ev_V) (w : ev_Wd) (b : Nat) (u : Nat ⊕ (Nat ⊕ (ev_T ⊕ Unit))) : ev_R := match u with
  | .inr (.inr (.inl t)) => ev_sp t (ev_bs b) w.2.2.1 (ev_to x.1.1 k m x.2 r ls s w) (ev_to x.1.2.1 k m x.2 r ls s w) (ev_to x.1.2.2 k m x.2 r ls s w)
  | _ => none
noncomputable def ea_ic3 (x : (Bool × Bool × Bool) × Nat) (k : ev_K) (m : ev_M) (r : List ev_I) (ls s : List ev_V) (w : ev_Wd) (u : Nat ⊕ (Nat ⊕ (ev_T ⊕ Unit))) : ev_R := match u, s with
  | .inr (.inr (.inl t)), .inl a :: s => ev_sp t (ev_bs a) w.2.2.1 (ev_to x.1.2.2 k m x.2 r ls s w) (ev_to x.1.2.1 k m x.2 r ls s w) (ev_to x.1.1 k m x.2 r ls s w)
  | _, _ => none
noncomputable def ea_ic2 (x : (Bool × Bool × Bool) × Nat) (k : ev_K) (m : ev_M) (r : List ev_I) (ls s : List ev_V) (w : ev_Wd) (b : Nat) : ev_R := List.rec (motive := fun _ => ev_R) none (fun v s _ => Sum.rec (motive := fun _ => ev_R) (fun a => Bool.rec (motive := fun _ => ev_R) (k r ls s w) (k (ev_lb m.1 x.2) ls s w) (ev_c3 x.1 a b)) (fun u => ea_ic4 x k m r ls s w b u) v) s
noncomputable def ea_ic (x : (Bool × Bool × Bool) × Nat) : ev_A := fun _ k m r ls st w => List.rec (motive := fun _ => ev_R) none (fun v s _ => Sum.rec (motive := fun _ => ev_R) (fun b => ea_ic2 x k m r ls s w b) (fun u => ea_ic3 x k m r ls s w u) v) st
noncomputable def ea_if (x : (Bool × Bool × Bool) × Nat) : ev_A := fun _ k m r ls st w => List.rec (motive := fun _ => ev_R) none (fun v s _ => Sum.rec (motive := fun _ => ev_R) (fun a => Bool.rec (motive := fun _ => ev_R) (k r ls s w) (k (ev_lb m.1 x.2) ls s w) (ev_c3 x.1 a 0)) (fun u => ea_ic4 x k m r ls s w 0 u) v) st
noncomputable def ea_nn (t : Nat) : ev_A := fun _ k m r ls st w => match st with
  | .inr (.inl 0) :: s => k r ls s w
  | .inr (.inl (_ + 1)) :: s => k (ev_lb m.1 t) ls s w
  | _ => none
/-- a switch: the place of a known int among the goals; of a token, by splitting at each place -/
noncomputable def ev_lt (l : List Nat) : Nat → Nat → Nat := List.rec (motive := fun _ => Nat → Nat → Nat) (fun d _ => d) (fun a _ ih d j => Nat.rec (motive := fun _ => Nat) a (fun j' _ => ih d j') j) l
noncomputable def ev_tk (l : List Nat) : Nat → ev_T → ev_E → (Nat → ev_E → ev_R) → Nat → ev_R := List.rec (motive := fun _ => Nat → ev_T → ev_E → (Nat → ev_E → ev_R) → Nat → ev_R) (fun d _ e f _ => f d e) (fun a _ ih d t e f y => ev_sp t y e (fun e' => f d e') (fun e' => f a e') (fun e' => ih d t e' f (Nat.succ y))) l
noncomputable def ea_tw (x : Nat × Nat × List Nat × Nat) : ev_A := fun _ k m _ ls st w => match st with
  | .inl a :: s => Bool.rec (motive := fun _ => ev_R) (k (ev_lb m.1 x.2.1) ls s w) (k (ev_lb m.1 (ev_lt x.2.2.1 x.2.1 (Nat.sub (ev_bs a) x.1))) ls s w) (Nat.ble x.1 (ev_bs a))
  | .inr (.inr (.inr (.inl t))) :: s => ev_tk x.2.2.1 x.2.1 t w.2.2.1 (fun g e => k (ev_lb m.1 g) ls s (ev_we w e)) x.1
  | _ => none
/-- a value, not nothing -/
noncomputable def ev_nu (v : ev_V) : Bool := Sum.rec (motive := fun _ => Bool) (fun _ => true) (fun u => Sum.rec (motive := fun _ => Bool) (fun _ => true) (fun u => Sum.rec (motive := fun _ => Bool) (fun _ => true) (fun u => Sum.rec (motive := fun _ => Bool) (fun _ => true) (fun _ => false) u) u) u) v
noncomputable def ea_gf3 (x : Nat × Nat × Nat × Nat) (k : ev_K) (r : List ev_I) (ls s : List ev_V) (w : ev_Wd) (i : Nat) (o : Nat × List ev_V) : ev_R := Bool.rec (motive := fun _ => ev_R) none (k r ls (ev_ln o.2 x.2.1 :: s) w) (Bool.and (ev_nu (ev_ln o.2 x.2.1)) (Bool.and (Nat.beq o.1 x.1) (Nat.ble (Nat.succ i) w.2.1)))
noncomputable def ea_gf2 (x : Nat × Nat × Nat × Nat) (k : ev_K) (r : List ev_I) (ls s : List ev_V) (w : ev_Wd) (i : Nat) : ev_R := Sum.rec (motive := fun _ => ev_R) (fun o => ea_gf3 x k r ls s w i o) (fun _ => none) (ev_tg 7 w.1 i)
/-- a reference that isn't null: the number of its cell -/
noncomputable def ev_cell (v : ev_V) (f : Nat → ev_R) : ev_R := Sum.rec (motive := fun _ => ev_R) (fun _ => none) (fun u => Sum.rec (motive := fun _ => ev_R) (fun y => Nat.rec (motive := fun _ => ev_R) none (fun i _ => f i) y) (fun _ => none) u) v
noncomputable def ea_gf (x : Nat × Nat × Nat × Nat) : ev_A := fun _ k _ r ls st w => List.rec (motive := fun _ => ev_R) none (fun v s _ => ev_cell v (ea_gf2 x k r ls s w)) st
/-- what a field of a kind takes: 0 int, 1 boolean, 2 long, 3 reference -/
noncomputable def ev_fit (q : Nat) (v : ev_V) : Bool := match q, v with
  | 0, .inl _ => true
  | 0, .inr (.inr (.inr (.inl _))) => true
  | 1, .inl n => Nat.ble n 1
  | 2, .inr (.inr (.inl _)) => true
  | 3, .inr (.inl _) => true
  | _, _ => false
noncomputable def ea_pf4 (x : Nat × Nat × Nat × Nat × Nat) (k : ev_K) (r : List ev_I) (ls s : List ev_V) (w : ev_Wd) (v : ev_V) (i : Nat) : ev_R := match v with
  | .inr (.inr (.inr (.inl t))) => Bool.rec (motive := fun _ => ev_R) none (ev_rs t w.2.2.1 (fun u e => k (ei_pf x :: r) ls (.inl u :: .inr (.inl (Nat.succ i)) :: s) (ev_we w e))) (Nat.beq x.2.2.1 1)
  | _ => none
noncomputable def ea_pf3 (x : Nat × Nat × Nat × Nat × Nat) (k : ev_K) (r : List ev_I) (ls s : List ev_V) (w : ev_Wd) (v : ev_V) (i : Nat) (o : Nat × List ev_V) : ev_R := Bool.rec (motive := fun _ => ev_R) (ea_pf4 x k r ls s w v i) (k r ls s (ev_ts 7 w.1 i (.inl (o.1, ev_lp o.2 x.2.1 v)), w.2)) (Bool.and (ev_nu (ev_ln o.2 x.2.1)) (Bool.and (Nat.beq o.1 x.1) (Bool.and (Nat.ble (Nat.succ i) w.2.1) (ev_fit x.2.2.1 v))))
noncomputable def ea_pf2 (x : Nat × Nat × Nat × Nat × Nat) (k : ev_K) (r : List ev_I) (ls s : List ev_V) (w : ev_Wd) (v : ev_V) (i : Nat) : ev_R := Sum.rec (motive := fun _ => ev_R) (fun o => ea_pf3 x k r ls s w v i o) (fun _ => none) (ev_tg 7 w.1 i)
noncomputable def ea_pf (x : Nat × Nat × Nat × Nat × Nat) : ev_A := fun _ k _ r ls st w => match st with
  | v :: u :: s => ev_cell u (ea_pf2 x k r ls s w v)
  | _ => none
/-- an array and a place in it -/
noncomputable def ev_ix (q i j : Nat) (w : ev_Wd) (a : Nat × Nat × Nat × List (Nat × ev_V)) : Bool := Bool.and (Nat.ble (Nat.succ j) a.2.1) (Bool.and (Nat.beq a.1 q) (Bool.and (Nat.ble (Nat.succ i) w.2.1) (Nat.ble j 2147483647)))
noncomputable def ev_nil (l : List (Nat × ev_V)) : Bool := List.rec (motive := fun _ => Bool) true (fun _ _ _ => false) l
noncomputable def ea_al3 (q : Nat) (k : ev_K) (r : List ev_I) (ls s : List ev_V) (w : ev_Wd) (j i : Nat) (a : Nat × Nat × Nat × List (Nat × ev_V)) : ev_R := Bool.rec (motive := fun _ => ev_R) none (k r ls (Bool.rec (motive := fun _ => ev_V) (.inl (ev_gm 32 a.2.2.1 j)) (.inr (.inr (.inl (ev_gm 64 a.2.2.1 j)))) (Nat.beq q 1) :: s) w) (Bool.and (ev_ix q i j w a) (ev_nil a.2.2.2))
noncomputable def ea_al2 (q : Nat) (k : ev_K) (r : List ev_I) (ls s : List ev_V) (w : ev_Wd) (j i : Nat) : ev_R := Sum.rec (motive := fun _ => ev_R) (fun _ => none) (fun a => ea_al3 q k r ls s w j i a) (ev_tg 7 w.1 i)
noncomputable def ea_al1 (q : Nat) (k : ev_K) (r : List ev_I) (ls s : List ev_V) (w : ev_Wd) (j : Nat) : ev_R := List.rec (motive := fun _ => ev_R) none (fun v s _ => ev_cell v (ea_al2 q k r ls s w j)) s
noncomputable def ea_al4 (q : Nat) (k : ev_K) (r : List ev_I) (ls s : List ev_V) (w : ev_Wd) (u : Nat ⊕ (Nat ⊕ (ev_T ⊕ Unit))) : ev_R := match u with
  | .inr (.inr (.inl t)) => ev_rs t w.2.2.1 (fun v e => k (ei_al q :: r) ls (.inl v :: s) (ev_we w e))
  | _ => none
noncomputable def ea_al (q : Nat) : ev_A := fun _ k _ r ls st w => List.rec (motive := fun _ => ev_R) none (fun v s _ => Sum.rec (motive := fun _ => ev_R) (fun j => ea_al1 q k r ls s w j) (fun u => ea_al4 q k r ls s w u) v) st
/-- a number as a literal -/
noncomputable def ev_fo (M : Nat) (f : Nat → ev_R) : ev_R := Nat.rec (motive := fun _ => ev_R) (f 0) (fun m _ => f (Nat.succ m)) M
/-- what an array of a kind keeps of an int -/
noncomputable def ev_nar (q v : Nat) : Nat := match q with
  | 0 => v
  | 2 => Nat.land v 1
  | _ => ev_i2b v
noncomputable def ev_nat (q : Nat) (t : ev_T) : ev_T := match q with
  | 0 => t
  | 2 => (t.1, (3, 1) :: t.2)
  | _ => (t.1, (9, 0) :: t.2)
noncomputable def ea_as5 (q : Nat) (k : ev_K) (r : List ev_I) (ls s : List ev_V) (w : ev_Wd) (v : ev_V) (j i : Nat) (a : Nat × Nat × Nat × List (Nat × ev_V)) : ev_R := Bool.rec (motive := fun _ => ev_R) none
  (match v with
    | .inl v => k r ls s (ev_ts 7 w.1 i (.inr (a.1, a.2.1, a.2.2.1, (j, .inl (ev_nar q v)) :: a.2.2.2)), w.2)
    | .inr (.inr (.inr (.inl t))) => k r ls s (ev_ts 7 w.1 i (.inr (a.1, a.2.1, a.2.2.1, (j, .inr (.inr (.inr (.inl (ev_nat q t))))) :: a.2.2.2)), w.2)
    | _ => none) (Bool.and (ev_ix q i j w a) (Bool.not (Nat.beq q 1)))
/-- a known int, a long -/
noncomputable def ea_as4 (q : Nat) (k : ev_K) (r : List ev_I) (ls s : List ev_V) (w : ev_Wd) (v : ev_V) (j i : Nat) (a : Nat × Nat × Nat × List (Nat × ev_V)) : ev_R := Sum.rec (motive := fun _ => ev_R)
  (fun n => Bool.rec (motive := fun _ => ev_R) (ea_as5 q k r ls s w v j i a) (ev_fo (ev_sm 32 a.2.2.1 j (ev_nar q n)) (fun M' => k r ls s (ev_ts 7 w.1 i (.inr (a.1, a.2.1, M', [])), w.2))) (Bool.and (ev_ix q i j w a) (Bool.and (ev_nil a.2.2.2) (Bool.not (Nat.beq q 1)))))
  (fun u => Sum.rec (motive := fun _ => ev_R) (fun _ => none) (fun u => Sum.rec (motive := fun _ => ev_R) (fun n => Bool.rec (motive := fun _ => ev_R) none (ev_fo (ev_sm 64 a.2.2.1 j n) (fun M' => k r ls s (ev_ts 7 w.1 i (.inr (a.1, a.2.1, M', a.2.2.2)), w.2))) (Bool.and (ev_ix q i j w a) (Nat.beq q 1))) (fun _ => ea_as5 q k r ls s w v j i a) u) u) v
noncomputable def ea_as3 (q : Nat) (k : ev_K) (r : List ev_I) (ls s : List ev_V) (w : ev_Wd) (v : ev_V) (j i : Nat) : ev_R := Sum.rec (motive := fun _ => ev_R) (fun _ => none) (fun a => ea_as4 q k r ls s w v j i a) (ev_tg 7 w.1 i)
noncomputable def ea_as2 (q : Nat) (k : ev_K) (r : List ev_I) (ls s : List ev_V) (w : ev_Wd) (v : ev_V) (j : Nat) : ev_R := List.rec (motive := fun _ => ev_R) none (fun u s _ => ev_cell u (ea_as3 q k r ls s w v j)) s
noncomputable def ea_as6 (q : Nat) (k : ev_K) (r : List ev_I) (ls s : List ev_V) (w : ev_Wd) (v : ev_V) (u : Nat ⊕ (Nat ⊕ (ev_T ⊕ Unit))) : ev_R := match u with
  | .inr (.inr (.inl t)) => ev_rs t w.2.2.1 (fun j e => k (ei_as q :: r) ls (v :: .inl j :: s) (ev_we w e))
  | _ => none
noncomputable def ea_as1 (q : Nat) (k : ev_K) (r : List ev_I) (ls s : List ev_V) (w : ev_Wd) (v : ev_V) : ev_R := List.rec (motive := fun _ => ev_R) none (fun x s _ => Sum.rec (motive := fun _ => ev_R) (fun j => ea_as2 q k r ls s w v j) (fun u => ea_as6 q k r ls s w v u) x) s
noncomputable def ea_as (q : Nat) : ev_A := fun _ k _ r ls st w => List.rec (motive := fun _ => ev_R) none (fun v s _ => ea_as1 q k r ls s w v) st
noncomputable def ea_an : ev_A := fun _ k _ r ls st w => match st with
  | .inr (.inl (i + 1)) :: s => match ev_tg 7 w.1 i with
    | .inr (q, n, _, _) => Bool.rec (motive := fun _ => ev_R) none (k r ls (.inl n :: s) w) (Bool.and (Nat.ble (Nat.succ i) w.2.1) (Nat.ble q 3))
    | _ => none
  | _ => none
noncomputable def ea_na (q : Nat) : ev_A := fun _ k m r ls st w => match st with
  | .inl n :: s => Bool.rec (motive := fun _ => ev_R) none
      (k r ls (.inr (.inl (Nat.succ w.2.1)) :: s) (ev_ts 7 w.1 w.2.1 (.inr (q, n, 0, [])), Nat.succ w.2.1, w.2.2.1, Nat.succ w.2.2.2.1, Nat.add w.2.2.2.2 n))
      (Bool.and (Nat.ble n 1000000) (Bool.and (Nat.ble (Nat.succ w.2.2.2.1) m.2.2.1) (Bool.and (Nat.ble (Nat.add w.2.2.2.2 n) m.2.2.2.1) (Bool.and (Nat.ble w.2.1 127) (Bool.and (s.all (ev_clV w.2.1)) (Bool.and (ls.all (ev_clV w.2.1)) (ev_clH w.2.1 w.1)))))))
  | _ => none
noncomputable def ea_nw (x : Nat × Nat × List ev_V) : ev_A := fun _ k m r ls s w => Bool.rec (motive := fun _ => ev_R) none
      (k r ls (.inr (.inl (Nat.succ w.2.1)) :: s) (ev_ts 7 w.1 w.2.1 (.inl (x.1, x.2.2)), Nat.succ w.2.1, w.2.2.1, Nat.succ w.2.2.2.1, Nat.add w.2.2.2.2 x.2.2.length))
      (Bool.and (Nat.ble (Nat.succ w.2.2.2.1) m.2.2.1) (Bool.and (Nat.ble (Nat.add w.2.2.2.2 x.2.2.length) m.2.2.2.1) (Bool.and (Nat.ble w.2.1 127) (Bool.and (s.all (ev_clV w.2.1)) (Bool.and (ls.all (ev_clV w.2.1)) (Bool.and (x.2.2.all (ev_clV w.2.1)) (ev_clH w.2.1 w.1)))))))
noncomputable def ea_oi (_ : Nat) : ev_A := fun _ k _ r ls st w => match st with
  | .inr (.inl (_ + 1)) :: s => Bool.rec (motive := fun _ => ev_R) none (k r ls s w) (Nat.ble (ev_cat s) 8)
  | _ => none
noncomputable def ea_cy (_ : Nat) : ev_A := fun _ k _ r ls st w => match st with
  | .inl n :: .inl dp :: .inr (.inl (i + 1)) :: .inl sp :: .inr (.inl (i' + 1)) :: s => match ev_tg 7 w.1 i, ev_tg 7 w.1 i' with
    | .inr (q, n1, M1, []), .inr (q', n0, M0, []) => Bool.rec (motive := fun _ => ev_R) none
        (ev_fo (Bool.rec (motive := fun _ => Nat) (ev_cp 64 M1 M0 sp dp n) (ev_cp 32 M1 M0 sp dp n) (Nat.beq q 0)) (fun M' => k r ls s (ev_ts 7 w.1 i (.inr (q, n1, M', [])), w.2)))
        (Bool.and (Nat.beq q q') (Bool.and (Nat.ble q 1) (Bool.and (Nat.ble (Nat.succ i) w.2.1) (Bool.and (Nat.ble (Nat.succ i') w.2.1) (Bool.and (Nat.ble (Nat.add sp n) n0) (Bool.and (Nat.ble (Nat.add dp n) n1) (Bool.and (Nat.ble (Nat.add sp n) 2147483647) (Bool.and (Nat.ble (Nat.add dp n) 2147483647) (Nat.ble (ev_cat s) 8)))))))))
    | _, _ => none
  | _ => none
noncomputable def ea_re (q : Nat) : ev_A := fun _ _ m _ _ st w => Bool.rec (motive := fun _ => ev_R) none
  (match q, st with
    | 0, [.inl n] => match m.2.2.2.2.2.2.2 with
      | some .int => some [(.inl n, w.1, w.2.1, w.2.2.1)]
      | some .boolean => Bool.rec (motive := fun _ => ev_R) none (some [(.inl n, w.1, w.2.1, w.2.2.1)]) (Nat.ble n 1)
      | _ => none
    | 0, [.inr (.inr (.inr (.inl t)))] => match m.2.2.2.2.2.2.2 with
      | some .int => some [(.inr (.inr (.inr (.inl t))), w.1, w.2.1, w.2.2.1)]
      | _ => none
    | 1, [.inr (.inl x)] => match m.2.2.2.2.2.2.2 with
      | some (.object _) => some [(.inr (.inl x), w.1, w.2.1, w.2.2.1)]
      | _ => none
    | 2, [] => match m.2.2.2.2.2.2.2 with
      | none => some [(ev_U, w.1, w.2.1, w.2.2.1)]
      | _ => none
    | _, _ => none)
  (Bool.and (Nat.ble w.2.2.2.1 m.2.2.1) (Nat.ble w.2.2.2.2 m.2.2.2.1))
/-- the arguments of a call, and what lies below them -/
noncomputable def ev_pop (n : Nat) (st acc : List ev_V) : List ev_V × List ev_V := match n, st with
  | 0, s => (acc, s)
  | n + 1, v :: s => ev_pop n s (v :: acc)
  | _, [] => ([], [])
/-- a call's receiver, where one is asked for (1 and the number of its kind) -/
noncomputable def ev_rcv (x : Nat) (as : List ev_V) (h : ev_H) (n : Nat) : Bool := match x, as with
  | 0, _ => true
  | q + 1, .inr (.inl (i + 1)) :: _ => match ev_tg 7 h i with
    | .inl (c, _) => Bool.and (Nat.beq c q) (Nat.ble (Nat.succ i) n)
    | _ => false
  | _, _ => false
noncomputable def ev_bck (v : ev_V) (s : List ev_V) : List ev_V := match v with
  | .inr (.inr (.inr (.inr _))) => s
  | v => v :: s
/-- a call: number of the method, arguments (the receiver too), receiver, index, how, its cells and slots -/
noncomputable def ea_ca3 (k : ev_K) (r : List ev_I) (ls s : List ev_V) (w : ev_Wd) (mc ms : Nat) (o : ev_O) : ev_R := Bool.rec (motive := fun _ => ev_R) none
  (k r ls (ev_bck o.1 s) (o.2.1, o.2.2.1, o.2.2.2, Nat.add w.2.2.2.1 mc, Nat.add w.2.2.2.2 ms))
  (Bool.or (Nat.beq o.2.2.1 w.2.1) (Bool.and (s.all (ev_clV w.2.1)) (ls.all (ev_clV w.2.1))))
noncomputable def ea_ca2 (x : Nat × Nat × Nat × Nat × Nat × Nat × Nat) (call : ev_Q) (k : ev_K) (m : ev_M) (r : List ev_I) (ls : List ev_V) (w : ev_Wd) (as s : List ev_V) : ev_R := Bool.rec (motive := fun _ => ev_R) none
  (match call x.1 as w.1 w.2.1 w.2.2.1 with
    | none => none
    | some os => ev_bo os (ea_ca3 k r ls s w x.2.2.2.2.2.1 x.2.2.2.2.2.2))
  (Bool.and (ev_rcv x.2.2.1 as w.1 w.2.1) (Bool.and (Nat.beq as.length x.2.1) (Bool.and (Nat.ble (ev_cat s) 8) (Bool.and (Nat.ble (Nat.add w.2.2.2.1 x.2.2.2.2.2.1) m.2.2.1) (Nat.ble (Nat.add w.2.2.2.2 x.2.2.2.2.2.2) m.2.2.2.1)))))
noncomputable def ea_ca (x : Nat × Nat × Nat × Nat × Nat × Nat × Nat) : ev_A := fun call k m r ls st w => Prod.rec (motive := fun _ => ev_R) (fun as s => ea_ca2 x call k m r ls w as s) (ev_pop x.2.1 st [])
noncomputable def ev_act (i : ev_I) : ev_A := Sum.rec (motive := fun _ => ev_A) (Sum.rec (motive := fun _ => ev_A) (Sum.rec (motive := fun _ => ev_A) (Sum.rec (motive := fun _ => ev_A) (Sum.rec (motive := fun _ => ev_A) ea_li ea_la) (Sum.rec (motive := fun _ => ev_A) ea_pu ea_ic)) (Sum.rec (motive := fun _ => ev_A) (Sum.rec (motive := fun _ => ev_A) ea_gf ea_go) (Sum.rec (motive := fun _ => ev_A) ea_ii ea_ib))) (Sum.rec (motive := fun _ => ev_A) (Sum.rec (motive := fun _ => ev_A) (Sum.rec (motive := fun _ => ev_A) ea_al ea_as) (Sum.rec (motive := fun _ => ev_A) ea_if ea_re)) (Sum.rec (motive := fun _ => ev_A) (Sum.rec (motive := fun _ => ev_A) ea_ca ea_si) (Sum.rec (motive := fun _ => ev_A) ea_dv ea_ll)))) (Sum.rec (motive := fun _ => ev_A) (Sum.rec (motive := fun _ => ev_A) (Sum.rec (motive := fun _ => ev_A) (Sum.rec (motive := fun _ => ev_A) ea_go ea_pf) (Sum.rec (motive := fun _ => ev_A) ea_lb ea_ls)) (Sum.rec (motive := fun _ => ev_A) (Sum.rec (motive := fun _ => ev_A) (fun _ => ea_lc) ea_sl) (Sum.rec (motive := fun _ => ev_A) ea_un ea_st))) (Sum.rec (motive := fun _ => ev_A) (Sum.rec (motive := fun _ => ev_A) (Sum.rec (motive := fun _ => ev_A) (fun _ => ea_an) ea_na) (Sum.rec (motive := fun _ => ev_A) ea_nw ea_oi)) (Sum.rec (motive := fun _ => ev_A) (Sum.rec (motive := fun _ => ev_A) ea_cy ea_tw) (Sum.rec (motive := fun _ => ev_A) ea_nn ea_sa)))) i
noncomputable def ev_step (call : ev_Q) (k : ev_K) (m : ev_M) (p : List ev_I) (ls st : List ev_V) (w : ev_Wd) : ev_R := List.rec (motive := fun _ => ev_R) none (fun i r _ => ev_act i call k m r ls st w) p
noncomputable def ev_run (call : ev_Q) (m : ev_M) (fuel : Nat) : ev_K := Nat.rec (motive := fun _ => ev_K) (fun _ _ _ _ => none) (fun _ ih => ev_step call ih m) fuel
/-- the values of the arguments as the first of the places for values; a long takes two -/
noncomputable def ev_ent (l : List ev_V) : List ev_V := match l with
  | [] => []
  | v :: r => Bool.rec (motive := fun _ => List ev_V) (v :: ev_ent r) (v :: ev_U :: ev_ent r) (ev_isl v)
noncomputable def ev_lm (l : List ev_M) : Nat → Option ev_M := List.rec (motive := fun _ => Nat → Option ev_M) (fun _ => none) (fun a _ ih j => Nat.rec (motive := fun _ => Option ev_M) (some a) (fun j' _ => ih j') j) l
noncomputable def ev_beg (call : ev_Q) (as : List ev_V) (h : ev_H) (n : Nat) (e : ev_E) (m : ev_M) (ls : List ev_V) : ev_R := Bool.rec (motive := fun _ => ev_R) none (ev_run call m 10000000 (ev_lb m.1 m.2.1) (ls ++ List.replicate (Nat.sub m.2.2.2.2.1 ls.length) ev_U) [] (h, n, e, 0, 0)) (Nat.ble ls.length m.2.2.2.2.1)
noncomputable def ev_met (pg : List ev_M) (d : Nat) : ev_Q := Nat.rec (motive := fun _ => ev_Q) (fun _ _ _ _ _ => none) (fun _ ih x as h n e => match ev_lm pg x with
  | none => none
  | some m => ev_beg ih as h n e m (ev_ent as)) d
end
section
/-! ===== pure rows: ints by their numbers, trees, lists ===== -/
theorem ev_nm (a b : Nat) : Nat.mod a b = a % b := rfl
theorem ev_na (a b : Nat) : Nat.add a b = a + b := rfl
theorem ev_ns (a b : Nat) : Nat.sub a b = a - b := rfl
theorem ev_nx (a b : Nat) : Nat.mul a b = a * b := rfl
theorem ev_beq {a b : Nat} : Nat.beq a b = true ↔ a = b := ⟨Nat.eq_of_beq_eq_true, fun h => by rw [h]; exact Nat.beq_refl b⟩
theorem ev_beqf {a b : Nat} : Nat.beq a b = false ↔ a ≠ b := by
  rw [← Bool.not_eq_true, ev_beq]
theorem ev_blef {a b : Nat} : Nat.ble a b = false ↔ b < a := by
  rw [← Bool.not_eq_true, Nat.ble_eq]
  omega
theorem ev_on (n : Nat) : (Int32.ofNat n).toBitVec.toNat = n % 4294967296 := by
  show (BitVec.ofNat 32 n).toNat = _
  rw [BitVec.toNat_ofNat]
theorem ev_e32 {a b : Int32} (h : a.toBitVec.toNat = b.toBitVec.toNat) : a = b := Int32.toBitVec_inj.mp (BitVec.eq_of_toNat_eq h)
theorem ev_md (n : Nat) : Int32.ofNat (n % 4294967296) = Int32.ofNat n := ev_e32 (by rw [ev_on, ev_on, Nat.mod_mod])
theorem ev_onl (n : Nat) : (Int64.ofNat n).toBitVec.toNat = n % 18446744073709551616 := by
  show (BitVec.ofNat 64 n).toNat = _
  rw [BitVec.toNat_ofNat]
theorem ev_e64 {a b : Int64} (h : a.toBitVec.toNat = b.toBitVec.toNat) : a = b := Int64.toBitVec_inj.mp (BitVec.eq_of_toNat_eq h)
theorem ev_mdl (n : Nat) : Int64.ofNat (n % 18446744073709551616) = Int64.ofNat n := ev_e64 (by rw [ev_onl, ev_onl, Nat.mod_mod])
theorem ev_add (a b : Nat) : Int32.ofNat a + Int32.ofNat b = Int32.ofNat (a + b) := nI_add a b
theorem ev_mul (a b : Nat) : Int32.ofNat a * Int32.ofNat b = Int32.ofNat (a * b) := pk_mul a b
theorem ev_sub (a b : Nat) : Int32.ofNat a - Int32.ofNat b = Int32.ofNat (a + (4294967296 - b % 4294967296)) := by
  refine ev_e32 ?_
  rw [Int32.toBitVec_sub, BitVec.toNat_sub, ev_on, ev_on, ev_on]
  omega
theorem ev_and (a b : Nat) : Int32.ofNat a &&& Int32.ofNat b = Int32.ofNat (Nat.land a b) := by
  refine ev_e32 ?_
  rw [Int32.toBitVec_and, BitVec.toNat_and, ev_on, ev_on, ev_on]
  show _ = (a &&& b) % 2 ^ 32
  rw [Nat.and_mod_two_pow]
theorem ev_or (a b : Nat) : Int32.ofNat a ||| Int32.ofNat b = Int32.ofNat (Nat.lor a b) := by
  refine ev_e32 ?_
  rw [Int32.toBitVec_or, BitVec.toNat_or, ev_on, ev_on, ev_on]
  show _ = (a ||| b) % 2 ^ 32
  rw [Nat.or_mod_two_pow]
theorem ev_k31 (b : Nat) : Nat.land b 31 = b % 32 := Nat.and_two_pow_sub_one_eq_mod b 5
theorem ev_k63 (b : Nat) : Nat.land b 63 = b % 64 := Nat.and_two_pow_sub_one_eq_mod b 6
theorem ev_s31 (b : Nat) : Int32.ofNat b &&& 31 = Int32.ofNat (b % 32) := by
  rw [← ev_k31]
  exact ev_and b 31
theorem ev_sm1 : ∀ k, k < 32 → ((Int32.ofNat k).toBitVec.smod 32).toNat = k := by decide +kernel
theorem ev_shl (a b : Nat) : Int32.ofNat a <<< (Int32.ofNat b &&& 31) = Int32.ofNat (Nat.shiftLeft a (Nat.land b 31)) := by
  refine ev_e32 ?_
  rw [ev_s31, pk_shl _ _ (b % 32) (ev_sm1 _ (Nat.mod_lt _ (by decide))), ev_on, ev_on, ev_k31]
  show _ = (a <<< (b % 32)) % 4294967296
  rw [Nat.shiftLeft_eq, Nat.mod_mul_mod]
theorem ev_bm (n : Nat) (hn : n < 4294967296) : (n : Int).bmod 4294967296 = if n < 2147483648 then (n : Int) else (n : Int) - 4294967296 := by
  rw [Int.bmod_def]
  split <;> split <;> omega
theorem ev_ti (n : Nat) (hn : n < 4294967296) : (Int32.ofNat n).toInt = if n < 2147483648 then (n : Int) else (n : Int) - 4294967296 := by
  rw [Int32.toInt_ofNat']
  exact ev_bm n hn
theorem ev_shr (a b : Nat) : Int32.ofNat a >>> (Int32.ofNat b &&& 31) = Int32.ofNat (ev_sh a (Nat.land b 31)) := by
  have h := pk_shr (Int32.ofNat (a % 4294967296)) (Int32.ofNat (b % 32)) (b % 32) (ev_sm1 _ (Nat.mod_lt _ (by decide)))
  rw [ev_s31, ev_k31, ← ev_md a]
  have hr : a % 4294967296 < 4294967296 := Nat.mod_lt _ (by decide)
  show _ = Int32.ofNat (Bool.rec (motive := fun _ => Nat) (4294967295 - ((4294967295 - (a % 4294967296)) >>> (b % 32))) ((a % 4294967296) >>> (b % 32)) (Nat.ble (a % 4294967296) 2147483647))
  generalize b % 32 = k at *
  generalize a % 4294967296 = r at *
  refine Int32.toInt_inj.mp ?_
  rw [h, ev_ti r hr]
  have h1 : r >>> k ≤ r := Nat.shiftRight_le r k
  have h2 : (4294967295 - r) >>> k ≤ 4294967295 - r := Nat.shiftRight_le _ k
  by_cases hc : r < 2147483648
  · rw [if_pos hc, Nat.ble_eq_true_of_le (by omega)]
    show _ = (Int32.ofNat (r >>> k)).toInt
    rw [ev_ti _ (by omega), if_pos (by omega)]
    rfl
  · have hb : Nat.ble r 2147483647 = false := by
      rw [← Bool.not_eq_true, Nat.ble_eq]
      omega
    rw [if_neg hc, hb]
    show _ = (Int32.ofNat (4294967295 - ((4294967295 - r) >>> k))).toInt
    have e : (r : Int) - 4294967296 = Int.negSucc (4294967295 - r) := by omega
    rw [e]
    show Int.negSucc ((4294967295 - r) >>> k) = _
    generalize (4294967295 - r) >>> k = z at *
    rw [ev_ti _ (by omega), if_neg (by omega)]
    omega
theorem ev_ush (a b : Nat) : ((Int32.ofNat a).toUInt32 >>> ((Int32.ofNat b).toUInt32 &&& Int32.toUInt32 31)).toInt32 = Int32.ofNat (Nat.shiftRight (Nat.mod a 4294967296) (Nat.land b 31)) := by
  refine ev_e32 ?_
  have hs : (((Int32.ofNat b).toUInt32 &&& Int32.toUInt32 31).toBitVec % 32).toNat = b % 32 := by
    show ((BitVec.ofNat 32 b &&& BitVec.ofNat 32 31) % 32#32).toNat = _
    rw [BitVec.toNat_umod, BitVec.toNat_and, BitVec.toNat_ofNat, BitVec.toNat_ofNat]
    show (b % 4294967296 &&& 31) % 32 = _
    rw [show b % 4294967296 &&& 31 = (b % 4294967296) % 32 from ev_k31 _]
    omega
  rw [pk_ushr _ _ (b % 32) hs, ev_on, ev_on, ev_k31]
  show _ = ((a % 4294967296) >>> (b % 32)) % 4294967296
  rw [Nat.shiftRight_eq_div_pow]
  have h1 : a % 4294967296 / 2 ^ (b % 32) ≤ a % 4294967296 := Nat.div_le_self _ _
  rw [Nat.mod_eq_of_lt (a := a % 4294967296 / 2 ^ (b % 32)) (by omega)]
theorem ev_i2b_ok (a : Nat) : (Int32.ofNat a).toInt8.toInt32 = Int32.ofNat (ev_i2b a) := by
  have h : ∀ c, c < 256 → (Int32.ofNat c).toInt8.toInt32 = Int32.ofNat (ev_i2b c) := by decide +kernel
  have e1 : (Int32.ofNat a).toInt8 = (Int32.ofNat (a % 256)).toInt8 := by
    refine Int8.toBitVec_inj.mp (BitVec.eq_of_toNat_eq ?_)
    show ((BitVec.ofNat 32 a).signExtend 8).toNat = ((BitVec.ofNat 32 (a % 256)).signExtend 8).toNat
    rw [BitVec.signExtend_eq_setWidth_of_le _ (by decide), BitVec.signExtend_eq_setWidth_of_le _ (by decide), BitVec.toNat_setWidth, BitVec.toNat_setWidth, BitVec.toNat_ofNat, BitVec.toNat_ofNat]
    omega
  have e2 : ev_i2b a = ev_i2b (a % 256) := by
    show Bool.rec (motive := fun _ => Nat) (a % 256 + 4294967040) (a % 256) (Nat.ble (a % 256) 127) = Bool.rec (motive := fun _ => Nat) (a % 256 % 256 + 4294967040) (a % 256 % 256) (Nat.ble (a % 256 % 256) 127)
    rw [Nat.mod_mod]
  rw [e1, e2]
  exact h _ (Nat.mod_lt _ (by decide))
theorem ev_div (a b : Nat) (ha : a ≤ 2147483647) (hb : b ≤ 2147483647) (h0 : 1 ≤ b) : Int32.ofNat a / Int32.ofNat b = Int32.ofNat (a / b) := pk_div (by omega) (by omega) (by omega)
/-- an int, moved up so that its order is that of numbers -/
def ev_bi (x : Int32) : Nat := (x.toInt + 2147483648).toNat
theorem ev_bs_eq (a : Nat) : ev_bs a = (a + 2147483648) % 4294967296 := by
  cases a with
  | zero => decide +kernel
  | succ n => rfl
theorem ev_bi_of (a : Nat) : ev_bi (Int32.ofNat a) = ev_bs a := by
  have hr : a % 4294967296 < 4294967296 := Nat.mod_lt _ (by decide)
  rw [ev_bs_eq]
  unfold ev_bi
  rw [← ev_md a, ev_ti _ hr]
  split <;> omega
theorem ev_bi_lt (x y : Int32) : x < y ↔ ev_bi x < ev_bi y := by
  have a1 := Int32.le_toInt x
  have a2 := Int32.le_toInt y
  rw [Int32.lt_iff_toInt_lt]
  unfold ev_bi
  omega
theorem ev_bi_le (x y : Int32) : x ≤ y ↔ ev_bi x ≤ ev_bi y := by
  have a1 := Int32.le_toInt x
  have a2 := Int32.le_toInt y
  rw [Int32.le_iff_toInt_le]
  unfold ev_bi
  omega
theorem ev_bi_eq (x y : Int32) : x = y ↔ ev_bi x = ev_bi y := by
  have a1 := Int32.le_toInt x
  have a2 := Int32.le_toInt y
  rw [← Int32.toInt_inj]
  unfold ev_bi
  omega
theorem ev_bi_top (x : Int32) : ev_bi x < 4294967296 := by
  have a1 := Int32.toInt_lt x
  unfold ev_bi
  omega
theorem ev_bs_bi (x : Int32) : Int32.ofNat (ev_bs (ev_bi x)) = x := by
  rw [ev_bi_eq, ev_bi_of, ev_bs_eq, ev_bs_eq]
  have := ev_bi_top x
  omega
/-! longs -/
theorem ev_land (a b : Nat) : Int64.ofNat a &&& Int64.ofNat b = Int64.ofNat (Nat.land a b) := by
  refine ev_e64 ?_
  rw [Int64.toBitVec_and, BitVec.toNat_and, ev_onl, ev_onl, ev_onl]
  show _ = (a &&& b) % 2 ^ 64
  rw [Nat.and_mod_two_pow]
theorem ev_lor (a b : Nat) : Int64.ofNat a ||| Int64.ofNat b = Int64.ofNat (Nat.lor a b) := by
  refine ev_e64 ?_
  rw [Int64.toBitVec_or, BitVec.toNat_or, ev_onl, ev_onl, ev_onl]
  show _ = (a ||| b) % 2 ^ 64
  rw [Nat.or_mod_two_pow]
theorem ev_ladd (a b : Nat) : Int64.ofNat a + Int64.ofNat b = Int64.ofNat (a + b) := lN_add a b
theorem ev_lsub (a b : Nat) : Int64.ofNat a - Int64.ofNat b = Int64.ofNat (a + (18446744073709551616 - b % 18446744073709551616)) := by
  refine ev_e64 ?_
  rw [Int64.toBitVec_sub, BitVec.toNat_sub, ev_onl, ev_onl, ev_onl]
  omega
theorem ev_l2i (a : Nat) : (Int64.ofNat a).toInt32 = Int32.ofNat (a % 4294967296) := by
  refine ev_e32 ?_
  show ((BitVec.ofNat 64 a).signExtend 32).toNat = _
  rw [BitVec.signExtend_eq_setWidth_of_le _ (by decide), BitVec.toNat_setWidth, BitVec.toNat_ofNat, ev_on]
  omega
theorem ev_i2l_sm (b : Nat) : (Int32.ofNat b).toInt64 &&& 63 = Int64.ofNat (b % 64) := by
  refine ev_e64 ?_
  rw [Int64.toBitVec_and, BitVec.toNat_and, ev_onl]
  show ((BitVec.ofNat 32 b).signExtend 64).toNat &&& 63 = _
  rw [show ((BitVec.ofNat 32 b).signExtend 64).toNat &&& 63 = ((BitVec.ofNat 32 b).signExtend 64).toNat % 64 from ev_k63 _, BitVec.toNat_signExtend, BitVec.toNat_setWidth, BitVec.toNat_ofNat]
  split <;> omega
theorem ev_sml : ∀ k, k < 64 → ((Int64.ofNat k).toBitVec.smod 64).toNat = k := by decide +kernel
theorem ev_lshl (a b : Nat) : Int64.ofNat a <<< ((Int32.ofNat b).toInt64 &&& 63) = Int64.ofNat (Nat.shiftLeft a (Nat.land b 63)) := by
  rw [ev_i2l_sm, ev_k63]
  refine ev_e64 ?_
  show ((Int64.ofNat a).toBitVec <<< ((Int64.ofNat (b % 64)).toBitVec.smod 64)).toNat = _
  rw [BitVec.shiftLeft_eq', ev_sml _ (Nat.mod_lt _ (by decide)), BitVec.toNat_shiftLeft, ev_onl, ev_onl]
  show ((a % 18446744073709551616) <<< (b % 64)) % 18446744073709551616 = (a <<< (b % 64)) % 18446744073709551616
  rw [Nat.shiftLeft_eq, Nat.shiftLeft_eq, Nat.mod_mul_mod]
theorem ev_lush (a b : Nat) : ((Int64.ofNat a).toUInt64 >>> ((Int32.ofNat b).toInt64.toUInt64 &&& Int64.toUInt64 63)).toInt64 = Int64.ofNat (Nat.shiftRight (Nat.mod a 18446744073709551616) (Nat.land b 63)) := by
  have hs : ((Int32.ofNat b).toInt64.toUInt64 &&& Int64.toUInt64 63) = (Int64.ofNat (b % 64)).toUInt64 := congrArg Int64.toUInt64 (ev_i2l_sm b)
  rw [hs, ev_k63]
  refine ev_e64 ?_
  have hk : b % 64 < 64 := Nat.mod_lt _ (by decide)
  generalize b % 64 = k at *
  show ((BitVec.ofNat 64 a) >>> (BitVec.ofNat 64 k % 64#64)).toNat = _
  rw [BitVec.ushiftRight_eq', BitVec.toNat_ushiftRight, BitVec.toNat_umod, BitVec.toNat_ofNat, BitVec.toNat_ofNat, ev_onl]
  have e : k % 2 ^ 64 % (64#64).toNat = k := by
    show k % 18446744073709551616 % 64 = k
    omega
  rw [e]
  show (a % 18446744073709551616) >>> k = ((a % 18446744073709551616) >>> k) % 18446744073709551616
  have h1 := Nat.shiftRight_le (a % 18446744073709551616) k
  have h2 : a % 18446744073709551616 < 18446744073709551616 := Nat.mod_lt _ (by decide)
  generalize (a % 18446744073709551616) >>> k = z at *
  omega
theorem ev_tl (n : Nat) (hn : n < 18446744073709551616) : (Int64.ofNat n).toInt = if n < 9223372036854775808 then (n : Int) else (n : Int) - 18446744073709551616 := by
  rw [Int64.toInt_ofNat']
  show (n : Int).bmod 18446744073709551616 = _
  rw [Int.bmod_def]
  split <;> split <;> omega
theorem ev_lc3 (x y X Y : Nat) (hx : X = if x < 9223372036854775808 then x + 9223372036854775808 else x - 9223372036854775808) (hy : Y = if y < 9223372036854775808 then y + 9223372036854775808 else y - 9223372036854775808) (u v : Int) (hu : u = if x < 9223372036854775808 then (x : Int) else (x : Int) - 18446744073709551616) (hv : v = if y < 9223372036854775808 then (y : Int) else (y : Int) - 18446744073709551616) (hx2 : x < 18446744073709551616) (hy2 : y < 18446744073709551616) :
    (v < u ↔ Y < X) ∧ (u = v ↔ x = y) ∧ (x = y ↔ X = Y) := by
  split at hx <;> split at hy <;> split at hu <;> split at hv <;> omega
theorem ev_3r (x y X Y : Nat) (h : x = y ↔ X = Y) : ev_3l x y X Y = if Y < X then 1 else if x = y then 0 else 4294967295 := by
  unfold ev_3l
  cases h1 : Nat.beq x y with
  | true =>
    rw [ev_beq] at h1
    have := h.mp h1
    rw [if_neg (by omega), if_pos h1]
  | false =>
    rw [ev_beqf] at h1
    have : ¬ X = Y := fun q => h1 (h.mpr q)
    cases h2 : Nat.ble X Y with
    | true =>
      have h3 := Nat.le_of_ble_eq_true h2
      rw [if_neg (by omega), if_neg h1]
    | false =>
      rw [ev_blef] at h2
      rw [if_pos h2]
theorem ev_lcm_ok (a b : Nat) : lg_cmp (Int64.ofNat a) (Int64.ofNat b) = Int32.ofNat (ev_lcm a b) := by
  have ha : a % 18446744073709551616 < 18446744073709551616 := Nat.mod_lt _ (by decide)
  have hb : b % 18446744073709551616 < 18446744073709551616 := Nat.mod_lt _ (by decide)
  have hx : (a + 9223372036854775808) % 18446744073709551616 = if a % 18446744073709551616 < 9223372036854775808 then a % 18446744073709551616 + 9223372036854775808 else a % 18446744073709551616 - 9223372036854775808 := by split <;> omega
  have hy : (b + 9223372036854775808) % 18446744073709551616 = if b % 18446744073709551616 < 9223372036854775808 then b % 18446744073709551616 + 9223372036854775808 else b % 18446744073709551616 - 9223372036854775808 := by split <;> omega
  have hu := ev_tl _ ha
  have hv := ev_tl _ hb
  rw [ev_mdl] at hu hv
  obtain ⟨k1, k2, k3⟩ := ev_lc3 _ _ _ _ hx hy _ _ hu hv ha hb
  unfold ev_lcm
  simp only [ev_nm, ev_na]
  rw [ev_3r _ _ _ _ k3]
  unfold lg_cmp
  have c1 : (Int64.ofNat a > Int64.ofNat b) ↔ (b + 9223372036854775808) % 18446744073709551616 < (a + 9223372036854775808) % 18446744073709551616 := (Int64.lt_iff_toInt_lt).trans k1
  have c2 : (Int64.ofNat a = Int64.ofNat b) ↔ a % 18446744073709551616 = b % 18446744073709551616 := (Int64.toInt_inj).symm.trans k2
  by_cases d1 : Int64.ofNat a > Int64.ofNat b
  · rw [if_pos d1, if_pos (c1.mp d1)]; rfl
  · rw [if_neg d1, if_neg (fun q => d1 (c1.mpr q))]
    by_cases d2 : Int64.ofNat a = Int64.ofNat b
    · rw [if_pos d2, if_pos (c2.mp d2)]; rfl
    · rw [if_neg d2, if_neg (fun q => d2 (c2.mpr q))]; rfl
/-! three ways -/
theorem ev_c3r (q : Bool × Bool × Bool) (x y : Nat) : ev_3w q x y = if x < y then q.1 else if x = y then q.2.1 else q.2.2 := by
  unfold ev_3w
  cases h1 : Nat.beq x y with
  | true =>
    rw [ev_beq] at h1
    rw [if_neg (by omega), if_pos h1]
  | false =>
    rw [ev_beqf] at h1
    cases h2 : Nat.ble x y with
    | true =>
      have h3 := Nat.le_of_ble_eq_true h2
      rw [if_pos (by omega)]
    | false =>
      rw [ev_blef] at h2
      rw [if_neg (by omega), if_neg h1]
theorem ev_c3_ok (q : Bool × Bool × Bool) (a b : Nat) : ev_c3 q a b = if ev_bs a < ev_bs b then q.1 else if ev_bs a = ev_bs b then q.2.1 else q.2.2 := by
  unfold ev_c3
  rw [ev_c3r]
/-! numbers as rows -/
theorem ev_gm_tb (w M i b : Nat) : (ev_gm w M i).testBit b = (decide (b < w) && M.testBit (w * i + b)) := by
  show ((M >>> (w * i)) % 2 ^ w).testBit b = _
  rw [Nat.testBit_mod_two_pow, Nat.testBit_shiftRight]
theorem ev_gm_sm (w M i v j : Nat) : ev_gm w (ev_sm w M i v) j = if j = i then v % 2 ^ w else ev_gm w M j := by
  refine Nat.eq_of_testBit_eq fun b => ?_
  rw [ev_gm_tb]
  show (decide (b < w) && (M ^^^ ((ev_gm w M i ^^^ (v % 2 ^ w)) <<< (w * i))).testBit (w * j + b)) = _
  rw [Nat.testBit_xor, Nat.testBit_shiftLeft, Nat.testBit_xor, ev_gm_tb, Nat.testBit_mod_two_pow]
  by_cases hb : b < w
  · rcases Nat.lt_trichotomy j i with h | h | h
    · have : w * j + w ≤ w * i := by
        have := Nat.mul_le_mul_left w (show j + 1 ≤ i from h)
        rw [Nat.mul_add] at this
        omega
      rw [if_neg (by omega), ev_gm_tb]
      simp [hb, show ¬ w * i ≤ w * j + b by omega]
    · subst h
      rw [if_pos rfl, Nat.testBit_mod_two_pow]
      simp [hb]
    · have : w * i + w ≤ w * j := by
        have := Nat.mul_le_mul_left w (show i + 1 ≤ j from h)
        rw [Nat.mul_add] at this
        omega
      rw [if_neg (by omega), ev_gm_tb]
      simp [hb, show ¬ w * j + b - w * i < w by omega]
  · by_cases h : j = i
    · rw [if_pos h, Nat.testBit_mod_two_pow]
      simp [hb]
    · rw [if_neg h, ev_gm_tb]
      simp [hb]
theorem ev_ltm {w t n b : Nat} (h : t < n) (hb : b < w) : w * t + b < w * n := by
  have := Nat.mul_le_mul_left w (show t + 1 ≤ n from h)
  rw [Nat.mul_add] at this
  omega
theorem ev_gm_cp (w Md Ms sp dp n j : Nat) : ev_gm w (ev_cp w Md Ms sp dp n) j = if dp ≤ j ∧ j < dp + n then ev_gm w Ms (sp + (j - dp)) else ev_gm w Md j := by
  have e : ev_cp w Md Ms sp dp n = 2 ^ (w * dp) * (2 ^ (w * n) * (Md >>> (w * (dp + n))) + (Ms >>> (w * sp)) % 2 ^ (w * n)) + Md % 2 ^ (w * dp) := by
    show Md % 2 ^ (w * dp) + ((Ms >>> (w * sp)) % 2 ^ (w * n) + (Md >>> (w * (dp + n))) <<< (w * n)) <<< (w * dp) = _
    rw [Nat.shiftLeft_eq, Nat.shiftLeft_eq, Nat.add_comm, Nat.mul_comm _ (2 ^ (w * dp)), Nat.mul_comm _ (2 ^ (w * n)), Nat.add_comm (Ms >>> (w * sp) % 2 ^ (w * n))]
  refine Nat.eq_of_testBit_eq fun b => ?_
  rw [ev_gm_tb, e]
  by_cases hb : b < w
  · rw [Nat.testBit_two_pow_mul_add _ (Nat.mod_lt _ (Nat.two_pow_pos _)), Nat.testBit_two_pow_mul_add _ (Nat.mod_lt _ (Nat.two_pow_pos _)), Nat.testBit_mod_two_pow, Nat.testBit_mod_two_pow, Nat.testBit_shiftRight, Nat.testBit_shiftRight]
    by_cases h1 : dp ≤ j
    · obtain ⟨t, rfl⟩ : ∃ t, j = dp + t := ⟨j - dp, by omega⟩
      have k1 : ¬ w * (dp + t) + b < w * dp := by rw [Nat.mul_add]; omega
      have k2 : w * (dp + t) + b - w * dp = w * t + b := by rw [Nat.mul_add]; omega
      rw [if_neg k1, k2]
      by_cases h2 : t < n
      · rw [if_pos (ev_ltm h2 hb), if_pos (by omega), ev_gm_tb, show dp + t - dp = t by omega]
        simp [hb, ev_ltm h2 hb, Nat.mul_add, Nat.add_assoc]
      · obtain ⟨u, rfl⟩ : ∃ u, t = n + u := ⟨t - n, by omega⟩
        have k3 : ¬ w * (n + u) + b < w * n := by rw [Nat.mul_add]; omega
        have k4 : w * (n + u) + b - w * n = w * u + b := by rw [Nat.mul_add]; omega
        rw [if_neg k3, k4, if_neg (by omega), ev_gm_tb]
        simp [hb, Nat.mul_add, Nat.add_assoc]
    · rw [if_pos (ev_ltm (by omega) hb), if_neg (by omega), ev_gm_tb]
      simp [hb, ev_ltm (show j < dp by omega) hb]
  · split <;> simp [ev_gm_tb, hb]
theorem ev_gm_0 (w j : Nat) : ev_gm w 0 j = 0 := by
  show (0 >>> (w * j)) % 2 ^ w = 0
  simp
/-! trees -/
theorem ev_tg_s {α : Type} (d : Nat) (t : ev_tr α d × ev_tr α d) (i : Nat) : ev_tg (α := α) (d + 1) t i = if i % 2 = 0 then ev_tg d t.1 (i / 2) else ev_tg d t.2 (i / 2) := by
  show Bool.rec (motive := fun _ => α) (ev_tg d t.2 (i / 2)) (ev_tg d t.1 (i / 2)) (Nat.beq (i % 2) 0) = _
  cases h : Nat.beq (i % 2) 0 with
  | true => rw [if_pos (ev_beq.mp h)]
  | false => rw [if_neg (ev_beqf.mp h)]
theorem ev_ts_s {α : Type} (d : Nat) (t : ev_tr α d × ev_tr α d) (i : Nat) (v : α) : ev_ts (α := α) (d + 1) t i v = (if i % 2 = 0 then (ev_ts d t.1 (i / 2) v, t.2) else (t.1, ev_ts d t.2 (i / 2) v) : ev_tr α d × ev_tr α d) := by
  show (Bool.rec (motive := fun _ => ev_tr α d × ev_tr α d) (t.1, ev_ts d t.2 (i / 2) v) (ev_ts d t.1 (i / 2) v, t.2) (Nat.beq (i % 2) 0) : ev_tr α d × ev_tr α d) = _
  cases h : Nat.beq (i % 2) 0 with
  | true => rw [if_pos (ev_beq.mp h)]
  | false => rw [if_neg (ev_beqf.mp h)]
theorem ev_tg_ts {α : Type} (v : α) : ∀ (d : Nat) (t : ev_tr α d) (i j : Nat), i < 2 ^ d → j < 2 ^ d → ev_tg d (ev_ts d t i v) j = if j = i then v else ev_tg d t j
  | 0, t, i, j, hi, hj => by
    have h1 : i = 0 := by simpa using hi
    have h2 : j = 0 := by simpa using hj
    rw [h1, h2, if_pos rfl]
    rfl
  | d + 1, t, i, j, hi, hj => by
    have p : 2 ^ (d + 1) = 2 * 2 ^ d := by rw [Nat.pow_succ]; omega
    have h := ev_tg_ts v d
    rw [show ev_ts (d + 1) t i v = _ from ev_ts_s d t i v, show ev_tg (d + 1) t j = _ from ev_tg_s d t j]
    by_cases a : i % 2 = 0
    · rw [if_pos a, ev_tg_s]
      by_cases b : j % 2 = 0
      · rw [if_pos b, if_pos b, h _ _ _ (by omega) (by omega)]
        by_cases c : j = i
        · rw [if_pos c, if_pos (by omega)]
        · rw [if_neg c, if_neg (by omega)]
      · rw [if_neg b, if_neg b, if_neg (by omega)]
    · rw [if_neg a, ev_tg_s]
      by_cases b : j % 2 = 0
      · rw [if_pos b, if_pos b, if_neg (by omega)]
      · rw [if_neg b, if_neg b, h _ _ _ (by omega) (by omega)]
        by_cases c : j = i
        · rw [if_pos c, if_pos (by omega)]
        · rw [if_neg c, if_neg (by omega)]
/-! lists -/
theorem ev_ln_eq (l : List ev_V) (j : Nat) : ev_ln l j = l.getD j ev_U := by
  induction l generalizing j with
  | nil => simp [ev_ln]
  | cons a r ih =>
    cases j with
    | zero => rfl
    | succ j => exact (ih j).trans (by simp)
theorem ev_lp_eq (l : List ev_V) (j : Nat) (v : ev_V) : ev_lp l j v = l.set j v := by
  induction l generalizing j with
  | nil => rfl
  | cons a r ih =>
    cases j with
    | zero => rfl
    | succ j => exact congrArg (List.cons a) (ih j)
theorem ev_ln_some {l : List ev_V} {j : Nat} {v : ev_V} (h : ev_ln l j = v) (hv : v ≠ ev_U) : l[j]? = some v := by
  rw [ev_ln_eq, List.getD_eq_getElem?_getD] at h
  cases hj : l[j]? with
  | none => rw [hj] at h; exact absurd h.symm hv
  | some u => rw [hj] at h; exact congrArg some h
theorem ev_lb_eq (l : List (Nat × List ev_I)) (j : Nat) : ev_lb l j = [] ∧ l[j]? = none ∨ ∃ b, l[j]? = some b ∧ ev_lb l j = b.2 ∧ ev_pc l j = b.1 := by
  induction l generalizing j with
  | nil => exact Or.inl ⟨rfl, rfl⟩
  | cons a r ih =>
    cases j with
    | zero => exact Or.inr ⟨a, rfl, rfl, rfl⟩
    | succ j => exact ih j
theorem ev_lm_eq (l : List ev_M) (j : Nat) : ev_lm l j = l[j]? := by
  induction l generalizing j with
  | nil => rfl
  | cons a r ih =>
    cases j with
    | zero => rfl
    | succ j => exact ih j
end
section
/-! ===== what the evaluator's data stand for: σ the tokens' ints, ρ the cells' addresses, ca the array kinds' numbers ===== -/
def ev_ap (o : Nat × Nat) (x : Int32) : Int32 := match o.1 with
  | 2 => x >>> (Int32.ofNat o.2 &&& 31)
  | 3 => x &&& Int32.ofNat o.2
  | 7 => (x.toUInt32 >>> ((Int32.ofNat o.2).toUInt32 &&& Int32.toUInt32 31)).toInt32
  | _ => x.toInt8.toInt32
def ev_ct (σ : Nat → Int32) (t : ev_T) : Int32 := t.2.foldr ev_ap (σ t.1)
theorem ev_ct_cons (σ : Nat → Int32) (k : Nat) (o : Nat × Nat) (l : List (Nat × Nat)) : ev_ct σ (k, o :: l) = ev_ap o (ev_ct σ (k, l)) := rfl
theorem ev_ct_nil (σ : Nat → Int32) (k : Nat) : ev_ct σ (k, []) = σ k := rfl
/-- a value as an int -/
def ev_ci (σ : Nat → Int32) (v : ev_V) : Int32 := match v with
  | .inl n => Int32.ofNat n
  | .inr (.inr (.inr (.inl t))) => ev_ct σ t
  | _ => 0
def ev_cr (ρ : Nat → Nat) (r : Nat) : Value := match r with
  | 0 => .null
  | k + 1 => .ref (ρ k)
def ev_cv (σ : Nat → Int32) (ρ : Nat → Nat) (v : ev_V) : Value := match v with
  | .inl n => .int (Int32.ofNat n)
  | .inr (.inl r) => ev_cr ρ r
  | .inr (.inr (.inl n)) => .long (Int64.ofNat n)
  | .inr (.inr (.inr (.inl t))) => .int (ev_ct σ t)
  | .inr (.inr (.inr (.inr _))) => .null
noncomputable def ev_cf (σ : Nat → Int32) (M : Nat) (ov : List (Nat × ev_V)) (j : Nat) : Int32 := match ov.find? (fun q => q.1 == j) with
  | some q => ev_ci σ q.2
  | none => Int32.ofNat (ev_gm 32 M j)
noncomputable def ev_ca (σ : Nat → Int32) (q M : Nat) (ov : List (Nat × ev_V)) : (Nat → Int32) ⊕ (Nat → Int64) ⊕ (Nat → UInt32) ⊕ (Nat → UInt64) ⊕ (Nat → Option Nat) := match q with
  | 1 => .inr (.inl (fun j => Int64.ofNat (ev_gm 64 M j)))
  | _ => .inl (ev_cf σ M ov)
noncomputable def ev_ce (σ : Nat → Int32) (ρ : Nat → Nat) (ca : Nat → ClassId) (c : ev_C) : va_E := match c with
  | .inl o => .inr (o.1, o.2.map (ev_cv σ ρ))
  | .inr a => .inl (ca a.1, a.2.1, ev_ca σ a.1 a.2.2.1 a.2.2.2)
noncomputable def ev_wl (σ : Nat → Int32) (ρ : Nat → Nat) (ca : Nat → ClassId) (h : ev_H) (n : Nat) : va_W := (List.range n).map (fun i => (ρ i, ev_ce σ ρ ca (ev_tg 7 h i)))
theorem ev_wl_get {σ : Nat → Int32} {ρ : Nat → Nat} {ca : Nat → ClassId} {h : ev_H} {n i : Nat} (hi : i < n) : (ev_wl σ ρ ca h n)[i]? = some (ρ i, ev_ce σ ρ ca (ev_tg 7 h i)) := by
  simp [ev_wl, hi]
theorem ev_wl_none {σ : Nat → Int32} {ρ : Nat → Nat} {ca : Nat → ClassId} {h : ev_H} {n i : Nat} (hi : ¬ i < n) : (ev_wl σ ρ ca h n)[i]? = none := by
  simp [ev_wl]
  omega
theorem ev_wl_set {σ : Nat → Int32} {ρ : Nat → Nat} {ca : Nat → ClassId} {h : ev_H} {n i : Nat} {c : ev_C} (hi : i < n) (hn : n ≤ 128) : ev_wl σ ρ ca (ev_ts 7 h i c) n = (ev_wl σ ρ ca h n).set i (ρ i, ev_ce σ ρ ca c) := by
  refine List.ext_getElem? fun j => ?_
  by_cases hj : j < n
  · rw [ev_wl_get hj, List.getElem?_set, ev_wl_get hj, ev_tg_ts c 7 h i j (by show i < 128; omega) (by show j < 128; omega)]
    by_cases e : j = i
    · subst e
      rw [if_pos rfl, if_pos rfl, if_pos (by simp [ev_wl]; exact hi)]
    · rw [if_neg e, if_neg (Ne.symm e)]
  · rw [ev_wl_none hj, List.getElem?_set_ne (by omega), ev_wl_none hj]
/-- references below n stay when only later addresses change -/
theorem ev_cv_cl {σ : Nat → Int32} {ρ ρ' : Nat → Nat} {n : Nat} (hr : ∀ i, i < n → ρ' i = ρ i) {v : ev_V} (hv : ev_clV n v = true) : ev_cv σ ρ' v = ev_cv σ ρ v := by
  match v, hv with
  | .inl _, _ => rfl
  | .inr (.inl 0), _ => rfl
  | .inr (.inl (k + 1)), h =>
    have hk : k + 1 ≤ n := Nat.le_of_ble_eq_true h
    show Value.ref (ρ' k) = Value.ref (ρ k)
    rw [hr k (by omega)]
  | .inr (.inr (.inl _)), _ => rfl
  | .inr (.inr (.inr (.inl _))), _ => rfl
  | .inr (.inr (.inr (.inr _))), _ => rfl
theorem ev_cvs_cl {σ : Nat → Int32} {ρ ρ' : Nat → Nat} {n : Nat} (hr : ∀ i, i < n → ρ' i = ρ i) {l : List ev_V} (hv : l.all (ev_clV n) = true) : l.map (ev_cv σ ρ') = l.map (ev_cv σ ρ) :=
  List.map_congr_left fun v h => ev_cv_cl hr (List.all_eq_true.mp hv v h)
theorem ev_ce_cl {σ : Nat → Int32} {ρ ρ' : Nat → Nat} {ca : Nat → ClassId} {n : Nat} (hr : ∀ i, i < n → ρ' i = ρ i) {c : ev_C} (hv : ev_clC n c = true) : ev_ce σ ρ' ca c = ev_ce σ ρ ca c := by
  cases c with
  | inl o =>
    obtain ⟨i, fs⟩ := o
    show (Sum.inr (i, fs.map (ev_cv σ ρ')) : va_E) = Sum.inr (i, fs.map (ev_cv σ ρ))
    rw [ev_cvs_cl hr hv]
  | inr a => rfl
theorem ev_wl_push {σ : Nat → Int32} {ρ ρ' : Nat → Nat} {ca : Nat → ClassId} {h : ev_H} {n : Nat} {c : ev_C} (hn : n ≤ 127) (hr : ∀ i, i < n → ρ' i = ρ i) (hh : ev_clH n h = true) : ev_wl σ ρ' ca (ev_ts 7 h n c) (n + 1) = ev_wl σ ρ ca h n ++ [(ρ' n, ev_ce σ ρ' ca c)] := by
  have hl : (ev_wl σ ρ ca h n).length = n := by simp [ev_wl]
  refine List.ext_getElem? fun j => ?_
  by_cases hj : j < n
  · rw [ev_wl_get (by omega), List.getElem?_append_left (by omega), ev_wl_get hj, ev_tg_ts c 7 h n j (by show n < 128; omega) (by show j < 128; omega), if_neg (by omega), hr j hj, ev_ce_cl hr (List.all_eq_true.mp hh j (List.mem_range.mpr hj))]
  · by_cases e : j = n
    · subst e
      rw [ev_wl_get (by omega), List.getElem?_append_right (by omega), hl, ev_tg_ts c 7 h j j (by show j < 128; omega) (by show j < 128; omega), if_pos rfl]
      simp
    · rw [ev_wl_none (by omega), List.getElem?_append_right (by omega), hl, show j - n = (j - n - 1) + 1 by omega]
      rfl
/-! the places for values -/
def ev_pr (σ : Nat → Int32) (ρ : Nat → Nat) : Nat → List ev_V → List (Nat × Value)
  | _, [] => []
  | k, v :: r => match v with
    | .inr (.inr (.inr (.inr _))) => ev_pr σ ρ (k + 1) r
    | u => (k, ev_cv σ ρ u) :: ev_pr σ ρ (k + 1) r
theorem ev_pr_cons (σ : Nat → Int32) (ρ : Nat → Nat) (k : Nat) (v : ev_V) (r : List ev_V) (hv : v ≠ ev_U) : ev_pr σ ρ k (v :: r) = (k, ev_cv σ ρ v) :: ev_pr σ ρ (k + 1) r := by
  match v, hv with
  | .inl _, _ => rfl
  | .inr (.inl _), _ => rfl
  | .inr (.inr (.inl _)), _ => rfl
  | .inr (.inr (.inr (.inl _))), _ => rfl
  | .inr (.inr (.inr (.inr ()))), h => exact absurd rfl h
theorem ev_pr_mem {σ : Nat → Int32} {ρ : Nat → Nat} (l : List ev_V) : ∀ (k : Nat) (q : Nat × Value), q ∈ ev_pr σ ρ k l ↔ ∃ (j : Nat) (v : ev_V), l[j]? = some v ∧ v ≠ ev_U ∧ q = (k + j, ev_cv σ ρ v) := by
  induction l with
  | nil =>
    intro k q
    constructor
    · intro h
      cases h
    · rintro ⟨j, v, h, -⟩
      simp at h
  | cons a r ih =>
    intro k q
    by_cases ha : a = ev_U
    · subst ha
      show q ∈ ev_pr σ ρ (k + 1) r ↔ _
      rw [ih (k + 1) q]
      constructor
      · rintro ⟨j, v, h1, h2, rfl⟩
        exact ⟨j + 1, v, by simpa using h1, h2, by rw [show k + 1 + j = k + (j + 1) by omega]⟩
      · rintro ⟨j, v, h1, h2, rfl⟩
        cases j with
        | zero =>
          simp at h1
          exact absurd h1.symm h2
        | succ j => exact ⟨j, v, by simpa using h1, h2, by rw [show k + 1 + j = k + (j + 1) by omega]⟩
    · rw [ev_pr_cons σ ρ k a r ha, List.mem_cons, ih (k + 1) q]
      constructor
      · rintro (rfl | ⟨j, v, h1, h2, rfl⟩)
        · exact ⟨0, a, rfl, ha, rfl⟩
        · exact ⟨j + 1, v, by simpa using h1, h2, by rw [show k + 1 + j = k + (j + 1) by omega]⟩
      · rintro ⟨j, v, h1, h2, rfl⟩
        cases j with
        | zero =>
          simp at h1
          subst h1
          exact Or.inl rfl
        | succ j => exact Or.inr ⟨j, v, by simpa using h1, h2, by rw [show k + 1 + j = k + (j + 1) by omega]⟩
theorem ev_has_sub {ls : Array Slot} {nL : Nat} {l l' : List (Nat × Value)} (h : lv_has ls nL l) (hs : ∀ q ∈ l', q ∈ l) : lv_has ls nL l' := ⟨h.1, h.2.1, fun q hq => h.2.2 q (hs q hq)⟩
theorem ev_has_at {σ : Nat → Int32} {ρ : Nat → Nat} {la : Array Slot} {nL : Nat} {ls : List ev_V} (h : lv_has la nL (ev_pr σ ρ 0 ls)) {j : Nat} {v : ev_V} (hj : ev_ln ls j = v) (hv : v ≠ ev_U) : la[j]? = some (.val (ev_cv σ ρ v)) := by
  have := h.2.2 (0 + j, ev_cv σ ρ v) ((ev_pr_mem ls 0 _).mpr ⟨j, v, ev_ln_some hj hv, hv, rfl⟩)
  rwa [Nat.zero_add] at this
theorem ev_isl_cat {σ : Nat → Int32} {ρ : Nat → Nat} {v : ev_V} (h : ev_isl v = false) : (ev_cv σ ρ v).category = 1 := by
  match v, h with
  | .inl _, _ => rfl
  | .inr (.inl 0), _ => rfl
  | .inr (.inl (k + 1)), _ => rfl
  | .inr (.inr (.inr (.inl _))), _ => rfl
  | .inr (.inr (.inr (.inr _))), _ => rfl
theorem ev_nl_at {ls : List ev_V} {i : Nat} {u : ev_V} (h : ev_nl ls (i + 1) = true) (hu : ls[i]? = some u) : ev_isl u = false := by
  have h1 : Bool.not (ev_isl (ev_ln ls i)) = true := h
  rw [ev_ln_eq, List.getD_eq_getElem?_getD, hu] at h1
  simpa using h1
/-- what a store of one place leaves -/
theorem ev_has_set {σ : Nat → Int32} {ρ : Nat → Nat} {la : Array Slot} {nL : Nat} {ls : List ev_V} {j : Nat} {v : ev_V} (hn : ev_nl ls j = true) (h : lv_has la nL ((j, ev_cv σ ρ v) :: (ev_pr σ ρ 0 ls).filter (fun q => !(q.1 == j) && !(q.1 + 1 == j && q.2.category == 2)))) : lv_has la nL (ev_pr σ ρ 0 (ev_lp ls j v)) := by
  refine ev_has_sub h fun q hq => ?_
  rw [ev_lp_eq] at hq
  obtain ⟨i, u, h1, h2, rfl⟩ := (ev_pr_mem _ 0 q).mp hq
  rw [Nat.zero_add]
  by_cases e : i = j
  · subst e
    rw [List.getElem?_set] at h1
    simp at h1
    rw [← h1.2]
    exact List.mem_cons_self
  · rw [List.getElem?_set_ne (Ne.symm e)] at h1
    refine List.mem_cons_of_mem _ (List.mem_filter.mpr ⟨(ev_pr_mem _ 0 _).mpr ⟨i, u, h1, h2, by rw [Nat.zero_add]⟩, ?_⟩)
    simp only [Bool.and_eq_true, Bool.not_eq_true', beq_eq_false_iff_ne, ne_eq, Bool.and_eq_false_iff]
    refine ⟨e, ?_⟩
    by_cases e2 : i + 1 = j
    · subst e2
      right
      rw [ev_isl_cat (ev_nl_at hn h1)]
      decide
    · exact Or.inl e2
theorem ev_has_set2 {σ : Nat → Int32} {ρ : Nat → Nat} {la : Array Slot} {nL : Nat} {ls : List ev_V} {j : Nat} {v : ev_V} (hn : ev_nl ls j = true) (h : lv_has la nL ((j, ev_cv σ ρ v) :: (ev_pr σ ρ 0 ls).filter (fun q => !(q.1 == j) && (!(q.1 == j + 1) && !(q.1 + 1 == j && q.2.category == 2))))) : lv_has la nL (ev_pr σ ρ 0 (ev_lp (ev_lp ls (j + 1) ev_U) j v)) := by
  refine ev_has_sub h fun q hq => ?_
  rw [ev_lp_eq, ev_lp_eq] at hq
  obtain ⟨i, u, h1, h2, rfl⟩ := (ev_pr_mem _ 0 q).mp hq
  rw [Nat.zero_add]
  by_cases e : i = j
  · subst e
    rw [List.getElem?_set] at h1
    simp at h1
    rw [← h1.2]
    exact List.mem_cons_self
  · rw [List.getElem?_set_ne (Ne.symm e)] at h1
    by_cases e1 : i = j + 1
    · subst e1
      rw [List.getElem?_set] at h1
      simp at h1
      exact absurd h1.2.symm h2
    · rw [List.getElem?_set_ne (Ne.symm e1)] at h1
      refine List.mem_cons_of_mem _ (List.mem_filter.mpr ⟨(ev_pr_mem _ 0 _).mpr ⟨i, u, h1, h2, by rw [Nat.zero_add]⟩, ?_⟩)
      simp only [Bool.and_eq_true, Bool.not_eq_true', beq_eq_false_iff_ne, ne_eq, Bool.and_eq_false_iff]
      refine ⟨e, e1, ?_⟩
      by_cases e2 : i + 1 = j
      · subst e2
        right
        rw [ev_isl_cat (ev_nl_at hn h1)]
        decide
      · exact Or.inl e2
end
section
/-! ===== what the tables' instructions are in bytes, and which words they need ===== -/
def ev_sg (a : Nat) : Int := if a < 2147483648 then (a : Int) else (a : Int) - 4294967296
def ev_f4 (j : Nat) : Fin 4 := ⟨j % 4, Nat.mod_lt _ (by decide)⟩
def ev_num (v : ev_V) : Nat := match v with
  | .inl n => n
  | .inr (.inr (.inl n)) => n
  | _ => 0
def ev_own (m : ev_M) : String := m.2.2.2.2.2.1.cls
noncomputable def ev_off (m : ev_M) (pc t : Nat) : Int := (ev_pc m.1 t : Int) - (pc : Int)
def ev_cq (q : Bool × Bool × Bool) : Jvm.ClassFile.Cond := match q with
  | (true, false, false) => .lt
  | (true, true, false) => .le
  | (false, true, false) => .eq
  | (true, false, true) => .ne
  | (false, false, true) => .gt
  | _ => .ge
def ev_sq (q : Bool × Bool × Bool) : Bool := match q with
  | (true, true, true) => false
  | (false, false, false) => false
  | _ => true
def ev_xpu (x : ev_V × Nat × Nat) : Instr × Nat := match x.2.1 with
  | 0 => (.iconst (ev_sg (ev_num x.1)), 1)
  | 1 => (.bipush (ev_sg (ev_num x.1)), 2)
  | 2 => (.sipush (ev_sg (ev_num x.1)), 3)
  | 3 => (.lconst ⟨ev_num x.1 % 2, Nat.mod_lt _ (by decide)⟩, 1)
  | 4 => (.aconst_null, 1)
  | 5 => (.ldc x.2.2, 2)
  | 6 => (.ldc_w x.2.2, 3)
  | _ => (.ldc2_w x.2.2, 3)
def ev_spu (x : ev_V × Nat × Nat) : Bool := match x.1, x.2.1 with
  | .inl n, 0 => decide (Int32.ofInt (ev_sg n) = Int32.ofNat n)
  | .inl n, 1 => decide ((Int8.ofInt (ev_sg n)).toInt32 = Int32.ofNat n)
  | .inl n, 2 => decide ((Int16.ofInt (ev_sg n)).toInt32 = Int32.ofNat n)
  | .inr (.inr (.inl n)), 3 => decide (n < 2)
  | .inr (.inl 0), 4 => true
  | .inl _, 5 => true
  | .inl _, 6 => true
  | .inr (.inr (.inl _)), 7 => true
  | _, _ => false
def ev_wpu (m : ev_M) (x : ev_V × Nat × Nat) : List Jvm.Cond := match x.2.1 with
  | 5 => [.constant (ev_own m) x.2.2 (Int32.ofNat (ev_num x.1))]
  | 6 => [.constant (ev_own m) x.2.2 (Int32.ofNat (ev_num x.1))]
  | 7 => [.constantLong (ev_own m) x.2.2 (Int64.ofNat (ev_num x.1))]
  | _ => []
def ev_xib (op : Nat) : Instr := match op with
  | 0 => .iadd
  | 1 => .imul
  | 2 => .ishr
  | 3 => .iand
  | 4 => .isub
  | 5 => .ior
  | 6 => .ishl
  | _ => .iushr
def ev_xdv (x : Nat) : Instr × Nat := match x with
  | 0 => (.idiv, 1)
  | i + 1 => (.invokestatic i, 3)
def ev_wdv (m : ev_M) (x : Nat) : List Jvm.Cond := match x with
  | 0 => []
  | i + 1 => [.methodLink (ev_own m) i Lib.Math.min.name, .static Lib.Math.min.name, .initialized "java/lang/Math", .code Lib.Math.min.name Lib.Math.min.code 2 (some .int)]
def ev_xlb (op : Nat) : Instr := match op with
  | 0 => .land
  | 1 => .ladd
  | 2 => .lsub
  | _ => .lor
def ev_xls (op : Nat) : Instr := match op with
  | 0 => .lushr
  | _ => .lshl
def ev_xal (q : Nat) : Instr := match q with
  | 0 => .iaload
  | 1 => .laload
  | _ => .baload
def ev_xas (q : Nat) : Instr := match q with
  | 0 => .iastore
  | 1 => .lastore
  | _ => .bastore
def ev_xre (q : Nat) : Instr := match q with
  | 0 => .ireturn
  | 1 => .areturn
  | _ => .return_
def ev_xca (how idx : Nat) : Instr := match how with
  | 0 => .invokevirtual idx
  | 1 => .invokestatic idx
  | 4 => .invokestatic idx
  | _ => .invokespecial idx
def ev_xun (op : Nat) : Instr := match op with
  | 0 => .l2i
  | _ => .i2b
def ev_xst (op : Nat) : Instr := match op with
  | 0 => .dup
  | 1 => .dup2
  | _ => .pop
def ev_xna (q : Nat) : ArrayType := match q with
  | 0 => .int
  | 1 => .long
  | 2 => .boolean
  | _ => .byte
def ev_aty (q : Nat) : FieldType := match q with
  | 0 => .int
  | 1 => .long
  | 2 => .boolean
  | _ => .byte
def ev_kd (cl : List vw_C) (ci : Nat) : vw_C := cl.getD ci ("", fun _ => ("", "", "", false), 0)
def ev_fl (own : String) (idx : Nat) (q : vw_C) (k : Nat) : Jvm.Cond := .fieldLink own idx (q.2.1 k).1 (q.2.1 k).2.1 (q.2.1 k).2.2.1
def ev_m0 : ev_M := ([], 0, 0, 0, 0, ⟨"", "", ""⟩, ⟨#[]⟩, none)
def ev_mt (pg : List ev_M) (x : Nat) : ev_M := pg.getD x ev_m0
def ev_cw (m : ev_M) : Jvm.Cond := .code m.2.2.2.2.2.1 m.2.2.2.2.2.2.1 m.2.2.2.2.1 m.2.2.2.2.2.2.2
def ev_wca (own : String) (idx how : Nat) (m : ev_M) : List Jvm.Cond := match how with
  | 0 => [.methodLink own idx m.2.2.2.2.2.1, .instanceMethod m.2.2.2.2.2.1, .selects m.2.2.2.2.2.1.cls m.2.2.2.2.2.1 m.2.2.2.2.2.1, .initialized m.2.2.2.2.2.1.cls]
  | 1 => [.methodLink own idx m.2.2.2.2.2.1, .static m.2.2.2.2.2.1, .initialized m.2.2.2.2.2.1.cls]
  | 2 => [.methodLink own idx m.2.2.2.2.2.1, .instanceMethod m.2.2.2.2.2.1, .initialized m.2.2.2.2.2.1.cls]
  | 4 => [.static m.2.2.2.2.2.1, .initialized m.2.2.2.2.2.1.cls]
  | _ => [.instanceMethod m.2.2.2.2.2.1, .initialized m.2.2.2.2.2.1.cls]
/-- a field's kind, by its type -/
def ev_fk (ty : FieldType) : Nat := match ty with
  | .int => 0
  | .boolean => 1
  | .long => 2
  | .object _ => 3
  | .array _ => 3
  | _ => 9
def ev_spf (m : ev_M) (q : vw_C) (k fk : Nat) : Bool := decide (k < q.2.2) && (match parseFieldDescriptor (q.2.1 k).2.2.1 with
  | some ty => decide (ev_fk ty = fk)
  | none => false) && ((!(q.2.1 k).2.2.2) || (decide (m.2.2.2.2.2.1.name = "<init>") && decide ((q.2.1 k).1 = ev_own m)))
def ev_dvt (ty : FieldType) (v : Option ev_V) : Bool := match ty, v with
  | .long, some (.inr (.inr (.inl 0))) => true
  | .object _, some (.inr (.inl 0)) => true
  | .array _, some (.inr (.inl 0)) => true
  | .int, some (.inl 0) => true
  | .boolean, some (.inl 0) => true
  | .byte, some (.inl 0) => true
  | _, _ => false
def ev_snw (q : vw_C) (fs : List ev_V) : Bool := decide (fs.length = q.2.2) && (List.range q.2.2).all (fun j => match parseFieldDescriptor (q.2.1 j).2.2.1 with
  | some ty => ev_dvt ty fs[j]?
  | none => false)
def ev_sca (cl : List vw_C) (pg : List ev_M) (m : ev_M) (x : Nat × Nat × Nat × Nat × Nat × Nat × Nat) : Bool := decide (m.2.2.2.2.1 ≤ 21) && decide (m.2.2.2.2.2.1.cls ≠ "java/lang/invoke/MethodHandle") && decide (m.2.2.2.2.2.1.cls ≠ "java/lang/invoke/VarHandle") && decide (m.2.2.1 = x.2.2.2.2.2.1) && decide (m.2.2.2.1 = x.2.2.2.2.2.2) && (match x.2.2.2.2.1, x.2.2.1 with
  | 0, c + 1 => decide ((parseMethodDescriptor m.2.2.2.2.2.1.desc).map (fun d => d.parameters.length + 1) = some x.2.1) && decide ((ev_kd cl c).1 = m.2.2.2.2.2.1.cls) && (cl[c]?).isSome
  | 1, 0 => decide ((parseMethodDescriptor m.2.2.2.2.2.1.desc).map (fun d => d.parameters.length) = some x.2.1)
  | 2, _ + 1 => decide ((parseMethodDescriptor m.2.2.2.2.2.1.desc).map (fun d => d.parameters.length + 1) = some x.2.1) && decide (m.2.2.2.2.2.1.name = "<init>") && decide (m.2.2.2.2.2.2.2 = none)
  | 4, 0 => decide ((parseMethodDescriptor m.2.2.2.2.2.1.desc).map (fun d => d.parameters.length) = some x.2.1)
  | 5, _ + 1 => decide ((parseMethodDescriptor m.2.2.2.2.2.1.desc).map (fun d => d.parameters.length + 1) = some x.2.1) && decide (m.2.2.2.2.2.1.name = "<init>") && decide (m.2.2.2.2.2.2.2 = none)
  | _, _ => false)
noncomputable def ev_xi (m : ev_M) (pc : Nat) (i : ev_I) : Instr × Nat := match i with
  | .inl (.inl (.inl (.inl (.inl (x))))) => if x < 4 then (.iload_n (ev_f4 x), 1) else (.iload x, 2)
  | .inl (.inl (.inl (.inl (.inr (x))))) => if x < 4 then (.aload_n (ev_f4 x), 1) else (.aload x, 2)
  | .inl (.inl (.inl (.inr (.inl (x))))) => ev_xpu x
  | .inl (.inl (.inl (.inr (.inr (x))))) => (.if_icmp (ev_cq x.1) (ev_off m pc x.2), 3)
  | .inl (.inl (.inr (.inl (.inl (x))))) => (.getfield x.2.2.1, 3)
  | .inl (.inl (.inr (.inl (.inr (x))))) => (.goto (ev_off m pc x), 3)
  | .inl (.inl (.inr (.inr (.inl (x))))) => (.iinc x.1 (ev_sg x.2), 3)
  | .inl (.inl (.inr (.inr (.inr (x))))) => (ev_xib x, 1)
  | .inl (.inr (.inl (.inl (.inl (x))))) => (ev_xal x, 1)
  | .inl (.inr (.inl (.inl (.inr (x))))) => (ev_xas x, 1)
  | .inl (.inr (.inl (.inr (.inl (x))))) => (.ifCond (ev_cq x.1) (ev_off m pc x.2), 3)
  | .inl (.inr (.inl (.inr (.inr (x))))) => (ev_xre x, 1)
  | .inl (.inr (.inr (.inl (.inl (x))))) => (ev_xca x.2.2.2.2.1 x.2.2.2.1, 3)
  | .inl (.inr (.inr (.inl (.inr (x))))) => if x < 4 then (.istore_n (ev_f4 x), 1) else (.istore x, 2)
  | .inl (.inr (.inr (.inr (.inl (x))))) => ev_xdv x
  | .inl (.inr (.inr (.inr (.inr (x))))) => if x < 4 then (.lload_n (ev_f4 x), 1) else (.lload x, 2)
  | .inr (.inl (.inl (.inl (.inl (_))))) => (.nop, 0)
  | .inr (.inl (.inl (.inl (.inr (x))))) => (.putfield x.2.2.2.1, 3)
  | .inr (.inl (.inl (.inr (.inl (x))))) => (ev_xlb x, 1)
  | .inr (.inl (.inl (.inr (.inr (x))))) => (ev_xls x, 1)
  | .inr (.inl (.inr (.inl (.inl (_))))) => (.lcmp, 1)
  | .inr (.inl (.inr (.inl (.inr (x))))) => if x < 4 then (.lstore_n (ev_f4 x), 1) else (.lstore x, 2)
  | .inr (.inl (.inr (.inr (.inl (x))))) => (ev_xun x, 1)
  | .inr (.inl (.inr (.inr (.inr (x))))) => (ev_xst x, 1)
  | .inr (.inr (.inl (.inl (.inl (_))))) => (.arraylength, 1)
  | .inr (.inr (.inl (.inl (.inr (x))))) => (.newarray (ev_xna x), 2)
  | .inr (.inr (.inl (.inr (.inl (x))))) => (.new x.2.1, 3)
  | .inr (.inr (.inl (.inr (.inr (x))))) => (.invokespecial x, 3)
  | .inr (.inr (.inr (.inl (.inl (x))))) => (.invokestatic x, 3)
  | .inr (.inr (.inr (.inl (.inr (x))))) => (.tableswitch (ev_off m pc x.2.1) ((x.1 : Int) - 2147483648) ((x.1 : Int) - 2147483648 + (x.2.2.1.length : Int) - 1) (x.2.2.1.map (ev_off m pc)).toArray, x.2.2.2)
  | .inr (.inr (.inr (.inr (.inl (x))))) => (.ifnonnull (ev_off m pc x), 3)
  | .inr (.inr (.inr (.inr (.inr (x))))) => if x < 4 then (.astore_n (ev_f4 x), 1) else (.astore x, 2)
noncomputable def ev_wi (cl : List vw_C) (pg : List ev_M) (m : ev_M) (i : ev_I) : List Jvm.Cond := match i with
  | .inl (.inl (.inl (.inr (.inl (x))))) => ev_wpu m x
  | .inl (.inl (.inr (.inl (.inl (x))))) => if x.2.2.2 = 0 then [ev_fl (ev_own m) x.2.2.1 (ev_kd cl x.1) x.2.1] else []
  | .inl (.inr (.inr (.inl (.inl (x))))) => ev_wca (ev_own m) x.2.2.2.1 x.2.2.2.2.1 (ev_mt pg x.1)
  | .inl (.inr (.inr (.inr (.inl (x))))) => ev_wdv m x
  | .inr (.inl (.inl (.inl (.inr (x))))) => [ev_fl (ev_own m) x.2.2.2.1 (ev_kd cl x.1) x.2.1]
  | .inr (.inr (.inl (.inl (.inr (x))))) => [.arrayClass (ev_aty x)]
  | .inr (.inr (.inl (.inr (.inl (x))))) => [.classLink (ev_own m) x.2.1 (ev_kd cl x.1).1, .instantiable (ev_kd cl x.1).1 (ev_kd cl x.1).2.2, .initialized (ev_kd cl x.1).1]
  | .inr (.inr (.inl (.inr (.inr (x))))) => [.methodLink (ev_own m) x Lib.objectInit, .instanceMethod Lib.objectInit, .code Lib.objectInit ⟨#[0xb1]⟩ 1 none]
  | .inr (.inr (.inr (.inl (.inl (x))))) => [.methodLink (ev_own m) x arraycopyName, .native arraycopyName, .static arraycopyName, .initialized "java/lang/System"]
  | _ => []
noncomputable def ev_ni (cl : List vw_C) (pg : List ev_M) (m : ev_M) (i : ev_I) : List Jvm.Cond := match i with
  | .inl (.inl (.inr (.inl (.inl (x))))) => if x.2.2.2 = 0 then [] else [.fieldLinkNest (ev_own m) x.2.2.1 ((ev_kd cl x.1).2.1 x.2.1).1 ((ev_kd cl x.1).2.1 x.2.1).2.1 ((ev_kd cl x.1).2.1 x.2.1).2.2.1 "RegisterColours"]
  | .inl (.inr (.inr (.inl (.inl (x))))) => if x.2.2.2.2.1 < 4 then [] else [.methodLinkNest (ev_own m) x.2.2.2.1 (ev_mt pg x.1).2.2.2.2.2.1 "RegisterColours"]
  | _ => []
noncomputable def ev_si (cl : List vw_C) (pg : List ev_M) (m : ev_M) (i : ev_I) : Bool := match i with
  | .inl (.inl (.inl (.inr (.inl (x))))) => ev_spu x
  | .inl (.inl (.inl (.inr (.inr (x))))) => ev_sq x.1
  | .inl (.inl (.inr (.inl (.inl (x))))) => decide (x.2.1 < (ev_kd cl x.1).2.2) && (cl[x.1]?).isSome
  | .inl (.inl (.inr (.inr (.inl (x))))) => decide (x.1 < m.2.2.2.2.1)
  | .inl (.inl (.inr (.inr (.inr (x))))) => decide (x < 8)
  | .inl (.inr (.inl (.inl (.inl (x))))) => decide (x < 4)
  | .inl (.inr (.inl (.inl (.inr (x))))) => decide (x < 4)
  | .inl (.inr (.inl (.inr (.inl (x))))) => ev_sq x.1
  | .inl (.inr (.inl (.inr (.inr (x))))) => decide (x < 3)
  | .inl (.inr (.inr (.inl (.inl (x))))) => ev_sca cl pg (ev_mt pg x.1) x && (pg[x.1]?).isSome
  | .inl (.inr (.inr (.inl (.inr (x))))) => decide (x < m.2.2.2.2.1)
  | .inr (.inl (.inl (.inl (.inr (x))))) => ev_spf m (ev_kd cl x.1) x.2.1 x.2.2.1 && decide (x.2.2.2.2 = 0) && (cl[x.1]?).isSome
  | .inr (.inl (.inl (.inr (.inl (x))))) => decide (x < 4)
  | .inr (.inl (.inl (.inr (.inr (x))))) => decide (x < 2)
  | .inr (.inl (.inr (.inl (.inr (x))))) => decide (x + 1 < m.2.2.2.2.1)
  | .inr (.inl (.inr (.inr (.inl (x))))) => decide (x < 2)
  | .inr (.inl (.inr (.inr (.inr (x))))) => decide (x < 3)
  | .inr (.inr (.inl (.inl (.inr (x))))) => decide (x < 4)
  | .inr (.inr (.inl (.inr (.inl (x))))) => ev_snw (ev_kd cl x.1) x.2.2 && (cl[x.1]?).isSome
  | .inr (.inr (.inr (.inl (.inr (x))))) => decide (2147483648 ≤ x.1 ∧ x.1 + x.2.2.1.length ≤ 4294967296)
  | .inr (.inr (.inr (.inr (.inr (x))))) => decide (x < m.2.2.2.2.1)
  | _ => true
def ev_fal (i : ev_I) : Option Nat := match i with
  | .inr (.inl (.inl (.inl (.inl (x))))) => some x
  | _ => none
/-- the bytes at a place are these instructions, and the words that they need are at hand -/
def ev_okc (cl : List vw_C) (pg : List ev_M) (gw nw : List Jvm.Cond) (m : ev_M) : Nat → List ev_I → Prop
  | _, [] => True
  | pc, i :: r => match ev_fal i with
    | some t => ev_pc m.1 t = pc
    | none => decode m.2.2.2.2.2.2.1 pc = .ok (ev_xi m pc i) ∧ (∀ w ∈ ev_wi cl pg m i, w ∈ gw) ∧ (∀ w ∈ ev_ni cl pg m i, w ∈ nw) ∧ ev_si cl pg m i = true ∧ ev_okc cl pg gw nw m (pc + (ev_xi m pc i).2) r
def ev_mok (cl : List vw_C) (pg : List ev_M) (gw nw : List Jvm.Cond) (m : ev_M) : Prop := (∀ b ∈ m.1, ev_okc cl pg gw nw m b.1 b.2) ∧ ev_pc m.1 m.2.1 = 0 ∧ plainName (ev_own m) = true ∧ ev_cw m ∈ gw ∧ m.2.2.2.2.1 ≤ 21
theorem ev_okc_to {cl : List vw_C} {pg : List ev_M} {gw nw : List Jvm.Cond} {m : ev_M} (hm : ev_mok cl pg gw nw m) (t : Nat) : ev_okc cl pg gw nw m (ev_pc m.1 t) (ev_lb m.1 t) := by
  rcases ev_lb_eq m.1 t with ⟨h, -⟩ | ⟨b, h1, h2, h3⟩
  · rw [h]; trivial
  · rw [h2, h3]
    exact hm.1 b (List.mem_of_getElem? h1)
end
section
/-! ===== the evaluator is right: what it runs, the machine runs ===== -/
def ev_sat (σ : Nat → Int32) (e : ev_E) : Prop := ∀ (k lo hi : Nat), e[k]? = some (lo, hi) → lo ≤ ev_bi (σ k) ∧ ev_bi (σ k) ≤ hi
def ev_ty (ca : Nat → ClassId) : List (ClassId × FieldType) := [(ca 0, .int), (ca 1, .long), (ca 2, .boolean), (ca 3, .byte)]
def ev_ws (gw : List Jvm.Cond) (m : ev_M) : List Jvm.Cond := ev_cw m :: gw
def ev_rm (d : Nat) (m : ev_M) : Room := { frames := d, cells := m.2.2.1, slots := m.2.2.2.1, locals := 40 * d }
/-- what holds in a method's body -/
def ev_Cx (p : Program) (l : Launch) (e : Env) (R : Room) (s : State) (mm : MethodId) (args : Array Value) (below : List Frame) (meth : Method) (c : Code) (m : ev_M) (d : Nat) (dC : Nat → ClassId) (dI : Nat → Nat → Nat) (ca : Nat → ClassId) (cl : List vw_C) (gw nw : List Jvm.Cond) (A : Nat → Prop) : Prop :=
  p.tables.exec = Jvm.exec ∧ c.code = m.2.2.2.2.2.2.1 ∧ meth.sig.returnType = m.2.2.2.2.2.2.2 ∧ meth.locks = false ∧ c.maxLocals = m.2.2.2.2.1 ∧ s.vm.findClass (ev_own m) = some mm.cls ∧ meth.name = m.2.2.2.2.2.1.name ∧ (∀ w ∈ ev_ws gw m, w.before args s = true) ∧ va_K (dC, dI) cl (ev_ty ca) s ∧ (∀ w ∈ nw, va_Nw w s) ∧ R = ev_rm (d + 1) m ∧ ∀ q, s.heap.size ≤ q → A q
/-- what holds at a place of it -/
def ev_G (s : State) (m : ev_M) (dC : Nat → ClassId) (dI : Nat → Nat → Nat) (ca : Nat → ClassId) (cl : List vw_C) (A : Nat → Prop) (σ : Nat → Int32) (ρ0 : Nat → Nat) (n0 : Nat) (ρ : Nat → Nat) (ls : List ev_V) (la : Array Slot) (w : ev_Wd) (H : Heap) (locs : List Loc) : Prop :=
  lv_has la m.2.2.2.2.1 (ev_pr σ ρ 0 ls) ∧ ev_sat σ w.2.2.1 ∧ (n0 ≤ w.2.1 ∧ w.2.1 ≤ 128 ∧ (∀ i, i < n0 → ρ i = ρ0 i) ∧ (w.2.1 = n0 → ρ = ρ0)) ∧ va_P (dC, dI) cl (ev_wl σ ρ ca w.1 w.2.1) H ∧ va_D A (ev_wl σ ρ ca w.1 w.2.1) ∧ va_S A s.heap H locs
def ev_Sn (p : Program) (l : Launch) (e : Env) (R : Room) (s : State) (mm : MethodId) (args : Array Value) (below : List Frame) (meth : Method) (c : Code) (m : ev_M) (dC : Nat → ClassId) (dI : Nat → Nat → Nat) (ca : Nat → ClassId) (cl : List vw_C) (pg : List ev_M) (gw nw : List Jvm.Cond) (A : Nat → Prop) (σ : Nat → Int32) (ρ0 : Nat → Nat) (n0 : Nat) (Q : State → Prop) (os : List ev_O) (k : ev_K) : Prop :=
  ∀ (r : List ev_I) (ls st : List ev_V) (w : ev_Wd) (outs : List ev_O) (pc : Nat) (la : Array Slot) (ρ : Nat → Nat) (H : Heap) (locs : List Loc), ev_G s m dC dI ca cl A σ ρ0 n0 ρ ls la w H locs → ev_okc cl pg gw nw m pc r → k r ls st w = some outs → (∀ o ∈ outs, o ∈ os) → W p l e R s mm args below meth c H locs w.2.2.2.1 w.2.2.2.2 Q (F0 mm pc la (st.map (ev_cv σ ρ)))

section EVA
variable {p : Program} {l : Launch} {e : Env} {R : Room} {s : State} {mm : MethodId} {args : Array Value} {below : List Frame} {meth : Method} {c : Code}
variable {m : ev_M} {d n0 : Nat} {dC : Nat → ClassId} {dI : Nat → Nat → Nat} {ca : Nat → ClassId} {cl : List vw_C} {pg : List ev_M} {gw nw : List Jvm.Cond} {A : Nat → Prop} {σ : Nat → Int32} {ρ0 : Nat → Nat} {Q : State → Prop} {os outs : List ev_O}
variable {call : ev_Q} {k : ev_K} {r : List ev_I} {ls st : List ev_V} {w : ev_Wd} {pc : Nat} {la : Array Slot} {ρ : Nat → Nat} {H : Heap} {locs : List Loc}
/-! loads and stores, short and long -/
theorem ev_f4v {j : Nat} (h : j < 4) : ((ev_f4 j : Fin 4) : Nat) = j := Nat.mod_eq_of_lt h
section
variable {cc : ByteArray} {rest : List Value} {cells slots j : Nat}
theorem ev_ldi {x : Int32} (hx : p.tables.exec = Jvm.exec) (hb : c.code = cc) (hd : decode cc pc = .ok (if j < 4 then (.iload_n (ev_f4 j), 1) else (.iload j, 2))) (hl : la[j]? = some (.val (.int x))) (kk : W p l e R s mm args below meth c H locs cells slots Q (F0 mm (pc + (if j < 4 then ((.iload_n (ev_f4 j), 1) : Instr × Nat) else (.iload j, 2)).2) la (.int x :: rest))) : W p l e R s mm args below meth c H locs cells slots Q (F0 mm pc la rest) := by
  by_cases hj : j < 4
  · rw [if_pos hj] at hd kk
    exact lv_iload_n hx hb hd (ev_f4v hj) hl kk
  · rw [if_neg hj] at hd kk
    exact lv_iload hx hb hd hl kk
theorem ev_ldl {x : Int64} (hx : p.tables.exec = Jvm.exec) (hb : c.code = cc) (hd : decode cc pc = .ok (if j < 4 then (.lload_n (ev_f4 j), 1) else (.lload j, 2))) (hl : la[j]? = some (.val (.long x))) (kk : W p l e R s mm args below meth c H locs cells slots Q (F0 mm (pc + (if j < 4 then ((.lload_n (ev_f4 j), 1) : Instr × Nat) else (.lload j, 2)).2) la (.long x :: rest))) : W p l e R s mm args below meth c H locs cells slots Q (F0 mm pc la rest) := by
  by_cases hj : j < 4
  · rw [if_pos hj] at hd kk
    exact lv_lload_n hx hb hd (ev_f4v hj) hl kk
  · rw [if_neg hj] at hd kk
    exact lv_lload hx hb hd hl kk
theorem ev_lda {x : Nat} (hx : p.tables.exec = Jvm.exec) (hb : c.code = cc) (hd : decode cc pc = .ok (if j < 4 then (.aload_n (ev_f4 j), 1) else (.aload j, 2))) (hl : la[j]? = some (.val (ev_cr ρ x))) (kk : W p l e R s mm args below meth c H locs cells slots Q (F0 mm (pc + (if j < 4 then ((.aload_n (ev_f4 j), 1) : Instr × Nat) else (.aload j, 2)).2) la (ev_cr ρ x :: rest))) : W p l e R s mm args below meth c H locs cells slots Q (F0 mm pc la rest) := by
  cases x with
  | zero =>
    by_cases hj : j < 4
    · rw [if_pos hj] at hd kk
      exact lv_aload_nN hx hb hd (ev_f4v hj) hl kk
    · rw [if_neg hj] at hd kk
      exact lv_aloadN hx hb hd hl kk
  | succ x =>
    by_cases hj : j < 4
    · rw [if_pos hj] at hd kk
      exact lv_aload_n hx hb hd (ev_f4v hj) hl kk
    · rw [if_neg hj] at hd kk
      exact lv_aload hx hb hd hl kk
theorem ev_sti {x : Int32} {nL : Nat} {lv : List (Nat × Value)} (hx : p.tables.exec = Jvm.exec) (hb : c.code = cc) (hd : decode cc pc = .ok (if j < 4 then (.istore_n (ev_f4 j), 1) else (.istore j, 2))) (hh : lv_has la nL lv) (hn : j < nL) (kk : ∀ la' : Array Slot, lv_has la' nL ((j, Value.int x) :: lv.filter (fun q => !(q.1 == j) && !(q.1 + 1 == j && q.2.category == 2))) → W p l e R s mm args below meth c H locs cells slots Q (F0 mm (pc + (if j < 4 then ((.istore_n (ev_f4 j), 1) : Instr × Nat) else (.istore j, 2)).2) la' rest)) : W p l e R s mm args below meth c H locs cells slots Q (F0 mm pc la (.int x :: rest)) := by
  by_cases hj : j < 4
  · rw [if_pos hj] at hd kk
    exact lv_istore_n hx hb hd (ev_f4v hj) hh hn rfl kk
  · rw [if_neg hj] at hd kk
    exact lv_istore hx hb hd hh hn rfl kk
theorem ev_stl {x : Int64} {nL : Nat} {lv : List (Nat × Value)} (hx : p.tables.exec = Jvm.exec) (hb : c.code = cc) (hd : decode cc pc = .ok (if j < 4 then (.lstore_n (ev_f4 j), 1) else (.lstore j, 2))) (hh : lv_has la nL lv) (hn : j + 1 < nL) (kk : ∀ la' : Array Slot, lv_has la' nL ((j, Value.long x) :: lv.filter (fun q => !(q.1 == j) && (!(q.1 == j + 1) && !(q.1 + 1 == j && q.2.category == 2)))) → W p l e R s mm args below meth c H locs cells slots Q (F0 mm (pc + (if j < 4 then ((.lstore_n (ev_f4 j), 1) : Instr × Nat) else (.lstore j, 2)).2) la' rest)) : W p l e R s mm args below meth c H locs cells slots Q (F0 mm pc la (.long x :: rest)) := by
  by_cases hj : j < 4
  · rw [if_pos hj] at hd kk
    exact lv_lstore_n hx hb hd (ev_f4v hj) hh hn rfl kk
  · rw [if_neg hj] at hd kk
    exact lv_lstore hx hb hd hh hn rfl kk
theorem ev_sta {x : Nat} {nL : Nat} {lv : List (Nat × Value)} (hx : p.tables.exec = Jvm.exec) (hb : c.code = cc) (hd : decode cc pc = .ok (if j < 4 then (.astore_n (ev_f4 j), 1) else (.astore j, 2))) (hh : lv_has la nL lv) (hn : j < nL) (kk : ∀ la' : Array Slot, lv_has la' nL ((j, ev_cr ρ x) :: lv.filter (fun q => !(q.1 == j) && !(q.1 + 1 == j && q.2.category == 2))) → W p l e R s mm args below meth c H locs cells slots Q (F0 mm (pc + (if j < 4 then ((.astore_n (ev_f4 j), 1) : Instr × Nat) else (.astore j, 2)).2) la' rest)) : W p l e R s mm args below meth c H locs cells slots Q (F0 mm pc la (ev_cr ρ x :: rest)) := by
  cases x with
  | zero =>
    by_cases hj : j < 4
    · rw [if_pos hj] at hd kk
      exact lv_astore_nN hx hb hd (ev_f4v hj) hh hn rfl kk
    · rw [if_neg hj] at hd kk
      exact lv_astoreN hx hb hd hh hn rfl kk
  | succ x =>
    by_cases hj : j < 4
    · rw [if_pos hj] at hd kk
      exact lv_astore_n hx hb hd (ev_f4v hj) hh hn rfl kk
    · rw [if_neg hj] at hd kk
      exact lv_astore hx hb hd hh hn rfl kk
end
theorem es_li {x : Nat} (C : ev_Cx p l e R s mm args below meth c m d dC dI ca cl gw nw A) (hm : ev_mok cl pg gw nw m) (hk : ev_Sn p l e R s mm args below meth c m dC dI ca cl pg gw nw A σ ρ0 n0 Q os k) (G : ev_G s m dC dI ca cl A σ ρ0 n0 ρ ls la w H locs) (hok : ev_okc cl pg gw nw m pc (ei_li x :: r)) (h : ea_li x call k m r ls st w = some outs) (hos : ∀ o ∈ outs, o ∈ os) : W p l e R s mm args below meth c H locs w.2.2.2.1 w.2.2.2.2 Q (F0 mm pc la (st.map (ev_cv σ ρ))) := by
  obtain ⟨hd, -, -, -, hr⟩ := hok
  obtain ⟨hx, hb, -⟩ := C
  unfold ea_li at h
  match hv : ev_ln ls x, h with
  | .inl n, h => exact ev_ldi hx hb hd (ev_has_at G.1 hv (fun q => by cases q)) (hk _ _ _ _ _ _ _ _ _ _ G hr h hos)
  | .inr (.inr (.inr (.inl t))), h => exact ev_ldi hx hb hd (ev_has_at G.1 hv (fun q => by cases q)) (hk _ _ _ _ _ _ _ _ _ _ G hr h hos)
  | .inr (.inl _), h => cases h
  | .inr (.inr (.inl _)), h => cases h
  | .inr (.inr (.inr (.inr _))), h => cases h
theorem es_la {x : Nat} (C : ev_Cx p l e R s mm args below meth c m d dC dI ca cl gw nw A) (hm : ev_mok cl pg gw nw m) (hk : ev_Sn p l e R s mm args below meth c m dC dI ca cl pg gw nw A σ ρ0 n0 Q os k) (G : ev_G s m dC dI ca cl A σ ρ0 n0 ρ ls la w H locs) (hok : ev_okc cl pg gw nw m pc (ei_la x :: r)) (h : ea_la x call k m r ls st w = some outs) (hos : ∀ o ∈ outs, o ∈ os) : W p l e R s mm args below meth c H locs w.2.2.2.1 w.2.2.2.2 Q (F0 mm pc la (st.map (ev_cv σ ρ))) := by
  obtain ⟨hd, -, -, -, hr⟩ := hok
  obtain ⟨hx, hb, -⟩ := C
  unfold ea_la at h
  match hv : ev_ln ls x, h with
  | .inr (.inl y), h => exact ev_lda (ρ := ρ) (x := y) hx hb hd (ev_has_at G.1 hv (fun q => by cases q)) (hk _ _ _ _ _ _ _ _ _ _ G hr h hos)
  | .inl n, h => cases h
  | .inr (.inr _), h => cases h
theorem es_ll {x : Nat} (C : ev_Cx p l e R s mm args below meth c m d dC dI ca cl gw nw A) (hm : ev_mok cl pg gw nw m) (hk : ev_Sn p l e R s mm args below meth c m dC dI ca cl pg gw nw A σ ρ0 n0 Q os k) (G : ev_G s m dC dI ca cl A σ ρ0 n0 ρ ls la w H locs) (hok : ev_okc cl pg gw nw m pc (ei_ll x :: r)) (h : ea_ll x call k m r ls st w = some outs) (hos : ∀ o ∈ outs, o ∈ os) : W p l e R s mm args below meth c H locs w.2.2.2.1 w.2.2.2.2 Q (F0 mm pc la (st.map (ev_cv σ ρ))) := by
  obtain ⟨hd, -, -, -, hr⟩ := hok
  obtain ⟨hx, hb, -⟩ := C
  unfold ea_ll at h
  match hv : ev_ln ls x, h with
  | .inr (.inr (.inl y)), h => exact ev_ldl hx hb hd (ev_has_at G.1 hv (fun q => by cases q)) (hk _ _ _ _ _ _ _ _ _ _ G hr h hos)
  | .inl n, h => cases h
  | .inr (.inl _), h => cases h
  | .inr (.inr (.inr (.inl _))), h => cases h
  | .inr (.inr (.inr (.inr _))), h => cases h
theorem ev_G.loc (G : ev_G s m dC dI ca cl A σ ρ0 n0 ρ ls la w H locs) {ls' : List ev_V} {la' : Array Slot} (hl : lv_has la' m.2.2.2.2.1 (ev_pr σ ρ 0 ls')) : ev_G s m dC dI ca cl A σ ρ0 n0 ρ ls' la' w H locs := ⟨hl, G.2⟩
theorem ev_G.env (G : ev_G s m dC dI ca cl A σ ρ0 n0 ρ ls la w H locs) {e' : ev_E} (he : ev_sat σ e') : ev_G s m dC dI ca cl A σ ρ0 n0 ρ ls la (ev_we w e') H locs := ⟨G.1, he, G.2.2⟩
theorem es_si {x : Nat} (C : ev_Cx p l e R s mm args below meth c m d dC dI ca cl gw nw A) (hm : ev_mok cl pg gw nw m) (hk : ev_Sn p l e R s mm args below meth c m dC dI ca cl pg gw nw A σ ρ0 n0 Q os k) (G : ev_G s m dC dI ca cl A σ ρ0 n0 ρ ls la w H locs) (hok : ev_okc cl pg gw nw m pc (ei_si x :: r)) (h : ea_si x call k m r ls st w = some outs) (hos : ∀ o ∈ outs, o ∈ os) : W p l e R s mm args below meth c H locs w.2.2.2.1 w.2.2.2.2 Q (F0 mm pc la (st.map (ev_cv σ ρ))) := by
  obtain ⟨hd, -, -, hs, hr⟩ := hok
  have hs : x < m.2.2.2.2.1 := of_decide_eq_true hs
  obtain ⟨hx, hb, -⟩ := C
  unfold ea_si at h
  match st, h with
  | .inl n :: st', h =>
    cases hn : ev_nl ls x with
    | false => rw [hn] at h; cases h
    | true =>
      rw [hn] at h
      exact ev_sti hx hb hd G.1 hs (fun la' hl => hk _ _ _ _ _ _ _ _ _ _ (G.loc (ev_has_set (v := .inl n) hn hl)) hr h hos)
  | .inr (.inr (.inr (.inl t))) :: st', h =>
    cases hn : ev_nl ls x with
    | false => rw [hn] at h; cases h
    | true =>
      rw [hn] at h
      exact ev_sti hx hb hd G.1 hs (fun la' hl => hk _ _ _ _ _ _ _ _ _ _ (G.loc (ev_has_set (v := .inr (.inr (.inr (.inl t)))) hn hl)) hr h hos)
  | [], h => cases h
  | .inr (.inl _) :: _, h => cases h
  | .inr (.inr (.inl _)) :: _, h => cases h
  | .inr (.inr (.inr (.inr _))) :: _, h => cases h
theorem es_sa {x : Nat} (C : ev_Cx p l e R s mm args below meth c m d dC dI ca cl gw nw A) (hm : ev_mok cl pg gw nw m) (hk : ev_Sn p l e R s mm args below meth c m dC dI ca cl pg gw nw A σ ρ0 n0 Q os k) (G : ev_G s m dC dI ca cl A σ ρ0 n0 ρ ls la w H locs) (hok : ev_okc cl pg gw nw m pc (ei_sa x :: r)) (h : ea_sa x call k m r ls st w = some outs) (hos : ∀ o ∈ outs, o ∈ os) : W p l e R s mm args below meth c H locs w.2.2.2.1 w.2.2.2.2 Q (F0 mm pc la (st.map (ev_cv σ ρ))) := by
  obtain ⟨hd, -, -, hs, hr⟩ := hok
  have hs : x < m.2.2.2.2.1 := of_decide_eq_true hs
  obtain ⟨hx, hb, -⟩ := C
  unfold ea_sa at h
  match st, h with
  | .inr (.inl y) :: st', h =>
    cases hn : ev_nl ls x with
    | false => rw [hn] at h; cases h
    | true =>
      rw [hn] at h
      exact ev_sta (ρ := ρ) (x := y) hx hb hd G.1 hs (fun la' hl => hk _ _ _ _ _ _ _ _ _ _ (G.loc (ev_has_set (v := .inr (.inl y)) hn hl)) hr h hos)
  | [], h => cases h
  | .inl _ :: _, h => cases h
  | .inr (.inr _) :: _, h => cases h
theorem es_sl {x : Nat} (C : ev_Cx p l e R s mm args below meth c m d dC dI ca cl gw nw A) (hm : ev_mok cl pg gw nw m) (hk : ev_Sn p l e R s mm args below meth c m dC dI ca cl pg gw nw A σ ρ0 n0 Q os k) (G : ev_G s m dC dI ca cl A σ ρ0 n0 ρ ls la w H locs) (hok : ev_okc cl pg gw nw m pc (ei_sl x :: r)) (h : ea_sl x call k m r ls st w = some outs) (hos : ∀ o ∈ outs, o ∈ os) : W p l e R s mm args below meth c H locs w.2.2.2.1 w.2.2.2.2 Q (F0 mm pc la (st.map (ev_cv σ ρ))) := by
  obtain ⟨hd, -, -, hs, hr⟩ := hok
  have hs : x + 1 < m.2.2.2.2.1 := of_decide_eq_true hs
  obtain ⟨hx, hb, -⟩ := C
  unfold ea_sl at h
  match st, h with
  | .inr (.inr (.inl y)) :: st', h =>
    cases hn : ev_nl ls x with
    | false => rw [hn] at h; cases h
    | true =>
      rw [hn] at h
      exact ev_stl hx hb hd G.1 hs (fun la' hl => hk _ _ _ _ _ _ _ _ _ _ (G.loc (ev_has_set2 (v := .inr (.inr (.inl y))) hn hl)) hr h hos)
  | [], h => cases h
  | .inl _ :: _, h => cases h
  | .inr (.inl _) :: _, h => cases h
  | .inr (.inr (.inr (.inl _))) :: _, h => cases h
  | .inr (.inr (.inr (.inr _))) :: _, h => cases h
theorem es_ii {x : Nat × Nat} (C : ev_Cx p l e R s mm args below meth c m d dC dI ca cl gw nw A) (hm : ev_mok cl pg gw nw m) (hk : ev_Sn p l e R s mm args below meth c m dC dI ca cl pg gw nw A σ ρ0 n0 Q os k) (G : ev_G s m dC dI ca cl A σ ρ0 n0 ρ ls la w H locs) (hok : ev_okc cl pg gw nw m pc (ei_ii x :: r)) (h : ea_ii x call k m r ls st w = some outs) (hos : ∀ o ∈ outs, o ∈ os) : W p l e R s mm args below meth c H locs w.2.2.2.1 w.2.2.2.2 Q (F0 mm pc la (st.map (ev_cv σ ρ))) := by
  obtain ⟨hd, -, -, hs, hr⟩ := hok
  have hs : x.1 < m.2.2.2.2.1 := of_decide_eq_true hs
  obtain ⟨hx, hb, -⟩ := C
  unfold ea_ii at h
  match hv : ev_ln ls x.1, h with
  | .inl n, h =>
    have hl : ls[x.1]? = some (.inl n) := ev_ln_some hv (fun q => by cases q)
    have hmem : (x.1, Value.int (Int32.ofNat n)) ∈ ev_pr σ ρ 0 ls := (ev_pr_mem ls 0 _).mpr ⟨x.1, _, hl, fun q => (by cases q), by rw [Nat.zero_add]; rfl⟩
    obtain ⟨kk, hkk⟩ := List.getElem?_of_mem hmem
    have hn : ev_nl ls x.1 = true := by
      cases hj : x.1 with
      | zero => rfl
      | succ j =>
        show Bool.not (ev_isl (ev_ln ls j)) = true
        cases hi : ev_isl (ev_ln ls j) with
        | false => rfl
        | true =>
          exfalso
          match hu : ev_ln ls j, hi with
          | .inr (.inr (.inl y)), _ =>
            have h1 := ev_has_at G.1 hu (fun q => by cases q)
            have h2 := G.1.2.1.1 j _ h1 rfl
            have h3 := ev_has_at G.1 hv (fun q => by cases q)
            rw [hj] at h3
            rw [h3] at h2
            cases h2
    refine lv_iinc hx hb hd G.1 hkk (v := Int32.ofNat ((n + x.2) % 4294967296)) ?_ hs rfl (fun la' hl => hk _ _ _ _ _ _ _ _ _ _ (G.loc (ev_has_set (v := .inl ((n + x.2) % 4294967296)) hn hl)) hr h hos)
    rw [ev_md, ← ev_add]
    congr 1
    unfold ev_sg
    by_cases h2 : x.2 < 2147483648
    · rw [if_pos h2]; rfl
    · rw [if_neg h2]
      refine ev_e32 ?_
      show (BitVec.ofInt 32 ((x.2 : Int) - 4294967296)).toNat = _
      rw [BitVec.toNat_ofInt, ev_on]
      omega
  | .inr (.inl _), h => cases h
  | .inr (.inr _), h => cases h
theorem es_pu {x : ev_V × Nat × Nat} (C : ev_Cx p l e R s mm args below meth c m d dC dI ca cl gw nw A) (hm : ev_mok cl pg gw nw m) (hk : ev_Sn p l e R s mm args below meth c m dC dI ca cl pg gw nw A σ ρ0 n0 Q os k) (G : ev_G s m dC dI ca cl A σ ρ0 n0 ρ ls la w H locs) (hok : ev_okc cl pg gw nw m pc (ei_pu x :: r)) (h : ea_pu x call k m r ls st w = some outs) (hos : ∀ o ∈ outs, o ∈ os) : W p l e R s mm args below meth c H locs w.2.2.2.1 w.2.2.2.2 Q (F0 mm pc la (st.map (ev_cv σ ρ))) := by
  obtain ⟨hd, hw, -, hs, hr⟩ := hok
  have h : k r ls (x.1 :: st) w = some outs := h
  have K := hk _ _ _ _ _ _ _ _ _ _ G hr h hos
  obtain ⟨hx, hb, -, -, -, hown, -, hts, -⟩ := C
  have hw' : ∀ w ∈ ev_wpu m x, w.before args s = true := fun w h => hts w (List.mem_cons_of_mem _ (hw w h))
  obtain ⟨v, q, idx⟩ := x
  match v, q, hs, hd, K, hw' with
  | .inl n, 0, hs, hd, K, _ => exact lv_iconst hx hb hd (of_decide_eq_true hs) K
  | .inl n, 1, hs, hd, K, _ => exact lv_bipush hx hb hd (of_decide_eq_true hs) K
  | .inl n, 2, hs, hd, K, _ => exact lv_sipush hx hb hd (of_decide_eq_true hs) K
  | .inr (.inr (.inl n)), 3, hs, hd, K, _ =>
    have h2 : n < 2 := of_decide_eq_true hs
    refine lv_lconst hx hb hd ?_ K
    show Int64.ofNat (n % 2) = Int64.ofNat n
    rw [Nat.mod_eq_of_lt h2]
  | .inr (.inl 0), 4, hs, hd, K, _ => exact lv_null hx hb hd K
  | .inl n, 5, hs, hd, K, hw' => exact lv_ldc hx hb hown (hw' _ List.mem_cons_self) hd K
  | .inl n, 6, hs, hd, K, hw' => exact lv_ldcw hx hb hown (hw' _ List.mem_cons_self) hd K
  | .inr (.inr (.inl n)), 7, hs, hd, K, hw' => exact lv_ldc2 hx hb hown (hw' _ List.mem_cons_self) hd K
theorem es_go {x : Nat} (C : ev_Cx p l e R s mm args below meth c m d dC dI ca cl gw nw A) (hm : ev_mok cl pg gw nw m) (hk : ev_Sn p l e R s mm args below meth c m dC dI ca cl pg gw nw A σ ρ0 n0 Q os k) (G : ev_G s m dC dI ca cl A σ ρ0 n0 ρ ls la w H locs) (hok : ev_okc cl pg gw nw m pc (ei_go x :: r)) (h : ea_go x call k m r ls st w = some outs) (hos : ∀ o ∈ outs, o ∈ os) : W p l e R s mm args below meth c H locs w.2.2.2.1 w.2.2.2.2 Q (F0 mm pc la (st.map (ev_cv σ ρ))) := by
  obtain ⟨hd, -, -, -, hr⟩ := hok
  obtain ⟨hx, hb, -⟩ := C
  refine lv_goto (tgt := ev_pc m.1 x) hx hb hd ?_ (hk _ _ _ _ _ _ _ _ _ _ G (ev_okc_to hm x) h hos)
  unfold ev_off
  omega
theorem es_fa {x : Nat} (C : ev_Cx p l e R s mm args below meth c m d dC dI ca cl gw nw A) (hm : ev_mok cl pg gw nw m) (hk : ev_Sn p l e R s mm args below meth c m dC dI ca cl pg gw nw A σ ρ0 n0 Q os k) (G : ev_G s m dC dI ca cl A σ ρ0 n0 ρ ls la w H locs) (hok : ev_okc cl pg gw nw m pc (ei_fa x :: r)) (h : ea_go x call k m r ls st w = some outs) (hos : ∀ o ∈ outs, o ∈ os) : W p l e R s mm args below meth c H locs w.2.2.2.1 w.2.2.2.2 Q (F0 mm pc la (st.map (ev_cv σ ρ))) := by
  have hok : ev_pc m.1 x = pc := hok
  subst hok
  exact hk _ _ _ _ _ _ _ _ _ _ G (ev_okc_to hm x) h hos
end EVA
end
section
/-! ===== tokens: each of few values, or less, equal, greater ===== -/
theorem ev_jn_some {x y : ev_R} {outs : List ev_O} (h : ev_jn x y = some outs) : ∃ u v, x = some u ∧ y = some v ∧ (∀ o ∈ u, o ∈ outs) ∧ (∀ o ∈ v, o ∈ outs) := by
  cases x with
  | none => cases h
  | some u =>
    cases y with
    | none => cases h
    | some v =>
      have h : u ++ v = outs := Option.some.inj h
      subst h
      exact ⟨u, v, rfl, rfl, fun o ho => List.mem_append_left _ ho, fun o ho => List.mem_append_right _ ho⟩
theorem ev_en_some {f : Nat → ev_R} : ∀ (c lo : Nat) (outs : List ev_O), ev_en c lo f = some outs → ∀ v, lo ≤ v → v < lo + c → ∃ u, f v = some u ∧ ∀ o ∈ u, o ∈ outs
  | 0, lo, outs, _, v, h1, h2 => by omega
  | c + 1, lo, outs, h, v, h1, h2 => by
    obtain ⟨x, y, e1, e2, k1, k2⟩ := ev_jn_some (show ev_jn (f lo) (ev_en c (lo + 1) f) = some outs from h)
    by_cases hv : v = lo
    · subst hv
      exact ⟨x, e1, k1⟩
    · obtain ⟨u, e3, k3⟩ := ev_en_some c (lo + 1) y e2 v (by omega) (by omega)
      exact ⟨u, e3, fun o ho => k2 o (k3 o ho)⟩
theorem ev_sat_set {σ : Nat → Int32} {e : ev_E} {k a b : Nat} (hs : ev_sat σ e) (h1 : a ≤ ev_bi (σ k)) (h2 : ev_bi (σ k) ≤ b) : ev_sat σ (e.set k (a, b)) := by
  intro j lo hi hj
  by_cases hjk : k = j
  · subst hjk
    rw [List.getElem?_set] at hj
    simp at hj
    obtain ⟨-, rfl, rfl⟩ := hj
    exact ⟨h1, h2⟩
  · rw [List.getElem?_set_ne hjk] at hj
    exact hs j lo hi hj
theorem ev_rs_ok {σ : Nat → Int32} {t : ev_T} {e : ev_E} {f : Nat → ev_E → ev_R} {outs : List ev_O} (hs : ev_sat σ e) (h : ev_rs t e f = some outs) : ∃ v e' u, f v e' = some u ∧ (∀ o ∈ u, o ∈ outs) ∧ Int32.ofNat v = ev_ct σ t ∧ ev_sat σ e' := by
  obtain ⟨k, l⟩ := t
  cases l with
  | cons _ _ => cases h
  | nil =>
    unfold ev_rs at h
    dsimp only at h
    cases hk : e[k]? with
    | none => rw [hk] at h; cases h
    | some b =>
      obtain ⟨lo, hi⟩ := b
      rw [hk] at h
      dsimp only at h
      obtain ⟨b1, b2⟩ := hs k lo hi hk
      cases hq : Nat.beq lo hi with
      | true =>
        rw [hq] at h
        have e1 := ev_beq.mp hq
        have e2 : ev_bi (σ k) = lo := by omega
        exact ⟨ev_bs lo, e, outs, h, fun o ho => ho, by rw [ev_ct_nil, ← e2]; exact ev_bs_bi (σ k), hs⟩
      | false =>
        rw [hq] at h
        cases hq2 : Nat.ble (Nat.sub hi lo) 64 with
        | false => rw [hq2] at h; cases h
        | true =>
          rw [hq2] at h
          obtain ⟨u, h1, h2⟩ := ev_en_some _ _ _ h (ev_bi (σ k)) b1 (by show ev_bi (σ k) < lo + (hi - lo + 1); omega)
          exact ⟨_, _, u, h1, h2, by rw [ev_ct_nil]; exact ev_bs_bi (σ k), ev_sat_set hs (Nat.le_refl _) (Nat.le_refl _)⟩
theorem ev_sp_ok {σ : Nat → Int32} {t : ev_T} {y : Nat} {e : ev_E} {f g h : ev_E → ev_R} {outs : List ev_O} (hs : ev_sat σ e) (hh : ev_sp t y e f g h = some outs) : ∃ e' u, ev_sat σ e' ∧ (∀ o ∈ u, o ∈ outs) ∧ ((ev_bi (ev_ct σ t) < y ∧ f e' = some u) ∨ (ev_bi (ev_ct σ t) = y ∧ g e' = some u) ∨ (y < ev_bi (ev_ct σ t) ∧ h e' = some u)) := by
  obtain ⟨k, l⟩ := t
  cases l with
  | cons _ _ => cases hh
  | nil =>
    unfold ev_sp at hh
    dsimp only at hh
    cases hk : e[k]? with
    | none => rw [hk] at hh; cases hh
    | some b =>
      obtain ⟨lo, hi⟩ := b
      rw [hk] at hh
      dsimp only at hh
      obtain ⟨b1, b2⟩ := hs k lo hi hk
      obtain ⟨x1, x23, e1, e23, k1, k23⟩ := ev_jn_some hh
      obtain ⟨x2, x3, e2, e3, k2, k3⟩ := ev_jn_some e23
      rw [ev_ct_nil]
      rcases Nat.lt_trichotomy (ev_bi (σ k)) y with hc | hc | hc
      · rw [Nat.ble_eq_true_of_le (show Nat.succ lo ≤ y by omega)] at e1
        refine ⟨_, x1, ev_sat_set (k := k) hs b1 ?_, k1, Or.inl ⟨hc, e1⟩⟩
        show ev_bi (σ k) ≤ min hi (y - 1)
        omega
      · rw [Nat.ble_eq_true_of_le (show lo ≤ y by omega), Nat.ble_eq_true_of_le (show y ≤ hi by omega)] at e2
        exact ⟨_, x2, ev_sat_set (k := k) hs (by omega) (by omega), fun o ho => k23 o (k2 o ho), Or.inr (Or.inl ⟨hc, e2⟩)⟩
      · rw [Nat.ble_eq_true_of_le (show Nat.succ y ≤ hi by omega)] at e3
        refine ⟨_, x3, ev_sat_set (k := k) hs ?_ b2, fun o ho => k23 o (k3 o ho), Or.inr (Or.inr ⟨hc, e3⟩)⟩
        show max lo (y + 1) ≤ ev_bi (σ k)
        omega
/-! ===== arithmetic ===== -/
def ev_sem (op : Nat) (x y : Int32) : Int32 := match op with
  | 0 => x + y
  | 1 => x * y
  | 2 => x >>> (y &&& 31)
  | 3 => x &&& y
  | 4 => x - y
  | 5 => x ||| y
  | 6 => x <<< (y &&& 31)
  | _ => (x.toUInt32 >>> (y.toUInt32 &&& Int32.toUInt32 31)).toInt32
theorem ev_bin_ok (op a b : Nat) : ev_sem op (Int32.ofNat a) (Int32.ofNat b) = Int32.ofNat (ev_bin op a b) := by
  match op with
  | 0 => exact (ev_add a b).trans (ev_md _).symm
  | 1 => exact (ev_mul a b).trans (ev_md _).symm
  | 2 => exact ev_shr a b
  | 3 => exact ev_and a b
  | 4 => exact (ev_sub a b).trans (ev_md _).symm
  | 5 => exact ev_or a b
  | 6 => exact (ev_shl a b).trans (ev_md _).symm
  | _ + 7 => exact ev_ush a b
def ev_seml (op : Nat) (x y : Int64) : Int64 := match op with
  | 0 => x &&& y
  | 1 => x + y
  | 2 => x - y
  | _ => x ||| y
theorem ev_lbn_ok (op a b : Nat) : ev_seml op (Int64.ofNat a) (Int64.ofNat b) = Int64.ofNat (ev_lbn op a b) := by
  match op with
  | 0 => exact ev_land a b
  | 1 => exact (ev_ladd a b).trans (ev_mdl _).symm
  | 2 => exact (ev_lsub a b).trans (ev_mdl _).symm
  | _ + 3 => exact ev_lor a b
theorem ev_i3a {x y : Nat} {u v : Bool} (h : x ≤ y) : (if x < y then u else if x = y then u else v) = u := by
  by_cases h1 : x < y
  · rw [if_pos h1]
  · rw [if_neg h1, if_pos (by omega)]
section EVB
variable {p : Program} {l : Launch} {e : Env} {R : Room} {s : State} {mm : MethodId} {args : Array Value} {below : List Frame} {meth : Method} {c : Code}
variable {m : ev_M} {d n0 : Nat} {dC : Nat → ClassId} {dI : Nat → Nat → Nat} {ca : Nat → ClassId} {cl : List vw_C} {pg : List ev_M} {gw nw : List Jvm.Cond} {A : Nat → Prop} {σ : Nat → Int32} {ρ0 : Nat → Nat} {Q : State → Prop} {os outs : List ev_O}
variable {call : ev_Q} {k : ev_K} {r : List ev_I} {ls st : List ev_V} {w : ev_Wd} {pc : Nat} {la : Array Slot} {ρ : Nat → Nat} {H : Heap} {locs : List Loc}
section
variable {cc : ByteArray} {rest : List Value} {cells slots op : Nat}
theorem ev_bex {x y : Int32} (hx : p.tables.exec = Jvm.exec) (hb : c.code = cc) (hop : op < 8) (hd : decode cc pc = .ok (ev_xib op, 1)) (kk : W p l e R s mm args below meth c H locs cells slots Q (F0 mm (pc + 1) la (.int (ev_sem op x y) :: rest))) : W p l e R s mm args below meth c H locs cells slots Q (F0 mm pc la (.int y :: .int x :: rest)) := by
  match op, hop, hd, kk with
  | 0, _, hd, kk => exact lv_iadd hx hb hd kk
  | 1, _, hd, kk => exact lv_imul hx hb hd kk
  | 2, _, hd, kk => exact lv_ishr hx hb hd kk
  | 3, _, hd, kk => exact lv_iand hx hb hd kk
  | 4, _, hd, kk => exact lv_isub hx hb hd kk
  | 5, _, hd, kk => exact lv_ior hx hb hd kk
  | 6, _, hd, kk => exact lv_ishl hx hb hd kk
  | 7, _, hd, kk => exact lv_iushr hx hb hd rfl kk
theorem ev_bexl {x y : Int64} (hx : p.tables.exec = Jvm.exec) (hb : c.code = cc) (hop : op < 4) (hd : decode cc pc = .ok (ev_xlb op, 1)) (kk : W p l e R s mm args below meth c H locs cells slots Q (F0 mm (pc + 1) la (.long (ev_seml op x y) :: rest))) : W p l e R s mm args below meth c H locs cells slots Q (F0 mm pc la (.long y :: .long x :: rest)) := by
  match op, hop, hd, kk with
  | 0, _, hd, kk => exact lv_land hx hb hd kk
  | 1, _, hd, kk => exact lv_ladd hx hb hd kk
  | 2, _, hd, kk => exact lv_lsub hx hb hd kk
  | 3, _, hd, kk => exact lv_lor hx hb hd kk
theorem ev_cex {q : Bool × Bool × Bool} {x y : Int32} {off : Int} {tgt : Nat} (hx : p.tables.exec = Jvm.exec) (hb : c.code = cc) (hq : ev_sq q = true) (hd : decode cc pc = .ok (.if_icmp (ev_cq q) off, 3)) (ht : (pc : Int) + off = (tgt : Int)) (kt : ev_3w q (ev_bi x) (ev_bi y) = true → W p l e R s mm args below meth c H locs cells slots Q (F0 mm tgt la rest)) (kf : ev_3w q (ev_bi x) (ev_bi y) = false → W p l e R s mm args below meth c H locs cells slots Q (F0 mm (pc + 3) la rest)) : W p l e R s mm args below meth c H locs cells slots Q (F0 mm pc la (.int y :: .int x :: rest)) := by
  rw [ev_c3r] at kt kf
  have a1 := ev_bi_lt x y
  have a2 := ev_bi_le x y
  have a3 := ev_bi_eq x y
  have a4 := ev_bi_lt y x
  have a5 := ev_bi_le y x
  match q, hq, hd, kt, kf with
  | (true, false, false), _, hd, kt, kf => exact lv_icmp_lt hx hb hd ht (fun h => kt (by rw [if_pos (a1.mp h)])) (fun h => kf (by rw [if_neg (fun z => h (a1.mpr z))]; split <;> rfl))
  | (true, true, false), _, hd, kt, kf => exact lv_icmp_le hx hb hd ht (fun h => kt (ev_i3a (a2.mp h))) (fun h => kf (by have : ¬ ev_bi x ≤ ev_bi y := fun z => h (a2.mpr z); rw [if_neg (by omega), if_neg (by omega)]))
  | (false, true, false), _, hd, kt, kf => exact lv_icmp_eq hx hb hd ht (fun h => kt (by have := a3.mp h; rw [if_neg (by omega), if_pos (by omega)])) (fun h => kf (by have : ¬ ev_bi x = ev_bi y := fun z => h (a3.mpr z); rw [if_neg this]; split <;> rfl))
  | (true, false, true), _, hd, kt, kf => exact lv_icmp_ne hx hb hd ht (fun h => kt (by have : ¬ ev_bi x = ev_bi y := fun z => h (a3.mpr z); rw [if_neg this]; split <;> rfl)) (fun h => kf (by have : ev_bi x = ev_bi y := a3.mp h; rw [if_neg (by omega), if_pos (by omega)]))
  | (false, false, true), _, hd, kt, kf => exact lv_icmp_gt hx hb hd ht (fun h => kt (by have := a4.mp h; rw [if_neg (by omega), if_neg (by omega)])) (fun h => kf (ev_i3a (Nat.not_lt.mp (fun z => h (a4.mpr z)))))
  | (false, true, true), _, hd, kt, kf => exact lv_icmp_ge hx hb hd ht (fun h => kt (by have := a5.mp h; rw [if_neg (by omega)]; split <;> rfl)) (fun h => kf (by have : ¬ ev_bi y ≤ ev_bi x := fun z => h (a5.mpr z); rw [if_pos (by omega)]))
theorem ev_cex0 {q : Bool × Bool × Bool} {x : Int32} {off : Int} {tgt : Nat} (hx : p.tables.exec = Jvm.exec) (hb : c.code = cc) (hq : ev_sq q = true) (hd : decode cc pc = .ok (.ifCond (ev_cq q) off, 3)) (ht : (pc : Int) + off = (tgt : Int)) (kt : ev_3w q (ev_bi x) (ev_bi 0) = true → W p l e R s mm args below meth c H locs cells slots Q (F0 mm tgt la rest)) (kf : ev_3w q (ev_bi x) (ev_bi 0) = false → W p l e R s mm args below meth c H locs cells slots Q (F0 mm (pc + 3) la rest)) : W p l e R s mm args below meth c H locs cells slots Q (F0 mm pc la (.int x :: rest)) := by
  rw [ev_c3r] at kt kf
  have a1 := ev_bi_lt x 0
  have a2 := ev_bi_le x 0
  have a3 := ev_bi_eq x 0
  have a4 := ev_bi_lt 0 x
  have a5 := ev_bi_le 0 x
  generalize ev_bi 0 = z0 at *
  match q, hq, hd, kt, kf with
  | (true, false, false), _, hd, kt, kf => exact lv_if_lt hx hb hd ht (fun h => kt (by rw [if_pos (a1.mp h)])) (fun h => kf (by rw [if_neg (fun z => h (a1.mpr z))]; split <;> rfl))
  | (true, true, false), _, hd, kt, kf => exact lv_if_le hx hb hd ht (fun h => kt (ev_i3a (a2.mp h))) (fun h => kf (by have : ¬ ev_bi x ≤ z0 := fun z => h (a2.mpr z); rw [if_neg (by omega), if_neg (by omega)]))
  | (false, true, false), _, hd, kt, kf => exact lv_if_eq hx hb hd ht (fun h => kt (by have := a3.mp h; rw [if_neg (by omega), if_pos (by omega)])) (fun h => kf (by have : ¬ ev_bi x = z0 := fun z => h (a3.mpr z); rw [if_neg this]; split <;> rfl))
  | (true, false, true), _, hd, kt, kf => exact lv_if_ne hx hb hd ht (fun h => kt (by have : ¬ ev_bi x = z0 := fun z => h (a3.mpr z); rw [if_neg this]; split <;> rfl)) (fun h => kf (by have : ev_bi x = z0 := a3.mp h; rw [if_neg (by omega), if_pos (by omega)]))
  | (false, false, true), _, hd, kt, kf => exact lv_if_gt hx hb hd ht (fun h => kt (by have := a4.mp h; rw [if_neg (by omega), if_neg (by omega)])) (fun h => kf (ev_i3a (Nat.not_lt.mp (fun z => h (a4.mpr z)))))
  | (false, true, true), _, hd, kt, kf => exact lv_if_ge hx hb hd ht (fun h => kt (by have := a5.mp h; rw [if_neg (by omega)]; split <;> rfl)) (fun h => kf (by have : ¬ z0 ≤ ev_bi x := fun z => h (a5.mpr z); rw [if_pos (by omega)]))
end
theorem es_ib {x : Nat} (C : ev_Cx p l e R s mm args below meth c m d dC dI ca cl gw nw A) (hm : ev_mok cl pg gw nw m) (hk : ev_Sn p l e R s mm args below meth c m dC dI ca cl pg gw nw A σ ρ0 n0 Q os k) (G : ev_G s m dC dI ca cl A σ ρ0 n0 ρ ls la w H locs) (hok : ev_okc cl pg gw nw m pc (ei_ib x :: r)) (h : ea_ib x call k m r ls st w = some outs) (hos : ∀ o ∈ outs, o ∈ os) : W p l e R s mm args below meth c H locs w.2.2.2.1 w.2.2.2.2 Q (F0 mm pc la (st.map (ev_cv σ ρ))) := by
  have hok0 := hok
  obtain ⟨hd, -, -, hs, hr⟩ := hok
  have hs : x < 8 := of_decide_eq_true hs
  obtain ⟨hx, hb, -⟩ := C
  match st, h with
  | .inl b :: .inl a :: s', h =>
    refine ev_bex hx hb hs hd ?_
    rw [ev_bin_ok]
    exact hk _ _ _ _ _ _ _ _ _ _ G hr h hos
  | .inr (.inr (.inr (.inl t))) :: s', h =>
    obtain ⟨v, e', u, h1, h2, h3, h4⟩ := ev_rs_ok G.2.1 (show ev_rs t w.2.2.1 (fun v e => k (ei_ib x :: r) ls (.inl v :: s') (ev_we w e)) = some outs from h)
    have K := hk _ _ _ _ _ _ _ _ _ _ (G.env h4) hok0 h1 (fun o ho => hos o (h2 o ho))
    show W p l e R s mm args below meth c H locs w.2.2.2.1 w.2.2.2.2 Q (F0 mm pc la (.int (ev_ct σ t) :: s'.map (ev_cv σ ρ)))
    rw [← h3]
    exact K
  | .inl b :: .inr (.inr (.inr (.inl t))) :: s', h =>
    have h : Bool.rec (motive := fun _ => ev_R) (ev_rs t w.2.2.1 (fun v e => k (ei_ib x :: r) ls (.inl b :: .inl v :: s') (ev_we w e))) (k r ls (.inr (.inr (.inr (.inl (t.1, (x, b) :: t.2)))) :: s') w) (Bool.and (ev_wide t w.2.2.1) (Bool.or (Nat.beq x 2) (Bool.or (Nat.beq x 3) (Nat.beq x 7)))) = some outs := h
    cases hq : Bool.and (ev_wide t w.2.2.1) (Bool.or (Nat.beq x 2) (Bool.or (Nat.beq x 3) (Nat.beq x 7))) with
    | false =>
      rw [hq] at h
      obtain ⟨v, e', u, h1, h2, h3, h4⟩ := ev_rs_ok G.2.1 (show ev_rs t w.2.2.1 _ = some outs from h)
      have K := hk _ _ _ _ _ _ _ _ _ _ (G.env h4) hok0 h1 (fun o ho => hos o (h2 o ho))
      show W p l e R s mm args below meth c H locs w.2.2.2.1 w.2.2.2.2 Q (F0 mm pc la (.int (Int32.ofNat b) :: .int (ev_ct σ t) :: s'.map (ev_cv σ ρ)))
      rw [← h3]
      exact K
    | true =>
      rw [hq] at h
      refine ev_bex hx hb hs hd ?_
      have e1 : ev_sem x (ev_ct σ t) (Int32.ofNat b) = ev_ct σ (t.1, (x, b) :: t.2) := by
        rw [ev_ct_cons]
        have hq2 : (Bool.or (Nat.beq x 2) (Bool.or (Nat.beq x 3) (Nat.beq x 7))) = true := by
          cases hz : (Bool.or (Nat.beq x 2) (Bool.or (Nat.beq x 3) (Nat.beq x 7))) with
          | true => rfl
          | false => rw [hz] at hq; cases hw : ev_wide t w.2.2.1 <;> rw [hw] at hq <;> cases hq
        match x, hq2 with
        | 2, _ => rfl
        | 3, _ => rfl
        | 7, _ => rfl
      rw [e1]
      exact hk _ _ _ _ _ _ _ _ _ _ G hr h hos
theorem ev_cat_ok2 (σ : Nat → Int32) (ρ : Nat → Nat) (l : List ev_V) : ((l.map (ev_cv σ ρ)).map (fun v => v.category)).sum = ev_cat l := by
  induction l with
  | nil => rfl
  | cons v r ih =>
    rw [List.map_cons, List.map_cons, List.sum_cons, ih]
    show _ = Bool.rec (motive := fun _ => Nat) (Nat.succ (ev_cat r)) (Nat.succ (Nat.succ (ev_cat r))) (ev_isl v)
    cases hv : ev_isl v with
    | false => rw [ev_isl_cat hv]; exact Nat.add_comm 1 _
    | true =>
      match v, hv with
      | .inr (.inr (.inl n)), _ => exact Nat.add_comm 2 _
theorem es_dv {x : Nat} (C : ev_Cx p l e R s mm args below meth c m d dC dI ca cl gw nw A) (hm : ev_mok cl pg gw nw m) (hk : ev_Sn p l e R s mm args below meth c m dC dI ca cl pg gw nw A σ ρ0 n0 Q os k) (G : ev_G s m dC dI ca cl A σ ρ0 n0 ρ ls la w H locs) (hok : ev_okc cl pg gw nw m pc (ei_dv x :: r)) (h : ea_dv x call k m r ls st w = some outs) (hos : ∀ o ∈ outs, o ∈ os) : W p l e R s mm args below meth c H locs w.2.2.2.1 w.2.2.2.2 Q (F0 mm pc la (st.map (ev_cv σ ρ))) := by
  have hok0 := hok
  obtain ⟨hd, hw, -, hs, hr⟩ := hok
  obtain ⟨hx, hb, -, -, hml, hown, -, hts, -, -, hR, -⟩ := C
  unfold ea_dv at h
  match x, st, h, hd, hw, hr, hok0 with
  | 0, .inl b :: .inl a :: s', h, hd, _, hr, _ =>
    have h : Bool.rec (motive := fun _ => ev_R) none (k r ls (.inl (Nat.div a b) :: s') w) (Bool.and (Nat.ble a 2147483647) (Bool.and (Nat.ble b 2147483647) (Nat.ble 1 b))) = some outs := h
    cases h1 : Nat.ble a 2147483647 with
    | false => rw [h1] at h; cases h
    | true =>
      cases h2 : Nat.ble b 2147483647 with
      | false => rw [h1, h2] at h; cases h
      | true =>
        cases h3 : Nat.ble 1 b with
        | false => rw [h1, h2, h3] at h; cases h
        | true =>
          rw [h1, h2, h3] at h
          have g1 := Nat.le_of_ble_eq_true h1
          have g2 := Nat.le_of_ble_eq_true h2
          have g3 := Nat.le_of_ble_eq_true h3
          refine lv_idiv hx hb hd (nI_ne0 (by omega) (by omega)) ?_
          rw [ev_div a b g1 g2 g3]
          exact hk _ _ _ _ _ _ _ _ _ _ G hr h hos
  | i + 1, .inl b :: .inl a :: s', h, hd, hw, hr, _ =>
    have h : Bool.rec (motive := fun _ => ev_R) none (k r ls (.inl (Bool.rec (motive := fun _ => Nat) a b (ev_c3 (true, false, false) b a)) :: s') w) (Bool.and (Nat.ble (ev_cat s') 8) (Bool.and (Nat.ble w.2.2.2.1 m.2.2.1) (Nat.ble w.2.2.2.2 m.2.2.2.1))) = some outs := h
    cases h1 : Nat.ble (ev_cat s') 8 with
    | false => rw [h1] at h; cases h
    | true =>
      cases h2 : Nat.ble w.2.2.2.1 m.2.2.1 with
      | false => rw [h1, h2] at h; cases h
      | true =>
        cases h3 : Nat.ble w.2.2.2.2 m.2.2.2.1 with
        | false => rw [h1, h2, h3] at h; cases h
        | true =>
          rw [h1, h2, h3] at h
          have g1 := Nat.le_of_ble_eq_true h1
          have hw' : ∀ w ∈ ev_wdv m (i + 1), w.before args s = true := fun w h => hts w (List.mem_cons_of_mem _ (hw w h))
          have K := hk _ _ _ _ _ _ _ _ _ _ G hr h hos
          subst hR
          refine va_mmin hx hb (hml.trans G.1.1.symm) hown (hw' _ List.mem_cons_self) (hw' _ (List.mem_cons_of_mem _ List.mem_cons_self)) (hw' _ (List.mem_cons_of_mem _ (List.mem_cons_of_mem _ List.mem_cons_self))) (hw' _ (List.mem_cons_of_mem _ (List.mem_cons_of_mem _ (List.mem_cons_of_mem _ List.mem_cons_self)))) (by show 1 ≤ d + 1; omega) ?_ (Nat.le_of_ble_eq_true h2) (Nat.le_of_ble_eq_true h3) hd ?_
          · rw [ev_cat_ok2]
            show ev_cat s' + 13 ≤ 40 * (d + 1)
            omega
          · have e1 : (if Int32.ofNat b < Int32.ofNat a then Int32.ofNat b else Int32.ofNat a) = Int32.ofNat (Bool.rec (motive := fun _ => Nat) a b (ev_c3 (true, false, false) b a)) := by
              have hlt := ev_bi_lt (Int32.ofNat b) (Int32.ofNat a)
              rw [ev_bi_of, ev_bi_of] at hlt
              rw [ev_c3_ok]
              by_cases hc : ev_bs b < ev_bs a
              · rw [if_pos (hlt.mpr hc), if_pos hc]
              · rw [if_neg (fun z => hc (hlt.mp z)), if_neg hc]
                split <;> rfl
            rw [e1]
            exact K
  | i + 1, .inr (.inr (.inr (.inl t))) :: s', h, hd, hw, hr, hok0 =>
    obtain ⟨v, e', u, h1, h2, h3, h4⟩ := ev_rs_ok G.2.1 h
    have K := hk _ _ _ (ev_we w e') _ _ _ _ _ _ (G.env h4) hok0 h1 (fun o ho => hos o (h2 o ho))
    show W p l e R s mm args below meth c H locs w.2.2.2.1 w.2.2.2.2 Q (F0 mm pc la (.int (ev_ct σ t) :: s'.map (ev_cv σ ρ)))
    rw [← h3]
    exact K
  | i + 1, .inl b :: .inr (.inr (.inr (.inl t))) :: s', h, hd, hw, hr, hok0 =>
    obtain ⟨v, e', u, h1, h2, h3, h4⟩ := ev_rs_ok G.2.1 h
    have K := hk _ _ _ (ev_we w e') _ _ _ _ _ _ (G.env h4) hok0 h1 (fun o ho => hos o (h2 o ho))
    show W p l e R s mm args below meth c H locs w.2.2.2.1 w.2.2.2.2 Q (F0 mm pc la (.int (Int32.ofNat b) :: .int (ev_ct σ t) :: s'.map (ev_cv σ ρ)))
    rw [← h3]
    exact K
theorem es_lb {x : Nat} (C : ev_Cx p l e R s mm args below meth c m d dC dI ca cl gw nw A) (hm : ev_mok cl pg gw nw m) (hk : ev_Sn p l e R s mm args below meth c m dC dI ca cl pg gw nw A σ ρ0 n0 Q os k) (G : ev_G s m dC dI ca cl A σ ρ0 n0 ρ ls la w H locs) (hok : ev_okc cl pg gw nw m pc (ei_lb x :: r)) (h : ea_lb x call k m r ls st w = some outs) (hos : ∀ o ∈ outs, o ∈ os) : W p l e R s mm args below meth c H locs w.2.2.2.1 w.2.2.2.2 Q (F0 mm pc la (st.map (ev_cv σ ρ))) := by
  obtain ⟨hd, -, -, hs, hr⟩ := hok
  have hs : x < 4 := of_decide_eq_true hs
  obtain ⟨hx, hb, -⟩ := C
  unfold ea_lb at h
  match st, h with
  | .inr (.inr (.inl b)) :: .inr (.inr (.inl a)) :: s', h =>
    refine ev_bexl hx hb hs hd ?_
    rw [ev_lbn_ok]
    exact hk _ _ _ _ _ _ _ _ _ _ G hr h hos
theorem es_ls {x : Nat} (C : ev_Cx p l e R s mm args below meth c m d dC dI ca cl gw nw A) (hm : ev_mok cl pg gw nw m) (hk : ev_Sn p l e R s mm args below meth c m dC dI ca cl pg gw nw A σ ρ0 n0 Q os k) (G : ev_G s m dC dI ca cl A σ ρ0 n0 ρ ls la w H locs) (hok : ev_okc cl pg gw nw m pc (ei_ls x :: r)) (h : ea_ls x call k m r ls st w = some outs) (hos : ∀ o ∈ outs, o ∈ os) : W p l e R s mm args below meth c H locs w.2.2.2.1 w.2.2.2.2 Q (F0 mm pc la (st.map (ev_cv σ ρ))) := by
  have hok0 := hok
  obtain ⟨hd, -, -, hs, hr⟩ := hok
  have hs : x < 2 := of_decide_eq_true hs
  obtain ⟨hx, hb, -⟩ := C
  unfold ea_ls at h
  match st, h with
  | .inl b :: .inr (.inr (.inl a)) :: s', h =>
    have K := hk _ _ _ _ _ _ _ _ _ _ G hr h hos
    match x, hs, hd, K with
    | 0, _, hd, K => exact lv_lushr hx hb hd (ev_lush a b) K
    | 1, _, hd, K => exact lv_lshl hx hb hd ((ev_lshl a b).trans (ev_mdl _).symm) K
  | .inr (.inr (.inr (.inl t))) :: s', h =>
    obtain ⟨v, e', u, h1, h2, h3, h4⟩ := ev_rs_ok G.2.1 h
    have K := hk _ _ _ _ _ _ _ _ _ _ (G.env h4) hok0 h1 (fun o ho => hos o (h2 o ho))
    show W p l e R s mm args below meth c H locs w.2.2.2.1 w.2.2.2.2 Q (F0 mm pc la (.int (ev_ct σ t) :: s'.map (ev_cv σ ρ)))
    rw [← h3]
    exact K
theorem es_lc (C : ev_Cx p l e R s mm args below meth c m d dC dI ca cl gw nw A) (hm : ev_mok cl pg gw nw m) (hk : ev_Sn p l e R s mm args below meth c m dC dI ca cl pg gw nw A σ ρ0 n0 Q os k) (G : ev_G s m dC dI ca cl A σ ρ0 n0 ρ ls la w H locs) (hok : ev_okc cl pg gw nw m pc (ei_lc :: r)) (h : ea_lc call k m r ls st w = some outs) (hos : ∀ o ∈ outs, o ∈ os) : W p l e R s mm args below meth c H locs w.2.2.2.1 w.2.2.2.2 Q (F0 mm pc la (st.map (ev_cv σ ρ))) := by
  obtain ⟨hd, -, -, hs, hr⟩ := hok
  obtain ⟨hx, hb, -⟩ := C
  unfold ea_lc at h
  match st, h with
  | .inr (.inr (.inl b)) :: .inr (.inr (.inl a)) :: s', h =>
    refine W.lcmp hx hb hd ?_
    rw [ev_lcm_ok]
    exact hk _ _ _ _ _ _ _ _ _ _ G hr h hos
theorem es_un {x : Nat} (C : ev_Cx p l e R s mm args below meth c m d dC dI ca cl gw nw A) (hm : ev_mok cl pg gw nw m) (hk : ev_Sn p l e R s mm args below meth c m dC dI ca cl pg gw nw A σ ρ0 n0 Q os k) (G : ev_G s m dC dI ca cl A σ ρ0 n0 ρ ls la w H locs) (hok : ev_okc cl pg gw nw m pc (ei_un x :: r)) (h : ea_un x call k m r ls st w = some outs) (hos : ∀ o ∈ outs, o ∈ os) : W p l e R s mm args below meth c H locs w.2.2.2.1 w.2.2.2.2 Q (F0 mm pc la (st.map (ev_cv σ ρ))) := by
  obtain ⟨hd, -, -, hs, hr⟩ := hok
  have hs : x < 2 := of_decide_eq_true hs
  obtain ⟨hx, hb, -⟩ := C
  unfold ea_un at h
  match st, h with
  | .inr (.inr (.inl a)) :: s', h =>
    match x, hs, hd, hr, h with
    | 0, _, hd, hr, h => exact lv_l2i hx hb hd (ev_l2i a) (hk _ _ _ _ _ _ _ _ _ _ G hr h hos)
    | 1, _, _, _, h => cases h
  | .inl a :: s', h =>
    match x, hs, hd, hr, h with
    | 1, _, hd, hr, h => exact lv_i2b hx hb hd (ev_i2b_ok a) (hk _ _ _ _ _ _ _ _ _ _ G hr h hos)
    | 0, _, _, _, h => cases h
  | .inr (.inr (.inr (.inl t))) :: s', h =>
    match x, hs, hd, hr, h with
    | 1, _, hd, hr, h => exact lv_i2b hx hb hd rfl (hk _ _ _ _ _ _ _ _ _ _ G hr h hos)
    | 0, _, _, _, h => cases h
theorem es_st {x : Nat} (C : ev_Cx p l e R s mm args below meth c m d dC dI ca cl gw nw A) (hm : ev_mok cl pg gw nw m) (hk : ev_Sn p l e R s mm args below meth c m dC dI ca cl pg gw nw A σ ρ0 n0 Q os k) (G : ev_G s m dC dI ca cl A σ ρ0 n0 ρ ls la w H locs) (hok : ev_okc cl pg gw nw m pc (ei_st x :: r)) (h : ea_st x call k m r ls st w = some outs) (hos : ∀ o ∈ outs, o ∈ os) : W p l e R s mm args below meth c H locs w.2.2.2.1 w.2.2.2.2 Q (F0 mm pc la (st.map (ev_cv σ ρ))) := by
  obtain ⟨hd, -, -, hs, hr⟩ := hok
  have hs : x < 3 := of_decide_eq_true hs
  obtain ⟨hx, hb, -⟩ := C
  unfold ea_st at h
  match x, st, hs, hd, hr, h with
  | 0, v :: s', _, hd, hr, h =>
    cases hv : ev_isl v with
    | true => simp only [hv] at h; cases h
    | false =>
      simp only [hv] at h
      exact lv_dup hx hb hd (ev_isl_cat hv) (hk _ _ _ _ _ _ _ _ _ _ G hr h hos)
  | 1, v :: u :: s', _, hd, hr, h =>
    cases hv : ev_isl v with
    | true => simp only [hv] at h; cases h
    | false =>
      cases hu : ev_isl u with
      | true => simp only [hv, hu] at h; cases h
      | false =>
        simp only [hv, hu] at h
        exact lv_dup2_11 hx hb hd (ev_isl_cat hv) (ev_isl_cat hu) (hk _ _ _ _ _ _ _ _ _ _ G hr h hos)
  | 2, v :: s', _, hd, hr, h =>
    cases hv : ev_isl v with
    | true => simp only [hv] at h; cases h
    | false =>
      simp only [hv] at h
      exact lv_pop hx hb hd (ev_isl_cat hv) (hk _ _ _ _ _ _ _ _ _ _ G hr h hos)
theorem ev_to_ok (C : ev_Cx p l e R s mm args below meth c m d dC dI ca cl gw nw A) (hm : ev_mok cl pg gw nw m) (hk : ev_Sn p l e R s mm args below meth c m dC dI ca cl pg gw nw A σ ρ0 n0 Q os k) (G : ev_G s m dC dI ca cl A σ ρ0 n0 ρ ls la w H locs) {t : Nat} (hr : ev_okc cl pg gw nw m (pc + 3) r) {b : Bool} {e' : ev_E} (he : ev_sat σ e') (h : ev_to b k m t r ls st w e' = some outs) (hos : ∀ o ∈ outs, o ∈ os) : (b = true → W p l e R s mm args below meth c H locs w.2.2.2.1 w.2.2.2.2 Q (F0 mm (ev_pc m.1 t) la (st.map (ev_cv σ ρ)))) ∧ (b = false → W p l e R s mm args below meth c H locs w.2.2.2.1 w.2.2.2.2 Q (F0 mm (pc + 3) la (st.map (ev_cv σ ρ)))) := by
  constructor
  · rintro rfl
    exact hk _ _ _ (ev_we w e') _ _ _ _ _ _ (G.env he) (ev_okc_to hm t) h hos
  · rintro rfl
    exact hk _ _ _ (ev_we w e') _ _ _ _ _ _ (G.env he) hr h hos
theorem ev_3tri (q : Bool × Bool × Bool) (x y : Nat) : (x < y → ev_3w q x y = q.1) ∧ (x = y → ev_3w q x y = q.2.1) ∧ (y < x → ev_3w q x y = q.2.2) := by
  rw [ev_c3r]
  refine ⟨fun h => by rw [if_pos h], fun h => by rw [if_neg (by omega), if_pos h], fun h => by rw [if_neg (by omega), if_neg (by omega)]⟩
theorem es_ic {x : (Bool × Bool × Bool) × Nat} (C : ev_Cx p l e R s mm args below meth c m d dC dI ca cl gw nw A) (hm : ev_mok cl pg gw nw m) (hk : ev_Sn p l e R s mm args below meth c m dC dI ca cl pg gw nw A σ ρ0 n0 Q os k) (G : ev_G s m dC dI ca cl A σ ρ0 n0 ρ ls la w H locs) (hok : ev_okc cl pg gw nw m pc (ei_ic x :: r)) (h : ea_ic x call k m r ls st w = some outs) (hos : ∀ o ∈ outs, o ∈ os) : W p l e R s mm args below meth c H locs w.2.2.2.1 w.2.2.2.2 Q (F0 mm pc la (st.map (ev_cv σ ρ))) := by
  obtain ⟨hd, -, -, hs, hr⟩ := hok
  have hC := C
  obtain ⟨hx, hb, -⟩ := C
  have ht : (pc : Int) + ev_off m pc x.2 = (ev_pc m.1 x.2 : Int) := by unfold ev_off; omega
  match st, h with
  | .inl b :: .inl a :: s', h =>
    have h : Bool.rec (motive := fun _ => ev_R) (k r ls s' w) (k (ev_lb m.1 x.2) ls s' w) (ev_c3 x.1 a b) = some outs := h
    refine ev_cex hx hb hs hd ht (fun q => ?_) (fun q => ?_)
    · rw [ev_bi_of, ev_bi_of] at q
      rw [show ev_c3 x.1 a b = true from q] at h
      exact hk _ _ _ _ _ _ _ _ _ _ G (ev_okc_to hm x.2) h hos
    · rw [ev_bi_of, ev_bi_of] at q
      rw [show ev_c3 x.1 a b = false from q] at h
      exact hk _ _ _ _ _ _ _ _ _ _ G hr h hos
  | .inl b :: .inr (.inr (.inr (.inl t))) :: s', h =>
    obtain ⟨e', u, h1, h2, h3⟩ := ev_sp_ok G.2.1 (show ev_sp t (ev_bs b) w.2.2.1 (ev_to x.1.1 k m x.2 r ls s' w) (ev_to x.1.2.1 k m x.2 r ls s' w) (ev_to x.1.2.2 k m x.2 r ls s' w) = some outs from h)
    have T := ev_3tri x.1 (ev_bi (ev_ct σ t)) (ev_bs b)
    have hos' : ∀ o ∈ u, o ∈ os := fun o ho => hos o (h2 o ho)
    refine ev_cex hx hb hs hd ht (fun q => ?_) (fun q => ?_)
    · rw [ev_bi_of] at q
      rcases h3 with ⟨h4, h5⟩ | ⟨h4, h5⟩ | ⟨h4, h5⟩
      · exact (ev_to_ok hC hm hk G hr h1 h5 hos').1 ((T.1 h4).symm.trans q)
      · exact (ev_to_ok hC hm hk G hr h1 h5 hos').1 ((T.2.1 h4).symm.trans q)
      · exact (ev_to_ok hC hm hk G hr h1 h5 hos').1 ((T.2.2 h4).symm.trans q)
    · rw [ev_bi_of] at q
      rcases h3 with ⟨h4, h5⟩ | ⟨h4, h5⟩ | ⟨h4, h5⟩
      · exact (ev_to_ok hC hm hk G hr h1 h5 hos').2 ((T.1 h4).symm.trans q)
      · exact (ev_to_ok hC hm hk G hr h1 h5 hos').2 ((T.2.1 h4).symm.trans q)
      · exact (ev_to_ok hC hm hk G hr h1 h5 hos').2 ((T.2.2 h4).symm.trans q)
  | .inr (.inr (.inr (.inl t))) :: .inl a :: s', h =>
    obtain ⟨e', u, h1, h2, h3⟩ := ev_sp_ok G.2.1 (show ev_sp t (ev_bs a) w.2.2.1 (ev_to x.1.2.2 k m x.2 r ls s' w) (ev_to x.1.2.1 k m x.2 r ls s' w) (ev_to x.1.1 k m x.2 r ls s' w) = some outs from h)
    have T := ev_3tri x.1 (ev_bs a) (ev_bi (ev_ct σ t))
    have hos' : ∀ o ∈ u, o ∈ os := fun o ho => hos o (h2 o ho)
    refine ev_cex hx hb hs hd ht (fun q => ?_) (fun q => ?_)
    · rw [ev_bi_of] at q
      rcases h3 with ⟨h4, h5⟩ | ⟨h4, h5⟩ | ⟨h4, h5⟩
      · exact (ev_to_ok hC hm hk G hr h1 h5 hos').1 ((T.2.2 h4).symm.trans q)
      · exact (ev_to_ok hC hm hk G hr h1 h5 hos').1 ((T.2.1 h4.symm).symm.trans q)
      · exact (ev_to_ok hC hm hk G hr h1 h5 hos').1 ((T.1 h4).symm.trans q)
    · rw [ev_bi_of] at q
      rcases h3 with ⟨h4, h5⟩ | ⟨h4, h5⟩ | ⟨h4, h5⟩
      · exact (ev_to_ok hC hm hk G hr h1 h5 hos').2 ((T.2.2 h4).symm.trans q)
      · exact (ev_to_ok hC hm hk G hr h1 h5 hos').2 ((T.2.1 h4.symm).symm.trans q)
      · exact (ev_to_ok hC hm hk G hr h1 h5 hos').2 ((T.1 h4).symm.trans q)
theorem es_if {x : (Bool × Bool × Bool) × Nat} (C : ev_Cx p l e R s mm args below meth c m d dC dI ca cl gw nw A) (hm : ev_mok cl pg gw nw m) (hk : ev_Sn p l e R s mm args below meth c m dC dI ca cl pg gw nw A σ ρ0 n0 Q os k) (G : ev_G s m dC dI ca cl A σ ρ0 n0 ρ ls la w H locs) (hok : ev_okc cl pg gw nw m pc (ei_if x :: r)) (h : ea_if x call k m r ls st w = some outs) (hos : ∀ o ∈ outs, o ∈ os) : W p l e R s mm args below meth c H locs w.2.2.2.1 w.2.2.2.2 Q (F0 mm pc la (st.map (ev_cv σ ρ))) := by
  obtain ⟨hd, -, -, hs, hr⟩ := hok
  have hC := C
  obtain ⟨hx, hb, -⟩ := C
  have ht : (pc : Int) + ev_off m pc x.2 = (ev_pc m.1 x.2 : Int) := by unfold ev_off; omega
  have h0 : ev_bi 0 = ev_bs 0 := ev_bi_of 0
  match st, h with
  | .inl a :: s', h =>
    have h : Bool.rec (motive := fun _ => ev_R) (k r ls s' w) (k (ev_lb m.1 x.2) ls s' w) (ev_c3 x.1 a 0) = some outs := h
    refine ev_cex0 hx hb hs hd ht (fun q => ?_) (fun q => ?_)
    · rw [ev_bi_of, h0] at q
      rw [show ev_c3 x.1 a 0 = true from q] at h
      exact hk _ _ _ _ _ _ _ _ _ _ G (ev_okc_to hm x.2) h hos
    · rw [ev_bi_of, h0] at q
      rw [show ev_c3 x.1 a 0 = false from q] at h
      exact hk _ _ _ _ _ _ _ _ _ _ G hr h hos
  | .inr (.inr (.inr (.inl t))) :: s', h =>
    obtain ⟨e', u, h1, h2, h3⟩ := ev_sp_ok G.2.1 (show ev_sp t (ev_bs 0) w.2.2.1 (ev_to x.1.1 k m x.2 r ls s' w) (ev_to x.1.2.1 k m x.2 r ls s' w) (ev_to x.1.2.2 k m x.2 r ls s' w) = some outs from h)
    have T := ev_3tri x.1 (ev_bi (ev_ct σ t)) (ev_bs 0)
    have hos' : ∀ o ∈ u, o ∈ os := fun o ho => hos o (h2 o ho)
    refine ev_cex0 hx hb hs hd ht (fun q => ?_) (fun q => ?_)
    · rw [h0] at q
      rcases h3 with ⟨h4, h5⟩ | ⟨h4, h5⟩ | ⟨h4, h5⟩
      · exact (ev_to_ok hC hm hk G hr h1 h5 hos').1 ((T.1 h4).symm.trans q)
      · exact (ev_to_ok hC hm hk G hr h1 h5 hos').1 ((T.2.1 h4).symm.trans q)
      · exact (ev_to_ok hC hm hk G hr h1 h5 hos').1 ((T.2.2 h4).symm.trans q)
    · rw [h0] at q
      rcases h3 with ⟨h4, h5⟩ | ⟨h4, h5⟩ | ⟨h4, h5⟩
      · exact (ev_to_ok hC hm hk G hr h1 h5 hos').2 ((T.1 h4).symm.trans q)
      · exact (ev_to_ok hC hm hk G hr h1 h5 hos').2 ((T.2.1 h4).symm.trans q)
      · exact (ev_to_ok hC hm hk G hr h1 h5 hos').2 ((T.2.2 h4).symm.trans q)
theorem es_nn {x : Nat} (C : ev_Cx p l e R s mm args below meth c m d dC dI ca cl gw nw A) (hm : ev_mok cl pg gw nw m) (hk : ev_Sn p l e R s mm args below meth c m dC dI ca cl pg gw nw A σ ρ0 n0 Q os k) (G : ev_G s m dC dI ca cl A σ ρ0 n0 ρ ls la w H locs) (hok : ev_okc cl pg gw nw m pc (ei_nn x :: r)) (h : ea_nn x call k m r ls st w = some outs) (hos : ∀ o ∈ outs, o ∈ os) : W p l e R s mm args below meth c H locs w.2.2.2.1 w.2.2.2.2 Q (F0 mm pc la (st.map (ev_cv σ ρ))) := by
  obtain ⟨hd, -, -, hs, hr⟩ := hok
  obtain ⟨hx, hb, -⟩ := C
  have ht : (pc : Int) + ev_off m pc x = (ev_pc m.1 x : Int) := by unfold ev_off; omega
  unfold ea_nn at h
  match st, h with
  | .inr (.inl 0) :: s', h => exact lv_ifnonnullN hx hb hd (hk _ _ _ _ _ _ _ _ _ _ G hr h hos)
  | .inr (.inl (i + 1)) :: s', h => exact lv_ifnonnull hx hb hd ht (hk _ _ _ _ _ _ _ _ _ _ G (ev_okc_to hm x) h hos)
end EVB
end
section
/-! ===== switches, fields, arrays, new cells, ends ===== -/
def ev_kok (cl : List vw_C) (gw : List Jvm.Cond) : Prop := ∀ (ci : Nat) (q : vw_C), cl[ci]? = some q → (∀ w ∈ u_ws q.1 q.2.1 q.2.2, w ∈ gw) ∧ ∃ ty0 : Nat → FieldType, (∀ k, k < q.2.2 → parseFieldDescriptor (q.2.1 k).2.2.1 = some (ty0 k)) ∧ (∀ a, a < q.2.2 → ∀ b, b < q.2.2 → a ≠ b → (q.2.1 a).2.1 ≠ (q.2.1 b).2.1)
theorem ev_kd_some {cl : List vw_C} {ci : Nat} (h : (cl[ci]?).isSome = true) : cl[ci]? = some (ev_kd cl ci) := by
  unfold ev_kd
  rw [List.getD_eq_getElem?_getD]
  cases hc : cl[ci]? with
  | none => rw [hc] at h; cases h
  | some q => rfl
theorem ev_band {x y : Bool} (h : Bool.and x y = true) : x = true ∧ y = true := by
  cases x <;> cases y <;> first | exact ⟨rfl, rfl⟩ | cases h
theorem ev_ite {b : Bool} {x : ev_R} {outs : List ev_O} (h : Bool.rec (motive := fun _ => ev_R) none x b = some outs) : b = true ∧ x = some outs := by
  cases b with
  | true => exact ⟨rfl, h⟩
  | false => cases h
theorem ev_nu_ne {v : ev_V} (h : ev_nu v = true) : v ≠ ev_U := by
  rintro rfl
  cases h
theorem ev_cell_some {v : ev_V} {f : Nat → ev_R} {outs : List ev_O} (h : ev_cell v f = some outs) : ∃ i, v = .inr (.inl (i + 1)) ∧ f i = some outs := by
  match v, h with
  | .inr (.inl (i + 1)), h => exact ⟨i, rfl, h⟩
theorem ev_tyq {ca : Nat → ClassId} {q : Nat} (h : q < 4) : (ev_ty ca)[q]? = some (ca q, ev_aty q) := by
  match q, h with
  | 0, _ => rfl
  | 1, _ => rfl
  | 2, _ => rfl
  | 3, _ => rfl
theorem ev_in {j n : Nat} (h1 : j < n) (h2 : j ≤ 2147483647) : vp_in (Int32.ofNat j) n := by
  have e : (Int32.ofNat j).toNatClampNeg = j := nI_clamp (by omega)
  rintro (q | q)
  · exact nI_pos (n := j) (by omega) q
  · omega
theorem ev_clamp {j : Nat} (h2 : j ≤ 2147483647) : (Int32.ofNat j).toNatClampNeg = j := nI_clamp (by omega)
theorem ev_cat_ok (σ : Nat → Int32) (ρ : Nat → Nat) (l : List ev_V) : ((l.map (ev_cv σ ρ)).map (fun v => v.category)).sum = ev_cat l := by
  induction l with
  | nil => rfl
  | cons v r ih =>
    rw [List.map_cons, List.map_cons, List.sum_cons, ih]
    show _ = Bool.rec (motive := fun _ => Nat) (Nat.succ (ev_cat r)) (Nat.succ (Nat.succ (ev_cat r))) (ev_isl v)
    cases hv : ev_isl v with
    | false => rw [ev_isl_cat hv]; exact Nat.add_comm 1 _
    | true =>
      match v, hv with
      | .inr (.inr (.inl n)), _ => exact Nat.add_comm 2 _
theorem ev_pr_cl {σ : Nat → Int32} {ρ ρ' : Nat → Nat} {n : Nat} (hr : ∀ i, i < n → ρ' i = ρ i) {l : List ev_V} (hv : l.all (ev_clV n) = true) : ∀ k, ev_pr σ ρ' k l = ev_pr σ ρ k l := by
  induction l with
  | nil => intro k; rfl
  | cons v r ih =>
    intro k
    rw [List.all_cons, Bool.and_eq_true] at hv
    by_cases hu : v = ev_U
    · subst hu
      exact ih hv.2 (k + 1)
    · rw [ev_pr_cons _ _ _ _ _ hu, ev_pr_cons _ _ _ _ _ hu, ih hv.2 (k + 1), ev_cv_cl hr hv.1]
theorem ev_b0 : narrow .boolean (.int (Int32.ofNat 0)) = .int (Int32.ofNat 0) ∧ fits .boolean (.int (Int32.ofNat 0)) = true := by decide +kernel
theorem ev_b1 : narrow .boolean (.int (Int32.ofNat 1)) = .int (Int32.ofNat 1) ∧ fits .boolean (.int (Int32.ofNat 1)) = true := by decide +kernel
theorem ev_fit_ok {σ : Nat → Int32} {ρ : Nat → Nat} {ty : FieldType} {q : Nat} {v : ev_V} (h1 : ev_fk ty = q) (h2 : ev_fit q v = true) : narrow ty (ev_cv σ ρ v) = ev_cv σ ρ v ∧ fits ty (ev_cv σ ρ v) = true := by
  subst h1
  match ty, v, h2 with
  | .int, .inl n, _ => exact ⟨rfl, rfl⟩
  | .int, .inr (.inr (.inr (.inl t))), _ => exact ⟨rfl, rfl⟩
  | .boolean, .inl 0, _ => exact ev_b0
  | .boolean, .inl 1, _ => exact ev_b1
  | .long, .inr (.inr (.inl n)), _ => exact ⟨rfl, rfl⟩
  | .object _, .inr (.inl 0), _ => exact ⟨rfl, rfl⟩
  | .object _, .inr (.inl (_ + 1)), _ => exact ⟨rfl, rfl⟩
  | .array _, .inr (.inl 0), _ => exact ⟨rfl, rfl⟩
  | .array _, .inr (.inl (_ + 1)), _ => exact ⟨rfl, rfl⟩
theorem ev_cf_set (σ : Nat → Int32) (M j v : Nat) : ev_cf σ (ev_sm 32 M j v) [] = upd (ev_cf σ M []) j (Int32.ofNat v) := by
  funext i
  show Int32.ofNat (ev_gm 32 (ev_sm 32 M j v) i) = if i = j then Int32.ofNat v else Int32.ofNat (ev_gm 32 M i)
  rw [ev_gm_sm]
  by_cases h : i = j
  · rw [if_pos h, if_pos h]
    exact ev_md v
  · rw [if_neg h, if_neg h]
theorem ev_cf_ov (σ : Nat → Int32) (M j : Nat) (v : ev_V) (ov : List (Nat × ev_V)) : ev_cf σ M ((j, v) :: ov) = upd (ev_cf σ M ov) j (ev_ci σ v) := by
  funext i
  unfold ev_cf upd
  by_cases h : i = j
  · subst h
    rw [if_pos rfl, List.find?_cons_of_pos (by simp)]
  · rw [if_neg h, List.find?_cons_of_neg (by simpa using Ne.symm h)]
theorem ev_cl_set (M j v : Nat) : (fun i => Int64.ofNat (ev_gm 64 (ev_sm 64 M j v) i)) = vp_updL (fun i => Int64.ofNat (ev_gm 64 M i)) j (Int64.ofNat v) := by
  funext i
  show Int64.ofNat (ev_gm 64 (ev_sm 64 M j v) i) = if i = j then Int64.ofNat v else Int64.ofNat (ev_gm 64 M i)
  rw [ev_gm_sm]
  by_cases h : i = j
  · rw [if_pos h, if_pos h]
    exact ev_mdl v
  · rw [if_neg h, if_neg h]
theorem ev_fo_eq (M : Nat) (f : Nat → ev_R) : ev_fo M f = f M := by
  cases M <;> rfl
/-- what an array of a kind keeps -/
def ev_keep (q : Nat) (x : Int32) : Int32 := match q with
  | 0 => x
  | 2 => vp_nar .boolean x
  | _ => vp_nar .byte x
theorem ev_nar_ok {q : Nat} (hq : q < 4) (v : Nat) : ev_keep q (Int32.ofNat v) = Int32.ofNat (ev_nar q v) := by
  match q, hq with
  | 0, _ => rfl
  | 2, _ => exact ev_and v 1
  | 1, _ => exact (vp_nar_byte _).trans (ev_i2b_ok v)
  | 3, _ => exact (vp_nar_byte _).trans (ev_i2b_ok v)
theorem ev_nat_ok {q : Nat} (hq : q < 4) (σ : Nat → Int32) (t : ev_T) : ev_keep q (ev_ct σ t) = ev_ct σ (ev_nat q t) := by
  match q, hq with
  | 0, _ => rfl
  | 2, _ => rfl
  | 1, _ => rfl
  | 3, _ => rfl
theorem ev_lt_eq (l : List Nat) : ∀ (dd j : Nat), ev_lt l dd j = l.getD j dd := by
  induction l with
  | nil => intro dd j; rfl
  | cons a r ih =>
    intro dd j
    cases j with
    | zero => rfl
    | succ j => exact (ih dd j).trans (by simp)
theorem ev_tk_ok {σ : Nat → Int32} {t : ev_T} {f : Nat → ev_E → ev_R} (dd : Nat) (l : List Nat) : ∀ (e : ev_E) (y : Nat) (outs : List ev_O), ev_sat σ e → ev_tk l dd t e f y = some outs → ∃ e' u, ev_sat σ e' ∧ (∀ o ∈ u, o ∈ outs) ∧ f (if ev_bi (ev_ct σ t) < y then dd else l.getD (ev_bi (ev_ct σ t) - y) dd) e' = some u := by
  induction l with
  | nil =>
    intro e y outs hs h
    refine ⟨e, outs, hs, fun o ho => ho, ?_⟩
    rw [show (if ev_bi (ev_ct σ t) < y then dd else ([] : List Nat).getD (ev_bi (ev_ct σ t) - y) dd) = dd by split <;> rfl]
    exact h
  | cons b r ih =>
    intro e y outs hs h
    obtain ⟨e', u, h1, h2, h3⟩ := ev_sp_ok hs (show ev_sp t y e (fun e' => f dd e') (fun e' => f b e') (fun e' => ev_tk r dd t e' f (y + 1)) = some outs from h)
    rcases h3 with ⟨h4, h5⟩ | ⟨h4, h5⟩ | ⟨h4, h5⟩
    · exact ⟨e', u, h1, h2, by rw [if_pos h4]; exact h5⟩
    · refine ⟨e', u, h1, h2, ?_⟩
      rw [if_neg (by omega), h4, Nat.sub_self]
      exact h5
    · obtain ⟨e2, u2, g1, g2, g3⟩ := ih e' (y + 1) u h1 h5
      refine ⟨e2, u2, g1, fun o ho => h2 o (g2 o ho), ?_⟩
      rw [if_neg (by omega)] at g3 ⊢
      rw [show ev_bi (ev_ct σ t) - y = (ev_bi (ev_ct σ t) - (y + 1)) + 1 by omega]
      exact g3
section EVC
variable {p : Program} {l : Launch} {e : Env} {R : Room} {s : State} {mm : MethodId} {args : Array Value} {below : List Frame} {meth : Method} {c : Code}
variable {m : ev_M} {d n0 : Nat} {dC : Nat → ClassId} {dI : Nat → Nat → Nat} {ca : Nat → ClassId} {cl : List vw_C} {pg : List ev_M} {gw nw : List Jvm.Cond} {A : Nat → Prop} {σ : Nat → Int32} {ρ0 : Nat → Nat} {Q : State → Prop} {os outs : List ev_O}
variable {call : ev_Q} {k : ev_K} {r : List ev_I} {ls st : List ev_V} {w : ev_Wd} {pc : Nat} {la : Array Slot} {ρ : Nat → Nat} {H : Heap} {locs : List Loc}
theorem ev_twx {cc : ByteArray} {rest : List Value} {cells slots len x1 dd : Nat} {tg : List Nat} {x : Int32} (hx : p.tables.exec = Jvm.exec) (hb : c.code = cc) (hd : decode cc pc = .ok (.tableswitch (ev_off m pc dd) ((x1 : Int) - 2147483648) ((x1 : Int) - 2147483648 + (tg.length : Int) - 1) (tg.map (ev_off m pc)).toArray, len)) (kk : W p l e R s mm args below meth c H locs cells slots Q (F0 mm (ev_pc m.1 (if ev_bi x < x1 then dd else tg.getD (ev_bi x - x1) dd)) la rest)) : W p l e R s mm args below meth c H locs cells slots Q (F0 mm pc la (.int x :: rest)) := by
  have hb1 := Int32.le_toInt x
  have e1 : (ev_bi x : Int) = x.toInt + 2147483648 := by unfold ev_bi; omega
  have ht : ∀ t, (pc : Int) + ev_off m pc t = (ev_pc m.1 t : Int) := fun t => by unfold ev_off; omega
  by_cases h1 : ev_bi x < x1
  · rw [if_pos h1] at kk
    exact lv_tableOut hx hb hd (Or.inl (by omega)) (ht dd) kk
  · rw [if_neg h1] at kk
    by_cases h2 : ev_bi x - x1 < tg.length
    · have e2 : (x.toInt - ((x1 : Int) - 2147483648)).toNat = ev_bi x - x1 := by omega
      refine lv_tableIn (off := ev_off m pc (tg.getD (ev_bi x - x1) dd)) hx hb hd (by omega) (by omega) ?_ (ht _) kk
      rw [e2]
      simp [List.getD_eq_getElem?_getD, h2]
    · have e3 : tg.getD (ev_bi x - x1) dd = dd := by
        rw [List.getD_eq_getElem?_getD, List.getElem?_eq_none (by omega)]
        rfl
      rw [e3] at kk
      exact lv_tableOut hx hb hd (Or.inr (by omega)) (ht dd) kk
theorem es_tw {x : Nat × Nat × List Nat × Nat} (C : ev_Cx p l e R s mm args below meth c m d dC dI ca cl gw nw A) (hm : ev_mok cl pg gw nw m) (hk : ev_Sn p l e R s mm args below meth c m dC dI ca cl pg gw nw A σ ρ0 n0 Q os k) (G : ev_G s m dC dI ca cl A σ ρ0 n0 ρ ls la w H locs) (hok : ev_okc cl pg gw nw m pc (ei_tw x :: r)) (h : ea_tw x call k m r ls st w = some outs) (hos : ∀ o ∈ outs, o ∈ os) : W p l e R s mm args below meth c H locs w.2.2.2.1 w.2.2.2.2 Q (F0 mm pc la (st.map (ev_cv σ ρ))) := by
  obtain ⟨hd, -, -, hs, hr⟩ := hok
  obtain ⟨hx, hb, -⟩ := C
  unfold ea_tw at h
  match st, h with
  | .inl v :: s', h =>
    refine ev_twx hx hb hd ?_
    rw [ev_bi_of]
    have h : Bool.rec (motive := fun _ => ev_R) (k (ev_lb m.1 x.2.1) ls s' w) (k (ev_lb m.1 (ev_lt x.2.2.1 x.2.1 (Nat.sub (ev_bs v) x.1))) ls s' w) (Nat.ble x.1 (ev_bs v)) = some outs := h
    cases hq : Nat.ble x.1 (ev_bs v) with
    | false =>
      rw [hq] at h
      rw [if_pos (ev_blef.mp hq)]
      exact hk _ _ _ _ _ _ _ _ _ _ G (ev_okc_to hm _) h hos
    | true =>
      rw [hq] at h
      have := Nat.le_of_ble_eq_true hq
      rw [if_neg (by omega), ← ev_lt_eq]
      exact hk _ _ _ _ _ _ _ _ _ _ G (ev_okc_to hm _) h hos
  | .inr (.inr (.inr (.inl t))) :: s', h =>
    obtain ⟨e', u, h1, h2, h3⟩ := ev_tk_ok x.2.1 x.2.2.1 _ _ _ G.2.1 h
    exact ev_twx hx hb hd (hk _ _ _ (ev_we w e') _ _ _ _ _ _ (G.env h1) (ev_okc_to hm _) h3 (fun o ho => hos o (h2 o ho)))
theorem es_gf {x : Nat × Nat × Nat × Nat} (hkk : ev_kok cl gw) (C : ev_Cx p l e R s mm args below meth c m d dC dI ca cl gw nw A) (hm : ev_mok cl pg gw nw m) (hk : ev_Sn p l e R s mm args below meth c m dC dI ca cl pg gw nw A σ ρ0 n0 Q os k) (G : ev_G s m dC dI ca cl A σ ρ0 n0 ρ ls la w H locs) (hok : ev_okc cl pg gw nw m pc (ei_gf x :: r)) (h : ea_gf x call k m r ls st w = some outs) (hos : ∀ o ∈ outs, o ∈ os) : W p l e R s mm args below meth c H locs w.2.2.2.1 w.2.2.2.2 Q (F0 mm pc la (st.map (ev_cv σ ρ))) := by
  obtain ⟨hd, hw, hn, hs, hr⟩ := hok
  obtain ⟨hs1, hs2⟩ := ev_band (show Bool.and (decide (x.2.1 < (ev_kd cl x.1).2.2)) (cl[x.1]?).isSome = true from hs)
  have hs1 : x.2.1 < (ev_kd cl x.1).2.2 := of_decide_eq_true hs1
  have hc := ev_kd_some hs2
  obtain ⟨hx, hb, -, -, -, hown, -, hts, hK, hN, -⟩ := C
  obtain ⟨hki, -⟩ := hkk _ _ hc
  have hin : ∀ w ∈ u_ws (ev_kd cl x.1).1 (ev_kd cl x.1).2.1 (ev_kd cl x.1).2.2, w ∈ ev_ws gw m := fun w h => List.mem_cons_of_mem _ (hki w h)
  cases st with
  | nil => cases h
  | cons v s' =>
    obtain ⟨i, rfl, h'⟩ := ev_cell_some (show ev_cell v (ea_gf2 x k r ls s' w) = some outs from h)
    unfold ea_gf2 at h'
    match ho : ev_tg 7 w.1 i, h' with
    | .inl o, h =>
      obtain ⟨hc2, h⟩ := ev_ite (show Bool.rec (motive := fun _ => ev_R) none _ _ = some outs from h)
      obtain ⟨c1, c2⟩ := ev_band hc2
      obtain ⟨c2, c3⟩ := ev_band c2
      have c2 : o.1 = x.1 := ev_beq.mp c2
      have c3 : i < w.2.1 := Nat.le_of_ble_eq_true c3
      have he : (ev_wl σ ρ ca w.1 w.2.1)[i]? = some (ρ i, .inr (x.1, o.2.map (ev_cv σ ρ))) := by
        rw [ev_wl_get c3, ho, ← c2]
        rfl
      have hv : (o.2.map (ev_cv σ ρ))[x.2.1]? = some (ev_cv σ ρ (ev_ln o.2 x.2.1)) := by
        rw [List.getElem?_map, ev_ln_some rfl (ev_nu_ne c1)]
        rfl
      have K := hk _ _ _ _ _ _ _ _ _ _ G hr h hos
      by_cases h0 : x.2.2.2 = 0
      · have hw : ∀ w ∈ (if x.2.2.2 = 0 then [ev_fl (ev_own m) x.2.2.1 (ev_kd cl x.1) x.2.1] else []), w ∈ gw := hw
        rw [if_pos h0] at hw
        exact va_get hx hb hts hin hown hK G.2.2.2.1 i he hc x.2.1 hs1 (hts _ (List.mem_cons_of_mem _ (hw _ List.mem_cons_self))) (fun _ z => z) hv hd K
      · have hn : ∀ w ∈ (if x.2.2.2 = 0 then [] else [Jvm.Cond.fieldLinkNest (ev_own m) x.2.2.1 ((ev_kd cl x.1).2.1 x.2.1).1 ((ev_kd cl x.1).2.1 x.2.1).2.1 ((ev_kd cl x.1).2.1 x.2.1).2.2.1 "RegisterColours"]), w ∈ nw := hn
        rw [if_neg h0] at hn
        exact va_getN hx hb hts hin hown hK G.2.2.2.1 i he hc x.2.1 hs1 (va_Nw.use rfl (hN _ (hn _ List.mem_cons_self))) (fun _ z => z) hv hd K
    | .inr _, h => cases h
theorem ev_G.put (G : ev_G s m dC dI ca cl A σ ρ0 n0 ρ ls la w H locs) {H1 : Heap} {locs1 : List Loc} {i : Nat} {cc : ev_C} (hi : i < w.2.1) (h1 : va_P (dC, dI) cl ((ev_wl σ ρ ca w.1 w.2.1).set i (ρ i, ev_ce σ ρ ca cc)) H1) (h2 : va_D A ((ev_wl σ ρ ca w.1 w.2.1).set i (ρ i, ev_ce σ ρ ca cc))) (h3 : va_S A s.heap H1 locs1) : ev_G s m dC dI ca cl A σ ρ0 n0 ρ ls la (ev_ts 7 w.1 i cc, w.2) H1 locs1 := by
  rw [← ev_wl_set hi G.2.2.1.2.1] at h1 h2
  exact ⟨G.1, G.2.1, G.2.2.1, h1, h2, h3⟩
theorem es_pf {x : Nat × Nat × Nat × Nat × Nat} (hkk : ev_kok cl gw) (C : ev_Cx p l e R s mm args below meth c m d dC dI ca cl gw nw A) (hm : ev_mok cl pg gw nw m) (hk : ev_Sn p l e R s mm args below meth c m dC dI ca cl pg gw nw A σ ρ0 n0 Q os k) (G : ev_G s m dC dI ca cl A σ ρ0 n0 ρ ls la w H locs) (hok : ev_okc cl pg gw nw m pc (ei_pf x :: r)) (h : ea_pf x call k m r ls st w = some outs) (hos : ∀ o ∈ outs, o ∈ os) : W p l e R s mm args below meth c H locs w.2.2.2.1 w.2.2.2.2 Q (F0 mm pc la (st.map (ev_cv σ ρ))) := by
  have hok0 := hok
  obtain ⟨hd, hw, -, hs, hr⟩ := hok
  obtain ⟨hs, hs3⟩ := ev_band (show Bool.and (Bool.and (ev_spf m (ev_kd cl x.1) x.2.1 x.2.2.1) (decide (x.2.2.2.2 = 0))) (cl[x.1]?).isSome = true from hs)
  obtain ⟨hs, -⟩ := ev_band hs
  obtain ⟨hs, hsf⟩ := ev_band (show Bool.and (Bool.and _ _) _ = true from hs)
  obtain ⟨hs1, hs2⟩ := ev_band (show Bool.and _ _ = true from hs)
  have hs1 : x.2.1 < (ev_kd cl x.1).2.2 := of_decide_eq_true hs1
  have hc := ev_kd_some hs3
  obtain ⟨hx, hb, -, -, -, hown, hname, hts, hK, -⟩ := C
  obtain ⟨hki, ty0, hty, hnm⟩ := hkk _ _ hc
  have hin : ∀ w ∈ u_ws (ev_kd cl x.1).1 (ev_kd cl x.1).2.1 (ev_kd cl x.1).2.2, w ∈ ev_ws gw m := fun w h => List.mem_cons_of_mem _ (hki w h)
  have hlink : (ev_fl (ev_own m) x.2.2.2.1 (ev_kd cl x.1) x.2.1).before args s = true := hts _ (List.mem_cons_of_mem _ (hw _ List.mem_cons_self))
  have hfk : ev_fk (ty0 x.2.1) = x.2.2.1 := by
    rw [hty _ hs1] at hs2
    exact of_decide_eq_true hs2
  unfold ea_pf at h
  match st, h with
  | v :: u :: s', h =>
    obtain ⟨i, rfl, h'⟩ := ev_cell_some (show ev_cell u (ea_pf2 x k r ls s' w v) = some outs from h)
    unfold ea_pf2 at h'
    match ho : ev_tg 7 w.1 i, h' with
    | .inr _, h => cases h
    | .inl o, h =>
      have h : Bool.rec (motive := fun _ => ev_R) (ea_pf4 x k r ls s' w v i) (k r ls s' (ev_ts 7 w.1 i (.inl (o.1, ev_lp o.2 x.2.1 v)), w.2)) (Bool.and (ev_nu (ev_ln o.2 x.2.1)) (Bool.and (Nat.beq o.1 x.1) (Bool.and (Nat.ble (Nat.succ i) w.2.1) (ev_fit x.2.2.1 v)))) = some outs := h
      cases hq : Bool.and (ev_nu (ev_ln o.2 x.2.1)) (Bool.and (Nat.beq o.1 x.1) (Bool.and (Nat.ble (Nat.succ i) w.2.1) (ev_fit x.2.2.1 v))) with
      | false =>
        rw [hq] at h
        unfold ea_pf4 at h
        match v, h with
        | .inr (.inr (.inr (.inl t))), h =>
          obtain ⟨-, h⟩ := ev_ite h
          obtain ⟨v', e', u, h1, h2, h3, h4⟩ := ev_rs_ok G.2.1 h
          have K := hk _ _ _ (ev_we w e') _ _ _ _ _ _ (G.env h4) hok0 h1 (fun o ho => hos o (h2 o ho))
          show W p l e R s mm args below meth c H locs w.2.2.2.1 w.2.2.2.2 Q (F0 mm pc la (.int (ev_ct σ t) :: .ref (ρ i) :: s'.map (ev_cv σ ρ)))
          rw [← h3]
          exact K
      | true =>
        rw [hq] at h
        obtain ⟨c1, c2⟩ := ev_band hq
        obtain ⟨c2, c3⟩ := ev_band c2
        obtain ⟨c3, c4⟩ := ev_band c3
        have c2 : o.1 = x.1 := ev_beq.mp c2
        have c3 : i < w.2.1 := Nat.le_of_ble_eq_true c3
        have he : (ev_wl σ ρ ca w.1 w.2.1)[i]? = some (ρ i, .inr (x.1, o.2.map (ev_cv σ ρ))) := by
          rw [ev_wl_get c3, ho, ← c2]
          rfl
        have hl : x.2.1 < (o.2.map (ev_cv σ ρ)).length := by
          rw [List.length_map]
          exact (List.getElem?_eq_some_iff.mp (ev_ln_some rfl (ev_nu_ne c1))).1
        obtain ⟨f1, f2⟩ := ev_fit_ok (σ := σ) (ρ := ρ) hfk c4
        have ec : (Sum.inr (x.1, (o.2.map (ev_cv σ ρ)).set x.2.1 (ev_cv σ ρ v)) : va_E) = ev_ce σ ρ ca (.inl (o.1, ev_lp o.2 x.2.1 v)) := by
          show _ = (Sum.inr (o.1, (ev_lp o.2 x.2.1 v).map (ev_cv σ ρ)) : va_E)
          rw [ev_lp_eq, List.map_set, c2]
        have K : ∀ (H1 : Heap) (locs1 : List Loc), va_P (dC, dI) cl ((ev_wl σ ρ ca w.1 w.2.1).set i (ρ i, .inr (x.1, (o.2.map (ev_cv σ ρ)).set x.2.1 (ev_cv σ ρ v)))) H1 → va_D A ((ev_wl σ ρ ca w.1 w.2.1).set i (ρ i, .inr (x.1, (o.2.map (ev_cv σ ρ)).set x.2.1 (ev_cv σ ρ v)))) → va_S A s.heap H1 locs1 → W p l e R s mm args below meth c H1 locs1 w.2.2.2.1 w.2.2.2.2 Q (F0 mm (pc + 3) la (s'.map (ev_cv σ ρ))) := by
          intro H1 locs1 k1 k2 k3
          rw [ec] at k1 k2
          exact hk _ _ _ (ev_ts 7 w.1 i (.inl (o.1, ev_lp o.2 x.2.1 v)), w.2) _ _ _ _ _ _ (G.put c3 k1 k2 k3) hr h hos
        cases hf : ((ev_kd cl x.1).2.1 x.2.1).2.2.2 with
        | false => exact va_put hx hb hts hin ty0 hty hnm hown hK G.2.2.2.1 G.2.2.2.2.1 G.2.2.2.2.2 i he hc x.2.1 hs1 hlink (fun _ z => z) hf (hty _ hs1) f1 f2 hl hd K
        | true =>
          rw [hf] at hsf
          obtain ⟨g1, g2⟩ := ev_band (show Bool.and _ _ = true from hsf)
          exact va_putF hx hb hts hin ty0 hty hnm hown hK G.2.2.2.1 G.2.2.2.2.1 G.2.2.2.2.2 i he hc x.2.1 hs1 hlink (fun _ z => z) hf (hname.trans (of_decide_eq_true g1)) (of_decide_eq_true g2) (hty _ hs1) f1 f2 hl hd K
end EVC
end
section
/-! ===== arrays, new cells, copies, ends ===== -/
theorem ev_ix_ok {q i j : Nat} {w : ev_Wd} {a : Nat × Nat × Nat × List (Nat × ev_V)} (h : ev_ix q i j w a = true) : j < a.2.1 ∧ a.1 = q ∧ i < w.2.1 ∧ j ≤ 2147483647 := by
  obtain ⟨h1, h2⟩ := ev_band h
  obtain ⟨h2, h3⟩ := ev_band h2
  obtain ⟨h3, h4⟩ := ev_band h3
  exact ⟨Nat.le_of_ble_eq_true h1, ev_beq.mp h2, Nat.le_of_ble_eq_true h3, Nat.le_of_ble_eq_true h4⟩
theorem ev_nil_ok {l : List (Nat × ev_V)} (h : ev_nil l = true) : l = [] := by
  cases l with
  | nil => rfl
  | cons _ _ => cases h
theorem ev_ca_i (σ : Nat → Int32) {q : Nat} (hq : q ≠ 1) (M : Nat) (ov : List (Nat × ev_V)) : ev_ca σ q M ov = .inl (ev_cf σ M ov) := by
  match q, hq with
  | 0, _ => rfl
  | 1, h => exact absurd rfl h
  | _ + 2, _ => rfl
theorem ev_notb {b : Bool} (h : Bool.not b = true) : b = false := by
  cases b with
  | false => rfl
  | true => cases h
section EVD
variable {p : Program} {l : Launch} {e : Env} {R : Room} {s : State} {mm : MethodId} {args : Array Value} {below : List Frame} {meth : Method} {c : Code}
variable {m : ev_M} {d n0 : Nat} {dC : Nat → ClassId} {dI : Nat → Nat → Nat} {ca : Nat → ClassId} {cl : List vw_C} {pg : List ev_M} {gw nw : List Jvm.Cond} {A : Nat → Prop} {σ : Nat → Int32} {ρ0 : Nat → Nat} {Q : State → Prop} {os outs : List ev_O}
variable {call : ev_Q} {k : ev_K} {r : List ev_I} {ls st : List ev_V} {w : ev_Wd} {pc : Nat} {la : Array Slot} {ρ : Nat → Nat} {H : Heap} {locs : List Loc}
section
variable {cc : ByteArray} {rest : List Value} {cells slots : Nat}
theorem ev_alx {q i j n M : Nat} (hq : q < 4) (hx : p.tables.exec = Jvm.exec) (hb : c.code = cc) (hK : va_K (dC, dI) cl (ev_ty ca) s) (hP : va_P (dC, dI) cl (ev_wl σ ρ ca w.1 w.2.1) H) (hi : i < w.2.1) (hc : ev_tg 7 w.1 i = .inr (q, n, M, [])) (h1 : j < n) (h2 : j ≤ 2147483647) (hd : decode cc pc = .ok (ev_xal q, 1)) (kk : W p l e R s mm args below meth c H locs cells slots Q (F0 mm (pc + 1) la (ev_cv σ ρ (Bool.rec (motive := fun _ => ev_V) (.inl (ev_gm 32 M j)) (.inr (.inr (.inl (ev_gm 64 M j)))) (Nat.beq q 1)) :: rest))) : W p l e R s mm args below meth c H locs cells slots Q (F0 mm pc la (.int (Int32.ofNat j) :: .ref (ρ i) :: rest)) := by
  have he : (ev_wl σ ρ ca w.1 w.2.1)[i]? = some (ρ i, .inl (ca q, n, ev_ca σ q M [])) := by
    rw [ev_wl_get hi, hc]
    rfl
  have hin := ev_in h1 h2
  have ec := ev_clamp h2
  match q, hq, he, hd, kk with
  | 0, _, he, hd, kk =>
    refine va_iald hx hb hK hP i 0 he rfl hin hd ?_
    rw [ec]
    exact kk
  | 1, _, he, hd, kk =>
    refine va_lald hx hb hK hP i 1 he rfl hin hd ?_
    rw [ec]
    exact kk
  | 2, _, he, hd, kk =>
    refine va_zald hx hb hK hP i 2 he rfl hin hd ?_
    rw [ec]
    exact kk
  | 3, _, he, hd, kk =>
    refine va_bald hx hb hK hP i 3 he rfl hin hd ?_
    rw [ec]
    exact kk
theorem ev_asx {q i j n : Nat} {x : Int32} {f f' : Nat → Int32} (hq : q < 4) (hq1 : q ≠ 1) (hx : p.tables.exec = Jvm.exec) (hb : c.code = cc) (hK : va_K (dC, dI) cl (ev_ty ca) s) (hP : va_P (dC, dI) cl (ev_wl σ ρ ca w.1 w.2.1) H) (hD : va_D A (ev_wl σ ρ ca w.1 w.2.1)) (hS : va_S A s.heap H locs) (he : (ev_wl σ ρ ca w.1 w.2.1)[i]? = some (ρ i, .inl (ca q, n, .inl f))) (h1 : j < n) (h2 : j ≤ 2147483647) (hf : f' = upd f j (ev_keep q x)) (hd : decode cc pc = .ok (ev_xas q, 1))
    (kk : ∀ (H1 : Heap) (locs1 : List Loc), va_P (dC, dI) cl ((ev_wl σ ρ ca w.1 w.2.1).set i (ρ i, .inl (ca q, n, .inl f'))) H1 → va_D A ((ev_wl σ ρ ca w.1 w.2.1).set i (ρ i, .inl (ca q, n, .inl f'))) → va_S A s.heap H1 locs1 → W p l e R s mm args below meth c H1 locs1 cells slots Q (F0 mm (pc + 1) la rest)) : W p l e R s mm args below meth c H locs cells slots Q (F0 mm pc la (.int x :: .int (Int32.ofNat j) :: .ref (ρ i) :: rest)) := by
  have hin := ev_in h1 h2
  have ec := ev_clamp h2
  rw [← ec] at hf
  subst hf
  match q, hq, hq1, he, hd, kk with
  | 0, _, _, he, hd, kk => exact va_iast hx hb hK hP hD hS i 0 he rfl hin hd kk
  | 1, _, h, _, _, _ => exact absurd rfl h
  | 2, _, _, he, hd, kk => exact va_zast hx hb hK hP hD hS i 2 he rfl hin hd kk
  | 3, _, _, he, hd, kk => exact va_bast hx hb hK hP hD hS i 3 he rfl hin hd kk
end
theorem es_al {x : Nat} (C : ev_Cx p l e R s mm args below meth c m d dC dI ca cl gw nw A) (hm : ev_mok cl pg gw nw m) (hk : ev_Sn p l e R s mm args below meth c m dC dI ca cl pg gw nw A σ ρ0 n0 Q os k) (G : ev_G s m dC dI ca cl A σ ρ0 n0 ρ ls la w H locs) (hok : ev_okc cl pg gw nw m pc (ei_al x :: r)) (h : ea_al x call k m r ls st w = some outs) (hos : ∀ o ∈ outs, o ∈ os) : W p l e R s mm args below meth c H locs w.2.2.2.1 w.2.2.2.2 Q (F0 mm pc la (st.map (ev_cv σ ρ))) := by
  have hok0 := hok
  obtain ⟨hd, -, -, hs, hr⟩ := hok
  have hs : x < 4 := of_decide_eq_true hs
  obtain ⟨hx, hb, -, -, -, -, -, -, hK, -⟩ := C
  match st, h with
  | .inr (.inr (.inr (.inl t))) :: s', h =>
    obtain ⟨v', e', u, h1, h2, h3, h4⟩ := ev_rs_ok G.2.1 (show ev_rs t w.2.2.1 (fun v e => k (ei_al x :: r) ls (.inl v :: s') (ev_we w e)) = some outs from h)
    have K := hk _ _ _ (ev_we w e') _ _ _ _ _ _ (G.env h4) hok0 h1 (fun o ho => hos o (h2 o ho))
    show W p l e R s mm args below meth c H locs w.2.2.2.1 w.2.2.2.2 Q (F0 mm pc la (.int (ev_ct σ t) :: s'.map (ev_cv σ ρ)))
    rw [← h3]
    exact K
  | .inl j :: v :: s', h =>
    obtain ⟨i, rfl, h'⟩ := ev_cell_some (show ev_cell v (ea_al2 x k r ls s' w j) = some outs from h)
    unfold ea_al2 at h'
    match ho : ev_tg 7 w.1 i, h' with
    | .inl _, h => cases h
    | .inr (q', n, M, ov), h =>
      obtain ⟨hc, h⟩ := ev_ite (show Bool.rec (motive := fun _ => ev_R) none _ _ = some outs from h)
      obtain ⟨c1, c2⟩ := ev_band hc
      obtain ⟨d1, d2, d3, d4⟩ := ev_ix_ok c1
      have d2 : q' = x := d2
      have d5 : ov = [] := ev_nil_ok c2
      subst d2; subst d5
      exact ev_alx hs hx hb hK G.2.2.2.1 d3 ho d1 d4 hd (hk _ _ _ _ _ _ _ _ _ _ G hr h hos)
theorem es_as {x : Nat} (C : ev_Cx p l e R s mm args below meth c m d dC dI ca cl gw nw A) (hm : ev_mok cl pg gw nw m) (hk : ev_Sn p l e R s mm args below meth c m dC dI ca cl pg gw nw A σ ρ0 n0 Q os k) (G : ev_G s m dC dI ca cl A σ ρ0 n0 ρ ls la w H locs) (hok : ev_okc cl pg gw nw m pc (ei_as x :: r)) (h : ea_as x call k m r ls st w = some outs) (hos : ∀ o ∈ outs, o ∈ os) : W p l e R s mm args below meth c H locs w.2.2.2.1 w.2.2.2.2 Q (F0 mm pc la (st.map (ev_cv σ ρ))) := by
  have hok0 := hok
  obtain ⟨hd, -, -, hs, hr⟩ := hok
  have hs : x < 4 := of_decide_eq_true hs
  obtain ⟨hx, hb, -, -, -, -, -, -, hK, -⟩ := C
  match st, h with
  | v :: .inr (.inr (.inr (.inl t))) :: s', h =>
    obtain ⟨v', e', u, h1, h2, h3, h4⟩ := ev_rs_ok G.2.1 (show ev_rs t w.2.2.1 (fun j e => k (ei_as x :: r) ls (v :: .inl j :: s') (ev_we w e)) = some outs from h)
    have K := hk _ _ _ (ev_we w e') _ _ _ _ _ _ (G.env h4) hok0 h1 (fun o ho => hos o (h2 o ho))
    show W p l e R s mm args below meth c H locs w.2.2.2.1 w.2.2.2.2 Q (F0 mm pc la (ev_cv σ ρ v :: .int (ev_ct σ t) :: s'.map (ev_cv σ ρ)))
    rw [← h3]
    exact K
  | v :: .inl j :: u :: s', h =>
    obtain ⟨i, rfl, h'⟩ := ev_cell_some (show ev_cell u (ea_as3 x k r ls s' w v j) = some outs from h)
    unfold ea_as3 at h'
    match ho : ev_tg 7 w.1 i, h' with
    | .inl _, h => cases h
    | .inr (q', n, M, ov), h =>
      have h : ea_as4 x k r ls s' w v j i (q', n, M, ov) = some outs := h
      have S5 : ∀ (v0 : ev_V) (y : Int32) (v2 : ev_V), ev_cv σ ρ v0 = .int y → ev_keep x y = ev_ci σ v2 → ev_ix x i j w (q', n, M, ov) = true → x ≠ 1 → k r ls s' (ev_ts 7 w.1 i (.inr (q', n, M, (j, v2) :: ov)), w.2) = some outs → W p l e R s mm args below meth c H locs w.2.2.2.1 w.2.2.2.2 Q (F0 mm pc la (ev_cv σ ρ v0 :: .int (Int32.ofNat j) :: .ref (ρ i) :: s'.map (ev_cv σ ρ))) := by
        intro v0 y v2 e1 e2 e3 e4 e5
        obtain ⟨d1, d2, d3, d4⟩ := ev_ix_ok e3
        have d1 : j < n := d1
        have d2 : q' = x := d2
        subst d2
        rw [e1]
        have he : (ev_wl σ ρ ca w.1 w.2.1)[i]? = some (ρ i, .inl (ca q', n, .inl (ev_cf σ M ov))) := by
          rw [ev_wl_get d3, ho, ← ev_ca_i σ e4]
          rfl
        refine ev_asx hs e4 hx hb hK G.2.2.2.1 G.2.2.2.2.1 G.2.2.2.2.2 he d1 d4 (f' := ev_cf σ M ((j, v2) :: ov)) (by rw [ev_cf_ov, e2]) hd ?_
        intro H1 locs1 k1 k2 k3
        have ec : (Sum.inl (ca q', n, Sum.inl (ev_cf σ M ((j, v2) :: ov))) : va_E) = ev_ce σ ρ ca (.inr (q', n, M, (j, v2) :: ov)) := by
          rw [← ev_ca_i σ e4]
          rfl
        rw [ec] at k1 k2
        exact hk _ _ _ (ev_ts 7 w.1 i (.inr (q', n, M, (j, v2) :: ov)), w.2) _ _ _ _ _ _ (G.put d3 k1 k2 k3) hr e5 hos
      match v, h with
      | .inl b, h =>
        have h : Bool.rec (motive := fun _ => ev_R) (ea_as5 x k r ls s' w (.inl b) j i (q', n, M, ov)) (ev_fo (ev_sm 32 M j (ev_nar x b)) (fun M' => k r ls s' (ev_ts 7 w.1 i (.inr (q', n, M', [])), w.2))) (Bool.and (ev_ix x i j w (q', n, M, ov)) (Bool.and (ev_nil ov) (Bool.not (Nat.beq x 1)))) = some outs := h
        cases hq : Bool.and (ev_ix x i j w (q', n, M, ov)) (Bool.and (ev_nil ov) (Bool.not (Nat.beq x 1))) with
        | false =>
          rw [hq] at h
          obtain ⟨hc, h⟩ := ev_ite (show Bool.rec (motive := fun _ => ev_R) none _ _ = some outs from h)
          obtain ⟨c1, c2⟩ := ev_band hc
          exact S5 (.inl b) (Int32.ofNat b) (.inl (ev_nar x b)) rfl (ev_nar_ok hs b) c1 (ev_beqf.mp (ev_notb c2)) h
        | true =>
          rw [hq] at h
          obtain ⟨c1, c2⟩ := ev_band hq
          obtain ⟨c2, c3⟩ := ev_band c2
          have e4 : x ≠ 1 := ev_beqf.mp (ev_notb c3)
          have e5 : ov = [] := ev_nil_ok c2
          obtain ⟨d1, d2, d3, d4⟩ := ev_ix_ok c1
          have d1 : j < n := d1
          have d2 : q' = x := d2
          subst d2; subst e5
          have h : ev_fo (ev_sm 32 M j (ev_nar q' b)) (fun M' => k r ls s' (ev_ts 7 w.1 i (.inr (q', n, M', [])), w.2)) = some outs := h
          rw [ev_fo_eq] at h
          have he : (ev_wl σ ρ ca w.1 w.2.1)[i]? = some (ρ i, .inl (ca q', n, .inl (ev_cf σ M []))) := by
            rw [ev_wl_get d3, ho, ← ev_ca_i σ e4]
            rfl
          refine ev_asx hs e4 hx hb hK G.2.2.2.1 G.2.2.2.2.1 G.2.2.2.2.2 he d1 d4 (f' := ev_cf σ (ev_sm 32 M j (ev_nar q' b)) []) (by rw [ev_cf_set, ev_nar_ok hs]) hd ?_
          intro H1 locs1 k1 k2 k3
          have ec : (Sum.inl (ca q', n, Sum.inl (ev_cf σ (ev_sm 32 M j (ev_nar q' b)) [])) : va_E) = ev_ce σ ρ ca (.inr (q', n, ev_sm 32 M j (ev_nar q' b), [])) := by
            rw [← ev_ca_i σ e4]
            rfl
          rw [ec] at k1 k2
          exact hk _ _ _ (ev_ts 7 w.1 i (.inr (q', n, ev_sm 32 M j (ev_nar q' b), [])), w.2) _ _ _ _ _ _ (G.put d3 k1 k2 k3) hr h hos
      | .inr (.inr (.inl b)), h =>
        obtain ⟨hc, h5⟩ := ev_ite (show Bool.rec (motive := fun _ => ev_R) none _ _ = some outs from h)
        obtain ⟨c1, c2⟩ := ev_band hc
        have e4 : x = 1 := ev_beq.mp c2
        obtain ⟨d1, d2, d3, d4⟩ := ev_ix_ok c1
        have d1 : j < n := d1
        have d2 : q' = x := d2
        subst d2; subst e4
        have h : ev_fo (ev_sm 64 M j b) (fun M' => k r ls s' (ev_ts 7 w.1 i (.inr (1, n, M', ov)), w.2)) = some outs := h5
        rw [ev_fo_eq] at h
        have he : (ev_wl σ ρ ca w.1 w.2.1)[i]? = some (ρ i, .inl (ca 1, n, .inr (.inl (fun i => Int64.ofNat (ev_gm 64 M i))))) := by
          rw [ev_wl_get d3, ho]
          rfl
        refine va_last hx hb hK G.2.2.2.1 G.2.2.2.2.1 G.2.2.2.2.2 i 1 he rfl (ev_in d1 d4) hd ?_
        rw [ev_clamp d4, ← ev_cl_set]
        intro H1 locs1 k1 k2 k3
        exact hk _ _ _ (ev_ts 7 w.1 i (.inr (1, n, ev_sm 64 M j b, ov)), w.2) _ _ _ _ _ _ (G.put (cc := .inr (1, n, ev_sm 64 M j b, ov)) d3 k1 k2 k3) hr h hos
      | .inr (.inr (.inr (.inl t))), h =>
        obtain ⟨hc, h⟩ := ev_ite (show Bool.rec (motive := fun _ => ev_R) none _ _ = some outs from h)
        obtain ⟨c1, c2⟩ := ev_band hc
        exact S5 (.inr (.inr (.inr (.inl t)))) (ev_ct σ t) (.inr (.inr (.inr (.inl (ev_nat x t))))) rfl (ev_nat_ok hs σ t) c1 (ev_beqf.mp (ev_notb c2)) h
      | .inr (.inl _), h => cases h
      | .inr (.inr (.inr (.inr _))), h =>
        obtain ⟨hc, h⟩ := ev_ite (show Bool.rec (motive := fun _ => ev_R) none _ _ = some outs from h)
        cases h
theorem es_an (C : ev_Cx p l e R s mm args below meth c m d dC dI ca cl gw nw A) (hm : ev_mok cl pg gw nw m) (hk : ev_Sn p l e R s mm args below meth c m dC dI ca cl pg gw nw A σ ρ0 n0 Q os k) (G : ev_G s m dC dI ca cl A σ ρ0 n0 ρ ls la w H locs) (hok : ev_okc cl pg gw nw m pc (ei_an :: r)) (h : ea_an call k m r ls st w = some outs) (hos : ∀ o ∈ outs, o ∈ os) : W p l e R s mm args below meth c H locs w.2.2.2.1 w.2.2.2.2 Q (F0 mm pc la (st.map (ev_cv σ ρ))) := by
  obtain ⟨hd, -, -, hs, hr⟩ := hok
  obtain ⟨hx, hb, -, -, -, -, -, -, hK, -⟩ := C
  unfold ea_an at h
  match st, h with
  | .inr (.inl (i + 1)) :: s', h =>
    dsimp only at h
    match ho : ev_tg 7 w.1 i, h with
    | .inr (q, n, M, ov), h =>
      obtain ⟨hc, h⟩ := ev_ite (show Bool.rec (motive := fun _ => ev_R) none _ _ = some outs from h)
      obtain ⟨c1, c2⟩ := ev_band hc
      have c1 : i < w.2.1 := Nat.le_of_ble_eq_true c1
      have c2 : q ≤ 3 := Nat.le_of_ble_eq_true c2
      have he : (ev_wl σ ρ ca w.1 w.2.1)[i]? = some (ρ i, .inl (ca q, n, ev_ca σ q M ov)) := by
        rw [ev_wl_get c1, ho]
        rfl
      exact va_alen hx hb hK G.2.2.2.1 i q he (ev_tyq (by omega)) rfl hd (hk _ _ _ _ _ _ _ _ _ _ G hr h hos)
theorem ev_G.push (G : ev_G s m dC dI ca cl A σ ρ0 n0 ρ ls la w H locs) {H1 : Heap} {q : Nat} {cc : ev_C} {mc ms : Nat} (hn : w.2.1 ≤ 127) (hl : ls.all (ev_clV w.2.1) = true) (hh : ev_clH w.2.1 w.1 = true) (hcc : ev_ce σ (fun i => if i = w.2.1 then q else ρ i) ca cc = ev_ce σ ρ ca cc) (h1 : va_P (dC, dI) cl (ev_wl σ ρ ca w.1 w.2.1 ++ [(q, ev_ce σ ρ ca cc)]) H1) (h2 : va_D A (ev_wl σ ρ ca w.1 w.2.1 ++ [(q, ev_ce σ ρ ca cc)])) (h3 : va_S A s.heap H1 locs) : ev_G s m dC dI ca cl A σ ρ0 n0 (fun i => if i = w.2.1 then q else ρ i) ls la (ev_ts 7 w.1 w.2.1 cc, w.2.1 + 1, w.2.2.1, mc, ms) H1 locs := by
  have hr : ∀ i, i < w.2.1 → (fun i => if i = w.2.1 then q else ρ i) i = ρ i := fun i h => if_neg (by omega)
  have e := ev_wl_push (σ := σ) (ca := ca) (c := cc) hn hr hh
  rw [hcc, if_pos rfl] at e
  rw [← e] at h1 h2
  obtain ⟨g1, g2, ⟨g3, g4, g5, g6⟩, g7⟩ := G
  refine ⟨?_, g2, ⟨Nat.le_succ_of_le g3, ?_, fun i hi => (hr i (by omega)).trans (g5 i hi), fun h => ?_⟩, h1, h2, h3⟩
  · rw [ev_pr_cl hr hl]
    exact g1
  · show w.2.1 + 1 ≤ 128
    omega
  · have h : w.2.1 + 1 = n0 := h
    omega
theorem ev_ca0 (σ : Nat → Int32) {q n : Nat} (hq : q < 4) (cA : ClassId) : vp_cell cA (n, ev_ca σ q 0 []) = arrV cA n (fun _ => defaultValue (ev_aty q)) := by
  have h32 : ∀ j, ev_cf σ 0 [] j = 0 := fun j => by
    show Int32.ofNat (ev_gm 32 0 j) = 0
    rw [ev_gm_0]
    rfl
  have h64 : ∀ j, Int64.ofNat (ev_gm 64 0 j) = 0 := fun j => by
    rw [ev_gm_0]
    rfl
  match q, hq with
  | 0, _ => show arrV cA n (fun j => .int (ev_cf σ 0 [] j)) = _; simp only [h32]; rfl
  | 1, _ => show arrV cA n (fun j => .long (Int64.ofNat (ev_gm 64 0 j))) = _; simp only [h64]; rfl
  | 2, _ => show arrV cA n (fun j => .int (ev_cf σ 0 [] j)) = _; simp only [h32]; rfl
  | 3, _ => show arrV cA n (fun j => .int (ev_cf σ 0 [] j)) = _; simp only [h32]; rfl
theorem es_na {x : Nat} (C : ev_Cx p l e R s mm args below meth c m d dC dI ca cl gw nw A) (hm : ev_mok cl pg gw nw m) (hk : ev_Sn p l e R s mm args below meth c m dC dI ca cl pg gw nw A σ ρ0 n0 Q os k) (G : ev_G s m dC dI ca cl A σ ρ0 n0 ρ ls la w H locs) (hok : ev_okc cl pg gw nw m pc (ei_na x :: r)) (h : ea_na x call k m r ls st w = some outs) (hos : ∀ o ∈ outs, o ∈ os) : W p l e R s mm args below meth c H locs w.2.2.2.1 w.2.2.2.2 Q (F0 mm pc la (st.map (ev_cv σ ρ))) := by
  obtain ⟨hd, hw, -, hs, hr⟩ := hok
  have hs : x < 4 := of_decide_eq_true hs
  obtain ⟨hx, hb, -, -, -, -, -, hts, hK, -, hR, hA⟩ := C
  unfold ea_na at h
  match st, h with
  | .inl n :: s', h =>
    obtain ⟨hc, h⟩ := ev_ite (show Bool.rec (motive := fun _ => ev_R) none _ _ = some outs from h)
    obtain ⟨c1, hc⟩ := ev_band hc
    obtain ⟨c2, hc⟩ := ev_band hc
    obtain ⟨c3, hc⟩ := ev_band hc
    obtain ⟨c4, hc⟩ := ev_band hc
    obtain ⟨c5, hc⟩ := ev_band hc
    obtain ⟨c6, c7⟩ := ev_band hc
    have c1 : n ≤ 1000000 := Nat.le_of_ble_eq_true c1
    have c2 : w.2.2.2.1 + 1 ≤ m.2.2.1 := Nat.le_of_ble_eq_true c2
    have c3 : w.2.2.2.2 + n ≤ m.2.2.2.1 := Nat.le_of_ble_eq_true c3
    have c4 : w.2.1 ≤ 127 := Nat.le_of_ble_eq_true c4
    have harr : (Jvm.Cond.arrayClass (ev_aty x)).before args s = true := hts _ (List.mem_cons_of_mem _ (hw _ List.mem_cons_self))
    have hty : newarray.typeOf (ev_xna x) = ev_aty x := by
      match x, hs with
      | 0, _ => rfl
      | 1, _ => rfl
      | 2, _ => rfl
      | 3, _ => rfl
    have hby : n * componentBytes (ev_aty x) ≤ 536870912 := by
      have : componentBytes (ev_aty x) ≤ 8 := by
        match x, hs with
        | 0, _ => decide
        | 1, _ => decide
        | 2, _ => decide
        | 3, _ => decide
      have := Nat.mul_le_mul c1 this
      omega
    subst hR
    refine va_newa (atype := ev_xna x) (ty := ev_aty x) (a0 := (n, ev_ca σ x 0 [])) hx hb (by rw [hty]; exact harr) hty hK G.2.2.2.1 G.2.2.2.2.1 G.2.2.2.2.2 hA (ev_ca0 σ hs) (nI_pos (n := n) (by omega)) (nI_clamp (by omega)) hby c2 c3 hd ?_
    intro q cA H1 k0 k1 k2 k3
    have ecA : cA = ca x := by
      have r1 := (k0.2 (ev_ty ca).length (cA, ev_aty x) (by simp)).2
      have r2 := (hK.2 x (ca x, ev_aty x) (ev_tyq hs)).2
      match x, hs, r1, r2 with
      | 0, _, r1, r2 => exact Option.some.inj (Eq.trans (Eq.symm r1) r2)
      | 1, _, r1, r2 => exact Option.some.inj (Eq.trans (Eq.symm r1) r2)
      | 2, _, r1, r2 => exact Option.some.inj (Eq.trans (Eq.symm r1) r2)
      | 3, _, r1, r2 => exact Option.some.inj (Eq.trans (Eq.symm r1) r2)
    subst ecA
    have G2 := G.push (cc := .inr (x, n, 0, [])) (mc := w.2.2.2.1 + 1) (ms := w.2.2.2.2 + n) c4 c6 c7 rfl k1 k2 k3
    have K := hk _ _ _ _ _ _ _ _ _ _ G2 hr h hos
    have e1 : (Sum.inr (Sum.inl (Nat.succ w.2.1)) :: s').map (ev_cv σ (fun i => if i = w.2.1 then q else ρ i)) = .ref q :: s'.map (ev_cv σ ρ) := by
      rw [List.map_cons, ev_cvs_cl (fun i hi => if_neg (by omega)) c5]
      show Value.ref (if w.2.1 = w.2.1 then q else ρ w.2.1) :: _ = _
      rw [if_pos rfl]
    rw [e1] at K
    exact K
theorem es_nw {x : Nat × Nat × List ev_V} (hkk : ev_kok cl gw) (C : ev_Cx p l e R s mm args below meth c m d dC dI ca cl gw nw A) (hm : ev_mok cl pg gw nw m) (hk : ev_Sn p l e R s mm args below meth c m dC dI ca cl pg gw nw A σ ρ0 n0 Q os k) (G : ev_G s m dC dI ca cl A σ ρ0 n0 ρ ls la w H locs) (hok : ev_okc cl pg gw nw m pc (ei_nw x :: r)) (h : ea_nw x call k m r ls st w = some outs) (hos : ∀ o ∈ outs, o ∈ os) : W p l e R s mm args below meth c H locs w.2.2.2.1 w.2.2.2.2 Q (F0 mm pc la (st.map (ev_cv σ ρ))) := by
  obtain ⟨hd, hw, -, hs, hr⟩ := hok
  obtain ⟨hs, hs3⟩ := ev_band (show Bool.and (ev_snw (ev_kd cl x.1) x.2.2) (cl[x.1]?).isSome = true from hs)
  obtain ⟨hs1, hs2⟩ := ev_band (show Bool.and _ _ = true from hs)
  have hs1 : x.2.2.length = (ev_kd cl x.1).2.2 := of_decide_eq_true hs1
  have hc0 := ev_kd_some hs3
  obtain ⟨hx, hb, -, -, -, hown, -, hts, hK, -, hR, hA⟩ := C
  obtain ⟨hki, ty0, hty, -⟩ := hkk _ _ hc0
  have hin : ∀ w ∈ u_ws (ev_kd cl x.1).1 (ev_kd cl x.1).2.1 (ev_kd cl x.1).2.2, w ∈ ev_ws gw m := fun w h => List.mem_cons_of_mem _ (hki w h)
  have hw' : ∀ w ∈ ([.classLink (ev_own m) x.2.1 (ev_kd cl x.1).1, .instantiable (ev_kd cl x.1).1 (ev_kd cl x.1).2.2, .initialized (ev_kd cl x.1).1] : List Jvm.Cond), w.before args s = true := fun w h => hts w (List.mem_cons_of_mem _ (hw w h))
  obtain ⟨hc, h⟩ := ev_ite (show Bool.rec (motive := fun _ => ev_R) none _ _ = some outs from h)
  obtain ⟨c2, hc⟩ := ev_band hc
  obtain ⟨c3, hc⟩ := ev_band hc
  obtain ⟨c4, hc⟩ := ev_band hc
  obtain ⟨c5, hc⟩ := ev_band hc
  obtain ⟨c6, hc⟩ := ev_band hc
  obtain ⟨c8, c7⟩ := ev_band hc
  have c2 : w.2.2.2.1 + 1 ≤ m.2.2.1 := Nat.le_of_ble_eq_true c2
  have c3 : w.2.2.2.2 + x.2.2.length ≤ m.2.2.2.1 := Nat.le_of_ble_eq_true c3
  have c4 : w.2.1 ≤ 127 := Nat.le_of_ble_eq_true c4
  have hfs : ∀ j, j < (ev_kd cl x.1).2.2 → defaultValue (ty0 j) = vp_V (x.2.2.map (ev_cv σ ρ)) j := by
    intro j hj
    have h1 := List.all_eq_true.mp hs2 j (List.mem_range.mpr hj)
    rw [hty j hj] at h1
    have h1 : ev_dvt (ty0 j) x.2.2[j]? = true := h1
    unfold vp_V
    rw [List.getD_eq_getElem?_getD, List.getElem?_map]
    match ty0 j, x.2.2[j]?, h1 with
    | .long, some (.inr (.inr (.inl 0))), _ => rfl
    | .object _, some (.inr (.inl 0)), _ => rfl
    | .array _, some (.inr (.inl 0)), _ => rfl
    | .int, some (.inl 0), _ => rfl
    | .boolean, some (.inl 0), _ => rfl
    | .byte, some (.inl 0), _ => rfl
  rw [hs1] at c3
  subst hR
  refine va_new hx hb hts hin ty0 hty hown (hw' _ List.mem_cons_self) (hw' _ (List.mem_cons_of_mem _ List.mem_cons_self)) (hw' _ (List.mem_cons_of_mem _ (List.mem_cons_of_mem _ List.mem_cons_self))) hK G.2.2.2.1 G.2.2.2.2.1 G.2.2.2.2.2 hA hc0 hfs c2 c3 hd ?_
  intro q H1 k1 k2 k3
  have hrr : ∀ i, i < w.2.1 → (fun i => if i = w.2.1 then q else ρ i) i = ρ i := fun i h => if_neg (by omega)
  have G2 := G.push (cc := .inl (x.1, x.2.2)) (mc := w.2.2.2.1 + 1) (ms := w.2.2.2.2 + x.2.2.length) c4 c6 c7 (ev_ce_cl (n := w.2.1) hrr c8) k1 k2 k3
  have K := hk _ _ _ _ _ _ _ _ _ _ G2 hr h hos
  have e1 : (Sum.inr (Sum.inl (Nat.succ w.2.1)) :: st).map (ev_cv σ (fun i => if i = w.2.1 then q else ρ i)) = .ref q :: st.map (ev_cv σ ρ) := by
    rw [List.map_cons, ev_cvs_cl (fun i hi => if_neg (by omega)) c5]
    show Value.ref (if w.2.1 = w.2.1 then q else ρ w.2.1) :: _ = _
    rw [if_pos rfl]
  rw [e1] at K
  rw [← hs1]
  exact K
theorem es_oi {x : Nat} (C : ev_Cx p l e R s mm args below meth c m d dC dI ca cl gw nw A) (hm : ev_mok cl pg gw nw m) (hk : ev_Sn p l e R s mm args below meth c m dC dI ca cl pg gw nw A σ ρ0 n0 Q os k) (G : ev_G s m dC dI ca cl A σ ρ0 n0 ρ ls la w H locs) (hok : ev_okc cl pg gw nw m pc (ei_oi x :: r)) (h : ea_oi x call k m r ls st w = some outs) (hos : ∀ o ∈ outs, o ∈ os) : W p l e R s mm args below meth c H locs w.2.2.2.1 w.2.2.2.2 Q (F0 mm pc la (st.map (ev_cv σ ρ))) := by
  obtain ⟨hd, hw, -, hs, hr⟩ := hok
  obtain ⟨hx, hb, -, -, hml, hown, -, hts, -, -, hR, -⟩ := C
  have hw' : ∀ w ∈ ([.methodLink (ev_own m) x Lib.objectInit, .instanceMethod Lib.objectInit, .code Lib.objectInit ⟨#[0xb1]⟩ 1 none] : List Jvm.Cond), w.before args s = true := fun w h => hts w (List.mem_cons_of_mem _ (hw w h))
  unfold ea_oi at h
  match st, h with
  | .inr (.inl (i + 1)) :: s', h =>
    obtain ⟨hc, h⟩ := ev_ite h
    have hc : ev_cat s' ≤ 8 := Nat.le_of_ble_eq_true hc
    subst hR
    refine W.objInit hx hb hown (hw' _ List.mem_cons_self) (hw' _ (List.mem_cons_of_mem _ List.mem_cons_self)) (hw' _ (List.mem_cons_of_mem _ (List.mem_cons_of_mem _ List.mem_cons_self))) (a := ρ i) (rest := s'.map (ev_cv σ ρ)) rfl (G.1.1.trans hml.symm) rfl hd (by show 1 ≤ d + 1; omega) ?_ (hk _ _ _ _ _ _ _ _ _ _ G hr h hos)
    rw [ev_cat_ok]
    show 2 * 0 + ev_cat s' + 12 ≤ 40 * (d + 1)
    omega
theorem ev_cf_cp (σ : Nat → Int32) (Md Ms sp dp n : Nat) : ev_cf σ (ev_cp 32 Md Ms sp dp n) [] = va_cpy (ev_cf σ Ms []) (ev_cf σ Md []) sp dp n := by
  funext j
  show Int32.ofNat (ev_gm 32 (ev_cp 32 Md Ms sp dp n) j) = if dp ≤ j ∧ j < dp + n then Int32.ofNat (ev_gm 32 Ms (sp + (j - dp))) else Int32.ofNat (ev_gm 32 Md j)
  rw [ev_gm_cp]
  split <;> rfl
theorem ev_cl_cp (Md Ms sp dp n : Nat) : (fun i => Int64.ofNat (ev_gm 64 (ev_cp 64 Md Ms sp dp n) i)) = va_cpy (fun i => Int64.ofNat (ev_gm 64 Ms i)) (fun i => Int64.ofNat (ev_gm 64 Md i)) sp dp n := by
  funext j
  show Int64.ofNat (ev_gm 64 (ev_cp 64 Md Ms sp dp n) j) = if dp ≤ j ∧ j < dp + n then Int64.ofNat (ev_gm 64 Ms (sp + (j - dp))) else Int64.ofNat (ev_gm 64 Md j)
  rw [ev_gm_cp]
  split <;> rfl
theorem es_cy {x : Nat} (C : ev_Cx p l e R s mm args below meth c m d dC dI ca cl gw nw A) (hm : ev_mok cl pg gw nw m) (hk : ev_Sn p l e R s mm args below meth c m dC dI ca cl pg gw nw A σ ρ0 n0 Q os k) (G : ev_G s m dC dI ca cl A σ ρ0 n0 ρ ls la w H locs) (hok : ev_okc cl pg gw nw m pc (ei_cy x :: r)) (h : ea_cy x call k m r ls st w = some outs) (hos : ∀ o ∈ outs, o ∈ os) : W p l e R s mm args below meth c H locs w.2.2.2.1 w.2.2.2.2 Q (F0 mm pc la (st.map (ev_cv σ ρ))) := by
  obtain ⟨hd, hw, -, hs, hr⟩ := hok
  obtain ⟨hx, hb, -, -, hml, hown, -, hts, hK, -, hR, -⟩ := C
  have hw' : ∀ w ∈ ([.methodLink (ev_own m) x arraycopyName, .native arraycopyName, .static arraycopyName, .initialized "java/lang/System"] : List Jvm.Cond), w.before args s = true := fun w h => hts w (List.mem_cons_of_mem _ (hw w h))
  have w1 := hw' _ List.mem_cons_self
  have w2 := hw' _ (List.mem_cons_of_mem _ List.mem_cons_self)
  have w3 := hw' _ (List.mem_cons_of_mem _ (List.mem_cons_of_mem _ List.mem_cons_self))
  have w4 := hw' _ (List.mem_cons_of_mem _ (List.mem_cons_of_mem _ (List.mem_cons_of_mem _ List.mem_cons_self)))
  unfold ea_cy at h
  match st, h with
  | .inl n :: .inl dp :: .inr (.inl (i + 1)) :: .inl sp :: .inr (.inl (i' + 1)) :: s', h =>
    dsimp only at h
    match ho : ev_tg 7 w.1 i, ho' : ev_tg 7 w.1 i', h with
    | .inr (q, n1, M1, []), .inr (q', n0', M0, []), h =>
      obtain ⟨hc, h5⟩ := ev_ite (show Bool.rec (motive := fun _ => ev_R) none _ _ = some outs from h)
      obtain ⟨c1, hc⟩ := ev_band hc
      obtain ⟨c2, hc⟩ := ev_band hc
      obtain ⟨c3, hc⟩ := ev_band hc
      obtain ⟨c4, hc⟩ := ev_band hc
      obtain ⟨c5, hc⟩ := ev_band hc
      obtain ⟨c6, hc⟩ := ev_band hc
      obtain ⟨c7, hc⟩ := ev_band hc
      obtain ⟨c8, c9⟩ := ev_band hc
      have c1 : q = q' := ev_beq.mp c1
      have c2 : q ≤ 1 := Nat.le_of_ble_eq_true c2
      have c3 : i < w.2.1 := Nat.le_of_ble_eq_true c3
      have c4 : i' < w.2.1 := Nat.le_of_ble_eq_true c4
      have c5 : sp + n ≤ n0' := Nat.le_of_ble_eq_true c5
      have c6 : dp + n ≤ n1 := Nat.le_of_ble_eq_true c6
      have c7 : sp + n ≤ 2147483647 := Nat.le_of_ble_eq_true c7
      have c8 : dp + n ≤ 2147483647 := Nat.le_of_ble_eq_true c8
      have c9 : ev_cat s' ≤ 8 := Nat.le_of_ble_eq_true c9
      rw [ev_fo_eq] at h5
      clear h
      subst c1
      subst hR
      have e1 := ev_clamp (j := sp) (by omega)
      have e2 := ev_clamp (j := dp) (by omega)
      have e3 := ev_clamp (j := n) (by omega)
      have hlo : ((s'.map (ev_cv σ ρ)).map (fun v => v.category)).sum + (nativeFrameWords "java/lang/System" "arraycopy" 5 + 11) ≤ (ev_rm (d + 1) m).locals := by
        rw [ev_cat_ok]
        have : nativeFrameWords "java/lang/System" "arraycopy" 5 = 7 := by decide +kernel
        rw [this]
        show _ ≤ 40 * (d + 1)
        omega
      have p1 := nI_pos (n := sp) (by omega)
      have p2 := nI_pos (n := dp) (by omega)
      have p3 := nI_pos (n := n) (by omega)
      match q, c2, ho, ho', h5 with
      | 0, _, ho, ho', h =>
        have he : (ev_wl σ ρ ca w.1 w.2.1)[i]? = some (ρ i, .inl (ca 0, n1, .inl (ev_cf σ M1 []))) := by
          rw [ev_wl_get c3, ho]
          rfl
        have he' : (ev_wl σ ρ ca w.1 w.2.1)[i']? = some (ρ i', .inl (ca 0, n0', .inl (ev_cf σ M0 []))) := by
          rw [ev_wl_get c4, ho']
          rfl
        refine va_copyi (ty := .int) hx hb (hml.trans G.1.1.symm) hown w1 w2 w3 w4 hK G.2.2.2.1 G.2.2.2.2.1 G.2.2.2.2.2 i' i 0 0 he' he rfl rfl rfl p1 p2 p3 (by rw [show (Int32.ofNat sp).toNatClampNeg = sp from e1, show (Int32.ofNat n).toNatClampNeg = n from e3]; exact c5) (by rw [show (Int32.ofNat dp).toNatClampNeg = dp from e2, show (Int32.ofNat n).toNatClampNeg = n from e3]; exact c6) (fun _ _ => rfl) (by show 1 ≤ d + 1; omega) hlo hd ?_
        rw [e1, e2, e3, ← ev_cf_cp]
        intro H1 locs1 k1 k2 k3
        exact hk _ _ _ (ev_ts 7 w.1 i (.inr (0, n1, ev_cp 32 M1 M0 sp dp n, [])), w.2) _ _ _ _ _ _ (G.put (cc := .inr (0, n1, ev_cp 32 M1 M0 sp dp n, [])) c3 k1 k2 k3) hr h hos
      | 1, _, ho, ho', h =>
        have he : (ev_wl σ ρ ca w.1 w.2.1)[i]? = some (ρ i, .inl (ca 1, n1, .inr (.inl (fun i => Int64.ofNat (ev_gm 64 M1 i))))) := by
          rw [ev_wl_get c3, ho]
          rfl
        have he' : (ev_wl σ ρ ca w.1 w.2.1)[i']? = some (ρ i', .inl (ca 1, n0', .inr (.inl (fun i => Int64.ofNat (ev_gm 64 M0 i))))) := by
          rw [ev_wl_get c4, ho']
          rfl
        refine va_copyl (ty := .long) hx hb (hml.trans G.1.1.symm) hown w1 w2 w3 w4 hK G.2.2.2.1 G.2.2.2.2.1 G.2.2.2.2.2 i' i 1 1 he' he rfl rfl rfl p1 p2 p3 (by rw [show (Int32.ofNat sp).toNatClampNeg = sp from e1, show (Int32.ofNat n).toNatClampNeg = n from e3]; exact c5) (by rw [show (Int32.ofNat dp).toNatClampNeg = dp from e2, show (Int32.ofNat n).toNatClampNeg = n from e3]; exact c6) (fun _ _ => rfl) (by show 1 ≤ d + 1; omega) hlo hd ?_
        rw [e1, e2, e3, ← ev_cl_cp]
        intro H1 locs1 k1 k2 k3
        exact hk _ _ _ (ev_ts 7 w.1 i (.inr (1, n1, ev_cp 64 M1 M0 sp dp n, [])), w.2) _ _ _ _ _ _ (G.put (cc := .inr (1, n1, ev_cp 64 M1 M0 sp dp n, [])) c3 k1 k2 k3) hr h hos
end EVD
end
section
/-! ===== ends and calls; the whole ===== -/
def ev_ro (σ : Nat → Int32) (ρ : Nat → Nat) (v : ev_V) : Option Value := match v with
  | .inr (.inr (.inr (.inr _))) => none
  | u => some (ev_cv σ ρ u)
/-- a method's start and end -/
def ev_Pr (dC : Nat → ClassId) (dI : Nat → Nat → Nat) (ca : Nat → ClassId) (cl : List vw_C) (nw : List Jvm.Cond) (σ : Nat → Int32) (ρ : Nat → Nat) (as : List ev_V) (h : ev_H) (n sz : Nat) : Array Value → State → Prop := va_Pc (as.map (ev_cv σ ρ)) (fun U => U.heap.size = sz ∧ va_P (dC, dI) cl (ev_wl σ ρ ca h n) U.heap ∧ va_K (dC, dI) cl (ev_ty ca) U ∧ va_D (fun _ => True) (ev_wl σ ρ ca h n) ∧ ∀ w ∈ nw, va_Nw w U)
def ev_Po (dC : Nat → ClassId) (dI : Nat → Nat → Nat) (ca : Nat → ClassId) (cl : List vw_C) (σ : Nat → Int32) (ρ0 : Nat → Nat) (n0 : Nat) (os : List ev_O) (A : Nat → Prop) : Array Value → State → Outcome → State → Prop := fun _ st oc t => (∃ o ∈ os, ∃ ρ : Nat → Nat, (n0 ≤ o.2.2.1 ∧ o.2.2.1 ≤ 128 ∧ (∀ i, i < n0 → ρ i = ρ0 i) ∧ (o.2.2.1 = n0 → ρ = ρ0)) ∧ ev_sat σ o.2.2.2 ∧ oc = .returned (ev_ro σ ρ o.1) ∧ va_P (dC, dI) cl (ev_wl σ ρ ca o.2.1 o.2.2.1) t.heap ∧ va_D A (ev_wl σ ρ ca o.2.1 o.2.2.1)) ∧ va_F A st t
def ev_Ct (cl : List vw_C) (gw nw : List Jvm.Cond) (d : Nat) (m : ev_M) (as : List ev_V) (h : ev_H) (n : Nat) (e : ev_E) (os : List ev_O) : Prop := ∀ (l : Launch) (dC : Nat → ClassId) (dI : Nat → Nat → Nat) (ca : Nat → ClassId) (σ : Nat → Int32) (ρ : Nat → Nat) (sz : Nat), ev_sat σ e → n ≤ 128 → Met l m.2.2.2.2.2.1 (ev_ws gw m) (ev_rm d m) (ev_Pr dC dI ca cl nw σ ρ as h n sz) (ev_Po dC dI ca cl σ ρ n os (va_A (ev_wl σ ρ ca h n) sz)) m.2.2.1 m.2.2.2.1 (va_A (ev_wl σ ρ ca h n) sz)
def ev_gok (gw : List Jvm.Cond) : Prop := ∀ w ∈ gw, (w.onTables && w.keeps) = true ∨ ∃ ty, w = .arrayClass ty
def ev_nok (nw : List Jvm.Cond) : Prop := ∀ w ∈ nw, (∃ a i b n d h, w = .fieldLinkNest a i b n d h) ∨ ∃ a i x h, w = .methodLinkNest a i x h
theorem ev_nok_on {nw : List Jvm.Cond} (hn : ev_nok nw) {w : Jvm.Cond} (h : w ∈ nw) : w.onTables = true := by
  rcases hn w h with ⟨a, i, b, n, d, hh, rfl⟩ | ⟨a, i, x, hh, rfl⟩ <;> rfl
theorem ev_nok_warm {nw : List Jvm.Cond} (hn : ev_nok nw) {s U : State} (hW : s.WarmedH U.vm) (h : ∀ w ∈ nw, va_Nw w s) : ∀ w ∈ nw, va_Nw w U := by
  intro w hw
  have h1 := h w hw
  rcases hn w hw with ⟨a, i, b, n, d, hh, rfl⟩ | ⟨a, i, x, hh, rfl⟩
  · exact va_Nw.warmF hW h1
  · exact va_Nw.warmM hW h1
theorem ev_Pr_blind {dC : Nat → ClassId} {dI : Nat → Nat → Nat} {ca : Nat → ClassId} {cl : List vw_C} {nw : List Jvm.Cond} {σ : Nat → Int32} {ρ : Nat → Nat} {as : List ev_V} {h : ev_H} {n sz : Nat} (hn : ev_nok nw) : FrameBlind (ev_Pr dC dI ca cl nw σ ρ as h n sz) := by
  intro a U g mk q
  obtain ⟨q0, q1, qP, qK, qD, qN⟩ := q
  exact ⟨q0, q1, qP, va_K.moved (u := U) (U := U.calling g mk a) (Vm.Alike.refl U.vm) qK, qD, fun w hw => va_Nw.same (u := U) (U := U.calling g mk a) (ev_nok_on hn hw) rfl (qN w hw)⟩
theorem ev_bo_some {f : ev_O → ev_R} : ∀ (l : List ev_O) (outs : List ev_O), ev_bo l f = some outs → ∀ o ∈ l, ∃ u, f o = some u ∧ ∀ z ∈ u, z ∈ outs
  | [], _, _, o, ho => by cases ho
  | [o1], outs, h, o, ho => by
    rw [List.mem_singleton] at ho
    subst ho
    exact ⟨outs, h, fun z hz => hz⟩
  | o1 :: o2 :: r, outs, h, o, ho => by
    obtain ⟨u, v, e1, e2, k1, k2⟩ := ev_jn_some (show ev_jn (f o1) (ev_bo (o2 :: r) f) = some outs from h)
    rcases List.mem_cons.mp ho with rfl | ho
    · exact ⟨u, e1, k1⟩
    · obtain ⟨u2, e3, k3⟩ := ev_bo_some (o2 :: r) v e2 o ho
      exact ⟨u2, e3, fun z hz => k2 z (k3 z hz)⟩
theorem ev_pop_ok : ∀ (n : Nat) (st acc as s' : List ev_V), ev_pop n st acc = (as, s') → as.length = n + acc.length → ∃ f, as = f ++ acc ∧ st = f.reverse ++ s'
  | 0, st, acc, as, s', h, _ => by
    have h : (acc, st) = (as, s') := by
      cases st <;> exact h
    cases h
    exact ⟨[], rfl, rfl⟩
  | n + 1, [], acc, as, s', h, hl => by
    have h : (([], []) : List ev_V × List ev_V) = (as, s') := h
    cases h
    simp at hl
    omega
  | n + 1, v :: st, acc, as, s', h, hl => by
    obtain ⟨f, e1, e2⟩ := ev_pop_ok n st (v :: acc) as s' h (by rw [hl, List.length_cons]; omega)
    exact ⟨f ++ [v], by rw [e1]; simp, by rw [e2]; simp⟩
theorem ev_bck_ok {σ : Nat → Int32} {ρ : Nat → Nat} (v : ev_V) (s : List ev_V) : (ev_bck v s).map (ev_cv σ ρ) = (ev_ro σ ρ v).toList ++ s.map (ev_cv σ ρ) := by
  match v with
  | .inl _ => rfl
  | .inr (.inl _) => rfl
  | .inr (.inr (.inl _)) => rfl
  | .inr (.inr (.inr (.inl _))) => rfl
  | .inr (.inr (.inr (.inr _))) => rfl
section EVE
variable {p : Program} {l : Launch} {e : Env} {R : Room} {s : State} {mm : MethodId} {args : Array Value} {below : List Frame} {meth : Method} {c : Code}
variable {m : ev_M} {d n0 : Nat} {dC : Nat → ClassId} {dI : Nat → Nat → Nat} {ca : Nat → ClassId} {cl : List vw_C} {pg : List ev_M} {gw nw : List Jvm.Cond} {A : Nat → Prop} {σ : Nat → Int32} {ρ0 : Nat → Nat} {Q : State → Prop} {os outs : List ev_O}
variable {call : ev_Q} {k : ev_K} {r : List ev_I} {ls st : List ev_V} {w : ev_Wd} {pc : Nat} {la : Array Slot} {ρ : Nat → Nat} {H : Heap} {locs : List Loc}
theorem es_re {x : Nat} (hQ : Q = MQ below (ev_Po dC dI ca cl σ ρ0 n0 os A) args s m.2.2.1 m.2.2.2.1 A) (C : ev_Cx p l e R s mm args below meth c m d dC dI ca cl gw nw A) (hm : ev_mok cl pg gw nw m) (hk : ev_Sn p l e R s mm args below meth c m dC dI ca cl pg gw nw A σ ρ0 n0 Q os k) (G : ev_G s m dC dI ca cl A σ ρ0 n0 ρ ls la w H locs) (hok : ev_okc cl pg gw nw m pc (ei_re x :: r)) (h : ea_re x call k m r ls st w = some outs) (hos : ∀ o ∈ outs, o ∈ os) : W p l e R s mm args below meth c H locs w.2.2.2.1 w.2.2.2.2 Q (F0 mm pc la (st.map (ev_cv σ ρ))) := by
  obtain ⟨hd, -, -, hs, -⟩ := hok
  obtain ⟨hx, hb, hret, hlocks, -⟩ := C
  unfold ea_re at h
  obtain ⟨hc, h⟩ := ev_ite h
  obtain ⟨c1, c2⟩ := ev_band hc
  have c1 : w.2.2.2.1 ≤ m.2.2.1 := Nat.le_of_ble_eq_true c1
  have c2 : w.2.2.2.2 ≤ m.2.2.2.1 := Nat.le_of_ble_eq_true c2
  obtain ⟨g1, g2, g3, g4, g5, g6⟩ := G
  have post : ∀ (v : ev_V) (u : Option Value), (v, w.1, w.2.1, w.2.2.1) ∈ os → u = ev_ro σ ρ v → ∀ t : State, t.heap = H → s.WarmedH t.vm → ev_Po dC dI ca cl σ ρ0 n0 os A args s (.returned u) t := by
    intro v u hv hu t ht _
    refine ⟨⟨_, hv, ρ, g3, g2, by rw [hu], ?_, g5⟩, g6.F ht⟩
    rw [ht]
    exact g4
  subst hQ
  match x, st, h with
  | 0, [.inl n], h =>
    cases hm2 : m.2.2.2.2.2.2.2 with
    | none => rw [hm2] at h; cases h
    | some ty =>
      rw [hm2] at h hret
      match ty, h, hret with
      | .int, h, hret =>
        have h : [(.inl n, w.1, w.2.1, w.2.2.1)] = outs := Option.some.inj h
        exact W.widen c1 c2 (W.zret hx hb hret rfl (post (.inl n) _ (hos _ (by rw [← h]; exact List.mem_cons_self)) rfl) (fun q hq => g6.2.2 q hq) hd hlocks)
      | .boolean, h, hret =>
        obtain ⟨hb1, h⟩ := ev_ite h
        have hb1 : n ≤ 1 := Nat.le_of_ble_eq_true hb1
        have h : [(.inl n, w.1, w.2.1, w.2.2.1)] = outs := Option.some.inj h
        have hn : narrow .boolean (.int (Int32.ofNat n)) = .int (Int32.ofNat n) := by
          match n, hb1 with
          | 0, _ => exact ev_b0.1
          | 1, _ => exact ev_b1.1
        exact W.widen c1 c2 (W.zret hx hb hret hn (post (.inl n) _ (hos _ (by rw [← h]; exact List.mem_cons_self)) rfl) (fun q hq => g6.2.2 q hq) hd hlocks)
  | 0, [.inr (.inr (.inr (.inl t)))], h =>
    cases hm2 : m.2.2.2.2.2.2.2 with
    | none => rw [hm2] at h; cases h
    | some ty =>
      rw [hm2] at h hret
      match ty, h, hret with
      | .int, h, hret =>
        have h : [(.inr (.inr (.inr (.inl t))), w.1, w.2.1, w.2.2.1)] = outs := Option.some.inj h
        exact W.widen c1 c2 (W.zret hx hb hret rfl (post (.inr (.inr (.inr (.inl t)))) _ (hos _ (by rw [← h]; exact List.mem_cons_self)) rfl) (fun q hq => g6.2.2 q hq) hd hlocks)
  | 1, [.inr (.inl y)], h =>
    cases hm2 : m.2.2.2.2.2.2.2 with
    | none => rw [hm2] at h; cases h
    | some ty =>
      rw [hm2] at h hret
      match ty, h, hret with
      | .object nm, h, hret =>
        have h : [(.inr (.inl y), w.1, w.2.1, w.2.2.1)] = outs := Option.some.inj h
        have hv : ev_cr ρ y = .null ∨ ∃ a, ev_cr ρ y = .ref a := by
          cases y with
          | zero => exact Or.inl rfl
          | succ y => exact Or.inr ⟨_, rfl⟩
        exact W.widen c1 c2 (W.aret (v := ev_cr ρ y) hx hb hret (Or.inl ⟨nm, rfl⟩) hv (post (.inr (.inl y)) _ (hos _ (by rw [← h]; exact List.mem_cons_self)) rfl) (fun q hq => g6.2.2 q hq) hd hlocks)
  | 2, [], h =>
    cases hm2 : m.2.2.2.2.2.2.2 with
    | some ty => rw [hm2] at h; cases h
    | none =>
      rw [hm2] at h hret
      have h : [(ev_U, w.1, w.2.1, w.2.2.1)] = outs := Option.some.inj h
      exact W.widen c1 c2 (W.vret hx hb hret (post ev_U _ (hos _ (by rw [← h]; exact List.mem_cons_self)) rfl) (fun q hq => g6.2.2 q hq) hd hlocks)
theorem ev_callG {os' : List ev_O} {n1 cells slots mc ms : Nat} {A1 : Nat → Prop} {free : Addr → Prop} {av : Array Value} {rest st0 : List Value} (hr : va_Run p l e R s mm args below meth c H locs cells slots mc ms (F0 mm pc la st0) rest (ev_Po dC dI ca cl σ ρ n1 os' A1 av) free) (hS : va_S A s.heap H locs) (hA : ∀ q, A1 q → A q) (hf : ∀ q, free q → A q)
    (kk : ∀ o ∈ os', ∀ (ρ' : Nat → Nat) (H1 : Heap) (locs1 : List Loc), (n1 ≤ o.2.2.1 ∧ o.2.2.1 ≤ 128 ∧ (∀ i, i < n1 → ρ' i = ρ i) ∧ (o.2.2.1 = n1 → ρ' = ρ)) → ev_sat σ o.2.2.2 → va_P (dC, dI) cl (ev_wl σ ρ' ca o.2.1 o.2.2.1) H1 → va_D A1 (ev_wl σ ρ' ca o.2.1 o.2.2.1) → va_S A s.heap H1 locs1 → W p l e R s mm args below meth c H1 locs1 (cells + mc) (slots + ms) Q (F0 mm (pc + 3) la ((ev_ro σ ρ' o.1).toList ++ rest))) : W p l e R s mm args below meth c H locs cells slots Q (F0 mm pc la st0) := by
  intro T hT X
  obtain ⟨v, st₀, t, T', L, h0, X', hL, e1, e2, ⟨⟨o, ho, ρ', h1, h2, hv, h3, h4⟩, hz, hkp⟩, stp⟩ := hr T hT X
  cases hv
  rw [h0] at hz hkp
  rw [← e1] at h3
  obtain ⟨t2, a1, b1⟩ := kk o ho ρ' T'.heap (locs ++ L) h1 h2 h3 h4
    ⟨Nat.le_trans hS.1 (by rw [e1]; exact hz), fun q k1 k2 => by rw [e1, hkp q (Nat.lt_of_lt_of_le k1 hS.1) (fun z => k2 (hA q z))]; exact hS.2.1 q k1 k2, fun q hq => by
      rcases List.mem_append.mp hq with k | k
      · exact hS.2.2 q k
      · exact hf _ (hL q k)⟩ T' rfl X'
  exact ⟨t2, stp t2 a1, b1⟩
theorem ev_good {gw : List Jvm.Cond} {m m' : ev_M} (hg : ev_gok gw) (h : ev_cw m' ∈ gw) : GoodIn (ev_ws gw m) (ev_ws gw m') := by
  intro w hw
  have h1 : w ∈ gw := by
    rcases List.mem_cons.mp hw with rfl | hw
    · exact h
    · exact hw
  exact ⟨List.mem_cons_of_mem _ h1, hg w h1⟩
theorem ev_mt_some {pg : List ev_M} {x : Nat} {m' : ev_M} (h : pg[x]? = some m') : ev_mt pg x = m' := by
  unfold ev_mt
  rw [List.getD_eq_getElem?_getD, h]
  rfl
theorem ev_room (d : Nat) {m m' : ev_M} (h : m'.2.2.2.2.1 ≤ 21) : (ev_rm d m').frames + 1 ≤ (ev_rm (d + 1) m).frames ∧ 8 + (m'.2.2.2.2.1 + 11) + (ev_rm d m').locals ≤ (ev_rm (d + 1) m).locals := by
  refine ⟨Nat.le_refl _, ?_⟩
  show 8 + (m'.2.2.2.2.1 + 11) + 40 * d ≤ 40 * (d + 1)
  omega
theorem es_ca {x : Nat × Nat × Nat × Nat × Nat × Nat × Nat} (hg : ev_gok gw) (hnk : ev_nok nw) (hpm : ∀ m1 ∈ pg, ev_mok cl pg gw nw m1) (hcall : ∀ x as h n e os1, call x as h n e = some os1 → ∃ m1, pg[x]? = some m1 ∧ ev_Ct cl gw nw d m1 as h n e os1) (C : ev_Cx p l e R s mm args below meth c m d dC dI ca cl gw nw A) (hm : ev_mok cl pg gw nw m) (hk : ev_Sn p l e R s mm args below meth c m dC dI ca cl pg gw nw A σ ρ0 n0 Q os k) (G : ev_G s m dC dI ca cl A σ ρ0 n0 ρ ls la w H locs) (hok : ev_okc cl pg gw nw m pc (ei_ca x :: r)) (h : ea_ca x call k m r ls st w = some outs) (hos : ∀ o ∈ outs, o ∈ os) : W p l e R s mm args below meth c H locs w.2.2.2.1 w.2.2.2.2 Q (F0 mm pc la (st.map (ev_cv σ ρ))) := by
  obtain ⟨hd, hw, hnw, hs, hr⟩ := hok
  obtain ⟨hs, -⟩ := ev_band (show Bool.and (ev_sca cl pg (ev_mt pg x.1) x) (pg[x.1]?).isSome = true from hs)
  obtain ⟨hx, hb, -, -, hml, hown, -, hts, hK, hN, hR, hA⟩ := C
  obtain ⟨G1, G2, G3, hP, hD, hS⟩ := G
  unfold ea_ca at h
  match hp : ev_pop x.2.1 st [], h with
  | (as, s'), h =>
    obtain ⟨hc, h⟩ := ev_ite (show Bool.rec (motive := fun _ => ev_R) none _ _ = some outs from h)
    obtain ⟨c1, hc⟩ := ev_band hc
    obtain ⟨c2, hc⟩ := ev_band hc
    obtain ⟨c3, hc⟩ := ev_band hc
    obtain ⟨c4, c5⟩ := ev_band hc
    have c2 : as.length = x.2.1 := ev_beq.mp c2
    have c3 : ev_cat s' ≤ 8 := Nat.le_of_ble_eq_true c3
    have c4 : w.2.2.2.1 + x.2.2.2.2.2.1 ≤ m.2.2.1 := Nat.le_of_ble_eq_true c4
    have c5 : w.2.2.2.2 + x.2.2.2.2.2.2 ≤ m.2.2.2.1 := Nat.le_of_ble_eq_true c5
    obtain ⟨f, e1, e2⟩ := ev_pop_ok _ _ _ _ _ hp (by simpa using c2)
    rw [List.append_nil] at e1
    subst e1
    cases hq : call x.1 as w.1 w.2.1 w.2.2.1 with
    | none => rw [hq] at h; cases h
    | some os1 =>
      rw [hq] at h
      have h : ev_bo os1 (ea_ca3 k r ls s' w x.2.2.2.2.2.1 x.2.2.2.2.2.2) = some outs := h
      obtain ⟨m1, hm1, hCt⟩ := hcall _ _ _ _ _ _ hq
      rw [ev_mt_some hm1] at hs
      have hw : ∀ w ∈ ev_wca (ev_own m) x.2.2.2.1 x.2.2.2.2.1 m1, w.before args s = true := fun w h => hts w (List.mem_cons_of_mem _ (hw w (by
        show w ∈ ev_wca (ev_own m) x.2.2.2.1 x.2.2.2.2.1 (ev_mt pg x.1)
        rw [ev_mt_some hm1]; exact h)))
      have hnw : ∀ w ∈ (if x.2.2.2.2.1 < 4 then [] else [Jvm.Cond.methodLinkNest (ev_own m) x.2.2.2.1 m1.2.2.2.2.2.1 "RegisterColours"]), va_Nw w s := fun w h => hN w (hnw w (by
        show w ∈ (if x.2.2.2.2.1 < 4 then [] else [Jvm.Cond.methodLinkNest (ev_own m) x.2.2.2.1 (ev_mt pg x.1).2.2.2.2.2.1 "RegisterColours"])
        rw [ev_mt_some hm1]; exact h))
      obtain ⟨hs, t6⟩ := ev_band (show Bool.and _ _ = true from hs)
      obtain ⟨hs, t5⟩ := ev_band (show Bool.and _ _ = true from hs)
      obtain ⟨hs, t4⟩ := ev_band (show Bool.and _ _ = true from hs)
      obtain ⟨hs, t3⟩ := ev_band (show Bool.and _ _ = true from hs)
      obtain ⟨t1, t2⟩ := ev_band (show Bool.and _ _ = true from hs)
      have t1 : m1.2.2.2.2.1 ≤ 21 := of_decide_eq_true t1
      have t2 := of_decide_eq_true t2
      have t3 := of_decide_eq_true t3
      have t4 : m1.2.2.1 = x.2.2.2.2.2.1 := of_decide_eq_true t4
      have t5 : m1.2.2.2.1 = x.2.2.2.2.2.2 := of_decide_eq_true t5
      have hm1' := hpm m1 (List.mem_of_getElem? hm1)
      have hgood : GoodIn (ev_ws gw m) (ev_ws gw m1) := ev_good hg hm1'.2.2.2.1
      have hM := hCt l dC dI ca σ ρ H.size G2 G3.2.1
      have hfree : ∀ q, va_A (ev_wl σ ρ ca w.1 w.2.1) H.size q → A q := by
        rintro q (⟨j, ee, hj⟩ | hj)
        · exact hD.2 j _ hj
        · exact hA q (Nat.le_trans hS.1 hj)
      have hpre : ∀ U : State, U.heap = H → s.WarmedH U.vm → ev_Pr dC dI ca cl nw σ ρ as w.1 w.2.1 H.size (as.map (ev_cv σ ρ)).toArray U := fun U hU hW => ⟨rfl, by rw [hU], by rw [hU]; exact hP, va_K.moved hW.alike hK, hD.weaken (fun _ _ _ _ => trivial), ev_nok_warm hnk hW hN⟩
      have hcat : 2 * (F0 mm pc la (st.map (ev_cv σ ρ))).monitorRoom + ((s'.map (ev_cv σ ρ)).map fun v => v.category).sum ≤ 8 := by
        rw [ev_cat_ok]
        show 2 * 0 + ev_cat s' ≤ 8
        omega
      subst hR
      have hfit : w.2.2.2.1 + m1.2.2.1 ≤ (ev_rm (d + 1) m).cells ∧ w.2.2.2.2 + m1.2.2.2.1 ≤ (ev_rm (d + 1) m).slots := by
        rw [t4, t5]
        exact ⟨c4, c5⟩
      have fin : ∀ av : Array Value, va_Run p l e (ev_rm (d + 1) m) s mm args below meth c H locs w.2.2.2.1 w.2.2.2.2 m1.2.2.1 m1.2.2.2.1 (F0 mm pc la (st.map (ev_cv σ ρ))) (s'.map (ev_cv σ ρ)) (ev_Po dC dI ca cl σ ρ w.2.1 os1 (va_A (ev_wl σ ρ ca w.1 w.2.1) H.size) av) (va_A (ev_wl σ ρ ca w.1 w.2.1) H.size) → W p l e (ev_rm (d + 1) m) s mm args below meth c H locs w.2.2.2.1 w.2.2.2.2 Q (F0 mm pc la (st.map (ev_cv σ ρ))) := by
        intro av hrun
        refine ev_callG hrun hS hfree hfree ?_
        intro o ho ρ' H1 locs1 k1 k2 k3 k4 k5
        obtain ⟨u, h1, h2⟩ := ev_bo_some _ _ h o ho
        obtain ⟨hc3, h1⟩ := ev_ite (show Bool.rec (motive := fun _ => ev_R) none _ _ = some u from h1)
        have hls : ev_pr σ ρ' 0 ls = ev_pr σ ρ 0 ls ∧ s'.map (ev_cv σ ρ') = s'.map (ev_cv σ ρ) := by
          cases hb1 : Nat.beq o.2.2.1 w.2.1 with
          | true =>
            have := k1.2.2.2 (ev_beq.mp hb1)
            rw [this]
            exact ⟨rfl, rfl⟩
          | false =>
            rw [hb1] at hc3
            obtain ⟨q1, q2⟩ := ev_band (show Bool.and _ _ = true from hc3)
            exact ⟨ev_pr_cl k1.2.2.1 q2 0, ev_cvs_cl k1.2.2.1 q1⟩
        have G' : ev_G s m dC dI ca cl A σ ρ0 n0 ρ' ls la (o.2.1, o.2.2.1, o.2.2.2, w.2.2.2.1 + x.2.2.2.2.2.1, w.2.2.2.2 + x.2.2.2.2.2.2) H1 locs1 := by
          refine ⟨by rw [hls.1]; exact G1, k2, ⟨Nat.le_trans G3.1 k1.1, k1.2.1, fun i hi => (k1.2.2.1 i (Nat.lt_of_lt_of_le hi G3.1)).trans (G3.2.2.1 i hi), fun hn => ?_⟩, k3, k4.weaken (fun _ q _ hq => hfree q.1 hq), k5⟩
          have hn : o.2.2.1 = n0 := hn
          have g31 := G3.1
          have k11 := k1.1
          have e3 : w.2.1 = n0 := by omega
          rw [k1.2.2.2 (by omega)]
          exact G3.2.2.2 e3
        have K := hk _ _ _ _ _ _ _ _ _ _ G' hr h1 (fun z hz => hos z (h2 z hz))
        rw [ev_bck_ok, hls.2] at K
        rw [t4, t5]
        exact K
      have hstk : st.map (ev_cv σ ρ) = (as.map (ev_cv σ ρ)).reverse ++ s'.map (ev_cv σ ρ) := by
        rw [e2, List.map_append, List.map_reverse]
      obtain ⟨xm, xn, xr, xi, xh, xc, xs⟩ := x
      dsimp only at *
      match xh, xr, t6, hw, hnw, hd, c1 with
      | 0, q + 1, t6, hw, _, hd, c1 =>
        obtain ⟨t6, t8⟩ := ev_band (show Bool.and _ _ = true from t6)
        obtain ⟨t6, t7⟩ := ev_band (show Bool.and _ _ = true from t6)
        have tp : (parseMethodDescriptor m1.2.2.2.2.2.1.desc).map (fun d => d.parameters.length + 1) = some xn := of_decide_eq_true t6
        have t7 : (ev_kd cl q).1 = m1.2.2.2.2.2.1.cls := of_decide_eq_true t7
        unfold ev_rcv at c1
        match as, c1, hstk, c2, hpre, fin, hM with
        | .inr (.inl (i + 1)) :: as', c1, hstk, c2, hpre, fin, hM =>
          dsimp only at c1
          match ho : ev_tg 7 w.1 i, c1 with
          | .inl (cc, fs), c1 =>
            obtain ⟨r1, r2⟩ := ev_band (show Bool.and _ _ = true from c1)
            have r1 : cc = q := ev_beq.mp r1
            have r2 : i < w.2.1 := Nat.le_of_ble_eq_true r2
            subst r1
            have he : (ev_wl σ ρ ca w.1 w.2.1)[i]? = some (ρ i, .inr (cc, fs.map (ev_cv σ ρ))) := by
              rw [ev_wl_get r2, ho]
              rfl
            have hrec := va_recv hK hP (ev_kd_some t8) he
            rw [t7] at hrec
            have hcb : CallB (ev_rm (d + 1) m) s args (ev_own m) xi m1.2.2.2.2.2.1 m1.2.2.2.2.2.2.1 m1.2.2.2.2.1 m1.2.2.2.2.2.2.2 (ev_ws gw m1) (ev_rm d m1) m1.2.2.1 m1.2.2.2.1 as'.length := callB_of as'.length hts hgood rfl rfl rfl (hw _ (List.mem_cons_of_mem _ (List.mem_cons_of_mem _ (List.mem_cons_of_mem _ List.mem_cons_self)))) (hw _ List.mem_cons_self) ⟨t2, t3, by
              rw [← c2] at tp
              cases hpd : parseMethodDescriptor m1.2.2.2.2.2.1.desc with
              | none => rw [hpd] at tp; cases tp
              | some sg =>
                rw [hpd] at tp
                have tq : sg.parameters.length + 1 = (as').length + 1 := Option.some.inj tp
                show some sg.parameters.length = some as'.length
                rw [Nat.succ.inj tq]⟩ (ev_room d t1)
            refine fin _ (va_runV (As := as'.map (ev_cv σ ρ)) (b := ρ i) (C := m1.2.2.2.2.2.1.cls) ⟨hx, hb, hml, hown, hts⟩ hM ⟨hcb, hw _ (List.mem_cons_of_mem _ List.mem_cons_self), hw _ (List.mem_cons_of_mem _ (List.mem_cons_of_mem _ List.mem_cons_self))⟩ ⟨ev_Pr_blind hnk, hrec, hpre⟩ rfl (by rw [List.length_map]) G1.1 ?_ hcat hd hfit)
            show st.map (ev_cv σ ρ) = _
            rw [hstk]
            simp [ev_cv, ev_cr]
      | 1, 0, t6, hw, _, hd, _ =>
        have t6 := of_decide_eq_true t6
        have hcb : CallB (ev_rm (d + 1) m) s args (ev_own m) xi m1.2.2.2.2.2.1 m1.2.2.2.2.2.2.1 m1.2.2.2.2.1 m1.2.2.2.2.2.2.2 (ev_ws gw m1) (ev_rm d m1) m1.2.2.1 m1.2.2.2.1 as.length := callB_of as.length hts hgood rfl rfl rfl (hw _ (List.mem_cons_of_mem _ (List.mem_cons_of_mem _ List.mem_cons_self))) (hw _ List.mem_cons_self) ⟨t2, t3, by rw [c2]; exact t6⟩ (ev_room d t1)
        exact fin _ (va_runS (As := as.map (ev_cv σ ρ)) ⟨hx, hb, hml, hown, hts⟩ hM ⟨hcb, hw _ (List.mem_cons_of_mem _ List.mem_cons_self)⟩ ⟨ev_Pr_blind hnk, hpre⟩ rfl (by rw [List.length_map]) G1.1 hstk hcat hd hfit)
      | 4, 0, t6, hw, hnw, hd, _ =>
        have t6 := of_decide_eq_true t6
        have hcn := va_cnB (R := ev_rm (d + 1) m) (own := ev_own m) (index := xi) as.length hts hgood rfl (rm := ev_rm d m1) rfl rfl (hnw _ List.mem_cons_self) (hw _ (List.mem_cons_of_mem _ List.mem_cons_self)) ⟨t2, t3, by rw [c2]; exact t6⟩ (ev_room d t1)
        exact fin _ (va_runSN (As := as.map (ev_cv σ ρ)) ⟨hx, hb, hml, hown, hts⟩ hM ⟨hcn, hw _ List.mem_cons_self, trivial⟩ ⟨ev_Pr_blind hnk, hpre⟩ rfl (by rw [List.length_map]) G1.1 hstk hcat hd hfit)
      | 2, q + 1, t6, hw, _, hd, c1 =>
        obtain ⟨t6, t8⟩ := ev_band (show Bool.and _ _ = true from t6)
        obtain ⟨t6, t7⟩ := ev_band (show Bool.and _ _ = true from t6)
        have tp : (parseMethodDescriptor m1.2.2.2.2.2.1.desc).map (fun d => d.parameters.length + 1) = some xn := of_decide_eq_true t6
        have t7 : m1.2.2.2.2.2.1.name = "<init>" := of_decide_eq_true t7
        have t8 : m1.2.2.2.2.2.2.2 = none := of_decide_eq_true t8
        unfold ev_rcv at c1
        match as, c1, hstk, c2, hpre, fin, hM with
        | .inr (.inl (i + 1)) :: as', c1, hstk, c2, hpre, fin, hM =>
          have hcb : CallB (ev_rm (d + 1) m) s args (ev_own m) xi m1.2.2.2.2.2.1 m1.2.2.2.2.2.2.1 m1.2.2.2.2.1 none (ev_ws gw m1) (ev_rm d m1) m1.2.2.1 m1.2.2.2.1 as'.length := callB_of as'.length hts hgood (by unfold ev_ws ev_cw; rw [t8]) rfl rfl (hw _ (List.mem_cons_of_mem _ (List.mem_cons_of_mem _ List.mem_cons_self))) (hw _ List.mem_cons_self) ⟨t2, t3, by
            rw [← c2] at tp
            cases hpd : parseMethodDescriptor m1.2.2.2.2.2.1.desc with
            | none => rw [hpd] at tp; cases tp
            | some sg =>
              rw [hpd] at tp
              have tq : sg.parameters.length + 1 = (as').length + 1 := Option.some.inj tp
              show some sg.parameters.length = some as'.length
              rw [Nat.succ.inj tq]⟩ (ev_room d t1)
          refine fin _ (va_runI (As := as'.map (ev_cv σ ρ)) (b := ρ i) ⟨hx, hb, hml, hown, hts⟩ hM ⟨hcb, t7, hw _ (List.mem_cons_of_mem _ List.mem_cons_self)⟩ ⟨ev_Pr_blind hnk, hpre⟩ rfl (by rw [List.length_map]) G1.1 ?_ hcat hd hfit)
          show st.map (ev_cv σ ρ) = _
          rw [hstk]
          simp [ev_cv, ev_cr]
      | 5, q + 1, t6, hw, hnw, hd, c1 =>
        obtain ⟨t6, t8⟩ := ev_band (show Bool.and _ _ = true from t6)
        obtain ⟨t6, t7⟩ := ev_band (show Bool.and _ _ = true from t6)
        have tp : (parseMethodDescriptor m1.2.2.2.2.2.1.desc).map (fun d => d.parameters.length + 1) = some xn := of_decide_eq_true t6
        have t7 : m1.2.2.2.2.2.1.name = "<init>" := of_decide_eq_true t7
        have t8 : m1.2.2.2.2.2.2.2 = none := of_decide_eq_true t8
        unfold ev_rcv at c1
        match as, c1, hstk, c2, hpre, fin, hM with
        | .inr (.inl (i + 1)) :: as', c1, hstk, c2, hpre, fin, hM =>
          have hcn := va_cnB (R := ev_rm (d + 1) m) (own := ev_own m) (index := xi) (ret := none) as'.length hts hgood (by unfold ev_ws ev_cw; rw [t8]) (rm := ev_rm d m1) rfl rfl (hnw _ List.mem_cons_self) (hw _ (List.mem_cons_of_mem _ List.mem_cons_self)) ⟨t2, t3, by
            rw [← c2] at tp
            cases hpd : parseMethodDescriptor m1.2.2.2.2.2.1.desc with
            | none => rw [hpd] at tp; cases tp
            | some sg =>
              rw [hpd] at tp
              have tq : sg.parameters.length + 1 = (as').length + 1 := Option.some.inj tp
              show some sg.parameters.length = some as'.length
              rw [Nat.succ.inj tq]⟩ (ev_room d t1)
          refine fin _ (va_runIN (As := as'.map (ev_cv σ ρ)) (b := ρ i) ⟨hx, hb, hml, hown, hts⟩ hM ⟨hcn, t7, hw _ List.mem_cons_self⟩ ⟨ev_Pr_blind hnk, hpre⟩ rfl (by rw [List.length_map]) G1.1 ?_ hcat hd hfit)
          show st.map (ev_cv σ ρ) = _
          rw [hstk]
          simp [ev_cv, ev_cr]
/-- all that is asked of the tables -/
def ev_Sys (cl : List vw_C) (pg : List ev_M) (gw nw : List Jvm.Cond) : Prop := ev_kok cl gw ∧ ev_gok gw ∧ ev_nok nw ∧ ∀ m ∈ pg, ev_mok cl pg gw nw m
theorem ev_run_ok (Sy : ev_Sys cl pg gw nw) (hm : ev_mok cl pg gw nw m) (C : ev_Cx p l e R s mm args below meth c m d dC dI ca cl gw nw A) (hQ : Q = MQ below (ev_Po dC dI ca cl σ ρ0 n0 os A) args s m.2.2.1 m.2.2.2.1 A) (hcall : ∀ x as h n e os1, call x as h n e = some os1 → ∃ m1, pg[x]? = some m1 ∧ ev_Ct cl gw nw d m1 as h n e os1) : ∀ fuel, ev_Sn p l e R s mm args below meth c m dC dI ca cl pg gw nw A σ ρ0 n0 Q os (ev_run call m fuel)
  | 0 => fun r ls st w outs pc la ρ H locs G hok h hos => by cases h
  | fuel + 1 => fun r ls st w outs pc la ρ H locs G hok h hos => by
    have hk := ev_run_ok Sy hm C hQ hcall fuel
    have h : ev_step call (ev_run call m fuel) m r ls st w = some outs := h
    match r, h, hok with
    | [], h, _ => cases h
    | .inl (.inl (.inl (.inl (.inl (x))))) :: r, h, hok => exact es_li (call := call) C hm hk G hok h hos
    | .inl (.inl (.inl (.inl (.inr (x))))) :: r, h, hok => exact es_la (call := call) C hm hk G hok h hos
    | .inl (.inl (.inl (.inr (.inl (x))))) :: r, h, hok => exact es_pu (call := call) C hm hk G hok h hos
    | .inl (.inl (.inl (.inr (.inr (x))))) :: r, h, hok => exact es_ic (call := call) C hm hk G hok h hos
    | .inl (.inl (.inr (.inl (.inl (x))))) :: r, h, hok => exact es_gf (call := call) Sy.1 C hm hk G hok h hos
    | .inl (.inl (.inr (.inl (.inr (x))))) :: r, h, hok => exact es_go (call := call) C hm hk G hok h hos
    | .inl (.inl (.inr (.inr (.inl (x))))) :: r, h, hok => exact es_ii (call := call) C hm hk G hok h hos
    | .inl (.inl (.inr (.inr (.inr (x))))) :: r, h, hok => exact es_ib (call := call) C hm hk G hok h hos
    | .inl (.inr (.inl (.inl (.inl (x))))) :: r, h, hok => exact es_al (call := call) C hm hk G hok h hos
    | .inl (.inr (.inl (.inl (.inr (x))))) :: r, h, hok => exact es_as (call := call) C hm hk G hok h hos
    | .inl (.inr (.inl (.inr (.inl (x))))) :: r, h, hok => exact es_if (call := call) C hm hk G hok h hos
    | .inl (.inr (.inl (.inr (.inr (x))))) :: r, h, hok => exact es_re (call := call) hQ C hm hk G hok h hos
    | .inl (.inr (.inr (.inl (.inl (x))))) :: r, h, hok => exact es_ca (call := call) Sy.2.1 Sy.2.2.1 Sy.2.2.2 hcall C hm hk G hok h hos
    | .inl (.inr (.inr (.inl (.inr (x))))) :: r, h, hok => exact es_si (call := call) C hm hk G hok h hos
    | .inl (.inr (.inr (.inr (.inl (x))))) :: r, h, hok => exact es_dv (call := call) C hm hk G hok h hos
    | .inl (.inr (.inr (.inr (.inr (x))))) :: r, h, hok => exact es_ll (call := call) C hm hk G hok h hos
    | .inr (.inl (.inl (.inl (.inl (x))))) :: r, h, hok => exact es_fa (call := call) C hm hk G hok h hos
    | .inr (.inl (.inl (.inl (.inr (x))))) :: r, h, hok => exact es_pf (call := call) Sy.1 C hm hk G hok h hos
    | .inr (.inl (.inl (.inr (.inl (x))))) :: r, h, hok => exact es_lb (call := call) C hm hk G hok h hos
    | .inr (.inl (.inl (.inr (.inr (x))))) :: r, h, hok => exact es_ls (call := call) C hm hk G hok h hos
    | .inr (.inl (.inr (.inl (.inl (()))))) :: r, h, hok => exact es_lc (call := call) C hm hk G hok h hos
    | .inr (.inl (.inr (.inl (.inr (x))))) :: r, h, hok => exact es_sl (call := call) C hm hk G hok h hos
    | .inr (.inl (.inr (.inr (.inl (x))))) :: r, h, hok => exact es_un (call := call) C hm hk G hok h hos
    | .inr (.inl (.inr (.inr (.inr (x))))) :: r, h, hok => exact es_st (call := call) C hm hk G hok h hos
    | .inr (.inr (.inl (.inl (.inl (()))))) :: r, h, hok => exact es_an (call := call) C hm hk G hok h hos
    | .inr (.inr (.inl (.inl (.inr (x))))) :: r, h, hok => exact es_na (call := call) C hm hk G hok h hos
    | .inr (.inr (.inl (.inr (.inl (x))))) :: r, h, hok => exact es_nw (call := call) Sy.1 C hm hk G hok h hos
    | .inr (.inr (.inl (.inr (.inr (x))))) :: r, h, hok => exact es_oi (call := call) C hm hk G hok h hos
    | .inr (.inr (.inr (.inl (.inl (x))))) :: r, h, hok => exact es_cy (call := call) C hm hk G hok h hos
    | .inr (.inr (.inr (.inl (.inr (x))))) :: r, h, hok => exact es_tw (call := call) C hm hk G hok h hos
    | .inr (.inr (.inr (.inr (.inl (x))))) :: r, h, hok => exact es_nn (call := call) C hm hk G hok h hos
    | .inr (.inr (.inr (.inr (.inr (x))))) :: r, h, hok => exact es_sa (call := call) C hm hk G hok h hos
theorem ev_ent_len (σ : Nat → Int32) (ρ : Nat → Nat) (as : List ev_V) : (lg_sl (as.map (ev_cv σ ρ))).length = (ev_ent as).length := by
  induction as with
  | nil => rfl
  | cons v r ih =>
    have e : lg_sl ((v :: r).map (ev_cv σ ρ)) = (if (ev_cv σ ρ v).category = 2 then [.val (ev_cv σ ρ v), .second] else [.val (ev_cv σ ρ v)]) ++ lg_sl (r.map (ev_cv σ ρ)) := by
      simp [lg_sl]
    rw [e, List.length_append, ih]
    show _ = (Bool.rec (motive := fun _ => List ev_V) (v :: ev_ent r) (v :: ev_U :: ev_ent r) (ev_isl v)).length
    cases hv : ev_isl v with
    | false =>
      rw [if_neg (by rw [ev_isl_cat hv]; decide)]
      simp
      omega
    | true =>
      match v, hv with
      | .inr (.inr (.inl n)), _ =>
        rw [if_pos (show (ev_cv σ ρ (.inr (.inr (.inl n)))).category = 2 from rfl)]
        simp
        omega
theorem ev_ent_in (σ : Nat → Int32) (ρ : Nat → Nat) (as : List ev_V) (z : Nat) : ∀ (j : Nat) (q : Nat × Value), q ∈ ev_pr σ ρ j (ev_ent as ++ List.replicate z ev_U) → q ∈ lv_args j (as.map (ev_cv σ ρ)) := by
  induction as with
  | nil =>
    intro j q hq
    obtain ⟨i, v, h1, h2, -⟩ := (ev_pr_mem _ j q).mp hq
    have h1 : (List.replicate z ev_U)[i]? = some v := h1
    exact absurd (List.eq_of_mem_replicate (List.mem_of_getElem? h1)) h2
  | cons v r ih =>
    intro j q hq
    have hq : q ∈ ev_pr σ ρ j ((Bool.rec (motive := fun _ => List ev_V) (v :: ev_ent r) (v :: ev_U :: ev_ent r) (ev_isl v)) ++ List.replicate z ev_U) := hq
    show q ∈ (j, ev_cv σ ρ v) :: lv_args (if (ev_cv σ ρ v).category = 2 then j + 2 else j + 1) (r.map (ev_cv σ ρ))
    cases hv : ev_isl v with
    | false =>
      rw [hv] at hq
      rw [if_neg (by rw [ev_isl_cat hv]; decide)]
      by_cases hu : v = ev_U
      · subst hu
        exact List.mem_cons_of_mem _ (ih (j + 1) q hq)
      · have hq : q ∈ ev_pr σ ρ j (v :: (ev_ent r ++ List.replicate z ev_U)) := hq
        rw [ev_pr_cons _ _ _ _ _ hu] at hq
        rcases List.mem_cons.mp hq with rfl | hq
        · exact List.mem_cons_self
        · exact List.mem_cons_of_mem _ (ih (j + 1) q hq)
    | true =>
      match v, hv, hq with
      | .inr (.inr (.inl n)), _, hq =>
        rw [if_pos (show (ev_cv σ ρ (.inr (.inr (.inl n)))).category = 2 from rfl)]
        have hq : q ∈ ev_pr σ ρ j (.inr (.inr (.inl n)) :: ev_U :: (ev_ent r ++ List.replicate z ev_U)) := hq
        rw [ev_pr_cons _ _ _ _ _ (fun q => by cases q)] at hq
        rcases List.mem_cons.mp hq with rfl | hq
        · exact List.mem_cons_self
        · exact List.mem_cons_of_mem _ (ih (j + 2) q hq)
/-- THE WHOLE: what the evaluator says of a method is a contract of it -/
theorem ev_sound (Sy : ev_Sys cl pg gw nw) : ∀ (d x : Nat) (as : List ev_V) (h : ev_H) (n : Nat) (e : ev_E) (os : List ev_O), ev_met pg d x as h n e = some os → ∃ m1, pg[x]? = some m1 ∧ ev_Ct cl gw nw d m1 as h n e os
  | 0, x, as, h, n, e, os, hh => by cases hh
  | d + 1, x, as, h, n, e, os, hh => by
    have IH := ev_sound Sy d
    have hh : (match ev_lm pg x with
      | none => none
      | some m => ev_beg (ev_met pg d) as h n e m (ev_ent as)) = some os := hh
    rw [ev_lm_eq] at hh
    cases hx : pg[x]? with
    | none => rw [hx] at hh; cases hh
    | some m1 =>
      rw [hx] at hh
      refine ⟨m1, rfl, ?_⟩
      have hmok := Sy.2.2.2 m1 (List.mem_of_getElem? hx)
      obtain ⟨hc, hh⟩ := ev_ite (show Bool.rec (motive := fun _ => ev_R) none (ev_run (ev_met pg d) m1 10000000 (ev_lb m1.1 m1.2.1) (ev_ent as ++ List.replicate (Nat.sub m1.2.2.2.2.1 (ev_ent as).length) ev_U) [] (h, n, e, 0, 0)) (Nat.ble (ev_ent as).length m1.2.2.2.2.1) = some os from hh)
      have hc : (ev_ent as).length ≤ m1.2.2.2.2.1 := Nat.le_of_ble_eq_true hc
      intro l dC dI ca σ ρ sz hsat hn
      refine Met.ofW (cc := m1.2.2.2.2.2.2.1) (maxL := m1.2.2.2.2.1) (ret := m1.2.2.2.2.2.2.2) hmok.2.2.1 rfl ?_
      intro p e' s mm args below meth c s₁ B hml hv
      obtain ⟨rfl, hsz, hP, hK, hD0, hN⟩ := hv
      have hts := atoms_spec (ws := ev_ws gw m1) B.pre
      have hown : s.vm.findClass (ev_own m1) = some mm.cls := findClass_of_methodNamed B.named
      have hname : meth.name = m1.2.2.2.2.2.1.name := (name_of_methodNamed B.named B.method).1
      subst hsz
      have hD := hD0.self (sz := s.heap.size)
      have hA : ∀ q : Nat, s.heap.size ≤ q → va_A (ev_wl σ ρ ca h n) s.heap.size q := fun q hq => Or.inr hq
      have hlen : (lg_sl (as.map (ev_cv σ ρ))).length ≤ m1.2.2.2.2.1 := by
        rw [ev_ent_len]
        exact hc
      have hl := lv_entry (as.map (ev_cv σ ρ)) (n := m1.2.2.2.2.1) hlen
      rw [lg_entry_eq]
      generalize (lg_sl (as.map (ev_cv σ ρ)) ++ List.replicate (m1.2.2.2.2.1 - (lg_sl (as.map (ev_cv σ ρ))).length) Slot.unset).toArray = la at hl ⊢
      have hl2 : lv_has la m1.2.2.2.2.1 (ev_pr σ ρ 0 (ev_ent as ++ List.replicate (Nat.sub m1.2.2.2.2.1 (ev_ent as).length) ev_U)) := ev_has_sub hl (ev_ent_in σ ρ as _ 0)
      have C : ev_Cx p l e' (headSpec (ev_ws gw m1) (ev_rm (d + 1) m1)).room s mm (as.map (ev_cv σ ρ)).toArray below meth c m1 d dC dI ca cl gw nw (va_A (ev_wl σ ρ ca h n) s.heap.size) := ⟨B.exec, B.bytes, B.returns, B.notSynchronized, hml, hown, hname, hts, hK, hN, rfl, hA⟩
      have K := ev_run_ok (Q := MQ below (ev_Po dC dI ca cl σ ρ n os (va_A (ev_wl σ ρ ca h n) s.heap.size)) (as.map (ev_cv σ ρ)).toArray s m1.2.2.1 m1.2.2.2.1 (va_A (ev_wl σ ρ ca h n) s.heap.size)) (os := os) (σ := σ) (ρ0 := ρ) (n0 := n) Sy hmok C rfl (fun x as h n e os1 hq => IH x as h n e os1 hq) 10000000 _ _ _ (h, n, e, 0, 0) _ _ la ρ s.heap [] ⟨hl2, hsat, ⟨Nat.le_refl _, hn, fun _ _ => rfl, fun _ => rfl⟩, hP, hD, va_S.rf⟩ (ev_okc_to hmok m1.2.1) hh (fun o ho => ho)
      rw [hmok.2.1] at K
      exact K
end EVE
end
section
-- ===== PART A: goes FIRST, ahead of the names: the tables' words, and 'selects' of the private methods out of them =====
/-- a private method of a class that the tables say can be made, by its rows of tables_1 -/
def lw_okq (q : MethodName × Nat) : Prop := (q.1.cls ≠ "java/lang/invoke/MethodHandle" ∧ q.1.cls ≠ "java/lang/invoke/VarHandle") ∧ Cond.instantiable q.1.cls q.2 ∈ tables_1 ∧ Cond.privateMethod q.1 ∈ tables_1 ∧ Cond.instanceMethod q.1 ∈ tables_1
theorem lw_p0 : lw_okq (⟨"RegisterColours", "forgetAllocation", "()V"⟩, 12) := ⟨⟨by decide +kernel, by decide +kernel⟩, List.mem_of_getElem? (i := 24) (by decide +kernel), List.mem_of_getElem? (i := 460) (by decide +kernel), List.mem_of_getElem? (i := 461) (by decide +kernel)⟩
theorem lw_p1 : lw_okq (⟨"RegisterColours", "putOnTape", "(I)V"⟩, 12) := ⟨⟨by decide +kernel, by decide +kernel⟩, List.mem_of_getElem? (i := 24) (by decide +kernel), List.mem_of_getElem? (i := 468) (by decide +kernel), List.mem_of_getElem? (i := 469) (by decide +kernel)⟩
theorem lw_p2 : lw_okq (⟨"RegisterColours$Reader", "cutTokens", "(I)V"⟩, 11) := ⟨⟨by decide +kernel, by decide +kernel⟩, List.mem_of_getElem? (i := 32) (by decide +kernel), List.mem_of_getElem? (i := 484) (by decide +kernel), List.mem_of_getElem? (i := 485) (by decide +kernel)⟩
theorem lw_p3 : lw_okq (⟨"RegisterColours$Reader", "endOfToken", "(II)I"⟩, 11) := ⟨⟨by decide +kernel, by decide +kernel⟩, List.mem_of_getElem? (i := 32) (by decide +kernel), List.mem_of_getElem? (i := 488) (by decide +kernel), List.mem_of_getElem? (i := 489) (by decide +kernel)⟩
theorem lw_p4 : lw_okq (⟨"RegisterColours$Reader", "tokenAt", "(II)I"⟩, 11) := ⟨⟨by decide +kernel, by decide +kernel⟩, List.mem_of_getElem? (i := 32) (by decide +kernel), List.mem_of_getElem? (i := 501) (by decide +kernel), List.mem_of_getElem? (i := 502) (by decide +kernel)⟩
theorem lw_p5 : lw_okq (⟨"RegisterColours$Reader", "wordAt", "(II)I"⟩, 11) := ⟨⟨by decide +kernel, by decide +kernel⟩, List.mem_of_getElem? (i := 32) (by decide +kernel), List.mem_of_getElem? (i := 505) (by decide +kernel), List.mem_of_getElem? (i := 506) (by decide +kernel)⟩
theorem lw_p6 : lw_okq (⟨"RegisterColours$Reader", "spells", "(Ljava/lang/String;II)Z"⟩, 11) := ⟨⟨by decide +kernel, by decide +kernel⟩, List.mem_of_getElem? (i := 32) (by decide +kernel), List.mem_of_getElem? (i := 510) (by decide +kernel), List.mem_of_getElem? (i := 511) (by decide +kernel)⟩
theorem lw_p7 : lw_okq (⟨"RegisterColours$Reader", "numberAt", "(II)I"⟩, 11) := ⟨⟨by decide +kernel, by decide +kernel⟩, List.mem_of_getElem? (i := 32) (by decide +kernel), List.mem_of_getElem? (i := 574) (by decide +kernel), List.mem_of_getElem? (i := 575) (by decide +kernel)⟩
theorem lw_p8 : lw_okq (⟨"RegisterColours$Reader", "readLine", "()V"⟩, 11) := ⟨⟨by decide +kernel, by decide +kernel⟩, List.mem_of_getElem? (i := 32) (by decide +kernel), List.mem_of_getElem? (i := 578) (by decide +kernel), List.mem_of_getElem? (i := 579) (by decide +kernel)⟩
theorem lw_p9 : lw_okq (⟨"RegisterColours$Reader", "isLetterOfX", "()Z"⟩, 11) := ⟨⟨by decide +kernel, by decide +kernel⟩, List.mem_of_getElem? (i := 32) (by decide +kernel), List.mem_of_getElem? (i := 582) (by decide +kernel), List.mem_of_getElem? (i := 583) (by decide +kernel)⟩
theorem lw_p10 : lw_okq (⟨"RegisterColours$Reader", "blame", "(I)V"⟩, 11) := ⟨⟨by decide +kernel, by decide +kernel⟩, List.mem_of_getElem? (i := 32) (by decide +kernel), List.mem_of_getElem? (i := 586) (by decide +kernel), List.mem_of_getElem? (i := 587) (by decide +kernel)⟩
theorem lw_p11 : lw_okq (⟨"RegisterColours$Reader", "readMaking", "()V"⟩, 11) := ⟨⟨by decide +kernel, by decide +kernel⟩, List.mem_of_getElem? (i := 32) (by decide +kernel), List.mem_of_getElem? (i := 590) (by decide +kernel), List.mem_of_getElem? (i := 591) (by decide +kernel)⟩
theorem lw_p12 : lw_okq (⟨"RegisterColours$Reader", "readX", "(I)I"⟩, 11) := ⟨⟨by decide +kernel, by decide +kernel⟩, List.mem_of_getElem? (i := 32) (by decide +kernel), List.mem_of_getElem? (i := 594) (by decide +kernel), List.mem_of_getElem? (i := 595) (by decide +kernel)⟩
theorem lw_p13 : lw_okq (⟨"RegisterColours$Reader", "advance", "()V"⟩, 11) := ⟨⟨by decide +kernel, by decide +kernel⟩, List.mem_of_getElem? (i := 32) (by decide +kernel), List.mem_of_getElem? (i := 598) (by decide +kernel), List.mem_of_getElem? (i := 599) (by decide +kernel)⟩
theorem lw_p14 : lw_okq (⟨"RegisterColours$Reader", "readNumber", "(I)I"⟩, 11) := ⟨⟨by decide +kernel, by decide +kernel⟩, List.mem_of_getElem? (i := 32) (by decide +kernel), List.mem_of_getElem? (i := 602) (by decide +kernel), List.mem_of_getElem? (i := 603) (by decide +kernel)⟩
theorem lw_p15 : lw_okq (⟨"RegisterColours$Reader", "expect", "(I)V"⟩, 11) := ⟨⟨by decide +kernel, by decide +kernel⟩, List.mem_of_getElem? (i := 32) (by decide +kernel), List.mem_of_getElem? (i := 606) (by decide +kernel), List.mem_of_getElem? (i := 607) (by decide +kernel)⟩
def lw_privs_1 : List (MethodName × Nat) := [(⟨"RegisterColours", "forgetAllocation", "()V"⟩, 12), (⟨"RegisterColours", "putOnTape", "(I)V"⟩, 12), (⟨"RegisterColours$Reader", "cutTokens", "(I)V"⟩, 11), (⟨"RegisterColours$Reader", "endOfToken", "(II)I"⟩, 11), (⟨"RegisterColours$Reader", "tokenAt", "(II)I"⟩, 11), (⟨"RegisterColours$Reader", "wordAt", "(II)I"⟩, 11), (⟨"RegisterColours$Reader", "spells", "(Ljava/lang/String;II)Z"⟩, 11), (⟨"RegisterColours$Reader", "numberAt", "(II)I"⟩, 11), (⟨"RegisterColours$Reader", "readLine", "()V"⟩, 11), (⟨"RegisterColours$Reader", "isLetterOfX", "()Z"⟩, 11), (⟨"RegisterColours$Reader", "blame", "(I)V"⟩, 11), (⟨"RegisterColours$Reader", "readMaking", "()V"⟩, 11), (⟨"RegisterColours$Reader", "readX", "(I)I"⟩, 11), (⟨"RegisterColours$Reader", "advance", "()V"⟩, 11), (⟨"RegisterColours$Reader", "readNumber", "(I)I"⟩, 11), (⟨"RegisterColours$Reader", "expect", "(I)V"⟩, 11)]
theorem lw_r1 : ∀ q ∈ lw_privs_1, lw_okq q := List.forall_mem_cons.mpr ⟨lw_p0, List.forall_mem_cons.mpr ⟨lw_p1, List.forall_mem_cons.mpr ⟨lw_p2, List.forall_mem_cons.mpr ⟨lw_p3, List.forall_mem_cons.mpr ⟨lw_p4, List.forall_mem_cons.mpr ⟨lw_p5, List.forall_mem_cons.mpr ⟨lw_p6, List.forall_mem_cons.mpr ⟨lw_p7, List.forall_mem_cons.mpr ⟨lw_p8, List.forall_mem_cons.mpr ⟨lw_p9, List.forall_mem_cons.mpr ⟨lw_p10, List.forall_mem_cons.mpr ⟨lw_p11, List.forall_mem_cons.mpr ⟨lw_p12, List.forall_mem_cons.mpr ⟨lw_p13, List.forall_mem_cons.mpr ⟨lw_p14, List.forall_mem_cons.mpr ⟨lw_p15, fun _ h => absurd h List.not_mem_nil⟩⟩⟩⟩⟩⟩⟩⟩⟩⟩⟩⟩⟩⟩⟩⟩
theorem lw_p16 : lw_okq (⟨"RegisterColours$Reader", "readOperation", "(I)V"⟩, 11) := ⟨⟨by decide +kernel, by decide +kernel⟩, List.mem_of_getElem? (i := 32) (by decide +kernel), List.mem_of_getElem? (i := 614) (by decide +kernel), List.mem_of_getElem? (i := 615) (by decide +kernel)⟩
theorem lw_p17 : lw_okq (⟨"RegisterColours$Reader", "kindOfSign", "(II)I"⟩, 11) := ⟨⟨by decide +kernel, by decide +kernel⟩, List.mem_of_getElem? (i := 32) (by decide +kernel), List.mem_of_getElem? (i := 618) (by decide +kernel), List.mem_of_getElem? (i := 619) (by decide +kernel)⟩
theorem lw_p18 : lw_okq (⟨"RegisterColours$Reader", "addCall", "(II)V"⟩, 11) := ⟨⟨by decide +kernel, by decide +kernel⟩, List.mem_of_getElem? (i := 32) (by decide +kernel), List.mem_of_getElem? (i := 626) (by decide +kernel), List.mem_of_getElem? (i := 627) (by decide +kernel)⟩
theorem lw_p19 : lw_okq (⟨"RegisterColours$Reader", "readIf", "()V"⟩, 11) := ⟨⟨by decide +kernel, by decide +kernel⟩, List.mem_of_getElem? (i := 32) (by decide +kernel), List.mem_of_getElem? (i := 630) (by decide +kernel), List.mem_of_getElem? (i := 631) (by decide +kernel)⟩
theorem lw_p20 : lw_okq (⟨"RegisterColours$Reader", "readJump", "(III)V"⟩, 11) := ⟨⟨by decide +kernel, by decide +kernel⟩, List.mem_of_getElem? (i := 32) (by decide +kernel), List.mem_of_getElem? (i := 634) (by decide +kernel), List.mem_of_getElem? (i := 635) (by decide +kernel)⟩
theorem lw_p21 : lw_okq (⟨"RegisterColours$Reader", "settleJumps", "()V"⟩, 11) := ⟨⟨by decide +kernel, by decide +kernel⟩, List.mem_of_getElem? (i := 32) (by decide +kernel), List.mem_of_getElem? (i := 638) (by decide +kernel), List.mem_of_getElem? (i := 639) (by decide +kernel)⟩
theorem lw_p22 : lw_okq (⟨"RegisterColours$Graph", "weigh", "()V"⟩, 18) := ⟨⟨by decide +kernel, by decide +kernel⟩, List.mem_of_getElem? (i := 283) (by decide +kernel), List.mem_of_getElem? (i := 803) (by decide +kernel), List.mem_of_getElem? (i := 804) (by decide +kernel)⟩
theorem lw_p23 : lw_okq (⟨"RegisterColours$Graph", "flowBackwards", "()V"⟩, 18) := ⟨⟨by decide +kernel, by decide +kernel⟩, List.mem_of_getElem? (i := 283) (by decide +kernel), List.mem_of_getElem? (i := 814) (by decide +kernel), List.mem_of_getElem? (i := 815) (by decide +kernel)⟩
theorem lw_p24 : lw_okq (⟨"RegisterColours$Graph", "updateLive", "(I)Z"⟩, 18) := ⟨⟨by decide +kernel, by decide +kernel⟩, List.mem_of_getElem? (i := 283) (by decide +kernel), List.mem_of_getElem? (i := 822) (by decide +kernel), List.mem_of_getElem? (i := 823) (by decide +kernel)⟩
theorem lw_p25 : lw_okq (⟨"RegisterColours$Graph", "takeBehind", "(I)V"⟩, 18) := ⟨⟨by decide +kernel, by decide +kernel⟩, List.mem_of_getElem? (i := 283) (by decide +kernel), List.mem_of_getElem? (i := 826) (by decide +kernel), List.mem_of_getElem? (i := 827) (by decide +kernel)⟩
theorem lw_p26 : lw_okq (⟨"RegisterColours$Graph", "markClasses", "()V"⟩, 18) := ⟨⟨by decide +kernel, by decide +kernel⟩, List.mem_of_getElem? (i := 283) (by decide +kernel), List.mem_of_getElem? (i := 846) (by decide +kernel), List.mem_of_getElem? (i := 847) (by decide +kernel)⟩
theorem lw_p27 : lw_okq (⟨"RegisterColours$Graph", "connectAll", "()V"⟩, 18) := ⟨⟨by decide +kernel, by decide +kernel⟩, List.mem_of_getElem? (i := 283) (by decide +kernel), List.mem_of_getElem? (i := 850) (by decide +kernel), List.mem_of_getElem? (i := 851) (by decide +kernel)⟩
theorem lw_p28 : lw_okq (⟨"RegisterColours$Graph", "connect", "(II)V"⟩, 18) := ⟨⟨by decide +kernel, by decide +kernel⟩, List.mem_of_getElem? (i := 283) (by decide +kernel), List.mem_of_getElem? (i := 854) (by decide +kernel), List.mem_of_getElem? (i := 855) (by decide +kernel)⟩
theorem lw_p29 : lw_okq (⟨"RegisterColours$Graph", "connectBehind", "(II)V"⟩, 18) := ⟨⟨by decide +kernel, by decide +kernel⟩, List.mem_of_getElem? (i := 283) (by decide +kernel), List.mem_of_getElem? (i := 858) (by decide +kernel), List.mem_of_getElem? (i := 859) (by decide +kernel)⟩
theorem lw_p30 : lw_okq (⟨"RegisterColours$Graph", "countCosts", "()V"⟩, 18) := ⟨⟨by decide +kernel, by decide +kernel⟩, List.mem_of_getElem? (i := 283) (by decide +kernel), List.mem_of_getElem? (i := 876) (by decide +kernel), List.mem_of_getElem? (i := 877) (by decide +kernel)⟩
theorem lw_p31 : lw_okq (⟨"RegisterColours$Graph", "charge", "(II)V"⟩, 18) := ⟨⟨by decide +kernel, by decide +kernel⟩, List.mem_of_getElem? (i := 283) (by decide +kernel), List.mem_of_getElem? (i := 881) (by decide +kernel), List.mem_of_getElem? (i := 882) (by decide +kernel)⟩
def lw_privs_2 : List (MethodName × Nat) := [(⟨"RegisterColours$Reader", "readOperation", "(I)V"⟩, 11), (⟨"RegisterColours$Reader", "kindOfSign", "(II)I"⟩, 11), (⟨"RegisterColours$Reader", "addCall", "(II)V"⟩, 11), (⟨"RegisterColours$Reader", "readIf", "()V"⟩, 11), (⟨"RegisterColours$Reader", "readJump", "(III)V"⟩, 11), (⟨"RegisterColours$Reader", "settleJumps", "()V"⟩, 11), (⟨"RegisterColours$Graph", "weigh", "()V"⟩, 18), (⟨"RegisterColours$Graph", "flowBackwards", "()V"⟩, 18), (⟨"RegisterColours$Graph", "updateLive", "(I)Z"⟩, 18), (⟨"RegisterColours$Graph", "takeBehind", "(I)V"⟩, 18), (⟨"RegisterColours$Graph", "markClasses", "()V"⟩, 18), (⟨"RegisterColours$Graph", "connectAll", "()V"⟩, 18), (⟨"RegisterColours$Graph", "connect", "(II)V"⟩, 18), (⟨"RegisterColours$Graph", "connectBehind", "(II)V"⟩, 18), (⟨"RegisterColours$Graph", "countCosts", "()V"⟩, 18), (⟨"RegisterColours$Graph", "charge", "(II)V"⟩, 18)]
theorem lw_r2 : ∀ q ∈ lw_privs_2, lw_okq q := List.forall_mem_cons.mpr ⟨lw_p16, List.forall_mem_cons.mpr ⟨lw_p17, List.forall_mem_cons.mpr ⟨lw_p18, List.forall_mem_cons.mpr ⟨lw_p19, List.forall_mem_cons.mpr ⟨lw_p20, List.forall_mem_cons.mpr ⟨lw_p21, List.forall_mem_cons.mpr ⟨lw_p22, List.forall_mem_cons.mpr ⟨lw_p23, List.forall_mem_cons.mpr ⟨lw_p24, List.forall_mem_cons.mpr ⟨lw_p25, List.forall_mem_cons.mpr ⟨lw_p26, List.forall_mem_cons.mpr ⟨lw_p27, List.forall_mem_cons.mpr ⟨lw_p28, List.forall_mem_cons.mpr ⟨lw_p29, List.forall_mem_cons.mpr ⟨lw_p30, List.forall_mem_cons.mpr ⟨lw_p31, fun _ h => absurd h List.not_mem_nil⟩⟩⟩⟩⟩⟩⟩⟩⟩⟩⟩⟩⟩⟩⟩⟩
theorem lw_p32 : lw_okq (⟨"RegisterColours$Merger", "orderMoves", "()V"⟩, 6) := ⟨⟨by decide +kernel, by decide +kernel⟩, List.mem_of_getElem? (i := 672) (by decide +kernel), List.mem_of_getElem? (i := 896) (by decide +kernel), List.mem_of_getElem? (i := 897) (by decide +kernel)⟩
theorem lw_p33 : lw_okq (⟨"RegisterColours$Merger", "mergeIfSafe", "(II)Z"⟩, 6) := ⟨⟨by decide +kernel, by decide +kernel⟩, List.mem_of_getElem? (i := 672) (by decide +kernel), List.mem_of_getElem? (i := 902) (by decide +kernel), List.mem_of_getElem? (i := 903) (by decide +kernel)⟩
theorem lw_p34 : lw_okq (⟨"RegisterColours$Merger", "isSafeWithFixed", "(II)Z"⟩, 6) := ⟨⟨by decide +kernel, by decide +kernel⟩, List.mem_of_getElem? (i := 672) (by decide +kernel), List.mem_of_getElem? (i := 914) (by decide +kernel), List.mem_of_getElem? (i := 915) (by decide +kernel)⟩
theorem lw_p35 : lw_okq (⟨"RegisterColours$Merger", "isSafe", "(II)Z"⟩, 6) := ⟨⟨by decide +kernel, by decide +kernel⟩, List.mem_of_getElem? (i := 672) (by decide +kernel), List.mem_of_getElem? (i := 935) (by decide +kernel), List.mem_of_getElem? (i := 936) (by decide +kernel)⟩
theorem lw_p36 : lw_okq (⟨"RegisterColours$Merger", "heavyThen", "(IIZ)I"⟩, 6) := ⟨⟨by decide +kernel, by decide +kernel⟩, List.mem_of_getElem? (i := 672) (by decide +kernel), List.mem_of_getElem? (i := 939) (by decide +kernel), List.mem_of_getElem? (i := 940) (by decide +kernel)⟩
theorem lw_p37 : lw_okq (⟨"RegisterColours$Colourer", "nextLeft", "(I)I"⟩, 10) := ⟨⟨by decide +kernel, by decide +kernel⟩, List.mem_of_getElem? (i := 699) (by decide +kernel), List.mem_of_getElem? (i := 959) (by decide +kernel), List.mem_of_getElem? (i := 960) (by decide +kernel)⟩
theorem lw_p38 : lw_okq (⟨"RegisterColours$Colourer", "leastLight", "()I"⟩, 10) := ⟨⟨by decide +kernel, by decide +kernel⟩, List.mem_of_getElem? (i := 699) (by decide +kernel), List.mem_of_getElem? (i := 965) (by decide +kernel), List.mem_of_getElem? (i := 966) (by decide +kernel)⟩
theorem lw_p39 : lw_okq (⟨"RegisterColours$Colourer", "cheapest", "()I"⟩, 10) := ⟨⟨by decide +kernel, by decide +kernel⟩, List.mem_of_getElem? (i := 699) (by decide +kernel), List.mem_of_getElem? (i := 970) (by decide +kernel), List.mem_of_getElem? (i := 971) (by decide +kernel)⟩
theorem lw_p40 : lw_okq (⟨"RegisterColours$Colourer", "isCheaper", "(II)Z"⟩, 10) := ⟨⟨by decide +kernel, by decide +kernel⟩, List.mem_of_getElem? (i := 699) (by decide +kernel), List.mem_of_getElem? (i := 974) (by decide +kernel), List.mem_of_getElem? (i := 975) (by decide +kernel)⟩
theorem lw_p41 : lw_okq (⟨"RegisterColours$Colourer", "takeOut", "(I)V"⟩, 10) := ⟨⟨by decide +kernel, by decide +kernel⟩, List.mem_of_getElem? (i := 699) (by decide +kernel), List.mem_of_getElem? (i := 978) (by decide +kernel), List.mem_of_getElem? (i := 979) (by decide +kernel)⟩
theorem lw_p42 : lw_okq (⟨"RegisterColours$Colourer", "leastFree", "(I)I"⟩, 10) := ⟨⟨by decide +kernel, by decide +kernel⟩, List.mem_of_getElem? (i := 699) (by decide +kernel), List.mem_of_getElem? (i := 989) (by decide +kernel), List.mem_of_getElem? (i := 990) (by decide +kernel)⟩
theorem lw_p43 : lw_okq (⟨"RegisterColours$Allocator", "keepColours", "()V"⟩, 5) := ⟨⟨by decide +kernel, by decide +kernel⟩, List.mem_of_getElem? (i := 662) (by decide +kernel), List.mem_of_getElem? (i := 996) (by decide +kernel), List.mem_of_getElem? (i := 997) (by decide +kernel)⟩
theorem lw_p44 : lw_okq (⟨"RegisterColours$Spiller", "decide", "(I)V"⟩, 7) := ⟨⟨by decide +kernel, by decide +kernel⟩, List.mem_of_getElem? (i := 740) (by decide +kernel), List.mem_of_getElem? (i := 1005) (by decide +kernel), List.mem_of_getElem? (i := 1006) (by decide +kernel)⟩
theorem lw_p45 : lw_okq (⟨"RegisterColours$Spiller", "onlyNumber", "(I)I"⟩, 7) := ⟨⟨by decide +kernel, by decide +kernel⟩, List.mem_of_getElem? (i := 740) (by decide +kernel), List.mem_of_getElem? (i := 1009) (by decide +kernel), List.mem_of_getElem? (i := 1010) (by decide +kernel)⟩
theorem lw_p46 : lw_okq (⟨"RegisterColours$Spiller", "isMoveWithin", "(I)Z"⟩, 7) := ⟨⟨by decide +kernel, by decide +kernel⟩, List.mem_of_getElem? (i := 740) (by decide +kernel), List.mem_of_getElem? (i := 1013) (by decide +kernel), List.mem_of_getElem? (i := 1014) (by decide +kernel)⟩
theorem lw_p47 : lw_okq (⟨"RegisterColours$Spiller", "fateOf", "(I)I"⟩, 7) := ⟨⟨by decide +kernel, by decide +kernel⟩, List.mem_of_getElem? (i := 740) (by decide +kernel), List.mem_of_getElem? (i := 1018) (by decide +kernel), List.mem_of_getElem? (i := 1019) (by decide +kernel)⟩
def lw_privs_3 : List (MethodName × Nat) := [(⟨"RegisterColours$Merger", "orderMoves", "()V"⟩, 6), (⟨"RegisterColours$Merger", "mergeIfSafe", "(II)Z"⟩, 6), (⟨"RegisterColours$Merger", "isSafeWithFixed", "(II)Z"⟩, 6), (⟨"RegisterColours$Merger", "isSafe", "(II)Z"⟩, 6), (⟨"RegisterColours$Merger", "heavyThen", "(IIZ)I"⟩, 6), (⟨"RegisterColours$Colourer", "nextLeft", "(I)I"⟩, 10), (⟨"RegisterColours$Colourer", "leastLight", "()I"⟩, 10), (⟨"RegisterColours$Colourer", "cheapest", "()I"⟩, 10), (⟨"RegisterColours$Colourer", "isCheaper", "(II)Z"⟩, 10), (⟨"RegisterColours$Colourer", "takeOut", "(I)V"⟩, 10), (⟨"RegisterColours$Colourer", "leastFree", "(I)I"⟩, 10), (⟨"RegisterColours$Allocator", "keepColours", "()V"⟩, 5), (⟨"RegisterColours$Spiller", "decide", "(I)V"⟩, 7), (⟨"RegisterColours$Spiller", "onlyNumber", "(I)I"⟩, 7), (⟨"RegisterColours$Spiller", "isMoveWithin", "(I)Z"⟩, 7), (⟨"RegisterColours$Spiller", "fateOf", "(I)I"⟩, 7)]
theorem lw_r3 : ∀ q ∈ lw_privs_3, lw_okq q := List.forall_mem_cons.mpr ⟨lw_p32, List.forall_mem_cons.mpr ⟨lw_p33, List.forall_mem_cons.mpr ⟨lw_p34, List.forall_mem_cons.mpr ⟨lw_p35, List.forall_mem_cons.mpr ⟨lw_p36, List.forall_mem_cons.mpr ⟨lw_p37, List.forall_mem_cons.mpr ⟨lw_p38, List.forall_mem_cons.mpr ⟨lw_p39, List.forall_mem_cons.mpr ⟨lw_p40, List.forall_mem_cons.mpr ⟨lw_p41, List.forall_mem_cons.mpr ⟨lw_p42, List.forall_mem_cons.mpr ⟨lw_p43, List.forall_mem_cons.mpr ⟨lw_p44, List.forall_mem_cons.mpr ⟨lw_p45, List.forall_mem_cons.mpr ⟨lw_p46, List.forall_mem_cons.mpr ⟨lw_p47, fun _ h => absurd h List.not_mem_nil⟩⟩⟩⟩⟩⟩⟩⟩⟩⟩⟩⟩⟩⟩⟩⟩
theorem lw_p48 : lw_okq (⟨"RegisterColours$Spiller", "rewriteAll", "()Z"⟩, 7) := ⟨⟨by decide +kernel, by decide +kernel⟩, List.mem_of_getElem? (i := 740) (by decide +kernel), List.mem_of_getElem? (i := 1022) (by decide +kernel), List.mem_of_getElem? (i := 1023) (by decide +kernel)⟩
theorem lw_p49 : lw_okq (⟨"RegisterColours$Spiller", "rewriteStep", "(I)Z"⟩, 7) := ⟨⟨by decide +kernel, by decide +kernel⟩, List.mem_of_getElem? (i := 740) (by decide +kernel), List.mem_of_getElem? (i := 1026) (by decide +kernel), List.mem_of_getElem? (i := 1027) (by decide +kernel)⟩
theorem lw_p50 : lw_okq (⟨"RegisterColours$Spiller", "loaded", "(I)I"⟩, 7) := ⟨⟨by decide +kernel, by decide +kernel⟩, List.mem_of_getElem? (i := 740) (by decide +kernel), List.mem_of_getElem? (i := 1030) (by decide +kernel), List.mem_of_getElem? (i := 1031) (by decide +kernel)⟩
theorem lw_p51 : lw_okq (⟨"RegisterColours$Spiller", "newValue", "(I)I"⟩, 7) := ⟨⟨by decide +kernel, by decide +kernel⟩, List.mem_of_getElem? (i := 740) (by decide +kernel), List.mem_of_getElem? (i := 1034) (by decide +kernel), List.mem_of_getElem? (i := 1035) (by decide +kernel)⟩
theorem lw_p52 : lw_okq (⟨"RegisterColours", "freshGraph", "()LRegisterColours$Graph;"⟩, 12) := ⟨⟨by decide +kernel, by decide +kernel⟩, List.mem_of_getElem? (i := 24) (by decide +kernel), List.mem_of_getElem? (i := 1050) (by decide +kernel), List.mem_of_getElem? (i := 1051) (by decide +kernel)⟩
theorem lw_p53 : lw_okq (⟨"RegisterColours", "isValue", "(I)Z"⟩, 12) := ⟨⟨by decide +kernel, by decide +kernel⟩, List.mem_of_getElem? (i := 24) (by decide +kernel), List.mem_of_getElem? (i := 1063) (by decide +kernel), List.mem_of_getElem? (i := 1064) (by decide +kernel)⟩
theorem lw_p54 : lw_okq (⟨"RegisterColours$Runner", "doStep", "(I)I"⟩, 13) := ⟨⟨by decide +kernel, by decide +kernel⟩, List.mem_of_getElem? (i := 360) (by decide +kernel), List.mem_of_getElem? (i := 1131) (by decide +kernel), List.mem_of_getElem? (i := 1132) (by decide +kernel)⟩
theorem lw_p55 : lw_okq (⟨"RegisterColours$Runner", "fetch", "(I)J"⟩, 13) := ⟨⟨by decide +kernel, by decide +kernel⟩, List.mem_of_getElem? (i := 360) (by decide +kernel), List.mem_of_getElem? (i := 1135) (by decide +kernel), List.mem_of_getElem? (i := 1136) (by decide +kernel)⟩
theorem lw_p56 : lw_okq (⟨"RegisterColours$Runner", "firstRegister", "(I)I"⟩, 13) := ⟨⟨by decide +kernel, by decide +kernel⟩, List.mem_of_getElem? (i := 360) (by decide +kernel), List.mem_of_getElem? (i := 1139) (by decide +kernel), List.mem_of_getElem? (i := 1140) (by decide +kernel)⟩
theorem lw_p57 : lw_okq (⟨"RegisterColours$Runner", "doCall", "()V"⟩, 13) := ⟨⟨by decide +kernel, by decide +kernel⟩, List.mem_of_getElem? (i := 360) (by decide +kernel), List.mem_of_getElem? (i := 1145) (by decide +kernel), List.mem_of_getElem? (i := 1146) (by decide +kernel)⟩
theorem lw_p58 : lw_okq (⟨"RegisterColours$Runner", "keep", "(IJ)V"⟩, 13) := ⟨⟨by decide +kernel, by decide +kernel⟩, List.mem_of_getElem? (i := 360) (by decide +kernel), List.mem_of_getElem? (i := 1151) (by decide +kernel), List.mem_of_getElem? (i := 1152) (by decide +kernel)⟩
theorem lw_p59 : lw_okq (⟨"RegisterColours$Runner", "result", "(I)J"⟩, 13) := ⟨⟨by decide +kernel, by decide +kernel⟩, List.mem_of_getElem? (i := 360) (by decide +kernel), List.mem_of_getElem? (i := 1155) (by decide +kernel), List.mem_of_getElem? (i := 1156) (by decide +kernel)⟩
theorem lw_p60 : lw_okq (⟨"RegisterColours$Runner", "nextOfInput", "()I"⟩, 13) := ⟨⟨by decide +kernel, by decide +kernel⟩, List.mem_of_getElem? (i := 360) (by decide +kernel), List.mem_of_getElem? (i := 1159) (by decide +kernel), List.mem_of_getElem? (i := 1160) (by decide +kernel)⟩
theorem lw_p61 : lw_okq (⟨"RegisterColours$Prover", "markRegisters", "()V"⟩, 7) := ⟨⟨by decide +kernel, by decide +kernel⟩, List.mem_of_getElem? (i := 1167) (by decide +kernel), List.mem_of_getElem? (i := 1199) (by decide +kernel), List.mem_of_getElem? (i := 1200) (by decide +kernel)⟩
theorem lw_p62 : lw_okq (⟨"RegisterColours$Prover", "markRead", "()V"⟩, 7) := ⟨⟨by decide +kernel, by decide +kernel⟩, List.mem_of_getElem? (i := 1167) (by decide +kernel), List.mem_of_getElem? (i := 1205) (by decide +kernel), List.mem_of_getElem? (i := 1206) (by decide +kernel)⟩
theorem lw_p63 : lw_okq (⟨"RegisterColours$Prover", "holdsWhereRead", "(I)Z"⟩, 7) := ⟨⟨by decide +kernel, by decide +kernel⟩, List.mem_of_getElem? (i := 1167) (by decide +kernel), List.mem_of_getElem? (i := 1209) (by decide +kernel), List.mem_of_getElem? (i := 1210) (by decide +kernel)⟩
def lw_privs_4 : List (MethodName × Nat) := [(⟨"RegisterColours$Spiller", "rewriteAll", "()Z"⟩, 7), (⟨"RegisterColours$Spiller", "rewriteStep", "(I)Z"⟩, 7), (⟨"RegisterColours$Spiller", "loaded", "(I)I"⟩, 7), (⟨"RegisterColours$Spiller", "newValue", "(I)I"⟩, 7), (⟨"RegisterColours", "freshGraph", "()LRegisterColours$Graph;"⟩, 12), (⟨"RegisterColours", "isValue", "(I)Z"⟩, 12), (⟨"RegisterColours$Runner", "doStep", "(I)I"⟩, 13), (⟨"RegisterColours$Runner", "fetch", "(I)J"⟩, 13), (⟨"RegisterColours$Runner", "firstRegister", "(I)I"⟩, 13), (⟨"RegisterColours$Runner", "doCall", "()V"⟩, 13), (⟨"RegisterColours$Runner", "keep", "(IJ)V"⟩, 13), (⟨"RegisterColours$Runner", "result", "(I)J"⟩, 13), (⟨"RegisterColours$Runner", "nextOfInput", "()I"⟩, 13), (⟨"RegisterColours$Prover", "markRegisters", "()V"⟩, 7), (⟨"RegisterColours$Prover", "markRead", "()V"⟩, 7), (⟨"RegisterColours$Prover", "holdsWhereRead", "(I)Z"⟩, 7)]
theorem lw_r4 : ∀ q ∈ lw_privs_4, lw_okq q := List.forall_mem_cons.mpr ⟨lw_p48, List.forall_mem_cons.mpr ⟨lw_p49, List.forall_mem_cons.mpr ⟨lw_p50, List.forall_mem_cons.mpr ⟨lw_p51, List.forall_mem_cons.mpr ⟨lw_p52, List.forall_mem_cons.mpr ⟨lw_p53, List.forall_mem_cons.mpr ⟨lw_p54, List.forall_mem_cons.mpr ⟨lw_p55, List.forall_mem_cons.mpr ⟨lw_p56, List.forall_mem_cons.mpr ⟨lw_p57, List.forall_mem_cons.mpr ⟨lw_p58, List.forall_mem_cons.mpr ⟨lw_p59, List.forall_mem_cons.mpr ⟨lw_p60, List.forall_mem_cons.mpr ⟨lw_p61, List.forall_mem_cons.mpr ⟨lw_p62, List.forall_mem_cons.mpr ⟨lw_p63, fun _ h => absurd h List.not_mem_nil⟩⟩⟩⟩⟩⟩⟩⟩⟩⟩⟩⟩⟩⟩⟩⟩
theorem lw_p64 : lw_okq (⟨"RegisterColours$Prover", "flowForwards", "(I)V"⟩, 7) := ⟨⟨by decide +kernel, by decide +kernel⟩, List.mem_of_getElem? (i := 1167) (by decide +kernel), List.mem_of_getElem? (i := 1213) (by decide +kernel), List.mem_of_getElem? (i := 1214) (by decide +kernel)⟩
theorem lw_p65 : lw_okq (⟨"RegisterColours$Prover", "meet", "(II)Z"⟩, 7) := ⟨⟨by decide +kernel, by decide +kernel⟩, List.mem_of_getElem? (i := 1167) (by decide +kernel), List.mem_of_getElem? (i := 1218) (by decide +kernel), List.mem_of_getElem? (i := 1219) (by decide +kernel)⟩
theorem lw_p66 : lw_okq (⟨"RegisterColours$Prover", "holdersBehind", "(II)I"⟩, 7) := ⟨⟨by decide +kernel, by decide +kernel⟩, List.mem_of_getElem? (i := 1167) (by decide +kernel), List.mem_of_getElem? (i := 1223) (by decide +kernel), List.mem_of_getElem? (i := 1224) (by decide +kernel)⟩
theorem lw_p67 : lw_okq (⟨"RegisterColours$Prover", "reads", "(II)Z"⟩, 7) := ⟨⟨by decide +kernel, by decide +kernel⟩, List.mem_of_getElem? (i := 1167) (by decide +kernel), List.mem_of_getElem? (i := 1232) (by decide +kernel), List.mem_of_getElem? (i := 1233) (by decide +kernel)⟩
theorem lw_p68 : lw_okq (⟨"RegisterColours$Graph", "leastSimplicial", "(I)I"⟩, 18) := ⟨⟨by decide +kernel, by decide +kernel⟩, List.mem_of_getElem? (i := 283) (by decide +kernel), List.mem_of_getElem? (i := 1248) (by decide +kernel), List.mem_of_getElem? (i := 1249) (by decide +kernel)⟩
theorem lw_p69 : lw_okq (⟨"RegisterColours$Graph", "nearVs", "(I)I"⟩, 18) := ⟨⟨by decide +kernel, by decide +kernel⟩, List.mem_of_getElem? (i := 283) (by decide +kernel), List.mem_of_getElem? (i := 1252) (by decide +kernel), List.mem_of_getElem? (i := 1253) (by decide +kernel)⟩
theorem lw_p70 : lw_okq (⟨"RegisterColours$Graph", "isClique", "(I)Z"⟩, 18) := ⟨⟨by decide +kernel, by decide +kernel⟩, List.mem_of_getElem? (i := 283) (by decide +kernel), List.mem_of_getElem? (i := 1256) (by decide +kernel), List.mem_of_getElem? (i := 1257) (by decide +kernel)⟩
theorem lw_p71 : lw_okq (⟨"RegisterColoursModel", "canSet", "(II)Z"⟩, 73) := ⟨⟨by decide +kernel, by decide +kernel⟩, List.mem_of_getElem? (i := 1306) (by decide +kernel), List.mem_of_getElem? (i := 1537) (by decide +kernel), List.mem_of_getElem? (i := 1538) (by decide +kernel)⟩
theorem lw_p72 : lw_okq (⟨"RegisterColoursModel", "isIn", "(III)Z"⟩, 73) := ⟨⟨by decide +kernel, by decide +kernel⟩, List.mem_of_getElem? (i := 1306) (by decide +kernel), List.mem_of_getElem? (i := 1541) (by decide +kernel), List.mem_of_getElem? (i := 1542) (by decide +kernel)⟩
theorem lw_p73 : lw_okq (⟨"RegisterColoursModel", "lesser", "(II)I"⟩, 73) := ⟨⟨by decide +kernel, by decide +kernel⟩, List.mem_of_getElem? (i := 1306) (by decide +kernel), List.mem_of_getElem? (i := 1545) (by decide +kernel), List.mem_of_getElem? (i := 1546) (by decide +kernel)⟩
theorem lw_p74 : lw_okq (⟨"RegisterColoursModel", "copiesSteps", "(II)V"⟩, 73) := ⟨⟨by decide +kernel, by decide +kernel⟩, List.mem_of_getElem? (i := 1306) (by decide +kernel), List.mem_of_getElem? (i := 1553) (by decide +kernel), List.mem_of_getElem? (i := 1554) (by decide +kernel)⟩
theorem lw_p75 : lw_okq (⟨"RegisterColoursModel", "at", "(II)I"⟩, 73) := ⟨⟨by decide +kernel, by decide +kernel⟩, List.mem_of_getElem? (i := 1306) (by decide +kernel), List.mem_of_getElem? (i := 1557) (by decide +kernel), List.mem_of_getElem? (i := 1558) (by decide +kernel)⟩
theorem lw_p76 : lw_okq (⟨"RegisterColoursModel", "rounds", "()I"⟩, 73) := ⟨⟨by decide +kernel, by decide +kernel⟩, List.mem_of_getElem? (i := 1306) (by decide +kernel), List.mem_of_getElem? (i := 1561) (by decide +kernel), List.mem_of_getElem? (i := 1562) (by decide +kernel)⟩
theorem lw_p77 : lw_okq (⟨"RegisterColoursModel", "findsGraph", "(I)V"⟩, 73) := ⟨⟨by decide +kernel, by decide +kernel⟩, List.mem_of_getElem? (i := 1306) (by decide +kernel), List.mem_of_getElem? (i := 1565) (by decide +kernel), List.mem_of_getElem? (i := 1566) (by decide +kernel)⟩
theorem lw_p78 : lw_okq (⟨"RegisterColoursModel", "findsLives", "(I)V"⟩, 73) := ⟨⟨by decide +kernel, by decide +kernel⟩, List.mem_of_getElem? (i := 1306) (by decide +kernel), List.mem_of_getElem? (i := 1569) (by decide +kernel), List.mem_of_getElem? (i := 1570) (by decide +kernel)⟩
theorem lw_p79 : lw_okq (⟨"RegisterColoursModel", "empties", "([II)V"⟩, 73) := ⟨⟨by decide +kernel, by decide +kernel⟩, List.mem_of_getElem? (i := 1306) (by decide +kernel), List.mem_of_getElem? (i := 1573) (by decide +kernel), List.mem_of_getElem? (i := 1574) (by decide +kernel)⟩
def lw_privs_5 : List (MethodName × Nat) := [(⟨"RegisterColours$Prover", "flowForwards", "(I)V"⟩, 7), (⟨"RegisterColours$Prover", "meet", "(II)Z"⟩, 7), (⟨"RegisterColours$Prover", "holdersBehind", "(II)I"⟩, 7), (⟨"RegisterColours$Prover", "reads", "(II)Z"⟩, 7), (⟨"RegisterColours$Graph", "leastSimplicial", "(I)I"⟩, 18), (⟨"RegisterColours$Graph", "nearVs", "(I)I"⟩, 18), (⟨"RegisterColours$Graph", "isClique", "(I)Z"⟩, 18), (⟨"RegisterColoursModel", "canSet", "(II)Z"⟩, 73), (⟨"RegisterColoursModel", "isIn", "(III)Z"⟩, 73), (⟨"RegisterColoursModel", "lesser", "(II)I"⟩, 73), (⟨"RegisterColoursModel", "copiesSteps", "(II)V"⟩, 73), (⟨"RegisterColoursModel", "at", "(II)I"⟩, 73), (⟨"RegisterColoursModel", "rounds", "()I"⟩, 73), (⟨"RegisterColoursModel", "findsGraph", "(I)V"⟩, 73), (⟨"RegisterColoursModel", "findsLives", "(I)V"⟩, 73), (⟨"RegisterColoursModel", "empties", "([II)V"⟩, 73)]
theorem lw_r5 : ∀ q ∈ lw_privs_5, lw_okq q := List.forall_mem_cons.mpr ⟨lw_p64, List.forall_mem_cons.mpr ⟨lw_p65, List.forall_mem_cons.mpr ⟨lw_p66, List.forall_mem_cons.mpr ⟨lw_p67, List.forall_mem_cons.mpr ⟨lw_p68, List.forall_mem_cons.mpr ⟨lw_p69, List.forall_mem_cons.mpr ⟨lw_p70, List.forall_mem_cons.mpr ⟨lw_p71, List.forall_mem_cons.mpr ⟨lw_p72, List.forall_mem_cons.mpr ⟨lw_p73, List.forall_mem_cons.mpr ⟨lw_p74, List.forall_mem_cons.mpr ⟨lw_p75, List.forall_mem_cons.mpr ⟨lw_p76, List.forall_mem_cons.mpr ⟨lw_p77, List.forall_mem_cons.mpr ⟨lw_p78, List.forall_mem_cons.mpr ⟨lw_p79, fun _ h => absurd h List.not_mem_nil⟩⟩⟩⟩⟩⟩⟩⟩⟩⟩⟩⟩⟩⟩⟩⟩
theorem lw_p80 : lw_okq (⟨"RegisterColoursModel", "findsLive", "(II)Z"⟩, 73) := ⟨⟨by decide +kernel, by decide +kernel⟩, List.mem_of_getElem? (i := 1306) (by decide +kernel), List.mem_of_getElem? (i := 1577) (by decide +kernel), List.mem_of_getElem? (i := 1578) (by decide +kernel)⟩
theorem lw_p81 : lw_okq (⟨"RegisterColoursModel", "findsBehind", "(II)V"⟩, 73) := ⟨⟨by decide +kernel, by decide +kernel⟩, List.mem_of_getElem? (i := 1306) (by decide +kernel), List.mem_of_getElem? (i := 1581) (by decide +kernel), List.mem_of_getElem? (i := 1582) (by decide +kernel)⟩
theorem lw_p82 : lw_okq (⟨"RegisterColoursModel", "goesOn", "(II)Z"⟩, 73) := ⟨⟨by decide +kernel, by decide +kernel⟩, List.mem_of_getElem? (i := 1306) (by decide +kernel), List.mem_of_getElem? (i := 1585) (by decide +kernel), List.mem_of_getElem? (i := 1586) (by decide +kernel)⟩
theorem lw_p83 : lw_okq (⟨"RegisterColoursModel", "part", "(III)I"⟩, 73) := ⟨⟨by decide +kernel, by decide +kernel⟩, List.mem_of_getElem? (i := 1306) (by decide +kernel), List.mem_of_getElem? (i := 1589) (by decide +kernel), List.mem_of_getElem? (i := 1590) (by decide +kernel)⟩
theorem lw_p84 : lw_okq (⟨"RegisterColoursModel", "goesTo", "(II)Z"⟩, 73) := ⟨⟨by decide +kernel, by decide +kernel⟩, List.mem_of_getElem? (i := 1306) (by decide +kernel), List.mem_of_getElem? (i := 1593) (by decide +kernel), List.mem_of_getElem? (i := 1594) (by decide +kernel)⟩
theorem lw_p85 : lw_okq (⟨"RegisterColoursModel", "isJump", "(II)Z"⟩, 73) := ⟨⟨by decide +kernel, by decide +kernel⟩, List.mem_of_getElem? (i := 1306) (by decide +kernel), List.mem_of_getElem? (i := 1597) (by decide +kernel), List.mem_of_getElem? (i := 1598) (by decide +kernel)⟩
theorem lw_p86 : lw_okq (⟨"RegisterColoursModel", "takes", "([III)V"⟩, 73) := ⟨⟨by decide +kernel, by decide +kernel⟩, List.mem_of_getElem? (i := 1306) (by decide +kernel), List.mem_of_getElem? (i := 1601) (by decide +kernel), List.mem_of_getElem? (i := 1602) (by decide +kernel)⟩
theorem lw_p87 : lw_okq (⟨"RegisterColoursModel", "puts", "([III)V"⟩, 73) := ⟨⟨by decide +kernel, by decide +kernel⟩, List.mem_of_getElem? (i := 1306) (by decide +kernel), List.mem_of_getElem? (i := 1605) (by decide +kernel), List.mem_of_getElem? (i := 1606) (by decide +kernel)⟩
theorem lw_p88 : lw_okq (⟨"RegisterColoursModel", "isFixed", "(I)Z"⟩, 73) := ⟨⟨by decide +kernel, by decide +kernel⟩, List.mem_of_getElem? (i := 1306) (by decide +kernel), List.mem_of_getElem? (i := 1610) (by decide +kernel), List.mem_of_getElem? (i := 1611) (by decide +kernel)⟩
theorem lw_p89 : lw_okq (⟨"RegisterColoursModel", "joins", "(II)V"⟩, 73) := ⟨⟨by decide +kernel, by decide +kernel⟩, List.mem_of_getElem? (i := 1306) (by decide +kernel), List.mem_of_getElem? (i := 1614) (by decide +kernel), List.mem_of_getElem? (i := 1615) (by decide +kernel)⟩
theorem lw_p90 : lw_okq (⟨"RegisterColoursModel", "findsStep", "(II)V"⟩, 73) := ⟨⟨by decide +kernel, by decide +kernel⟩, List.mem_of_getElem? (i := 1306) (by decide +kernel), List.mem_of_getElem? (i := 1618) (by decide +kernel), List.mem_of_getElem? (i := 1619) (by decide +kernel)⟩
theorem lw_p91 : lw_okq (⟨"RegisterColoursModel", "weightOf", "(II)I"⟩, 73) := ⟨⟨by decide +kernel, by decide +kernel⟩, List.mem_of_getElem? (i := 1306) (by decide +kernel), List.mem_of_getElem? (i := 1622) (by decide +kernel), List.mem_of_getElem? (i := 1623) (by decide +kernel)⟩
theorem lw_p92 : lw_okq (⟨"RegisterColoursModel", "counts", "(II)V"⟩, 73) := ⟨⟨by decide +kernel, by decide +kernel⟩, List.mem_of_getElem? (i := 1306) (by decide +kernel), List.mem_of_getElem? (i := 1626) (by decide +kernel), List.mem_of_getElem? (i := 1627) (by decide +kernel)⟩
theorem lw_p93 : lw_okq (⟨"RegisterColoursModel", "joinsMade", "(III)V"⟩, 73) := ⟨⟨by decide +kernel, by decide +kernel⟩, List.mem_of_getElem? (i := 1306) (by decide +kernel), List.mem_of_getElem? (i := 1630) (by decide +kernel), List.mem_of_getElem? (i := 1631) (by decide +kernel)⟩
theorem lw_p94 : lw_okq (⟨"RegisterColoursModel", "isMove", "(II)Z"⟩, 73) := ⟨⟨by decide +kernel, by decide +kernel⟩, List.mem_of_getElem? (i := 1306) (by decide +kernel), List.mem_of_getElem? (i := 1634) (by decide +kernel), List.mem_of_getElem? (i := 1635) (by decide +kernel)⟩
theorem lw_p95 : lw_okq (⟨"RegisterColoursModel", "classOf", "(I)I"⟩, 73) := ⟨⟨by decide +kernel, by decide +kernel⟩, List.mem_of_getElem? (i := 1306) (by decide +kernel), List.mem_of_getElem? (i := 1638) (by decide +kernel), List.mem_of_getElem? (i := 1639) (by decide +kernel)⟩
def lw_privs_6 : List (MethodName × Nat) := [(⟨"RegisterColoursModel", "findsLive", "(II)Z"⟩, 73), (⟨"RegisterColoursModel", "findsBehind", "(II)V"⟩, 73), (⟨"RegisterColoursModel", "goesOn", "(II)Z"⟩, 73), (⟨"RegisterColoursModel", "part", "(III)I"⟩, 73), (⟨"RegisterColoursModel", "goesTo", "(II)Z"⟩, 73), (⟨"RegisterColoursModel", "isJump", "(II)Z"⟩, 73), (⟨"RegisterColoursModel", "takes", "([III)V"⟩, 73), (⟨"RegisterColoursModel", "puts", "([III)V"⟩, 73), (⟨"RegisterColoursModel", "isFixed", "(I)Z"⟩, 73), (⟨"RegisterColoursModel", "joins", "(II)V"⟩, 73), (⟨"RegisterColoursModel", "findsStep", "(II)V"⟩, 73), (⟨"RegisterColoursModel", "weightOf", "(II)I"⟩, 73), (⟨"RegisterColoursModel", "counts", "(II)V"⟩, 73), (⟨"RegisterColoursModel", "joinsMade", "(III)V"⟩, 73), (⟨"RegisterColoursModel", "isMove", "(II)Z"⟩, 73), (⟨"RegisterColoursModel", "classOf", "(I)I"⟩, 73)]
theorem lw_r6 : ∀ q ∈ lw_privs_6, lw_okq q := List.forall_mem_cons.mpr ⟨lw_p80, List.forall_mem_cons.mpr ⟨lw_p81, List.forall_mem_cons.mpr ⟨lw_p82, List.forall_mem_cons.mpr ⟨lw_p83, List.forall_mem_cons.mpr ⟨lw_p84, List.forall_mem_cons.mpr ⟨lw_p85, List.forall_mem_cons.mpr ⟨lw_p86, List.forall_mem_cons.mpr ⟨lw_p87, List.forall_mem_cons.mpr ⟨lw_p88, List.forall_mem_cons.mpr ⟨lw_p89, List.forall_mem_cons.mpr ⟨lw_p90, List.forall_mem_cons.mpr ⟨lw_p91, List.forall_mem_cons.mpr ⟨lw_p92, List.forall_mem_cons.mpr ⟨lw_p93, List.forall_mem_cons.mpr ⟨lw_p94, List.forall_mem_cons.mpr ⟨lw_p95, fun _ h => absurd h List.not_mem_nil⟩⟩⟩⟩⟩⟩⟩⟩⟩⟩⟩⟩⟩⟩⟩⟩
theorem lw_p96 : lw_okq (⟨"RegisterColoursModel", "classIn", "([II)I"⟩, 73) := ⟨⟨by decide +kernel, by decide +kernel⟩, List.mem_of_getElem? (i := 1306) (by decide +kernel), List.mem_of_getElem? (i := 1642) (by decide +kernel), List.mem_of_getElem? (i := 1643) (by decide +kernel)⟩
theorem lw_p97 : lw_okq (⟨"RegisterColoursModel", "has", "([III)Z"⟩, 73) := ⟨⟨by decide +kernel, by decide +kernel⟩, List.mem_of_getElem? (i := 1306) (by decide +kernel), List.mem_of_getElem? (i := 1646) (by decide +kernel), List.mem_of_getElem? (i := 1647) (by decide +kernel)⟩
theorem lw_p98 : lw_okq (⟨"RegisterColoursModel", "areOfOneKind", "(II)Z"⟩, 73) := ⟨⟨by decide +kernel, by decide +kernel⟩, List.mem_of_getElem? (i := 1306) (by decide +kernel), List.mem_of_getElem? (i := 1650) (by decide +kernel), List.mem_of_getElem? (i := 1651) (by decide +kernel)⟩
theorem lw_p99 : lw_okq (⟨"RegisterColoursModel", "mergesAll", "()V"⟩, 73) := ⟨⟨by decide +kernel, by decide +kernel⟩, List.mem_of_getElem? (i := 1306) (by decide +kernel), List.mem_of_getElem? (i := 1654) (by decide +kernel), List.mem_of_getElem? (i := 1655) (by decide +kernel)⟩
theorem lw_p100 : lw_okq (⟨"RegisterColoursModel", "mergesOne", "(I)Z"⟩, 73) := ⟨⟨by decide +kernel, by decide +kernel⟩, List.mem_of_getElem? (i := 1306) (by decide +kernel), List.mem_of_getElem? (i := 1658) (by decide +kernel), List.mem_of_getElem? (i := 1659) (by decide +kernel)⟩
theorem lw_p101 : lw_okq (⟨"RegisterColoursModel", "isSafeWith", "(II)Z"⟩, 73) := ⟨⟨by decide +kernel, by decide +kernel⟩, List.mem_of_getElem? (i := 1306) (by decide +kernel), List.mem_of_getElem? (i := 1662) (by decide +kernel), List.mem_of_getElem? (i := 1663) (by decide +kernel)⟩
theorem lw_p102 : lw_okq (⟨"RegisterColoursModel", "isHeavy", "(I)Z"⟩, 73) := ⟨⟨by decide +kernel, by decide +kernel⟩, List.mem_of_getElem? (i := 1306) (by decide +kernel), List.mem_of_getElem? (i := 1666) (by decide +kernel), List.mem_of_getElem? (i := 1667) (by decide +kernel)⟩
theorem lw_p103 : lw_okq (⟨"RegisterColoursModel", "degreeOf", "(I)I"⟩, 73) := ⟨⟨by decide +kernel, by decide +kernel⟩, List.mem_of_getElem? (i := 1306) (by decide +kernel), List.mem_of_getElem? (i := 1670) (by decide +kernel), List.mem_of_getElem? (i := 1671) (by decide +kernel)⟩
theorem lw_p104 : lw_okq (⟨"RegisterColoursModel", "countsFor", "(II)I"⟩, 73) := ⟨⟨by decide +kernel, by decide +kernel⟩, List.mem_of_getElem? (i := 1306) (by decide +kernel), List.mem_of_getElem? (i := 1674) (by decide +kernel), List.mem_of_getElem? (i := 1675) (by decide +kernel)⟩
theorem lw_p105 : lw_okq (⟨"RegisterColoursModel", "limitOf", "(I)I"⟩, 73) := ⟨⟨by decide +kernel, by decide +kernel⟩, List.mem_of_getElem? (i := 1306) (by decide +kernel), List.mem_of_getElem? (i := 1678) (by decide +kernel), List.mem_of_getElem? (i := 1679) (by decide +kernel)⟩
theorem lw_p106 : lw_okq (⟨"RegisterColoursModel", "areSafe", "(II)Z"⟩, 73) := ⟨⟨by decide +kernel, by decide +kernel⟩, List.mem_of_getElem? (i := 1306) (by decide +kernel), List.mem_of_getElem? (i := 1682) (by decide +kernel), List.mem_of_getElem? (i := 1683) (by decide +kernel)⟩
theorem lw_p107 : lw_okq (⟨"RegisterColoursModel", "merges", "(II)V"⟩, 73) := ⟨⟨by decide +kernel, by decide +kernel⟩, List.mem_of_getElem? (i := 1306) (by decide +kernel), List.mem_of_getElem? (i := 1686) (by decide +kernel), List.mem_of_getElem? (i := 1687) (by decide +kernel)⟩
theorem lw_p108 : lw_okq (⟨"RegisterColoursModel", "laysAll", "()V"⟩, 73) := ⟨⟨by decide +kernel, by decide +kernel⟩, List.mem_of_getElem? (i := 1306) (by decide +kernel), List.mem_of_getElem? (i := 1690) (by decide +kernel), List.mem_of_getElem? (i := 1691) (by decide +kernel)⟩
theorem lw_p109 : lw_okq (⟨"RegisterColoursModel", "nextOut", "()I"⟩, 73) := ⟨⟨by decide +kernel, by decide +kernel⟩, List.mem_of_getElem? (i := 1306) (by decide +kernel), List.mem_of_getElem? (i := 1694) (by decide +kernel), List.mem_of_getElem? (i := 1695) (by decide +kernel)⟩
theorem lw_p110 : lw_okq (⟨"RegisterColoursModel", "isCheaper", "(II)Z"⟩, 73) := ⟨⟨by decide +kernel, by decide +kernel⟩, List.mem_of_getElem? (i := 1306) (by decide +kernel), List.mem_of_getElem? (i := 1698) (by decide +kernel), List.mem_of_getElem? (i := 1699) (by decide +kernel)⟩
theorem lw_p111 : lw_okq (⟨"RegisterColoursModel", "coloursAll", "()I"⟩, 73) := ⟨⟨by decide +kernel, by decide +kernel⟩, List.mem_of_getElem? (i := 1306) (by decide +kernel), List.mem_of_getElem? (i := 1702) (by decide +kernel), List.mem_of_getElem? (i := 1703) (by decide +kernel)⟩
def lw_privs_7 : List (MethodName × Nat) := [(⟨"RegisterColoursModel", "classIn", "([II)I"⟩, 73), (⟨"RegisterColoursModel", "has", "([III)Z"⟩, 73), (⟨"RegisterColoursModel", "areOfOneKind", "(II)Z"⟩, 73), (⟨"RegisterColoursModel", "mergesAll", "()V"⟩, 73), (⟨"RegisterColoursModel", "mergesOne", "(I)Z"⟩, 73), (⟨"RegisterColoursModel", "isSafeWith", "(II)Z"⟩, 73), (⟨"RegisterColoursModel", "isHeavy", "(I)Z"⟩, 73), (⟨"RegisterColoursModel", "degreeOf", "(I)I"⟩, 73), (⟨"RegisterColoursModel", "countsFor", "(II)I"⟩, 73), (⟨"RegisterColoursModel", "limitOf", "(I)I"⟩, 73), (⟨"RegisterColoursModel", "areSafe", "(II)Z"⟩, 73), (⟨"RegisterColoursModel", "merges", "(II)V"⟩, 73), (⟨"RegisterColoursModel", "laysAll", "()V"⟩, 73), (⟨"RegisterColoursModel", "nextOut", "()I"⟩, 73), (⟨"RegisterColoursModel", "isCheaper", "(II)Z"⟩, 73), (⟨"RegisterColoursModel", "coloursAll", "()I"⟩, 73)]
theorem lw_r7 : ∀ q ∈ lw_privs_7, lw_okq q := List.forall_mem_cons.mpr ⟨lw_p96, List.forall_mem_cons.mpr ⟨lw_p97, List.forall_mem_cons.mpr ⟨lw_p98, List.forall_mem_cons.mpr ⟨lw_p99, List.forall_mem_cons.mpr ⟨lw_p100, List.forall_mem_cons.mpr ⟨lw_p101, List.forall_mem_cons.mpr ⟨lw_p102, List.forall_mem_cons.mpr ⟨lw_p103, List.forall_mem_cons.mpr ⟨lw_p104, List.forall_mem_cons.mpr ⟨lw_p105, List.forall_mem_cons.mpr ⟨lw_p106, List.forall_mem_cons.mpr ⟨lw_p107, List.forall_mem_cons.mpr ⟨lw_p108, List.forall_mem_cons.mpr ⟨lw_p109, List.forall_mem_cons.mpr ⟨lw_p110, List.forall_mem_cons.mpr ⟨lw_p111, fun _ h => absurd h List.not_mem_nil⟩⟩⟩⟩⟩⟩⟩⟩⟩⟩⟩⟩⟩⟩⟩⟩
theorem lw_p112 : lw_okq (⟨"RegisterColoursModel", "colourFor", "(I)I"⟩, 73) := ⟨⟨by decide +kernel, by decide +kernel⟩, List.mem_of_getElem? (i := 1306) (by decide +kernel), List.mem_of_getElem? (i := 1706) (by decide +kernel), List.mem_of_getElem? (i := 1707) (by decide +kernel)⟩
theorem lw_p113 : lw_okq (⟨"RegisterColoursModel", "registersOf", "(I)I"⟩, 73) := ⟨⟨by decide +kernel, by decide +kernel⟩, List.mem_of_getElem? (i := 1306) (by decide +kernel), List.mem_of_getElem? (i := 1710) (by decide +kernel), List.mem_of_getElem? (i := 1711) (by decide +kernel)⟩
theorem lw_p114 : lw_okq (⟨"RegisterColoursModel", "tellsSpills", "()V"⟩, 73) := ⟨⟨by decide +kernel, by decide +kernel⟩, List.mem_of_getElem? (i := 1306) (by decide +kernel), List.mem_of_getElem? (i := 1714) (by decide +kernel), List.mem_of_getElem? (i := 1715) (by decide +kernel)⟩
theorem lw_p115 : lw_okq (⟨"RegisterColoursModel", "isSpilledNode", "(I)Z"⟩, 73) := ⟨⟨by decide +kernel, by decide +kernel⟩, List.mem_of_getElem? (i := 1306) (by decide +kernel), List.mem_of_getElem? (i := 1718) (by decide +kernel), List.mem_of_getElem? (i := 1719) (by decide +kernel)⟩
theorem lw_p116 : lw_okq (⟨"RegisterColoursModel", "numberOf", "(I)I"⟩, 73) := ⟨⟨by decide +kernel, by decide +kernel⟩, List.mem_of_getElem? (i := 1306) (by decide +kernel), List.mem_of_getElem? (i := 1722) (by decide +kernel), List.mem_of_getElem? (i := 1723) (by decide +kernel)⟩
theorem lw_p117 : lw_okq (⟨"RegisterColoursModel", "isWithin", "(I)Z"⟩, 73) := ⟨⟨by decide +kernel, by decide +kernel⟩, List.mem_of_getElem? (i := 1306) (by decide +kernel), List.mem_of_getElem? (i := 1726) (by decide +kernel), List.mem_of_getElem? (i := 1727) (by decide +kernel)⟩
theorem lw_p118 : lw_okq (⟨"RegisterColoursModel", "rewritesAll", "()Z"⟩, 73) := ⟨⟨by decide +kernel, by decide +kernel⟩, List.mem_of_getElem? (i := 1306) (by decide +kernel), List.mem_of_getElem? (i := 1730) (by decide +kernel), List.mem_of_getElem? (i := 1731) (by decide +kernel)⟩
theorem lw_p119 : lw_okq (⟨"RegisterColoursModel", "rewrites", "(I)V"⟩, 73) := ⟨⟨by decide +kernel, by decide +kernel⟩, List.mem_of_getElem? (i := 1306) (by decide +kernel), List.mem_of_getElem? (i := 1734) (by decide +kernel), List.mem_of_getElem? (i := 1735) (by decide +kernel)⟩
theorem lw_p120 : lw_okq (⟨"RegisterColoursModel", "spillOf", "(I)I"⟩, 73) := ⟨⟨by decide +kernel, by decide +kernel⟩, List.mem_of_getElem? (i := 1306) (by decide +kernel), List.mem_of_getElem? (i := 1738) (by decide +kernel), List.mem_of_getElem? (i := 1739) (by decide +kernel)⟩
theorem lw_p121 : lw_okq (⟨"RegisterColoursModel", "loads", "(I)I"⟩, 73) := ⟨⟨by decide +kernel, by decide +kernel⟩, List.mem_of_getElem? (i := 1306) (by decide +kernel), List.mem_of_getElem? (i := 1742) (by decide +kernel), List.mem_of_getElem? (i := 1743) (by decide +kernel)⟩
theorem lw_p122 : lw_okq (⟨"RegisterColoursModel", "newValue", "(I)I"⟩, 73) := ⟨⟨by decide +kernel, by decide +kernel⟩, List.mem_of_getElem? (i := 1306) (by decide +kernel), List.mem_of_getElem? (i := 1746) (by decide +kernel), List.mem_of_getElem? (i := 1747) (by decide +kernel)⟩
theorem lw_p123 : lw_okq (⟨"RegisterColoursModel", "lays", "(IIIIII)V"⟩, 73) := ⟨⟨by decide +kernel, by decide +kernel⟩, List.mem_of_getElem? (i := 1306) (by decide +kernel), List.mem_of_getElem? (i := 1750) (by decide +kernel), List.mem_of_getElem? (i := 1751) (by decide +kernel)⟩
theorem lw_p124 : lw_okq (⟨"RegisterColoursModel", "keepsLeft", "(I)V"⟩, 73) := ⟨⟨by decide +kernel, by decide +kernel⟩, List.mem_of_getElem? (i := 1306) (by decide +kernel), List.mem_of_getElem? (i := 1754) (by decide +kernel), List.mem_of_getElem? (i := 1755) (by decide +kernel)⟩
theorem lw_p125 : lw_okq (⟨"RegisterColoursModel", "usedMany", "(Z)I"⟩, 73) := ⟨⟨by decide +kernel, by decide +kernel⟩, List.mem_of_getElem? (i := 1306) (by decide +kernel), List.mem_of_getElem? (i := 1758) (by decide +kernel), List.mem_of_getElem? (i := 1759) (by decide +kernel)⟩
theorem lw_p126 : lw_okq (⟨"RegisterColoursModel", "usedBy", "(IZ)I"⟩, 73) := ⟨⟨by decide +kernel, by decide +kernel⟩, List.mem_of_getElem? (i := 1306) (by decide +kernel), List.mem_of_getElem? (i := 1762) (by decide +kernel), List.mem_of_getElem? (i := 1763) (by decide +kernel)⟩
theorem lw_p127 : lw_okq (⟨"RegisterColoursModel", "types", "(I)V"⟩, 73) := ⟨⟨by decide +kernel, by decide +kernel⟩, List.mem_of_getElem? (i := 1306) (by decide +kernel), List.mem_of_getElem? (i := 1778) (by decide +kernel), List.mem_of_getElem? (i := 1779) (by decide +kernel)⟩
def lw_privs_8 : List (MethodName × Nat) := [(⟨"RegisterColoursModel", "colourFor", "(I)I"⟩, 73), (⟨"RegisterColoursModel", "registersOf", "(I)I"⟩, 73), (⟨"RegisterColoursModel", "tellsSpills", "()V"⟩, 73), (⟨"RegisterColoursModel", "isSpilledNode", "(I)Z"⟩, 73), (⟨"RegisterColoursModel", "numberOf", "(I)I"⟩, 73), (⟨"RegisterColoursModel", "isWithin", "(I)Z"⟩, 73), (⟨"RegisterColoursModel", "rewritesAll", "()Z"⟩, 73), (⟨"RegisterColoursModel", "rewrites", "(I)V"⟩, 73), (⟨"RegisterColoursModel", "spillOf", "(I)I"⟩, 73), (⟨"RegisterColoursModel", "loads", "(I)I"⟩, 73), (⟨"RegisterColoursModel", "newValue", "(I)I"⟩, 73), (⟨"RegisterColoursModel", "lays", "(IIIIII)V"⟩, 73), (⟨"RegisterColoursModel", "keepsLeft", "(I)V"⟩, 73), (⟨"RegisterColoursModel", "usedMany", "(Z)I"⟩, 73), (⟨"RegisterColoursModel", "usedBy", "(IZ)I"⟩, 73), (⟨"RegisterColoursModel", "types", "(I)V"⟩, 73)]
theorem lw_r8 : ∀ q ∈ lw_privs_8, lw_okq q := List.forall_mem_cons.mpr ⟨lw_p112, List.forall_mem_cons.mpr ⟨lw_p113, List.forall_mem_cons.mpr ⟨lw_p114, List.forall_mem_cons.mpr ⟨lw_p115, List.forall_mem_cons.mpr ⟨lw_p116, List.forall_mem_cons.mpr ⟨lw_p117, List.forall_mem_cons.mpr ⟨lw_p118, List.forall_mem_cons.mpr ⟨lw_p119, List.forall_mem_cons.mpr ⟨lw_p120, List.forall_mem_cons.mpr ⟨lw_p121, List.forall_mem_cons.mpr ⟨lw_p122, List.forall_mem_cons.mpr ⟨lw_p123, List.forall_mem_cons.mpr ⟨lw_p124, List.forall_mem_cons.mpr ⟨lw_p125, List.forall_mem_cons.mpr ⟨lw_p126, List.forall_mem_cons.mpr ⟨lw_p127, fun _ h => absurd h List.not_mem_nil⟩⟩⟩⟩⟩⟩⟩⟩⟩⟩⟩⟩⟩⟩⟩⟩
theorem lw_p128 : lw_okq (⟨"RegisterColoursModel", "readCode", "()I"⟩, 73) := ⟨⟨by decide +kernel, by decide +kernel⟩, List.mem_of_getElem? (i := 1306) (by decide +kernel), List.mem_of_getElem? (i := 1790) (by decide +kernel), List.mem_of_getElem? (i := 1791) (by decide +kernel)⟩
theorem lw_p129 : lw_okq (⟨"RegisterColoursModel", "reads", "()V"⟩, 73) := ⟨⟨by decide +kernel, by decide +kernel⟩, List.mem_of_getElem? (i := 1306) (by decide +kernel), List.mem_of_getElem? (i := 1794) (by decide +kernel), List.mem_of_getElem? (i := 1795) (by decide +kernel)⟩
theorem lw_p130 : lw_okq (⟨"RegisterColoursModel", "raw", "(I)I"⟩, 73) := ⟨⟨by decide +kernel, by decide +kernel⟩, List.mem_of_getElem? (i := 1306) (by decide +kernel), List.mem_of_getElem? (i := 1798) (by decide +kernel), List.mem_of_getElem? (i := 1799) (by decide +kernel)⟩
theorem lw_p131 : lw_okq (⟨"RegisterColoursModel", "isLetter", "(I)Z"⟩, 73) := ⟨⟨by decide +kernel, by decide +kernel⟩, List.mem_of_getElem? (i := 1306) (by decide +kernel), List.mem_of_getElem? (i := 1802) (by decide +kernel), List.mem_of_getElem? (i := 1803) (by decide +kernel)⟩
theorem lw_p132 : lw_okq (⟨"RegisterColoursModel", "wordAt", "(II)I"⟩, 73) := ⟨⟨by decide +kernel, by decide +kernel⟩, List.mem_of_getElem? (i := 1306) (by decide +kernel), List.mem_of_getElem? (i := 1806) (by decide +kernel), List.mem_of_getElem? (i := 1807) (by decide +kernel)⟩
theorem lw_p133 : lw_okq (⟨"RegisterColoursModel", "isDigit", "(I)Z"⟩, 73) := ⟨⟨by decide +kernel, by decide +kernel⟩, List.mem_of_getElem? (i := 1306) (by decide +kernel), List.mem_of_getElem? (i := 1810) (by decide +kernel), List.mem_of_getElem? (i := 1811) (by decide +kernel)⟩
theorem lw_p134 : lw_okq (⟨"RegisterColoursModel", "isSignOf", "(I)Z"⟩, 73) := ⟨⟨by decide +kernel, by decide +kernel⟩, List.mem_of_getElem? (i := 1306) (by decide +kernel), List.mem_of_getElem? (i := 1814) (by decide +kernel), List.mem_of_getElem? (i := 1815) (by decide +kernel)⟩
theorem lw_p135 : lw_okq (⟨"RegisterColoursModel", "readLine", "()I"⟩, 73) := ⟨⟨by decide +kernel, by decide +kernel⟩, List.mem_of_getElem? (i := 1306) (by decide +kernel), List.mem_of_getElem? (i := 1818) (by decide +kernel), List.mem_of_getElem? (i := 1819) (by decide +kernel)⟩
theorem lw_p136 : lw_okq (⟨"RegisterColoursModel", "errs", "(I)I"⟩, 73) := ⟨⟨by decide +kernel, by decide +kernel⟩, List.mem_of_getElem? (i := 1306) (by decide +kernel), List.mem_of_getElem? (i := 1822) (by decide +kernel), List.mem_of_getElem? (i := 1823) (by decide +kernel)⟩
theorem lw_p137 : lw_okq (⟨"RegisterColoursModel", "isWord", "(I)Z"⟩, 73) := ⟨⟨by decide +kernel, by decide +kernel⟩, List.mem_of_getElem? (i := 1306) (by decide +kernel), List.mem_of_getElem? (i := 1826) (by decide +kernel), List.mem_of_getElem? (i := 1827) (by decide +kernel)⟩
theorem lw_p138 : lw_okq (⟨"RegisterColoursModel", "readIf", "()I"⟩, 73) := ⟨⟨by decide +kernel, by decide +kernel⟩, List.mem_of_getElem? (i := 1306) (by decide +kernel), List.mem_of_getElem? (i := 1830) (by decide +kernel), List.mem_of_getElem? (i := 1831) (by decide +kernel)⟩
theorem lw_p139 : lw_okq (⟨"RegisterColoursModel", "readValue", "(I)I"⟩, 73) := ⟨⟨by decide +kernel, by decide +kernel⟩, List.mem_of_getElem? (i := 1306) (by decide +kernel), List.mem_of_getElem? (i := 1834) (by decide +kernel), List.mem_of_getElem? (i := 1835) (by decide +kernel)⟩
theorem lw_p140 : lw_okq (⟨"RegisterColoursModel", "readNumber", "(II)I"⟩, 73) := ⟨⟨by decide +kernel, by decide +kernel⟩, List.mem_of_getElem? (i := 1306) (by decide +kernel), List.mem_of_getElem? (i := 1838) (by decide +kernel), List.mem_of_getElem? (i := 1839) (by decide +kernel)⟩
theorem lw_p141 : lw_okq (⟨"RegisterColoursModel", "readSign", "(I)I"⟩, 73) := ⟨⟨by decide +kernel, by decide +kernel⟩, List.mem_of_getElem? (i := 1306) (by decide +kernel), List.mem_of_getElem? (i := 1842) (by decide +kernel), List.mem_of_getElem? (i := 1843) (by decide +kernel)⟩
theorem lw_p142 : lw_okq (⟨"RegisterColoursModel", "isSign", "(I)Z"⟩, 73) := ⟨⟨by decide +kernel, by decide +kernel⟩, List.mem_of_getElem? (i := 1306) (by decide +kernel), List.mem_of_getElem? (i := 1846) (by decide +kernel), List.mem_of_getElem? (i := 1847) (by decide +kernel)⟩
theorem lw_p143 : lw_okq (⟨"RegisterColoursModel", "readGoal", "()I"⟩, 73) := ⟨⟨by decide +kernel, by decide +kernel⟩, List.mem_of_getElem? (i := 1306) (by decide +kernel), List.mem_of_getElem? (i := 1850) (by decide +kernel), List.mem_of_getElem? (i := 1851) (by decide +kernel)⟩
def lw_privs_9 : List (MethodName × Nat) := [(⟨"RegisterColoursModel", "readCode", "()I"⟩, 73), (⟨"RegisterColoursModel", "reads", "()V"⟩, 73), (⟨"RegisterColoursModel", "raw", "(I)I"⟩, 73), (⟨"RegisterColoursModel", "isLetter", "(I)Z"⟩, 73), (⟨"RegisterColoursModel", "wordAt", "(II)I"⟩, 73), (⟨"RegisterColoursModel", "isDigit", "(I)Z"⟩, 73), (⟨"RegisterColoursModel", "isSignOf", "(I)Z"⟩, 73), (⟨"RegisterColoursModel", "readLine", "()I"⟩, 73), (⟨"RegisterColoursModel", "errs", "(I)I"⟩, 73), (⟨"RegisterColoursModel", "isWord", "(I)Z"⟩, 73), (⟨"RegisterColoursModel", "readIf", "()I"⟩, 73), (⟨"RegisterColoursModel", "readValue", "(I)I"⟩, 73), (⟨"RegisterColoursModel", "readNumber", "(II)I"⟩, 73), (⟨"RegisterColoursModel", "readSign", "(I)I"⟩, 73), (⟨"RegisterColoursModel", "isSign", "(I)Z"⟩, 73), (⟨"RegisterColoursModel", "readGoal", "()I"⟩, 73)]
theorem lw_r9 : ∀ q ∈ lw_privs_9, lw_okq q := List.forall_mem_cons.mpr ⟨lw_p128, List.forall_mem_cons.mpr ⟨lw_p129, List.forall_mem_cons.mpr ⟨lw_p130, List.forall_mem_cons.mpr ⟨lw_p131, List.forall_mem_cons.mpr ⟨lw_p132, List.forall_mem_cons.mpr ⟨lw_p133, List.forall_mem_cons.mpr ⟨lw_p134, List.forall_mem_cons.mpr ⟨lw_p135, List.forall_mem_cons.mpr ⟨lw_p136, List.forall_mem_cons.mpr ⟨lw_p137, List.forall_mem_cons.mpr ⟨lw_p138, List.forall_mem_cons.mpr ⟨lw_p139, List.forall_mem_cons.mpr ⟨lw_p140, List.forall_mem_cons.mpr ⟨lw_p141, List.forall_mem_cons.mpr ⟨lw_p142, List.forall_mem_cons.mpr ⟨lw_p143, fun _ h => absurd h List.not_mem_nil⟩⟩⟩⟩⟩⟩⟩⟩⟩⟩⟩⟩⟩⟩⟩⟩
theorem lw_p144 : lw_okq (⟨"RegisterColoursModel", "laysLine", "(IIIII)I"⟩, 73) := ⟨⟨by decide +kernel, by decide +kernel⟩, List.mem_of_getElem? (i := 1306) (by decide +kernel), List.mem_of_getElem? (i := 1854) (by decide +kernel), List.mem_of_getElem? (i := 1855) (by decide +kernel)⟩
theorem lw_p145 : lw_okq (⟨"RegisterColoursModel", "readMade", "()I"⟩, 73) := ⟨⟨by decide +kernel, by decide +kernel⟩, List.mem_of_getElem? (i := 1306) (by decide +kernel), List.mem_of_getElem? (i := 1858) (by decide +kernel), List.mem_of_getElem? (i := 1859) (by decide +kernel)⟩
theorem lw_p146 : lw_okq (⟨"RegisterColoursModel", "readSigned", "(I)I"⟩, 73) := ⟨⟨by decide +kernel, by decide +kernel⟩, List.mem_of_getElem? (i := 1306) (by decide +kernel), List.mem_of_getElem? (i := 1862) (by decide +kernel), List.mem_of_getElem? (i := 1863) (by decide +kernel)⟩
theorem lw_p147 : lw_okq (⟨"RegisterColoursModel", "makesSteps", "()V"⟩, 73) := ⟨⟨by decide +kernel, by decide +kernel⟩, List.mem_of_getElem? (i := 1306) (by decide +kernel), List.mem_of_getElem? (i := 1866) (by decide +kernel), List.mem_of_getElem? (i := 1867) (by decide +kernel)⟩
theorem lw_p148 : lw_okq (⟨"RegisterColoursModel", "does", "(II)I"⟩, 73) := ⟨⟨by decide +kernel, by decide +kernel⟩, List.mem_of_getElem? (i := 1306) (by decide +kernel), List.mem_of_getElem? (i := 1882) (by decide +kernel), List.mem_of_getElem? (i := 1883) (by decide +kernel)⟩
theorem lw_p149 : lw_okq (⟨"RegisterColoursModel", "valueOf", "(II)J"⟩, 73) := ⟨⟨by decide +kernel, by decide +kernel⟩, List.mem_of_getElem? (i := 1306) (by decide +kernel), List.mem_of_getElem? (i := 1886) (by decide +kernel), List.mem_of_getElem? (i := 1887) (by decide +kernel)⟩
theorem lw_p150 : lw_okq (⟨"RegisterColoursModel", "calls", "(I)V"⟩, 73) := ⟨⟨by decide +kernel, by decide +kernel⟩, List.mem_of_getElem? (i := 1306) (by decide +kernel), List.mem_of_getElem? (i := 1891) (by decide +kernel), List.mem_of_getElem? (i := 1892) (by decide +kernel)⟩
theorem lw_p151 : lw_okq (⟨"RegisterColoursModel", "becomes", "(IIJ)V"⟩, 73) := ⟨⟨by decide +kernel, by decide +kernel⟩, List.mem_of_getElem? (i := 1306) (by decide +kernel), List.mem_of_getElem? (i := 1897) (by decide +kernel), List.mem_of_getElem? (i := 1898) (by decide +kernel)⟩
theorem lw_p152 : lw_okq (⟨"RegisterColoursModel", "madeBy", "(II)J"⟩, 73) := ⟨⟨by decide +kernel, by decide +kernel⟩, List.mem_of_getElem? (i := 1306) (by decide +kernel), List.mem_of_getElem? (i := 1901) (by decide +kernel), List.mem_of_getElem? (i := 1902) (by decide +kernel)⟩
theorem lw_p153 : lw_okq (⟨"RegisterColoursModel", "comesTo", "(I)Z"⟩, 73) := ⟨⟨by decide +kernel, by decide +kernel⟩, List.mem_of_getElem? (i := 1306) (by decide +kernel), List.mem_of_getElem? (i := 1909) (by decide +kernel), List.mem_of_getElem? (i := 1910) (by decide +kernel)⟩
theorem lw_p154 : lw_okq (⟨"RegisterColoursModel", "holdsThen", "(I)V"⟩, 73) := ⟨⟨by decide +kernel, by decide +kernel⟩, List.mem_of_getElem? (i := 1306) (by decide +kernel), List.mem_of_getElem? (i := 1913) (by decide +kernel), List.mem_of_getElem? (i := 1914) (by decide +kernel)⟩
theorem lw_p155 : lw_okq (⟨"RegisterColoursModel", "placeOf", "(I)I"⟩, 73) := ⟨⟨by decide +kernel, by decide +kernel⟩, List.mem_of_getElem? (i := 1306) (by decide +kernel), List.mem_of_getElem? (i := 1917) (by decide +kernel), List.mem_of_getElem? (i := 1918) (by decide +kernel)⟩
theorem lw_p156 : lw_okq (⟨"RegisterColoursModel", "widthOf", "(I)I"⟩, 73) := ⟨⟨by decide +kernel, by decide +kernel⟩, List.mem_of_getElem? (i := 1306) (by decide +kernel), List.mem_of_getElem? (i := 1921) (by decide +kernel), List.mem_of_getElem? (i := 1922) (by decide +kernel)⟩
theorem lw_p157 : lw_okq (⟨"RegisterColoursModel", "isLeftMove", "(I)Z"⟩, 73) := ⟨⟨by decide +kernel, by decide +kernel⟩, List.mem_of_getElem? (i := 1306) (by decide +kernel), List.mem_of_getElem? (i := 1925) (by decide +kernel), List.mem_of_getElem? (i := 1926) (by decide +kernel)⟩
theorem lw_p158 : lw_okq (⟨"RegisterColoursModel", "copiesHeld", "(III)V"⟩, 73) := ⟨⟨by decide +kernel, by decide +kernel⟩, List.mem_of_getElem? (i := 1306) (by decide +kernel), List.mem_of_getElem? (i := 1929) (by decide +kernel), List.mem_of_getElem? (i := 1930) (by decide +kernel)⟩
theorem lw_p159 : lw_okq (⟨"RegisterColoursModel", "holds", "(II)Z"⟩, 73) := ⟨⟨by decide +kernel, by decide +kernel⟩, List.mem_of_getElem? (i := 1306) (by decide +kernel), List.mem_of_getElem? (i := 1933) (by decide +kernel), List.mem_of_getElem? (i := 1934) (by decide +kernel)⟩
def lw_privs_10 : List (MethodName × Nat) := [(⟨"RegisterColoursModel", "laysLine", "(IIIII)I"⟩, 73), (⟨"RegisterColoursModel", "readMade", "()I"⟩, 73), (⟨"RegisterColoursModel", "readSigned", "(I)I"⟩, 73), (⟨"RegisterColoursModel", "makesSteps", "()V"⟩, 73), (⟨"RegisterColoursModel", "does", "(II)I"⟩, 73), (⟨"RegisterColoursModel", "valueOf", "(II)J"⟩, 73), (⟨"RegisterColoursModel", "calls", "(I)V"⟩, 73), (⟨"RegisterColoursModel", "becomes", "(IIJ)V"⟩, 73), (⟨"RegisterColoursModel", "madeBy", "(II)J"⟩, 73), (⟨"RegisterColoursModel", "comesTo", "(I)Z"⟩, 73), (⟨"RegisterColoursModel", "holdsThen", "(I)V"⟩, 73), (⟨"RegisterColoursModel", "placeOf", "(I)I"⟩, 73), (⟨"RegisterColoursModel", "widthOf", "(I)I"⟩, 73), (⟨"RegisterColoursModel", "isLeftMove", "(I)Z"⟩, 73), (⟨"RegisterColoursModel", "copiesHeld", "(III)V"⟩, 73), (⟨"RegisterColoursModel", "holds", "(II)Z"⟩, 73)]
theorem lw_r10 : ∀ q ∈ lw_privs_10, lw_okq q := List.forall_mem_cons.mpr ⟨lw_p144, List.forall_mem_cons.mpr ⟨lw_p145, List.forall_mem_cons.mpr ⟨lw_p146, List.forall_mem_cons.mpr ⟨lw_p147, List.forall_mem_cons.mpr ⟨lw_p148, List.forall_mem_cons.mpr ⟨lw_p149, List.forall_mem_cons.mpr ⟨lw_p150, List.forall_mem_cons.mpr ⟨lw_p151, List.forall_mem_cons.mpr ⟨lw_p152, List.forall_mem_cons.mpr ⟨lw_p153, List.forall_mem_cons.mpr ⟨lw_p154, List.forall_mem_cons.mpr ⟨lw_p155, List.forall_mem_cons.mpr ⟨lw_p156, List.forall_mem_cons.mpr ⟨lw_p157, List.forall_mem_cons.mpr ⟨lw_p158, List.forall_mem_cons.mpr ⟨lw_p159, fun _ h => absurd h List.not_mem_nil⟩⟩⟩⟩⟩⟩⟩⟩⟩⟩⟩⟩⟩⟩⟩⟩
theorem lw_p160 : lw_okq (⟨"RegisterColoursModel", "isValue", "(I)Z"⟩, 73) := ⟨⟨by decide +kernel, by decide +kernel⟩, List.mem_of_getElem? (i := 1306) (by decide +kernel), List.mem_of_getElem? (i := 1945) (by decide +kernel), List.mem_of_getElem? (i := 1946) (by decide +kernel)⟩
theorem lw_p161 : lw_okq (⟨"RegisterColoursModel", "isChordal", "()Z"⟩, 73) := ⟨⟨by decide +kernel, by decide +kernel⟩, List.mem_of_getElem? (i := 1306) (by decide +kernel), List.mem_of_getElem? (i := 1961) (by decide +kernel), List.mem_of_getElem? (i := 1962) (by decide +kernel)⟩
theorem lw_p162 : lw_okq (⟨"RegisterColoursModel", "areAll", "(I)Z"⟩, 73) := ⟨⟨by decide +kernel, by decide +kernel⟩, List.mem_of_getElem? (i := 1306) (by decide +kernel), List.mem_of_getElem? (i := 1965) (by decide +kernel), List.mem_of_getElem? (i := 1966) (by decide +kernel)⟩
theorem lw_p163 : lw_okq (⟨"RegisterColoursModel", "neighboursLeft", "(I)I"⟩, 73) := ⟨⟨by decide +kernel, by decide +kernel⟩, List.mem_of_getElem? (i := 1306) (by decide +kernel), List.mem_of_getElem? (i := 1969) (by decide +kernel), List.mem_of_getElem? (i := 1970) (by decide +kernel)⟩
theorem lw_p164 : lw_okq (⟨"RegisterColoursModel", "greater", "(II)I"⟩, 73) := ⟨⟨by decide +kernel, by decide +kernel⟩, List.mem_of_getElem? (i := 1306) (by decide +kernel), List.mem_of_getElem? (i := 1973) (by decide +kernel), List.mem_of_getElem? (i := 1974) (by decide +kernel)⟩
theorem lw_p165 : lw_okq (⟨"RegisterColoursModel", "clashes", "()I"⟩, 73) := ⟨⟨by decide +kernel, by decide +kernel⟩, List.mem_of_getElem? (i := 1306) (by decide +kernel), List.mem_of_getElem? (i := 1977) (by decide +kernel), List.mem_of_getElem? (i := 1978) (by decide +kernel)⟩
theorem lw_p166 : lw_okq (⟨"RegisterColoursModel", "heaviest", "()I"⟩, 73) := ⟨⟨by decide +kernel, by decide +kernel⟩, List.mem_of_getElem? (i := 1306) (by decide +kernel), List.mem_of_getElem? (i := 1981) (by decide +kernel), List.mem_of_getElem? (i := 1982) (by decide +kernel)⟩
theorem lw_p167 : lw_okq (⟨"RegisterColoursModel", "thereMany", "()I"⟩, 73) := ⟨⟨by decide +kernel, by decide +kernel⟩, List.mem_of_getElem? (i := 1306) (by decide +kernel), List.mem_of_getElem? (i := 1993) (by decide +kernel), List.mem_of_getElem? (i := 1994) (by decide +kernel)⟩
theorem lw_p168 : lw_okq (⟨"RegisterColoursModel", "edgeMany", "()I"⟩, 73) := ⟨⟨by decide +kernel, by decide +kernel⟩, List.mem_of_getElem? (i := 1306) (by decide +kernel), List.mem_of_getElem? (i := 1997) (by decide +kernel), List.mem_of_getElem? (i := 1998) (by decide +kernel)⟩
theorem lw_p169 : lw_okq (⟨"RegisterColoursModel", "moveCount", "()I"⟩, 73) := ⟨⟨by decide +kernel, by decide +kernel⟩, List.mem_of_getElem? (i := 1306) (by decide +kernel), List.mem_of_getElem? (i := 2001) (by decide +kernel), List.mem_of_getElem? (i := 2002) (by decide +kernel)⟩
theorem lw_p170 : lw_okq (⟨"RegisterColoursModel", "paintedMany", "()I"⟩, 73) := ⟨⟨by decide +kernel, by decide +kernel⟩, List.mem_of_getElem? (i := 1306) (by decide +kernel), List.mem_of_getElem? (i := 2005) (by decide +kernel), List.mem_of_getElem? (i := 2006) (by decide +kernel)⟩
theorem lw_p171 : lw_okq (⟨"RegisterColoursModel", "keepsOne", "(I)I"⟩, 73) := ⟨⟨by decide +kernel, by decide +kernel⟩, List.mem_of_getElem? (i := 1306) (by decide +kernel), List.mem_of_getElem? (i := 2014) (by decide +kernel), List.mem_of_getElem? (i := 2015) (by decide +kernel)⟩
theorem lw_p172 : lw_okq (⟨"RegisterColoursModel", "keepsRow", "([III)V"⟩, 73) := ⟨⟨by decide +kernel, by decide +kernel⟩, List.mem_of_getElem? (i := 1306) (by decide +kernel), List.mem_of_getElem? (i := 2018) (by decide +kernel), List.mem_of_getElem? (i := 2019) (by decide +kernel)⟩
def lw_privs_11 : List (MethodName × Nat) := [(⟨"RegisterColoursModel", "isValue", "(I)Z"⟩, 73), (⟨"RegisterColoursModel", "isChordal", "()Z"⟩, 73), (⟨"RegisterColoursModel", "areAll", "(I)Z"⟩, 73), (⟨"RegisterColoursModel", "neighboursLeft", "(I)I"⟩, 73), (⟨"RegisterColoursModel", "greater", "(II)I"⟩, 73), (⟨"RegisterColoursModel", "clashes", "()I"⟩, 73), (⟨"RegisterColoursModel", "heaviest", "()I"⟩, 73), (⟨"RegisterColoursModel", "thereMany", "()I"⟩, 73), (⟨"RegisterColoursModel", "edgeMany", "()I"⟩, 73), (⟨"RegisterColoursModel", "moveCount", "()I"⟩, 73), (⟨"RegisterColoursModel", "paintedMany", "()I"⟩, 73), (⟨"RegisterColoursModel", "keepsOne", "(I)I"⟩, 73), (⟨"RegisterColoursModel", "keepsRow", "([III)V"⟩, 73)]
theorem lw_r11 : ∀ q ∈ lw_privs_11, lw_okq q := List.forall_mem_cons.mpr ⟨lw_p160, List.forall_mem_cons.mpr ⟨lw_p161, List.forall_mem_cons.mpr ⟨lw_p162, List.forall_mem_cons.mpr ⟨lw_p163, List.forall_mem_cons.mpr ⟨lw_p164, List.forall_mem_cons.mpr ⟨lw_p165, List.forall_mem_cons.mpr ⟨lw_p166, List.forall_mem_cons.mpr ⟨lw_p167, List.forall_mem_cons.mpr ⟨lw_p168, List.forall_mem_cons.mpr ⟨lw_p169, List.forall_mem_cons.mpr ⟨lw_p170, List.forall_mem_cons.mpr ⟨lw_p171, List.forall_mem_cons.mpr ⟨lw_p172, fun _ h => absurd h List.not_mem_nil⟩⟩⟩⟩⟩⟩⟩⟩⟩⟩⟩⟩⟩
def lw_privs : List (MethodName × Nat) := lw_privs_1 ++ (lw_privs_2 ++ (lw_privs_3 ++ (lw_privs_4 ++ (lw_privs_5 ++ (lw_privs_6 ++ (lw_privs_7 ++ (lw_privs_8 ++ (lw_privs_9 ++ (lw_privs_10 ++ (lw_privs_11))))))))))
def lw_tbl : List Cond := k2_sels lw_privs ++ tables_1
theorem lw_privs_ok : ∀ q ∈ lw_privs, lw_okq q := by
  show ∀ q ∈ lw_privs_1 ++ (lw_privs_2 ++ (lw_privs_3 ++ (lw_privs_4 ++ (lw_privs_5 ++ (lw_privs_6 ++ (lw_privs_7 ++ (lw_privs_8 ++ (lw_privs_9 ++ (lw_privs_10 ++ (lw_privs_11)))))))))), lw_okq q
  exact List.forall_mem_append.mpr ⟨lw_r1, List.forall_mem_append.mpr ⟨lw_r2, List.forall_mem_append.mpr ⟨lw_r3, List.forall_mem_append.mpr ⟨lw_r4, List.forall_mem_append.mpr ⟨lw_r5, List.forall_mem_append.mpr ⟨lw_r6, List.forall_mem_append.mpr ⟨lw_r7, List.forall_mem_append.mpr ⟨lw_r8, List.forall_mem_append.mpr ⟨lw_r9, List.forall_mem_append.mpr ⟨lw_r10, lw_r11⟩⟩⟩⟩⟩⟩⟩⟩⟩⟩
end
section
/-! ===== the kinds of objects, their fields in an order of my own; the methods that a first call reaches, block by block (printed by wip/p1/gen02.py out of javap's listing) ===== -/
def kd_0 : u_T := fun k => match k with
  | 0 => ("RegisterColours", "taped", "I", false)
  | 1 => ("RegisterColours", "told", "LRegisterColours$Told;", true)
  | 2 => ("RegisterColours", "drawnIsFresh", "Z", false)
  | 3 => ("RegisterColours", "drawn", "LRegisterColours$Graph;", true)
  | 4 => ("RegisterColours", "tape", "[B", true)
  | 5 => ("RegisterColours", "latestRun", "I", false)
  | 6 => ("RegisterColours", "reader", "LRegisterColours$Reader;", true)
  | 7 => ("RegisterColours", "runner", "LRegisterColours$Runner;", true)
  | 8 => ("RegisterColours", "classes", "[I", true)
  | 9 => ("RegisterColours", "allocator", "LRegisterColours$Allocator;", false)
  | 10 => ("RegisterColours", "kept", "LRegisterColours$Told;", false)
  | _ => ("RegisterColours", "prover", "LRegisterColours$Prover;", false)
def kd_1 : u_T := fun k => match k with
  | 0 => ("RegisterColours$Allocator", "draft", "LRegisterColours$Left;", true)
  | 1 => ("RegisterColours$Allocator", "merger", "LRegisterColours$Merger;", true)
  | 2 => ("RegisterColours$Allocator", "colourer", "LRegisterColours$Colourer;", true)
  | 3 => ("RegisterColours$Allocator", "graph", "LRegisterColours$Graph;", true)
  | _ => ("RegisterColours$Allocator", "spiller", "LRegisterColours$Spiller;", true)
def kd_2 : u_T := fun k => match k with
  | 0 => ("RegisterColours$Colourer", "graph", "LRegisterColours$Graph;", true)
  | 1 => ("RegisterColours$Colourer", "register", "[I", true)
  | 2 => ("RegisterColours$Colourer", "isSpilled", "[Z", true)
  | 3 => ("RegisterColours$Colourer", "remaining", "[J", true)
  | 4 => ("RegisterColours$Colourer", "spilled", "I", false)
  | 5 => ("RegisterColours$Colourer", "saved", "I", false)
  | 6 => ("RegisterColours$Colourer", "takenCount", "I", false)
  | 7 => ("RegisterColours$Colourer", "taken", "[I", true)
  | 8 => ("RegisterColours$Colourer", "takenHeavy", "[Z", true)
  | _ => ("RegisterColours$Colourer", "degree", "[I", true)
def kd_3 : u_T := fun k => match k with
  | 0 => ("RegisterColours$Graph", "words", "I", true)
  | 1 => ("RegisterColours$Graph", "edges", "[J", true)
  | 2 => ("RegisterColours$Graph", "values", "I", false)
  | 3 => ("RegisterColours$Graph", "k", "I", false)
  | 4 => ("RegisterColours$Graph", "classes", "[I", true)
  | 5 => ("RegisterColours$Graph", "inUse", "I", false)
  | 6 => ("RegisterColours$Graph", "there", "[J", true)
  | 7 => ("RegisterColours$Graph", "pairs", "[J", true)
  | 8 => ("RegisterColours$Graph", "ofB", "[J", true)
  | 9 => ("RegisterColours$Graph", "steps", "LRegisterColours$Steps;", true)
  | 10 => ("RegisterColours$Graph", "m", "I", false)
  | 11 => ("RegisterColours$Graph", "cost", "[I", true)
  | 12 => ("RegisterColours$Graph", "live", "[J", true)
  | 13 => ("RegisterColours$Graph", "clobbered", "I", false)
  | 14 => ("RegisterColours$Graph", "behind", "[J", true)
  | 15 => ("RegisterColours$Graph", "fresh", "[J", true)
  | 16 => ("RegisterColours$Graph", "beginsLoop", "[Z", true)
  | _ => ("RegisterColours$Graph", "weight", "[I", true)
def kd_4 : u_T := fun k => match k with
  | 0 => ("RegisterColours$Left", "register", "[I", true)
  | 1 => ("RegisterColours$Left", "node", "[I", true)
  | 2 => ("RegisterColours$Left", "steps", "LRegisterColours$Steps;", true)
  | 3 => ("RegisterColours$Left", "saved", "I", false)
  | 4 => ("RegisterColours$Left", "classes", "[I", true)
  | 5 => ("RegisterColours$Left", "values", "I", false)
  | 6 => ("RegisterColours$Left", "rounds", "I", false)
  | 7 => ("RegisterColours$Left", "merged", "I", false)
  | 8 => ("RegisterColours$Left", "fate", "[I", true)
  | 9 => ("RegisterColours$Left", "slots", "I", false)
  | 10 => ("RegisterColours$Left", "spilled", "I", false)
  | 11 => ("RegisterColours$Left", "anew", "I", false)
  | _ => ("RegisterColours$Left", "spilledCost", "I", false)
def kd_5 : u_T := fun k => match k with
  | 0 => ("RegisterColours$Merger", "nodeOf", "[I", true)
  | 1 => ("RegisterColours$Merger", "graph", "LRegisterColours$Graph;", true)
  | 2 => ("RegisterColours$Merger", "steps", "LRegisterColours$Steps;", true)
  | 3 => ("RegisterColours$Merger", "merged", "I", false)
  | 4 => ("RegisterColours$Merger", "moveCount", "I", false)
  | _ => ("RegisterColours$Merger", "moves", "[I", true)
def kd_6 : u_T := fun k => match k with
  | 0 => ("RegisterColours$Reader", "lines", "I", false)
  | 1 => ("RegisterColours$Reader", "fault", "I", false)
  | 2 => ("RegisterColours$Reader", "steps", "LRegisterColours$Steps;", true)
  | 3 => ("RegisterColours$Reader", "faultPlace", "I", false)
  | 4 => ("RegisterColours$Reader", "tokens", "[I", true)
  | 5 => ("RegisterColours$Reader", "at", "I", false)
  | 6 => ("RegisterColours$Reader", "places", "[I", true)
  | 7 => ("RegisterColours$Reader", "firstStep", "[I", true)
  | 8 => ("RegisterColours$Reader", "text", "[B", true)
  | 9 => ("RegisterColours$Reader", "numbers", "[I", true)
  | _ => ("RegisterColours$Reader", "jumpPlace", "[I", true)
def kd_7 : u_T := fun k => match k with
  | 0 => ("RegisterColours$Runner", "steps", "LRegisterColours$Steps;", false)
  | 1 => ("RegisterColours$Runner", "atEnd", "Z", false)
  | 2 => ("RegisterColours$Runner", "done", "I", false)
  | 3 => ("RegisterColours$Runner", "outs", "I", false)
  | 4 => ("RegisterColours$Runner", "outNumber", "I", false)
  | 5 => ("RegisterColours$Runner", "held", "[J", true)
  | 6 => ("RegisterColours$Runner", "registers", "[I", true)
  | 7 => ("RegisterColours$Runner", "slots", "[J", true)
  | 8 => ("RegisterColours$Runner", "told", "LRegisterColours$Told;", true)
  | 9 => ("RegisterColours$Runner", "codeClasses", "[I", true)
  | 10 => ("RegisterColours$Runner", "byRegisters", "Z", false)
  | 11 => ("RegisterColours$Runner", "classes", "[I", false)
  | _ => ("RegisterColours$Runner", "nextInput", "I", false)
def kd_8 : u_T := fun k => match k with
  | 0 => ("RegisterColours$Spiller", "fate", "[I", true)
  | 1 => ("RegisterColours$Spiller", "fateNumber", "[I", true)
  | 2 => ("RegisterColours$Spiller", "firstNew", "[I", true)
  | 3 => ("RegisterColours$Spiller", "next", "LRegisterColours$Steps;", true)
  | 4 => ("RegisterColours$Spiller", "draft", "LRegisterColours$Left;", true)
  | 5 => ("RegisterColours$Spiller", "steps", "LRegisterColours$Steps;", true)
  | _ => ("RegisterColours$Spiller", "nodeOf", "[I", true)
def kd_9 : u_T := fun k => match k with
  | 0 => ("RegisterColours$Steps", "count", "I", false)
  | 1 => ("RegisterColours$Steps", "kind", "[I", true)
  | 2 => ("RegisterColours$Steps", "made", "[I", true)
  | 3 => ("RegisterColours$Steps", "one", "[I", true)
  | 4 => ("RegisterColours$Steps", "two", "[I", true)
  | _ => ("RegisterColours$Steps", "number", "[I", true)
def kd_10 : u_T := fun k => match k with
  | 0 => ("RegisterColours$Told", "painted", "[I", true)
  | 1 => ("RegisterColours$Told", "clobbered", "I", false)
  | 2 => ("RegisterColours$Told", "k", "I", false)
  | 3 => ("RegisterColours$Told", "allocated", "Z", false)
  | 4 => ("RegisterColours$Told", "m", "I", false)
  | 5 => ("RegisterColours$Told", "code", "LRegisterColours$Steps;", true)
  | 6 => ("RegisterColours$Told", "inputs", "I", false)
  | 7 => ("RegisterColours$Told", "lines", "I", false)
  | 8 => ("RegisterColours$Told", "input", "[I", true)
  | _ => ("RegisterColours$Told", "left", "LRegisterColours$Left;", true)
def kd_11 : u_T := fun k => match k with
  | 0 => ("RegisterColoursModel", "isIn", "[Z", true)
  | 1 => ("RegisterColoursModel", "imaged", "I", false)
  | 2 => ("RegisterColoursModel", "isThere", "[Z", true)
  | 3 => ("RegisterColoursModel", "edges", "[I", true)
  | 4 => ("RegisterColoursModel", "registers", "I", false)
  | 5 => ("RegisterColoursModel", "images", "[I", true)
  | 6 => ("RegisterColoursModel", "isTaking", "Z", false)
  | 7 => ("RegisterColoursModel", "nodeOf", "[I", true)
  | 8 => ("RegisterColoursModel", "costs", "[I", true)
  | 9 => ("RegisterColoursModel", "everSpilled", "[I", true)
  | 10 => ("RegisterColoursModel", "painted", "[I", true)
  | 11 => ("RegisterColoursModel", "madeClass", "[I", true)
  | 12 => ("RegisterColoursModel", "colours", "[I", true)
  | 13 => ("RegisterColoursModel", "leftClass", "[I", true)
  | 14 => ("RegisterColoursModel", "leftColour", "[I", true)
  | 15 => ("RegisterColoursModel", "leftSpilled", "[I", true)
  | 16 => ("RegisterColoursModel", "leftNode", "[I", true)
  | 17 => ("RegisterColoursModel", "values", "[J", true)
  | 18 => ("RegisterColoursModel", "slots", "[J", true)
  | 19 => ("RegisterColoursModel", "many", "[I", true)
  | 20 => ("RegisterColoursModel", "taped", "I", false)
  | 21 => ("RegisterColoursModel", "tape", "[I", true)
  | 22 => ("RegisterColoursModel", "told", "I", false)
  | 23 => ("RegisterColoursModel", "lives", "[I", true)
  | 24 => ("RegisterColoursModel", "others", "I", false)
  | 25 => ("RegisterColoursModel", "isLeft", "Z", false)
  | 26 => ("RegisterColoursModel", "leftTold", "[I", true)
  | 27 => ("RegisterColoursModel", "clobbered", "I", false)
  | 28 => ("RegisterColoursModel", "inputMany", "I", false)
  | 29 => ("RegisterColoursModel", "holdsA", "[I", true)
  | 30 => ("RegisterColoursModel", "lineMany", "I", false)
  | 31 => ("RegisterColoursModel", "spot", "I", false)
  | 32 => ("RegisterColoursModel", "holdsB", "[I", true)
  | 33 => ("RegisterColoursModel", "token", "I", false)
  | 34 => ("RegisterColoursModel", "faultPlace", "I", false)
  | 35 => ("RegisterColoursModel", "readMany", "I", false)
  | 36 => ("RegisterColoursModel", "inputs", "[I", true)
  | 37 => ("RegisterColoursModel", "fewest", "I", false)
  | 38 => ("RegisterColoursModel", "steps", "[I", true)
  | 39 => ("RegisterColoursModel", "moveMany", "I", false)
  | 40 => ("RegisterColoursModel", "mergedMany", "I", false)
  | 41 => ("RegisterColoursModel", "laidMany", "I", false)
  | 42 => ("RegisterColoursModel", "luckyMany", "I", false)
  | 43 => ("RegisterColoursModel", "slotMany", "I", false)
  | 44 => ("RegisterColoursModel", "spilledMany", "I", false)
  | 45 => ("RegisterColoursModel", "anewMany", "I", false)
  | 46 => ("RegisterColoursModel", "spilledCost", "I", false)
  | 47 => ("RegisterColoursModel", "faultKind", "I", false)
  | 48 => ("RegisterColoursModel", "lineRow", "[I", true)
  | 49 => ("RegisterColoursModel", "stepOfLine", "[I", true)
  | 50 => ("RegisterColoursModel", "outMany", "I", false)
  | 51 => ("RegisterColoursModel", "outSum", "I", false)
  | 52 => ("RegisterColoursModel", "doneMany", "I", false)
  | 53 => ("RegisterColoursModel", "hasImage", "Z", false)
  | 54 => ("RegisterColoursModel", "behind", "[I", true)
  | 55 => ("RegisterColoursModel", "moves", "[I", true)
  | 56 => ("RegisterColoursModel", "laid", "[I", true)
  | 57 => ("RegisterColoursModel", "wasHeavy", "[Z", true)
  | 58 => ("RegisterColoursModel", "spills", "[I", true)
  | 59 => ("RegisterColoursModel", "spillNumber", "[I", true)
  | 60 => ("RegisterColoursModel", "valueMany", "I", false)
  | 61 => ("RegisterColoursModel", "firstOf", "[I", true)
  | 62 => ("RegisterColoursModel", "from", "I", false)
  | 63 => ("RegisterColoursModel", "words", "[I", true)
  | 64 => ("RegisterColoursModel", "draftRow", "[I", true)
  | 65 => ("RegisterColoursModel", "taken", "I", false)
  | 66 => ("RegisterColoursModel", "held", "[I", true)
  | 67 => ("RegisterColoursModel", "heldThen", "[I", true)
  | 68 => ("RegisterColoursModel", "isReached", "[Z", true)
  | 69 => ("RegisterColoursModel", "isTooMuch", "Z", false)
  | 70 => ("RegisterColoursModel", "value", "I", false)
  | 71 => ("RegisterColoursModel", "readFault", "I", false)
  | _ => ("RegisterColoursModel", "readPlace", "I", false)
abbrev ev_cl : List vw_C := [("RegisterColours", kd_0, 12), ("RegisterColours$Allocator", kd_1, 5), ("RegisterColours$Colourer", kd_2, 10), ("RegisterColours$Graph", kd_3, 18), ("RegisterColours$Left", kd_4, 13), ("RegisterColours$Merger", kd_5, 6), ("RegisterColours$Reader", kd_6, 11), ("RegisterColours$Runner", kd_7, 13), ("RegisterColours$Spiller", kd_8, 7), ("RegisterColours$Steps", kd_9, 6), ("RegisterColours$Told", kd_10, 10), ("RegisterColoursModel", kd_11, 73)]
/-- RegisterColoursModel.isFixed(I)Z -/
noncomputable def mt_0 : ev_M := ([(0, [ei_li 1, ei_la 0, ei_gf (11, 4, 7, 0), ei_ic ((false, true, true), 2), ei_pu (.inl 1, 0, 0), ei_go 1]),
  (13, [ei_re 0]),
  (12, [ei_pu (.inl 0, 0, 0), ei_fa 1])], 0, 0, 0, 2, ⟨"RegisterColoursModel", "isFixed", "(I)Z"⟩, prog_14_method_29_code, some .boolean)
/-- RegisterColours.asNumber(Z)I -/
noncomputable def mt_1 : ev_M := ([(0, [ei_li 0, ei_if ((false, true, false), 2), ei_pu (.inl 1, 0, 0), ei_go 1]),
  (9, [ei_re 0]),
  (8, [ei_pu (.inl 0, 0, 0), ei_fa 1])], 0, 0, 0, 1, ⟨"RegisterColours", "asNumber", "(Z)I"⟩, prog_1_method_25_code, some .int)
/-- RegisterColoursModel.empties([II)V -/
noncomputable def mt_2 : ev_M := ([(2, [ei_li 3, ei_pu (.inl 7, 1, 0), ei_ic ((false, true, true), 2), ei_la 1, ei_pu (.inl 7, 1, 0), ei_li 2, ei_ib 1, ei_li 3, ei_ib 0, ei_pu (.inl 0, 0, 0), ei_as 0, ei_ii (3, 1), ei_go 0]),
  (0, [ei_pu (.inl 0, 0, 0), ei_si 3, ei_fa 0]),
  (23, [ei_re 2])], 1, 0, 0, 4, ⟨"RegisterColoursModel", "empties", "([II)V"⟩, prog_14_method_9_code, none)
/-- RegisterColoursModel.has([III)Z -/
noncomputable def mt_3 : ev_M := ([(26, [ei_re 0]),
  (25, [ei_pu (.inl 0, 0, 0), ei_fa 0]),
  (0, [ei_la 1, ei_pu (.inl 7, 1, 0), ei_li 2, ei_ib 1, ei_li 3, ei_pu (.inl 5, 0, 0), ei_ib 2, ei_ib 0, ei_al 0, ei_li 3, ei_pu (.inl 31, 1, 0), ei_ib 3, ei_ib 2, ei_pu (.inl 1, 0, 0), ei_ib 3, ei_pu (.inl 1, 0, 0), ei_ic ((true, false, true), 1), ei_pu (.inl 1, 0, 0), ei_go 0])], 2, 0, 0, 4, ⟨"RegisterColoursModel", "has", "([III)Z"⟩, prog_14_method_6_code, some .boolean)
/-- RegisterColours.hasBit([JII)Z -/
noncomputable def mt_4 : ev_M := ([(25, [ei_re 0]),
  (24, [ei_pu (.inl 0, 0, 0), ei_fa 0]),
  (0, [ei_la 0, ei_li 1, ei_li 2, ei_pu (.inl 6, 1, 0), ei_ib 2, ei_ib 0, ei_al 1, ei_li 2, ei_pu (.inl 63, 1, 0), ei_ib 3, ei_ls 0, ei_pu (.inr (.inr (.inl 1)), 3, 0), ei_lb 0, ei_pu (.inr (.inr (.inl 0)), 3, 0), ei_lc, ei_if ((false, true, false), 1), ei_pu (.inl 1, 0, 0), ei_go 0])], 2, 0, 0, 3, ⟨"RegisterColours", "hasBit", "([JII)Z"⟩, prog_1_method_28_code, some .boolean)
/-- RegisterColours$Graph.hasEdge(II)Z -/
noncomputable def mt_5 : ev_M := ([(0, [ei_la 0, ei_gf (3, 1, 47, 0), ei_li 1, ei_la 0, ei_gf (3, 0, 40, 0), ei_ib 1, ei_li 2, ei_ca (4, 3, 0, 174, 4, 0, 0), ei_re 0])], 0, 0, 0, 3, ⟨"RegisterColours$Graph", "hasEdge", "(II)Z"⟩, prog_4_method_16_code, some .boolean)
/-- RegisterColours.putBit([JII)V -/
noncomputable def mt_6 : ev_M := ([(0, [ei_la 0, ei_li 1, ei_li 2, ei_pu (.inl 6, 1, 0), ei_ib 2, ei_ib 0, ei_st 1, ei_al 1, ei_pu (.inr (.inr (.inl 1)), 3, 0), ei_li 2, ei_pu (.inl 63, 1, 0), ei_ib 3, ei_ls 1, ei_lb 3, ei_as 1, ei_re 2])], 0, 0, 0, 3, ⟨"RegisterColours", "putBit", "([JII)V"⟩, prog_1_method_29_code, none)
/-- RegisterColours.classAtFirst(I)I -/
noncomputable def mt_7 : ev_M := ([(0, [ei_li 0, ei_pu (.inl 32, 1, 0), ei_ic ((false, true, true), 1), ei_pu (.inl 0, 0, 0), ei_re 0]),
  (8, [ei_li 0, ei_pu (.inl 40, 1, 0), ei_ic ((false, true, true), 3), ei_pu (.inl 1, 0, 0), ei_go 2]),
  (19, [ei_re 0]),
  (18, [ei_pu (.inl 2, 0, 0), ei_fa 2])], 0, 0, 0, 1, ⟨"RegisterColours", "classAtFirst", "(I)I"⟩, prog_1_method_27_code, some .int)
/-- RegisterColoursModel.puts([III)V -/
noncomputable def mt_8 : ev_M := ([(0, [ei_la 1, ei_pu (.inl 7, 1, 0), ei_li 2, ei_ib 1, ei_li 3, ei_pu (.inl 5, 0, 0), ei_ib 2, ei_ib 0, ei_la 1, ei_pu (.inl 7, 1, 0), ei_li 2, ei_ib 1, ei_li 3, ei_pu (.inl 5, 0, 0), ei_ib 2, ei_ib 0, ei_al 0, ei_pu (.inl 1, 0, 0), ei_li 3, ei_pu (.inl 31, 1, 0), ei_ib 3, ei_ib 6, ei_ib 5, ei_as 0, ei_re 2])], 0, 0, 0, 4, ⟨"RegisterColoursModel", "puts", "([III)V"⟩, prog_14_method_7_code, none)
/-- java/lang/Long.bitCount(J)I -/
noncomputable def mt_9 : ev_M := ([(0, [ei_ll 0, ei_ll 0, ei_pu (.inl 1, 0, 0), ei_ls 0, ei_pu (.inr (.inr (.inl 6148914691236517205)), 7, 314), ei_lb 0, ei_lb 2, ei_sl 0, ei_ll 0, ei_pu (.inr (.inr (.inl 3689348814741910323)), 7, 316), ei_lb 0, ei_ll 0, ei_pu (.inl 2, 0, 0), ei_ls 0, ei_pu (.inr (.inr (.inl 3689348814741910323)), 7, 316), ei_lb 0, ei_lb 1, ei_sl 0, ei_ll 0, ei_ll 0, ei_pu (.inl 4, 0, 0), ei_ls 0, ei_lb 1, ei_pu (.inr (.inr (.inl 1085102592571150095)), 7, 318), ei_lb 0, ei_sl 0, ei_ll 0, ei_ll 0, ei_pu (.inl 8, 1, 0), ei_ls 0, ei_lb 1, ei_sl 0, ei_ll 0, ei_ll 0, ei_pu (.inl 16, 1, 0), ei_ls 0, ei_lb 1, ei_sl 0, ei_ll 0, ei_ll 0, ei_pu (.inl 32, 1, 0), ei_ls 0, ei_lb 1, ei_sl 0, ei_ll 0, ei_un 0, ei_pu (.inl 127, 1, 0), ei_ib 3, ei_re 0])], 0, 0, 0, 2, ⟨"java/lang/Long", "bitCount", "(J)I"⟩, prog_16_method_50_code, some .int)
/-- RegisterColoursModel.joins(II)V -/
noncomputable def mt_10 : ev_M := ([(0, [ei_la 0, ei_la 0, ei_gf (11, 3, 38, 0), ei_li 1, ei_li 2, ei_ca (8, 4, 12, 190, 0, 0, 0), ei_la 0, ei_la 0, ei_gf (11, 3, 38, 0), ei_li 2, ei_li 1, ei_ca (8, 4, 12, 190, 0, 0, 0), ei_re 2])], 0, 0, 0, 3, ⟨"RegisterColoursModel", "joins", "(II)V"⟩, prog_14_method_31_code, none)
/-- RegisterColours$Graph.isThere(I)Z -/
noncomputable def mt_11 : ev_M := ([(0, [ei_la 0, ei_gf (3, 6, 66, 0), ei_pu (.inl 0, 0, 0), ei_li 1, ei_ca (4, 3, 0, 174, 4, 0, 0), ei_re 0])], 0, 0, 0, 2, ⟨"RegisterColours$Graph", "isThere", "(I)Z"⟩, prog_4_method_15_code, some .boolean)
/-- RegisterColours$Graph.connect(II)V -/
noncomputable def mt_12 : ev_M := ([(0, [ei_la 0, ei_gf (3, 1, 47, 0), ei_li 1, ei_la 0, ei_gf (3, 0, 40, 0), ei_ib 1, ei_li 2, ei_ca (6, 3, 0, 139, 4, 0, 0), ei_la 0, ei_gf (3, 1, 47, 0), ei_li 2, ei_la 0, ei_gf (3, 0, 40, 0), ei_ib 1, ei_li 1, ei_ca (6, 3, 0, 139, 4, 0, 0), ei_re 2])], 0, 0, 0, 3, ⟨"RegisterColours$Graph", "connect", "(II)V"⟩, prog_4_method_11_code, none)
/-- java/util/Arrays.fill([JJ)V -/
noncomputable def mt_13 : ev_M := ([(6, [ei_li 3, ei_li 4, ei_ic ((false, true, true), 2), ei_la 0, ei_li 3, ei_ll 1, ei_as 1, ei_ii (3, 1), ei_go 0]),
  (0, [ei_pu (.inl 0, 0, 0), ei_si 3, ei_la 0, ei_an, ei_si 4, ei_fa 0]),
  (22, [ei_re 2])], 1, 0, 0, 5, ⟨"java/util/Arrays", "fill", "([JJ)V"⟩, prog_22_method_101_code, none)
/-- RegisterColoursModel.classOf(I)I -/
noncomputable def mt_14 : ev_M := ([(0, [ei_la 0, ei_la 0, ei_gf (11, 11, 26, 0), ei_li 1, ei_ca (15, 3, 12, 161, 0, 0, 0), ei_re 0])], 0, 0, 0, 2, ⟨"RegisterColoursModel", "classOf", "(I)I"⟩, prog_14_method_16_code, some .int)
/-- RegisterColoursModel.classIn([II)I -/
noncomputable def mt_15 : ev_M := ([(31, [ei_re 0]),
  (0, [ei_li 2, ei_pu (.inl 44, 1, 0), ei_ic ((true, false, false), 2)]),
  (10, [ei_li 2, ei_pu (.inl 32, 1, 0), ei_ic ((false, true, true), 3), ei_pu (.inl 0, 0, 0), ei_go 0]),
  (20, [ei_li 2, ei_pu (.inl 40, 1, 0), ei_ic ((false, true, true), 4), ei_pu (.inl 1, 0, 0), ei_go 0]),
  (30, [ei_pu (.inl 2, 0, 0), ei_fa 0])], 1, 0, 0, 3, ⟨"RegisterColoursModel", "classIn", "([II)I"⟩, prog_14_method_15_code, some .int)
/-- RegisterColoursModel.limitOf(I)I -/
noncomputable def mt_16 : ev_M := ([(0, [ei_li 1, ei_if ((true, false, true), 2), ei_la 0, ei_gf (11, 4, 7, 0), ei_go 1]),
  (29, [ei_re 0]),
  (11, [ei_li 1, ei_pu (.inl 1, 0, 0), ei_ic ((true, false, true), 3), ei_la 0, ei_gf (11, 24, 13, 0), ei_go 1]),
  (23, [ei_la 0, ei_gf (11, 4, 7, 0), ei_pu (.inl 2, 0, 0), ei_dv 0, ei_fa 1])], 0, 0, 0, 2, ⟨"RegisterColoursModel", "limitOf", "(I)I"⟩, prog_14_method_12_code, some .int)
/-- RegisterColours$Graph.limitOf(I)I -/
noncomputable def mt_17 : ev_M := ([(0, [ei_la 0, ei_gf (3, 4, 31, 0), ei_li 1, ei_al 0, ei_if ((true, false, true), 1), ei_la 0, ei_gf (3, 3, 9, 0), ei_re 0]),
  (14, [ei_la 0, ei_gf (3, 4, 31, 0), ei_li 1, ei_al 0, ei_pu (.inl 1, 0, 0), ei_ic ((true, false, true), 3), ei_la 0, ei_gf (3, 10, 21, 0), ei_go 2]),
  (37, [ei_re 0]),
  (31, [ei_la 0, ei_gf (3, 3, 9, 0), ei_pu (.inl 2, 0, 0), ei_dv 0, ei_fa 2])], 0, 0, 0, 2, ⟨"RegisterColours$Graph", "limitOf", "(I)I"⟩, prog_4_method_18_code, some .int)
/-- RegisterColoursModel.isIn(III)Z -/
noncomputable def mt_18 : ev_M := ([(15, [ei_re 0]),
  (14, [ei_pu (.inl 0, 0, 0), ei_fa 0]),
  (0, [ei_li 1, ei_li 2, ei_ic ((true, false, false), 1), ei_li 1, ei_li 3, ei_ic ((false, false, true), 1), ei_pu (.inl 1, 0, 0), ei_go 0])], 2, 0, 0, 4, ⟨"RegisterColoursModel", "isIn", "(III)Z"⟩, prog_14_method_3_code, some .boolean)
/-- java/util/Arrays.fill([II)V -/
noncomputable def mt_19 : ev_M := ([(5, [ei_li 2, ei_li 3, ei_ic ((false, true, true), 2), ei_la 0, ei_li 2, ei_li 1, ei_as 0, ei_ii (2, 1), ei_go 0]),
  (0, [ei_pu (.inl 0, 0, 0), ei_si 2, ei_la 0, ei_an, ei_si 3, ei_fa 0]),
  (20, [ei_re 2])], 1, 0, 0, 4, ⟨"java/util/Arrays", "fill", "([II)V"⟩, prog_22_method_103_code, none)
/-- RegisterColoursModel.findsLives(I)V -/
noncomputable def mt_20 : ev_M := ([(2, [ei_li 2, ei_la 0, ei_gf (11, 19, 23, 0), ei_li 1, ei_al 0, ei_ic ((false, false, true), 3), ei_la 0, ei_la 0, ei_gf (11, 23, 32, 0), ei_li 2, ei_ca (2, 3, 12, 193, 0, 0, 0), ei_ii (2, 1), ei_go 0]),
  (29, [ei_li 2, ei_if ((false, true, false), 5), ei_pu (.inl 0, 0, 0), ei_si 2, ei_la 0, ei_gf (11, 19, 23, 0), ei_li 1, ei_al 0, ei_pu (.inl 1, 0, 0), ei_ib 4, ei_si 3, ei_li 3, ei_if ((true, false, false), 4)]),
  (0, [ei_pu (.inl 0, 0, 0), ei_si 2, ei_fa 0]),
  (27, [ei_pu (.inl 1, 0, 0), ei_si 2, ei_fa 1]),
  (65, [ei_go 1]),
  (68, [ei_re 2])], 2, 0, 0, 4, ⟨"RegisterColoursModel", "findsLives", "(I)V"⟩, prog_14_method_27_code, none)
/-- RegisterColoursModel.findsGraph(I)V -/
noncomputable def mt_21 : ev_M := ([(7, [ei_li 2, ei_pu (.inl 200, 2, 0), ei_ic ((false, true, true), 8), ei_la 0, ei_la 0, ei_gf (11, 3, 38, 0), ei_li 2, ei_ca (2, 3, 12, 193, 0, 0, 0), ei_la 0, ei_gf (11, 8, 41, 0), ei_li 2, ei_li 2, ei_pu (.inl 44, 1, 0), ei_ic ((false, true, true), 3), ei_pu (.inl 0, 0, 0), ei_go 2]),
  (133, [ei_li 2, ei_pu (.inl 200, 2, 0), ei_ic ((false, true, true), 11), ei_la 0, ei_gf (11, 0, 51, 0), ei_li 2, ei_la 0, ei_gf (11, 2, 44, 0), ei_li 2, ei_al 2, ei_as 2, ei_ii (2, 1), ei_go 1]),
  (40, [ei_as 0, ei_la 0, ei_gf (11, 2, 44, 0), ei_li 2, ei_la 0, ei_li 2, ei_ca (0, 2, 12, 228, 0, 0, 0), ei_as 2, ei_la 0, ei_gf (11, 7, 48, 0), ei_li 2, ei_li 2, ei_as 0, ei_la 0, ei_gf (11, 0, 51, 0), ei_li 2, ei_pu (.inl 1, 0, 0), ei_as 2, ei_ii (2, 1), ei_go 0]),
  (38, [ei_pu (.inl 1000000, 5, 227), ei_fa 2]),
  (84, [ei_li 3, ei_li 2, ei_ic ((false, true, true), 6), ei_la 0, ei_li 2, ei_li 3, ei_ca (10, 3, 12, 210, 0, 0, 0), ei_ii (3, 1), ei_go 4]),
  (74, [ei_li 2, ei_la 0, ei_gf (11, 4, 7, 0), ei_ic ((false, true, true), 9), ei_pu (.inl 0, 0, 0), ei_si 3, ei_fa 4]),
  (101, [ei_ii (2, 1), ei_go 5]),
  (0, [ei_la 0, ei_li 1, ei_ca (20, 2, 12, 223, 0, 0, 0), ei_pu (.inl 0, 0, 0), ei_si 2, ei_fa 0]),
  (72, [ei_pu (.inl 0, 0, 0), ei_si 2, ei_fa 5]),
  (107, [ei_pu (.inl 0, 0, 0), ei_si 2, ei_li 2, ei_la 0, ei_gf (11, 19, 23, 0), ei_li 1, ei_al 0, ei_ic ((false, true, true), 10)]),
  (131, [ei_pu (.inl 0, 0, 0), ei_si 2, ei_fa 1]),
  (158, [ei_re 2])], 7, 0, 0, 4, ⟨"RegisterColoursModel", "findsGraph", "(I)V"⟩, prog_14_method_35_code, none)
/-- RegisterColours$Graph.draw(LRegisterColours$Told;I)V -/
noncomputable def mt_22 : ev_M := ([(0, [ei_la 0, ei_li 2, ei_la 0, ei_gf (3, 4, 31, 0), ei_an, ei_dv 76, ei_pf (3, 2, 0, 15, 0), ei_la 0, ei_la 0, ei_gf (3, 2, 15, 0), ei_pu (.inl 63, 1, 0), ei_ib 0, ei_pu (.inl 64, 1, 0), ei_dv 0, ei_pf (3, 5, 0, 18, 0), ei_la 0, ei_la 1, ei_gf (10, 2, 81, 0), ei_pf (3, 3, 0, 9, 0), ei_la 0, ei_la 1, ei_gf (10, 4, 84, 0), ei_pf (3, 10, 0, 21, 0), ei_la 0, ei_la 1, ei_gf (10, 1, 85, 0), ei_pf (3, 13, 0, 24, 0), ei_la 0, ei_ca (23, 1, 4, 86, 0, 0, 0), ei_la 0, ei_ca (24, 1, 4, 89, 0, 0, 0), ei_la 0, ei_ca (25, 1, 4, 92, 0, 0, 0), ei_la 0, ei_ca (26, 1, 4, 95, 0, 0, 0), ei_la 0, ei_ca (27, 1, 4, 98, 0, 0, 0), ei_re 2])], 0, 0, 0, 3, ⟨"RegisterColours$Graph", "draw", "(LRegisterColours$Told;I)V"⟩, prog_4_method_2_code, none)
/-- RegisterColours$Graph.weigh()V -/
noncomputable def mt_23 : ev_M := ([(0, [ei_pu (.inl 0, 0, 0), ei_si 1, ei_li 1, ei_la 0, ei_gf (3, 9, 27, 0), ei_gf (9, 0, 101, 0), ei_ic ((false, true, true), 1)]),
  (33, [ei_pu (.inl 0, 0, 0), ei_si 1, ei_li 1, ei_la 0, ei_gf (3, 9, 27, 0), ei_gf (9, 0, 101, 0), ei_ic ((false, true, true), 2)]),
  (122, [ei_pu (.inl 0, 0, 0), ei_si 1, ei_li 1, ei_la 0, ei_gf (3, 9, 27, 0), ei_gf (9, 0, 101, 0), ei_ic ((false, true, true), 3)]),
  (156, [ei_re 2])], 0, 0, 0, 3, ⟨"RegisterColours$Graph", "weigh", "()V"⟩, prog_4_method_3_code, none)
/-- RegisterColours$Graph.flowBackwards()V -/
noncomputable def mt_24 : ev_M := ([(12, [ei_li 2, ei_pu (.inl 1000000, 5, 121), ei_ic ((false, true, true), 3), ei_li 1, ei_if ((false, true, false), 3), ei_pu (.inl 0, 0, 0), ei_si 1, ei_la 0, ei_gf (3, 9, 27, 0), ei_gf (9, 0, 101, 0), ei_pu (.inl 1, 0, 0), ei_ib 4, ei_si 3, ei_li 3, ei_if ((true, false, false), 2)]),
  (0, [ei_la 0, ei_gf (3, 12, 43, 0), ei_pu (.inr (.inr (.inl 0)), 3, 0), ei_ca (13, 2, 0, 115, 1, 0, 0), ei_pu (.inl 1, 0, 0), ei_si 1, ei_pu (.inl 0, 0, 0), ei_si 2, ei_fa 0]),
  (63, [ei_ii (2, 1), ei_go 0]),
  (69, [ei_re 2])], 1, 0, 0, 4, ⟨"RegisterColours$Graph", "flowBackwards", "()V"⟩, prog_4_method_5_code, none)
/-- RegisterColours$Graph.markClasses()V -/
noncomputable def mt_25 : ev_M := ([(19, [ei_li 1, ei_la 0, ei_gf (3, 2, 15, 0), ei_ic ((false, true, true), 4), ei_la 0, ei_gf (3, 4, 31, 0), ei_li 1, ei_al 0, ei_pu (.inl 2, 0, 0), ei_ic ((true, false, true), 2), ei_la 0, ei_gf (3, 7, 56, 0), ei_pu (.inl 0, 0, 0), ei_li 1, ei_ca (6, 3, 0, 139, 4, 0, 0), ei_go 1]),
  (68, [ei_ii (1, 1), ei_go 0]),
  (49, [ei_la 0, ei_gf (3, 4, 31, 0), ei_li 1, ei_al 0, ei_pu (.inl 1, 0, 0), ei_ic ((true, false, true), 1), ei_la 0, ei_gf (3, 8, 59, 0), ei_pu (.inl 0, 0, 0), ei_li 1, ei_ca (6, 3, 0, 139, 4, 0, 0), ei_fa 1]),
  (0, [ei_la 0, ei_gf (3, 7, 56, 0), ei_pu (.inr (.inr (.inl 0)), 3, 0), ei_ca (13, 2, 0, 115, 1, 0, 0), ei_la 0, ei_gf (3, 8, 59, 0), ei_pu (.inr (.inr (.inl 0)), 3, 0), ei_ca (13, 2, 0, 115, 1, 0, 0), ei_pu (.inl 32, 1, 0), ei_si 1, ei_fa 0]),
  (74, [ei_re 2])], 3, 0, 0, 2, ⟨"RegisterColours$Graph", "markClasses", "()V"⟩, prog_4_method_8_code, none)
/-- RegisterColours$Graph.connectAll()V -/
noncomputable def mt_26 : ev_M := ([(20, [ei_li 2, ei_li 1, ei_ic ((false, true, true), 2), ei_la 0, ei_li 1, ei_li 2, ei_ca (12, 3, 4, 151, 0, 0, 0), ei_ii (2, 1), ei_go 0]),
  (10, [ei_li 1, ei_la 0, ei_gf (3, 3, 9, 0), ei_ic ((false, true, true), 4), ei_pu (.inl 0, 0, 0), ei_si 2, ei_fa 0]),
  (37, [ei_ii (1, 1), ei_go 1]),
  (0, [ei_la 0, ei_gf (3, 1, 47, 0), ei_pu (.inr (.inr (.inl 0)), 3, 0), ei_ca (13, 2, 0, 115, 1, 0, 0), ei_pu (.inl 0, 0, 0), ei_si 1, ei_fa 1]),
  (43, [ei_pu (.inl 0, 0, 0), ei_si 1, ei_li 1, ei_la 0, ei_gf (3, 9, 27, 0), ei_gf (9, 0, 101, 0), ei_ic ((false, true, true), 5)]),
  (167, [ei_re 2])], 3, 0, 0, 3, ⟨"RegisterColours$Graph", "connectAll", "()V"⟩, prog_4_method_9_code, none)
/-- RegisterColours$Graph.countCosts()V -/
noncomputable def mt_27 : ev_M := ([(18, [ei_li 1, ei_la 0, ei_gf (3, 3, 9, 0), ei_ic ((false, true, true), 2), ei_la 0, ei_gf (3, 6, 66, 0), ei_pu (.inl 0, 0, 0), ei_li 1, ei_ca (6, 3, 0, 139, 4, 0, 0), ei_ii (1, 1), ei_go 0]),
  (0, [ei_la 0, ei_gf (3, 11, 72, 0), ei_pu (.inl 0, 0, 0), ei_ca (19, 2, 0, 168, 1, 0, 0), ei_la 0, ei_gf (3, 6, 66, 0), ei_pu (.inr (.inr (.inl 0)), 3, 0), ei_ca (13, 2, 0, 115, 1, 0, 0), ei_pu (.inl 0, 0, 0), ei_si 1, ei_fa 0]),
  (41, [ei_pu (.inl 44, 1, 0), ei_si 1, ei_li 1, ei_la 0, ei_gf (3, 2, 15, 0), ei_ic ((false, true, true), 3)]),
  (66, [ei_pu (.inl 0, 0, 0), ei_si 1, ei_li 1, ei_la 0, ei_gf (3, 9, 27, 0), ei_gf (9, 0, 101, 0), ei_ic ((false, true, true), 4)]),
  (183, [ei_re 2])], 1, 0, 0, 3, ⟨"RegisterColours$Graph", "countCosts", "()V"⟩, prog_4_method_12_code, none)
/-- RegisterColours.freshGraph()LRegisterColours$Graph; -/
noncomputable def mt_28 : ev_M := ([(0, [ei_la 0, ei_gf (0, 2, 50, 0), ei_if ((true, false, true), 1), ei_la 0, ei_gf (0, 3, 46, 0), ei_la 0, ei_gf (0, 1, 29, 0), ei_pu (.inl 44, 1, 0), ei_ca (22, 3, 4, 314, 0, 0, 0), ei_la 0, ei_pu (.inl 1, 0, 0), ei_pf (0, 2, 1, 50, 0), ei_fa 1]),
  (25, [ei_la 0, ei_gf (0, 3, 46, 0), ei_re 1])], 0, 0, 0, 1, ⟨"RegisterColours", "freshGraph", "()LRegisterColours$Graph;"⟩, prog_1_method_23_code, some (.object "RegisterColours$Graph"))
/-- RegisterColoursModel.countsFor(II)I -/
noncomputable def mt_29 : ev_M := ([(0, [ei_la 0, ei_li 1, ei_ca (14, 2, 12, 169, 0, 0, 0), ei_if ((true, false, true), 1), ei_la 0, ei_li 2, ei_ca (14, 2, 12, 169, 0, 0, 0), ei_pu (.inl 2, 0, 0), ei_ic ((true, false, true), 1)]),
  (21, [ei_pu (.inl 1, 0, 0), ei_re 0])], 0, 0, 0, 3, ⟨"RegisterColoursModel", "countsFor", "(II)I"⟩, prog_14_method_36_code, some .int)
/-- RegisterColours.forgetAllocation()V -/
noncomputable def mt_30 : ev_M := ([(0, [ei_la 0, ei_gf (0, 1, 29, 0), ei_pu (.inl 0, 0, 0), ei_pf (10, 3, 1, 151, 0), ei_la 0, ei_pu (.inl 0, 0, 0), ei_pf (0, 2, 1, 50, 0), ei_la 0, ei_pu (.inl 4294967295, 0, 0), ei_pf (0, 5, 0, 63, 0), ei_re 2])], 0, 0, 0, 1, ⟨"RegisterColours", "forgetAllocation", "()V"⟩, prog_1_method_22_code, none)
/-- RegisterColoursModel.keepsRow([III)V -/
noncomputable def mt_31 : ev_M := ([(3, [ei_li 4, ei_li 3, ei_ic ((false, true, true), 3), ei_la 0, ei_gf (11, 6, 553, 0), ei_if ((false, true, false), 4), ei_la 0, ei_gf (11, 5, 137, 0), ei_la 0, ei_gf (11, 1, 556, 0), ei_la 1, ei_li 2, ei_li 4, ei_ib 0, ei_al 0, ei_as 0, ei_go 1]),
  (49, [ei_la 0, ei_la 0, ei_gf (11, 1, 556, 0), ei_pu (.inl 1, 0, 0), ei_ib 0, ei_pf (11, 1, 0, 556, 0), ei_ii (4, 1), ei_go 0]),
  (0, [ei_pu (.inl 0, 0, 0), ei_si 4, ei_fa 0]),
  (65, [ei_re 2]),
  (34, [])], 2, 0, 0, 5, ⟨"RegisterColoursModel", "keepsRow", "([III)V"⟩, prog_14_method_123_code, none)
/-- RegisterColours$Steps.<init>(I)V -/
noncomputable def mt_32 : ev_M := ([(0, [ei_la 0, ei_oi 3, ei_la 0, ei_pu (.inl 0, 0, 0), ei_pf (9, 0, 0, 9, 0), ei_la 0, ei_li 1, ei_na 0, ei_pf (9, 1, 3, 15, 0), ei_la 0, ei_li 1, ei_na 0, ei_pf (9, 2, 3, 19, 0), ei_la 0, ei_li 1, ei_na 0, ei_pf (9, 3, 3, 22, 0), ei_la 0, ei_li 1, ei_na 0, ei_pf (9, 4, 3, 25, 0), ei_la 0, ei_li 1, ei_na 0, ei_pf (9, 5, 3, 28, 0), ei_re 2])], 0, 5, 2000, 2, ⟨"RegisterColours$Steps", "<init>", "(I)V"⟩, prog_11_method_1_code, none)
/-- RegisterColoursModel.keepsOne(I)I -/
noncomputable def mt_33 : ev_M := ([(0, [ei_la 0, ei_gf (11, 6, 553, 0), ei_if ((false, true, false), 1), ei_la 0, ei_gf (11, 5, 137, 0), ei_la 0, ei_gf (11, 1, 556, 0), ei_li 1, ei_as 0, ei_fa 1]),
  (17, [ei_la 0, ei_la 0, ei_gf (11, 1, 556, 0), ei_pu (.inl 1, 0, 0), ei_ib 0, ei_pf (11, 1, 0, 556, 0), ei_la 0, ei_gf (11, 5, 137, 0), ei_la 0, ei_gf (11, 1, 556, 0), ei_pu (.inl 1, 0, 0), ei_ib 4, ei_al 0, ei_re 0])], 0, 0, 0, 2, ⟨"RegisterColoursModel", "keepsOne", "(I)I"⟩, prog_14_method_124_code, some .int)
/-- RegisterColours.putOnTape(I)V -/
noncomputable def mt_34 : ev_M := ([(3, [ei_li 2, ei_if ((true, false, false), 2), ei_la 0, ei_gf (0, 0, 13, 0), ei_pu (.inl 400, 2, 0), ei_ic ((false, true, true), 2), ei_la 0, ei_gf (0, 4, 9, 0), ei_la 0, ei_gf (0, 0, 13, 0), ei_li 1, ei_li 2, ei_ib 7, ei_un 1, ei_as 3, ei_la 0, ei_st 0, ei_gf (0, 0, 13, 0), ei_pu (.inl 1, 0, 0), ei_ib 0, ei_pf (0, 0, 0, 13, 0), ei_ii (2, 4294967288), ei_go 0]),
  (0, [ei_pu (.inl 24, 1, 0), ei_si 2, ei_fa 0]),
  (46, [ei_re 2])], 1, 0, 0, 3, ⟨"RegisterColours", "putOnTape", "(I)V"⟩, prog_1_method_21_code, none)
/-- RegisterColoursModel.types(I)V -/
noncomputable def mt_35 : ev_M := ([(3, [ei_li 2, ei_if ((true, false, false), 2), ei_la 0, ei_gf (11, 21, 90, 0), ei_la 0, ei_gf (11, 20, 363, 0), ei_li 1, ei_li 2, ei_ib 2, ei_pu (.inl 255, 2, 0), ei_ib 3, ei_as 0, ei_la 0, ei_la 0, ei_gf (11, 20, 363, 0), ei_pu (.inl 1, 0, 0), ei_ib 0, ei_pf (11, 20, 0, 363, 0), ei_ii (2, 4294967288), ei_go 0]),
  (0, [ei_pu (.inl 24, 1, 0), ei_si 2, ei_fa 0]),
  (39, [ei_re 2])], 1, 0, 0, 3, ⟨"RegisterColoursModel", "types", "(I)V"⟩, prog_14_method_66_code, none)
/-- RegisterColours$Steps.takeFrom(LRegisterColours$Steps;)V -/
noncomputable def mt_36 : ev_M := ([(0, [ei_la 1, ei_gf (9, 0, 9, 0), ei_la 0, ei_gf (9, 1, 15, 0), ei_an, ei_dv 32, ei_si 2, ei_la 1, ei_gf (9, 1, 15, 0), ei_pu (.inl 0, 0, 0), ei_la 0, ei_gf (9, 1, 15, 0), ei_pu (.inl 0, 0, 0), ei_li 2, ei_cy 37, ei_la 1, ei_gf (9, 2, 19, 0), ei_pu (.inl 0, 0, 0), ei_la 0, ei_gf (9, 2, 19, 0), ei_pu (.inl 0, 0, 0), ei_li 2, ei_cy 37, ei_la 1, ei_gf (9, 3, 22, 0), ei_pu (.inl 0, 0, 0), ei_la 0, ei_gf (9, 3, 22, 0), ei_pu (.inl 0, 0, 0), ei_li 2, ei_cy 37, ei_la 1, ei_gf (9, 4, 25, 0), ei_pu (.inl 0, 0, 0), ei_la 0, ei_gf (9, 4, 25, 0), ei_pu (.inl 0, 0, 0), ei_li 2, ei_cy 37, ei_la 1, ei_gf (9, 5, 28, 0), ei_pu (.inl 0, 0, 0), ei_la 0, ei_gf (9, 5, 28, 0), ei_pu (.inl 0, 0, 0), ei_li 2, ei_cy 37, ei_la 0, ei_li 2, ei_pf (9, 0, 0, 9, 0), ei_re 2])], 0, 0, 0, 3, ⟨"RegisterColours$Steps", "takeFrom", "(LRegisterColours$Steps;)V"⟩, prog_11_method_3_code, none)
/-- RegisterColours.isValue(I)Z -/
noncomputable def mt_37 : ev_M := ([(32, [ei_re 0]),
  (31, [ei_pu (.inl 0, 0, 0), ei_fa 0]),
  (27, [ei_pu (.inl 1, 0, 0), ei_go 0]),
  (0, [ei_li 1, ei_if ((true, false, false), 1), ei_li 1, ei_pu (.inl 44, 1, 0), ei_ic ((false, true, true), 1), ei_li 1, ei_la 0, ei_gf (0, 1, 29, 0), ei_gf (10, 2, 81, 0), ei_ic ((true, false, false), 2), ei_li 1, ei_pu (.inl 8, 1, 0), ei_ic ((true, false, false), 1), ei_fa 2])], 3, 0, 0, 2, ⟨"RegisterColours", "isValue", "(I)Z"⟩, prog_1_method_24_code, some .boolean)
/-- RegisterColoursModel.isValue(I)Z -/
noncomputable def mt_38 : ev_M := ([(30, [ei_re 0]),
  (29, [ei_pu (.inl 0, 0, 0), ei_fa 0]),
  (0, [ei_la 0, ei_li 1, ei_pu (.inl 0, 0, 0), ei_pu (.inl 43, 1, 0), ei_ca (18, 4, 12, 143, 0, 0, 0), ei_if ((false, true, false), 1), ei_la 0, ei_li 1, ei_la 0, ei_gf (11, 4, 7, 0), ei_pu (.inl 7, 1, 0), ei_ca (18, 4, 12, 143, 0, 0, 0), ei_if ((true, false, true), 1), ei_pu (.inl 1, 0, 0), ei_go 0])], 2, 0, 0, 2, ⟨"RegisterColoursModel", "isValue", "(I)Z"⟩, prog_14_method_106_code, some .boolean)
/-- RegisterColours$Left.<init>()V -/
noncomputable def mt_39 : ev_M := ([(0, [ei_la 0, ei_oi 3, ei_la 0, ei_nw (9, 9, [.inl 0, .inr (.inl 0), .inr (.inl 0), .inr (.inl 0), .inr (.inl 0), .inr (.inl 0)]), ei_st 0, ei_pu (.inl 400, 2, 0), ei_ca (32, 2, 10, 11, 2, 5, 2000), ei_pf (4, 2, 3, 14, 0), ei_la 0, ei_pu (.inl 200, 2, 0), ei_na 0, ei_pf (4, 4, 3, 20, 0), ei_la 0, ei_pu (.inl 200, 2, 0), ei_na 0, ei_pf (4, 0, 3, 24, 0), ei_la 0, ei_pu (.inl 200, 2, 0), ei_na 0, ei_pf (4, 8, 3, 27, 0), ei_la 0, ei_pu (.inl 200, 2, 0), ei_na 0, ei_pf (4, 1, 3, 30, 0), ei_la 0, ei_pu (.inl 44, 1, 0), ei_pf (4, 5, 0, 33, 0), ei_la 0, ei_pu (.inl 0, 0, 0), ei_pf (4, 6, 0, 37, 0), ei_la 0, ei_pu (.inl 0, 0, 0), ei_pf (4, 9, 0, 40, 0), ei_la 0, ei_pu (.inl 0, 0, 0), ei_pf (4, 10, 0, 43, 0), ei_la 0, ei_pu (.inl 0, 0, 0), ei_pf (4, 11, 0, 46, 0), ei_la 0, ei_pu (.inl 0, 0, 0), ei_pf (4, 7, 0, 49, 0), ei_la 0, ei_pu (.inl 0, 0, 0), ei_pf (4, 12, 0, 52, 0), ei_la 0, ei_pu (.inl 0, 0, 0), ei_pf (4, 3, 0, 55, 0), ei_re 2])], 0, 10, 2806, 1, ⟨"RegisterColours$Left", "<init>", "()V"⟩, prog_5_method_1_code, none)
/-- RegisterColoursModel.lesser(II)I -/
noncomputable def mt_40 : ev_M := ([(10, [ei_re 0]),
  (0, [ei_li 1, ei_li 2, ei_ic ((false, true, true), 2), ei_li 1, ei_go 0]),
  (9, [ei_li 2, ei_fa 0])], 1, 0, 0, 3, ⟨"RegisterColoursModel", "lesser", "(II)I"⟩, prog_14_method_5_code, some .int)
/-- RegisterColoursModel.raw(I)I -/
noncomputable def mt_41 : ev_M := ([(0, [ei_li 1, ei_la 0, ei_gf (11, 20, 363, 0), ei_ic ((false, true, true), 1)]),
  (17, [ei_pu (.inl 4294967295, 0, 0), ei_re 0])], 0, 0, 0, 2, ⟨"RegisterColoursModel", "raw", "(I)I"⟩, prog_14_method_69_code, some .int)
/-- RegisterColours$Colourer.nextLeft(I)I -/
noncomputable def mt_42 : ev_M := ([(0, [ei_la 0, ei_gf (2, 3, 47, 0), ei_pu (.inl 0, 0, 0), ei_la 0, ei_gf (2, 0, 38, 0), ei_gf (3, 2, 64, 0), ei_li 1, ei_ca (43, 4, 0, 82, 4, 0, 0), ei_re 0])], 0, 0, 0, 2, ⟨"RegisterColours$Colourer", "nextLeft", "(I)I"⟩, prog_3_method_3_code, some .int)
/-- RegisterColours.nextBit([JIII)I -/
noncomputable def mt_43 : ev_M := ([(16, [ei_pu (.inl 64, 1, 0), ei_li 6, ei_ib 1, ei_li 2, ei_ic ((false, true, true), 3), ei_la 0, ei_li 1, ei_li 6, ei_ib 0, ei_al 1, ei_ll 4, ei_lb 0, ei_sl 7, ei_ll 7, ei_pu (.inr (.inr (.inl 0)), 3, 0), ei_lc, ei_if ((false, true, false), 2)]),
  (0, [ei_pu (.inr (.inr (.inl 18446744073709551615)), 7, 321), ei_li 3, ei_pu (.inl 63, 1, 0), ei_ib 3, ei_ls 1, ei_sl 4, ei_li 3, ei_pu (.inl 6, 1, 0), ei_ib 2, ei_si 6, ei_fa 0]),
  (61, [ei_pu (.inr (.inr (.inl 18446744073709551615)), 7, 321), ei_sl 4, ei_ii (6, 1), ei_go 0]),
  (72, [ei_li 2, ei_re 0])], 1, 0, 0, 9, ⟨"RegisterColours", "nextBit", "([JIII)I"⟩, prog_1_method_31_code, some .int)
/-- RegisterColours$Graph.degreeAmong(I[J)I -/
noncomputable def mt_44 : ev_M := ([(21, [ei_li 5, ei_la 0, ei_gf (3, 5, 18, 0), ei_ic ((false, true, true), 3), ei_la 0, ei_gf (3, 1, 47, 0), ei_li 1, ei_la 0, ei_gf (3, 0, 40, 0), ei_ib 1, ei_li 5, ei_ib 0, ei_al 1, ei_la 2, ei_li 5, ei_al 1, ei_lb 0, ei_sl 6, ei_li 4, ei_ll 6, ei_ca (9, 1, 0, 178, 1, 0, 0), ei_ib 0, ei_si 4, ei_li 3, ei_if ((false, true, false), 2), ei_li 4, ei_ll 6, ei_la 0, ei_gf (3, 7, 56, 0), ei_li 5, ei_al 1, ei_lb 0, ei_ca (9, 1, 0, 178, 1, 0, 0), ei_ib 0, ei_si 4, ei_fa 2]),
  (14, [ei_si 3, ei_pu (.inl 0, 0, 0), ei_si 4, ei_pu (.inl 0, 0, 0), ei_si 5, ei_fa 0]),
  (83, [ei_ii (5, 1), ei_go 0]),
  (89, [ei_li 4, ei_re 0]),
  (13, [ei_pu (.inl 0, 0, 0), ei_fa 1]),
  (0, [ei_la 0, ei_gf (3, 4, 31, 0), ei_li 1, ei_al 0, ei_if ((true, false, true), 4), ei_pu (.inl 1, 0, 0), ei_go 1])], 5, 0, 0, 8, ⟨"RegisterColours$Graph", "degreeAmong", "(I[J)I"⟩, prog_4_method_20_code, some .int)
/-- RegisterColoursModel.degreeOf(I)I -/
noncomputable def mt_45 : ev_M := ([(4, [ei_li 3, ei_pu (.inl 200, 2, 0), ei_ic ((false, true, true), 2), ei_la 0, ei_gf (11, 0, 51, 0), ei_li 3, ei_al 2, ei_if ((false, true, false), 1), ei_la 0, ei_la 0, ei_gf (11, 3, 38, 0), ei_li 1, ei_li 3, ei_ca (3, 4, 12, 203, 0, 0, 0), ei_if ((false, true, false), 1), ei_li 2, ei_la 0, ei_li 1, ei_li 3, ei_ca (29, 3, 12, 235, 0, 0, 0), ei_ib 0, ei_si 2, ei_fa 1]),
  (42, [ei_ii (3, 1), ei_go 0]),
  (48, [ei_li 2, ei_re 0]),
  (0, [ei_pu (.inl 0, 0, 0), ei_si 2, ei_pu (.inl 0, 0, 0), ei_si 3, ei_fa 0])], 3, 0, 0, 4, ⟨"RegisterColoursModel", "degreeOf", "(I)I"⟩, prog_14_method_37_code, some .int)
/-- RegisterColours$Told.<init>()V -/
noncomputable def mt_46 : ev_M := ([(0, [ei_la 0, ei_oi 3, ei_la 0, ei_pu (.inl 4, 0, 0), ei_pf (10, 2, 0, 9, 0), ei_la 0, ei_pu (.inl 2, 0, 0), ei_pf (10, 4, 0, 15, 0), ei_la 0, ei_pu (.inl 1, 0, 0), ei_pf (10, 1, 0, 18, 0), ei_la 0, ei_pu (.inl 0, 0, 0), ei_pf (10, 7, 0, 21, 0), ei_la 0, ei_pu (.inl 0, 0, 0), ei_pf (10, 6, 0, 24, 0), ei_la 0, ei_pu (.inl 0, 0, 0), ei_pf (10, 3, 1, 27, 0), ei_la 0, ei_nw (9, 31, [.inl 0, .inr (.inl 0), .inr (.inl 0), .inr (.inl 0), .inr (.inl 0), .inr (.inl 0)]), ei_st 0, ei_pu (.inl 120, 1, 0), ei_ca (32, 2, 10, 33, 2, 5, 2000), ei_pf (10, 5, 3, 36, 0), ei_la 0, ei_pu (.inl 16, 1, 0), ei_na 0, ei_pf (10, 8, 3, 40, 0), ei_la 0, ei_pu (.inl 24, 1, 0), ei_na 0, ei_pf (10, 0, 3, 44, 0), ei_la 0, ei_nw (4, 47, [.inr (.inl 0), .inr (.inl 0), .inr (.inl 0), .inl 0, .inr (.inl 0), .inl 0, .inl 0, .inl 0, .inr (.inl 0), .inl 0, .inl 0, .inl 0, .inl 0]), ei_st 0, ei_ca (39, 1, 5, 49, 5, 10, 2806), ei_pf (10, 9, 3, 50, 0), ei_la 0, ei_gf (10, 0, 44, 0), ei_pu (.inl 4294967295, 0, 0), ei_ca (19, 2, 0, 54, 1, 0, 0), ei_re 2])], 0, 19, 4865, 1, ⟨"RegisterColours$Told", "<init>", "()V"⟩, prog_12_method_1_code, none)
/-- RegisterColours$Graph.<init>(LRegisterColours$Steps;[I)V -/
noncomputable def mt_47 : ev_M := ([(0, [ei_la 0, ei_oi 3, ei_la 0, ei_pu (.inl 0, 0, 0), ei_pf (3, 3, 0, 9, 0), ei_la 0, ei_pu (.inl 0, 0, 0), ei_pf (3, 2, 0, 15, 0), ei_la 0, ei_pu (.inl 0, 0, 0), ei_pf (3, 5, 0, 18, 0), ei_la 0, ei_pu (.inl 0, 0, 0), ei_pf (3, 10, 0, 21, 0), ei_la 0, ei_pu (.inl 0, 0, 0), ei_pf (3, 13, 0, 24, 0), ei_la 0, ei_la 1, ei_pf (3, 9, 3, 27, 0), ei_la 0, ei_la 2, ei_pf (3, 4, 3, 31, 0), ei_la 1, ei_gf (9, 1, 35, 0), ei_an, ei_si 3, ei_la 2, ei_an, ei_si 4, ei_la 0, ei_li 4, ei_pu (.inl 63, 1, 0), ei_ib 0, ei_pu (.inl 64, 1, 0), ei_dv 0, ei_pf (3, 0, 0, 40, 0), ei_la 0, ei_li 3, ei_pu (.inl 1, 0, 0), ei_ib 0, ei_la 0, ei_gf (3, 0, 40, 0), ei_ib 1, ei_na 1, ei_pf (3, 12, 3, 43, 0), ei_la 0, ei_li 4, ei_la 0, ei_gf (3, 0, 40, 0), ei_ib 1, ei_na 1, ei_pf (3, 1, 3, 47, 0), ei_la 0, ei_la 0, ei_gf (3, 0, 40, 0), ei_na 1, ei_pf (3, 14, 3, 50, 0), ei_la 0, ei_la 0, ei_gf (3, 0, 40, 0), ei_na 1, ei_pf (3, 15, 3, 53, 0), ei_la 0, ei_la 0, ei_gf (3, 0, 40, 0), ei_na 1, ei_pf (3, 7, 3, 56, 0), ei_la 0, ei_la 0, ei_gf (3, 0, 40, 0), ei_na 1, ei_pf (3, 8, 3, 59, 0), ei_la 0, ei_li 3, ei_na 2, ei_pf (3, 16, 3, 62, 0), ei_la 0, ei_la 0, ei_gf (3, 0, 40, 0), ei_na 1, ei_pf (3, 6, 3, 66, 0), ei_la 0, ei_li 3, ei_na 0, ei_pf (3, 17, 3, 69, 0), ei_la 0, ei_li 4, ei_na 0, ei_pf (3, 11, 3, 72, 0), ei_re 2])], 0, 10, 3424, 5, ⟨"RegisterColours$Graph", "<init>", "(LRegisterColours$Steps;[I)V"⟩, prog_4_method_1_code, none)
/-- RegisterColours.fillClasses([I)V -/
noncomputable def mt_48 : ev_M := ([(2, [ei_li 1, ei_la 0, ei_an, ei_ic ((false, true, true), 2), ei_la 0, ei_li 1, ei_li 1, ei_ca (7, 1, 0, 318, 1, 0, 0), ei_as 0, ei_ii (1, 1), ei_go 0]),
  (0, [ei_pu (.inl 0, 0, 0), ei_si 1, ei_fa 0]),
  (21, [ei_re 2])], 1, 0, 0, 2, ⟨"RegisterColours", "fillClasses", "([I)V"⟩, prog_1_method_26_code, none)
/-- RegisterColoursModel.copiesSteps(II)V -/
noncomputable def mt_49 : ev_M := ([(0, [ei_pu (.inl 0, 0, 0), ei_si 3, ei_li 3, ei_pu (.inl 5, 0, 0), ei_la 0, ei_gf (11, 19, 23, 0), ei_li 1, ei_al 0, ei_ib 1, ei_ic ((false, true, true), 1)]),
  (46, [ei_la 0, ei_gf (11, 19, 23, 0), ei_li 2, ei_la 0, ei_gf (11, 19, 23, 0), ei_li 1, ei_al 0, ei_as 0, ei_re 2])], 0, 0, 0, 4, ⟨"RegisterColoursModel", "copiesSteps", "(II)V"⟩, prog_14_method_18_code, none)
/-- RegisterColoursModel.usedMany(Z)I -/
noncomputable def mt_50 : ev_M := ([(0, [ei_pu (.inl 0, 0, 0), ei_si 2, ei_pu (.inl 0, 0, 0), ei_si 3, ei_li 3, ei_la 0, ei_gf (11, 19, 23, 0), ei_pu (.inl 3, 0, 0), ei_al 0, ei_ic ((false, true, true), 1)]),
  (61, [ei_pu (.inl 0, 0, 0), ei_si 3, ei_li 2, ei_si 4, ei_li 4, ei_if ((false, true, false), 2)]),
  (87, [ei_li 3, ei_re 0])], 0, 0, 0, 5, ⟨"RegisterColoursModel", "usedMany", "(Z)I"⟩, prog_14_method_62_code, some .int)
/-- RegisterColours$Graph.isHeavy(I[J)Z -/
noncomputable def mt_51 : ev_M := ([(25, [ei_re 0]),
  (24, [ei_pu (.inl 0, 0, 0), ei_fa 0]),
  (0, [ei_li 1, ei_pu (.inl 8, 1, 0), ei_ic ((true, false, false), 3), ei_la 0, ei_li 1, ei_la 2, ei_ca (44, 3, 4, 184, 0, 0, 0), ei_la 0, ei_li 1, ei_ca (17, 2, 4, 188, 0, 0, 0), ei_ic ((true, false, false), 1), ei_fa 3]),
  (20, [ei_pu (.inl 1, 0, 0), ei_go 0])], 2, 0, 0, 3, ⟨"RegisterColours$Graph", "isHeavy", "(I[J)Z"⟩, prog_4_method_21_code, some .boolean)
/-- RegisterColoursModel.isHeavy(I)Z -/
noncomputable def mt_52 : ev_M := ([(30, [ei_re 0]),
  (29, [ei_pu (.inl 0, 0, 0), ei_fa 0]),
  (0, [ei_la 0, ei_li 1, ei_ca (0, 2, 12, 228, 0, 0, 0), ei_if ((true, false, true), 3), ei_la 0, ei_li 1, ei_ca (45, 2, 12, 238, 0, 0, 0), ei_la 0, ei_la 0, ei_li 1, ei_ca (14, 2, 12, 169, 0, 0, 0), ei_ca (16, 2, 12, 241, 0, 0, 0), ei_ic ((true, false, false), 1), ei_fa 3]),
  (25, [ei_pu (.inl 1, 0, 0), ei_go 0])], 2, 0, 0, 2, ⟨"RegisterColoursModel", "isHeavy", "(I)Z"⟩, prog_14_method_38_code, some .boolean)
/-- RegisterColours$Graph.fewestColours()I -/
noncomputable def mt_53 : ev_M := ([(0, [ei_la 0, ei_gf (3, 6, 66, 0), ei_pu (.inl 0, 0, 0), ei_ca (54, 2, 0, 211, 1, 0, 0), ei_si 1, ei_pu (.inl 0, 0, 0), ei_si 2, ei_pu (.inl 0, 0, 0), ei_si 3, ei_li 3, ei_pu (.inl 24, 1, 0), ei_ic ((false, true, true), 1), ei_li 1, ei_if ((false, true, false), 1)]),
  (71, [ei_li 2, ei_re 0])], 0, 0, 0, 5, ⟨"RegisterColours$Graph", "fewestColours", "()I"⟩, prog_4_method_27_code, some .int)
/-- RegisterColours$Graph.vsIn([JI)I -/
noncomputable def mt_54 : ev_M := ([(0, [ei_la 0, ei_li 1, ei_al 1, ei_pu (.inl 8, 1, 0), ei_ls 0, ei_un 0, ei_pu (.inl 16777215, 5, 228), ei_ib 3, ei_re 0])], 0, 0, 0, 2, ⟨"RegisterColours$Graph", "vsIn", "([JI)I"⟩, prog_4_method_31_code, some .int)
/-- RegisterColoursModel.isChordal()Z -/
noncomputable def mt_55 : ev_M := ([(15, [ei_li 2, ei_pu (.inl 32, 1, 0), ei_ic ((false, true, true), 3), ei_la 0, ei_gf (11, 0, 51, 0), ei_li 2, ei_al 2, ei_if ((false, true, false), 1)]),
  (34, [ei_ii (2, 1), ei_go 0]),
  (0, [ei_la 0, ei_pu (.inl 0, 0, 0), ei_ca (21, 2, 12, 330, 0, 0, 0), ei_la 0, ei_pu (.inl 0, 0, 0), ei_pf (11, 37, 0, 519, 0), ei_pu (.inl 0, 0, 0), ei_si 1, ei_pu (.inl 8, 1, 0), ei_si 2, ei_fa 0]),
  (40, [ei_li 1, ei_if ((true, true, false), 4)]),
  (118, [ei_pu (.inl 1, 0, 0), ei_re 0])], 2, 0, 0, 3, ⟨"RegisterColoursModel", "isChordal", "()Z"⟩, prog_14_method_113_code, some .boolean)
/-- RegisterColours.<init>()V -/
noncomputable def mt_56 : ev_M := ([(0, [ei_la 0, ei_oi 3, ei_la 0, ei_pu (.inl 400, 2, 0), ei_na 3, ei_pf (0, 4, 3, 9, 0), ei_la 0, ei_pu (.inl 0, 0, 0), ei_pf (0, 0, 0, 13, 0), ei_la 0, ei_nw (6, 17, [.inl 0, .inl 0, .inr (.inl 0), .inl 0, .inr (.inl 0), .inl 0, .inr (.inl 0), .inr (.inl 0), .inr (.inl 0), .inr (.inl 0), .inr (.inl 0)]), ei_st 0, ei_la 0, ei_gf (0, 4, 9, 0), ei_ca (57, 2, 7, 19, 2, 11, 3290), ei_pf (0, 6, 3, 22, 0), ei_la 0, ei_nw (10, 26, [.inr (.inl 0), .inl 0, .inl 0, .inl 0, .inl 0, .inr (.inl 0), .inl 0, .inl 0, .inr (.inl 0), .inr (.inl 0)]), ei_st 0, ei_ca (46, 1, 11, 28, 2, 19, 4865), ei_pf (0, 1, 3, 29, 0), ei_la 0, ei_pu (.inl 44, 1, 0), ei_na 0, ei_pf (0, 8, 3, 33, 0), ei_la 0, ei_nw (3, 37, [.inl 0, .inr (.inl 0), .inl 0, .inl 0, .inr (.inl 0), .inl 0, .inr (.inl 0), .inr (.inl 0), .inr (.inl 0), .inr (.inl 0), .inl 0, .inr (.inl 0), .inr (.inl 0), .inl 0, .inr (.inl 0), .inr (.inl 0), .inr (.inl 0), .inr (.inl 0)]), ei_st 0, ei_la 0, ei_gf (0, 1, 29, 0), ei_gf (10, 5, 39, 0), ei_la 0, ei_gf (0, 8, 33, 0), ei_ca (47, 3, 4, 43, 2, 10, 3424), ei_pf (0, 3, 3, 46, 0), ei_la 0, ei_pu (.inl 0, 0, 0), ei_pf (0, 2, 1, 50, 0), ei_la 0, ei_nw (7, 54, [.inr (.inl 0), .inl 0, .inl 0, .inl 0, .inl 0, .inr (.inl 0), .inr (.inl 0), .inr (.inl 0), .inr (.inl 0), .inr (.inl 0), .inl 0, .inr (.inl 0), .inl 0]), ei_st 0, ei_la 0, ei_gf (0, 1, 29, 0), ei_la 0, ei_gf (0, 8, 33, 0), ei_ca (58, 3, 8, 56, 2, 3, 256), ei_pf (0, 7, 3, 59, 0), ei_la 0, ei_pu (.inl 4294967295, 0, 0), ei_pf (0, 5, 0, 63, 0), ei_la 0, ei_pu (.inr (.inl 0), 4, 0), ei_pf (0, 9, 3, 66, 0), ei_la 0, ei_pu (.inr (.inl 0), 4, 0), ei_pf (0, 11, 3, 70, 0), ei_la 0, ei_pu (.inr (.inl 0), 4, 0), ei_pf (0, 10, 3, 74, 0), ei_la 0, ei_gf (0, 8, 33, 0), ei_ca (48, 1, 0, 77, 1, 0, 0), ei_re 2])], 0, 49, 12331, 1, ⟨"RegisterColours", "<init>", "()V"⟩, prog_1_method_1_code, none)
/-- RegisterColours$Reader.<init>([B)V -/
noncomputable def mt_57 : ev_M := ([(0, [ei_la 0, ei_oi 3, ei_la 0, ei_nw (9, 9, [.inl 0, .inr (.inl 0), .inr (.inl 0), .inr (.inl 0), .inr (.inl 0), .inr (.inl 0)]), ei_st 0, ei_pu (.inl 120, 1, 0), ei_ca (32, 2, 10, 11, 2, 5, 2000), ei_pf (6, 2, 3, 14, 0), ei_la 0, ei_pu (.inl 0, 0, 0), ei_pf (6, 0, 0, 20, 0), ei_la 0, ei_pu (.inl 0, 0, 0), ei_pf (6, 1, 0, 24, 0), ei_la 0, ei_pu (.inl 4294967295, 0, 0), ei_pf (6, 3, 0, 27, 0), ei_la 0, ei_pu (.inl 401, 2, 0), ei_na 0, ei_pf (6, 4, 3, 30, 0), ei_la 0, ei_pu (.inl 401, 2, 0), ei_na 0, ei_pf (6, 6, 3, 34, 0), ei_la 0, ei_pu (.inl 401, 2, 0), ei_na 0, ei_pf (6, 9, 3, 37, 0), ei_la 0, ei_pu (.inl 41, 1, 0), ei_na 0, ei_pf (6, 7, 3, 40, 0), ei_la 0, ei_pu (.inl 40, 1, 0), ei_na 0, ei_pf (6, 10, 3, 43, 0), ei_la 0, ei_pu (.inl 0, 0, 0), ei_pf (6, 5, 0, 46, 0), ei_la 0, ei_la 1, ei_pf (6, 8, 3, 49, 0), ei_re 2])], 0, 11, 3290, 2, ⟨"RegisterColours$Reader", "<init>", "([B)V"⟩, prog_8_method_1_code, none)
/-- RegisterColours$Runner.<init>(LRegisterColours$Told;[I)V -/
noncomputable def mt_58 : ev_M := ([(0, [ei_la 0, ei_oi 3, ei_la 0, ei_pu (.inl 1, 0, 0), ei_pf (7, 1, 1, 9, 0), ei_la 0, ei_pu (.inl 0, 0, 0), ei_pf (7, 2, 0, 15, 0), ei_la 0, ei_pu (.inl 0, 0, 0), ei_pf (7, 3, 0, 19, 0), ei_la 0, ei_pu (.inl 0, 0, 0), ei_pf (7, 4, 0, 22, 0), ei_la 0, ei_pu (.inl 44, 1, 0), ei_na 1, ei_pf (7, 5, 3, 25, 0), ei_la 0, ei_pu (.inl 12, 1, 0), ei_na 0, ei_pf (7, 6, 3, 29, 0), ei_la 0, ei_pu (.inl 200, 2, 0), ei_na 1, ei_pf (7, 7, 3, 33, 0), ei_la 0, ei_pu (.inl 0, 0, 0), ei_pf (7, 10, 1, 36, 0), ei_la 0, ei_pu (.inl 0, 0, 0), ei_pf (7, 12, 0, 39, 0), ei_la 0, ei_la 1, ei_pf (7, 8, 3, 42, 0), ei_la 0, ei_la 2, ei_pf (7, 9, 3, 46, 0), ei_la 0, ei_la 2, ei_pf (7, 11, 3, 49, 0), ei_la 0, ei_la 1, ei_gf (10, 5, 52, 0), ei_pf (7, 0, 3, 58, 0), ei_re 2])], 0, 3, 256, 3, ⟨"RegisterColours$Runner", "<init>", "(LRegisterColours$Told;[I)V"⟩, prog_9_method_1_code, none)
/-- RegisterColoursModel.<init>()V -/
noncomputable def mt_59 : ev_M := ([(0, [ei_la 0, ei_oi 1, ei_la 0, ei_pu (.inl 4, 0, 0), ei_pf (11, 4, 0, 7, 0), ei_la 0, ei_pu (.inl 2, 0, 0), ei_pf (11, 24, 0, 13, 0), ei_la 0, ei_pu (.inl 1, 0, 0), ei_pf (11, 27, 0, 16, 0), ei_la 0, ei_pu (.inl 8200, 2, 0), ei_na 0, ei_pf (11, 38, 3, 19, 0), ei_la 0, ei_pu (.inl 4, 0, 0), ei_na 0, ei_pf (11, 19, 3, 23, 0), ei_la 0, ei_pu (.inl 200, 2, 0), ei_na 0, ei_pf (11, 11, 3, 26, 0), ei_la 0, ei_pu (.inl 200, 2, 0), ei_na 0, ei_pf (11, 13, 3, 29, 0), ei_la 0, ei_pu (.inl 2877, 2, 0), ei_na 0, ei_pf (11, 23, 3, 32, 0), ei_la 0, ei_pu (.inl 7, 1, 0), ei_na 0, ei_pf (11, 54, 3, 35, 0), ei_la 0, ei_pu (.inl 1400, 2, 0), ei_na 0, ei_pf (11, 3, 3, 38, 0), ei_la 0, ei_pu (.inl 200, 2, 0), ei_na 0, ei_pf (11, 8, 3, 41, 0), ei_la 0, ei_pu (.inl 200, 2, 0), ei_na 2, ei_pf (11, 2, 3, 44, 0), ei_la 0, ei_pu (.inl 200, 2, 0), ei_na 0, ei_pf (11, 7, 3, 48, 0), ei_la 0, ei_pu (.inl 200, 2, 0), ei_na 2, ei_pf (11, 0, 3, 51, 0), ei_la 0, ei_pu (.inl 410, 2, 0), ei_na 0, ei_pf (11, 55, 3, 54, 0), ei_la 0, ei_pu (.inl 200, 2, 0), ei_na 0, ei_pf (11, 56, 3, 57, 0), ei_la 0, ei_pu (.inl 200, 2, 0), ei_na 2, ei_pf (11, 57, 3, 60, 0), ei_la 0, ei_pu (.inl 200, 2, 0), ei_na 0, ei_pf (11, 12, 3, 63, 0), ei_la 0, ei_pu (.inl 200, 2, 0), ei_na 0, ei_pf (11, 58, 3, 66, 0), ei_la 0, ei_pu (.inl 200, 2, 0), ei_na 0, ei_pf (11, 59, 3, 69, 0), ei_la 0, ei_pu (.inl 200, 2, 0), ei_na 0, ei_pf (11, 9, 3, 72, 0), ei_la 0, ei_pu (.inl 410, 2, 0), ei_na 0, ei_pf (11, 61, 3, 75, 0), ei_la 0, ei_pu (.inl 200, 2, 0), ei_na 0, ei_pf (11, 14, 3, 78, 0), ei_la 0, ei_pu (.inl 200, 2, 0), ei_na 0, ei_pf (11, 15, 3, 81, 0), ei_la 0, ei_pu (.inl 200, 2, 0), ei_na 0, ei_pf (11, 16, 3, 84, 0), ei_la 0, ei_pu (.inl 12, 1, 0), ei_na 0, ei_pf (11, 26, 3, 87, 0), ei_la 0, ei_pu (.inl 400, 2, 0), ei_na 0, ei_pf (11, 21, 3, 90, 0), ei_la 0, ei_pu (.inl 36, 1, 0), ei_na 0, ei_st 0, ei_pu (.inl 0, 0, 0), ei_pu (.inl 32, 1, 0), ei_as 0, ei_st 0, ei_pu (.inl 1, 0, 0), ei_pu (.inl 105, 1, 0), ei_as 0, ei_st 0, ei_pu (.inl 2, 0, 0), ei_pu (.inl 102, 1, 0), ei_as 0, ei_st 0, ei_pu (.inl 3, 0, 0), ei_pu (.inl 32, 1, 0), ei_as 0, ei_st 0, ei_pu (.inl 4, 0, 0), ei_pu (.inl 103, 1, 0), ei_as 0, ei_st 0, ei_pu (.inl 5, 0, 0), ei_pu (.inl 111, 1, 0), ei_as 0, ei_st 0, ei_pu (.inl 6, 1, 0), ei_pu (.inl 116, 1, 0), ei_as 0, ei_st 0, ei_pu (.inl 7, 1, 0), ei_pu (.inl 111, 1, 0), ei_as 0, ei_st 0, ei_pu (.inl 8, 1, 0), ei_pu (.inl 32, 1, 0), ei_as 0, ei_st 0, ei_pu (.inl 9, 1, 0), ei_pu (.inl 111, 1, 0), ei_as 0, ei_st 0, ei_pu (.inl 10, 1, 0), ei_pu (.inl 117, 1, 0), ei_as 0, ei_st 0, ei_pu (.inl 11, 1, 0), ei_pu (.inl 116, 1, 0), ei_as 0, ei_st 0, ei_pu (.inl 12, 1, 0), ei_pu (.inl 32, 1, 0), ei_as 0, ei_st 0, ei_pu (.inl 13, 1, 0), ei_pu (.inl 105, 1, 0), ei_as 0, ei_st 0, ei_pu (.inl 14, 1, 0), ei_pu (.inl 110, 1, 0), ei_as 0, ei_st 0, ei_pu (.inl 15, 1, 0), ei_pu (.inl 32, 1, 0), ei_as 0, ei_st 0, ei_pu (.inl 16, 1, 0), ei_pu (.inl 99, 1, 0), ei_as 0, ei_st 0, ei_pu (.inl 17, 1, 0), ei_pu (.inl 97, 1, 0), ei_as 0, ei_st 0, ei_pu (.inl 18, 1, 0), ei_pu (.inl 108, 1, 0), ei_as 0, ei_st 0, ei_pu (.inl 19, 1, 0), ei_pu (.inl 108, 1, 0), ei_as 0, ei_st 0, ei_pu (.inl 20, 1, 0), ei_pu (.inl 32, 1, 0), ei_as 0, ei_st 0, ei_pu (.inl 21, 1, 0), ei_pu (.inl 108, 1, 0), ei_as 0, ei_st 0, ei_pu (.inl 22, 1, 0), ei_pu (.inl 111, 1, 0), ei_as 0, ei_st 0, ei_pu (.inl 23, 1, 0), ei_pu (.inl 119, 1, 0), ei_as 0, ei_st 0, ei_pu (.inl 24, 1, 0), ei_pu (.inl 32, 1, 0), ei_as 0, ei_st 0, ei_pu (.inl 25, 1, 0), ei_pu (.inl 104, 1, 0), ei_as 0, ei_st 0, ei_pu (.inl 26, 1, 0), ei_pu (.inl 105, 1, 0), ei_as 0, ei_st 0, ei_pu (.inl 27, 1, 0), ei_pu (.inl 103, 1, 0), ei_as 0, ei_st 0, ei_pu (.inl 28, 1, 0), ei_pu (.inl 104, 1, 0), ei_as 0, ei_st 0, ei_pu (.inl 29, 1, 0), ei_pu (.inl 32, 1, 0), ei_as 0, ei_st 0, ei_pu (.inl 30, 1, 0), ei_pu (.inl 118, 1, 0), ei_as 0, ei_st 0, ei_pu (.inl 31, 1, 0), ei_pu (.inl 32, 1, 0), ei_as 0, ei_st 0, ei_pu (.inl 32, 1, 0), ei_pu (.inl 119, 1, 0), ei_as 0, ei_st 0, ei_pu (.inl 33, 1, 0), ei_pu (.inl 32, 1, 0), ei_as 0, ei_st 0, ei_pu (.inl 34, 1, 0), ei_pu (.inl 100, 1, 0), ei_as 0, ei_st 0, ei_pu (.inl 35, 1, 0), ei_pu (.inl 32, 1, 0), ei_as 0, ei_pf (11, 63, 3, 93, 0), ei_la 0, ei_pu (.inl 4294967295, 0, 0), ei_pf (11, 34, 0, 96, 0), ei_la 0, ei_pu (.inl 246, 2, 0), ei_na 0, ei_pf (11, 48, 3, 99, 0), ei_la 0, ei_pu (.inl 246, 2, 0), ei_na 0, ei_pf (11, 64, 3, 102, 0), ei_la 0, ei_pu (.inl 41, 1, 0), ei_na 0, ei_pf (11, 49, 3, 105, 0), ei_la 0, ei_pu (.inl 16, 1, 0), ei_na 0, ei_pf (11, 36, 3, 108, 0), ei_la 0, ei_pu (.inl 200, 2, 0), ei_na 1, ei_pf (11, 17, 3, 111, 0), ei_la 0, ei_pu (.inl 8, 1, 0), ei_na 0, ei_pf (11, 29, 3, 115, 0), ei_la 0, ei_pu (.inl 4, 0, 0), ei_na 0, ei_pf (11, 32, 3, 118, 0), ei_la 0, ei_pu (.inl 200, 2, 0), ei_na 1, ei_pf (11, 18, 3, 121, 0), ei_la 0, ei_pu (.inl 34440, 5, 124), ei_na 0, ei_pf (11, 66, 3, 125, 0), ei_la 0, ei_pu (.inl 84, 1, 0), ei_na 0, ei_pf (11, 67, 3, 128, 0), ei_la 0, ei_pu (.inl 410, 2, 0), ei_na 2, ei_pf (11, 68, 3, 131, 0), ei_la 0, ei_pu (.inl 24, 1, 0), ei_na 0, ei_pf (11, 10, 3, 134, 0), ei_la 0, ei_pu (.inl 3300, 2, 0), ei_na 0, ei_pf (11, 5, 3, 137, 0), ei_re 2])], 0, 38, 55975, 1, ⟨"RegisterColoursModel", "<init>", "()V"⟩, prog_14_method_1_code, none)
/-- RegisterColours.set(II)Z -/
noncomputable def mt_60 : ev_M := ([(107, [ei_li 3, ei_if ((false, true, false), 1), ei_la 0, ei_ca (30, 1, 1, 96, 0, 0, 0), ei_fa 1]),
  (115, [ei_li 3, ei_re 0]),
  (76, [ei_li 1, ei_pu (.inl 2, 0, 0), ei_ic ((true, false, true), 0), ei_li 2, ei_pu (.inl 1, 0, 0), ei_ic ((true, false, false), 0), ei_li 2, ei_la 0, ei_gf (0, 1, 29, 0), ei_gf (10, 2, 81, 0), ei_ic ((false, false, true), 0), ei_la 0, ei_gf (0, 1, 29, 0), ei_li 2, ei_pf (10, 1, 0, 84, 0), ei_pu (.inl 1, 0, 0), ei_si 3, ei_fa 0]),
  (48, [ei_li 1, ei_pu (.inl 1, 0, 0), ei_ic ((true, false, true), 2), ei_li 2, ei_pu (.inl 1, 0, 0), ei_ic ((true, false, false), 2), ei_li 2, ei_pu (.inl 4, 0, 0), ei_ic ((false, false, true), 2), ei_la 0, ei_gf (0, 1, 29, 0), ei_li 2, ei_pf (10, 4, 0, 93, 0), ei_pu (.inl 1, 0, 0), ei_si 3, ei_go 0]),
  (0, [ei_pu (.inl 0, 0, 0), ei_si 3, ei_li 1, ei_if ((true, false, true), 3), ei_li 2, ei_pu (.inl 2, 0, 0), ei_ic ((true, false, false), 3), ei_li 2, ei_pu (.inl 8, 1, 0), ei_ic ((false, false, true), 3), ei_la 0, ei_gf (0, 1, 29, 0), ei_li 2, ei_pf (10, 2, 0, 81, 0), ei_la 0, ei_gf (0, 1, 29, 0), ei_la 0, ei_gf (0, 1, 29, 0), ei_gf (10, 1, 84, 0), ei_li 2, ei_dv 88, ei_pf (10, 1, 0, 84, 0), ei_pu (.inl 1, 0, 0), ei_si 3, ei_go 0])], 4, 0, 0, 4, ⟨"RegisterColours", "set", "(II)Z"⟩, prog_1_method_2_code, some .boolean)
/-- RegisterColoursModel.set(II)Z -/
noncomputable def mt_61 : ev_M := ([(16, [ei_li 1, ei_if ((true, false, true), 1), ei_la 0, ei_li 2, ei_pf (11, 4, 0, 7, 0), ei_fa 1]),
  (25, [ei_li 1, ei_pu (.inl 1, 0, 0), ei_ic ((true, false, true), 2), ei_la 0, ei_li 2, ei_pf (11, 24, 0, 13, 0), ei_fa 2]),
  (35, [ei_li 1, ei_pu (.inl 2, 0, 0), ei_ic ((true, false, true), 3), ei_la 0, ei_li 2, ei_pf (11, 27, 0, 16, 0), ei_fa 3]),
  (45, [ei_la 0, ei_la 0, ei_la 0, ei_gf (11, 27, 16, 0), ei_la 0, ei_gf (11, 4, 7, 0), ei_ca (40, 3, 12, 150, 0, 0, 0), ei_pf (11, 27, 0, 16, 0), ei_la 0, ei_pu (.inl 0, 0, 0), ei_pf (11, 25, 1, 154, 0), ei_pu (.inl 1, 0, 0), ei_re 0]),
  (0, [ei_la 0, ei_pu (.inl 0, 0, 0), ei_pf (11, 22, 0, 140, 0), ei_la 0, ei_li 1, ei_li 2, ei_ca (62, 3, 12, 146, 0, 0, 0), ei_if ((true, false, true), 0), ei_pu (.inl 0, 0, 0), ei_re 0])], 4, 0, 0, 3, ⟨"RegisterColoursModel", "set", "(II)Z"⟩, prog_14_method_11_code, some .boolean)
/-- RegisterColoursModel.canSet(II)Z -/
noncomputable def mt_62 : ev_M := ([(51, [ei_re 0]),
  (50, [ei_pu (.inl 0, 0, 0), ei_fa 0]),
  (13, [ei_li 1, ei_pu (.inl 1, 0, 0), ei_ic ((true, false, true), 3), ei_la 0, ei_li 2, ei_pu (.inl 1, 0, 0), ei_pu (.inl 4, 0, 0), ei_ca (18, 4, 12, 143, 0, 0, 0), ei_go 0]),
  (28, [ei_li 1, ei_pu (.inl 2, 0, 0), ei_ic ((true, false, true), 1), ei_la 0, ei_li 2, ei_pu (.inl 1, 0, 0), ei_la 0, ei_gf (11, 4, 7, 0), ei_ca (18, 4, 12, 143, 0, 0, 0), ei_if ((false, true, false), 1), ei_pu (.inl 1, 0, 0), ei_go 0]),
  (0, [ei_li 1, ei_if ((true, false, true), 2), ei_la 0, ei_li 2, ei_pu (.inl 2, 0, 0), ei_pu (.inl 8, 1, 0), ei_ca (18, 4, 12, 143, 0, 0, 0), ei_re 0])], 4, 0, 0, 3, ⟨"RegisterColoursModel", "canSet", "(II)Z"⟩, prog_14_method_10_code, some .boolean)
/-- RegisterColours.feed(IIIII)I -/
noncomputable def mt_63 : ev_M := ([(0, [ei_la 0, ei_gf (0, 0, 13, 0), ei_pu (.inl 20, 1, 0), ei_ib 0, ei_pu (.inl 400, 2, 0), ei_ic ((true, true, false), 1)]),
  (15, [ei_la 0, ei_li 1, ei_ca (34, 2, 1, 99, 0, 0, 0), ei_la 0, ei_li 2, ei_ca (34, 2, 1, 99, 0, 0, 0), ei_la 0, ei_li 3, ei_ca (34, 2, 1, 99, 0, 0, 0), ei_la 0, ei_li 4, ei_ca (34, 2, 1, 99, 0, 0, 0), ei_la 0, ei_li 5, ei_ca (34, 2, 1, 99, 0, 0, 0), ei_la 0, ei_gf (0, 0, 13, 0), ei_re 0])], 0, 0, 0, 6, ⟨"RegisterColours", "feed", "(IIIII)I"⟩, prog_1_method_3_code, some .int)
/-- RegisterColoursModel.feed(IIIII)I -/
noncomputable def mt_64 : ev_M := ([(0, [ei_la 0, ei_pu (.inl 0, 0, 0), ei_pf (11, 22, 0, 140, 0), ei_la 0, ei_gf (11, 20, 363, 0), ei_pu (.inl 380, 2, 0), ei_ic ((true, true, false), 1)]),
  (17, [ei_la 0, ei_li 1, ei_ca (35, 2, 12, 366, 0, 0, 0), ei_la 0, ei_li 2, ei_ca (35, 2, 12, 366, 0, 0, 0), ei_la 0, ei_li 3, ei_ca (35, 2, 12, 366, 0, 0, 0), ei_la 0, ei_li 4, ei_ca (35, 2, 12, 366, 0, 0, 0), ei_la 0, ei_li 5, ei_ca (35, 2, 12, 366, 0, 0, 0), ei_la 0, ei_gf (11, 20, 363, 0), ei_re 0])], 0, 0, 0, 6, ⟨"RegisterColoursModel", "feed", "(IIIII)I"⟩, prog_14_method_67_code, some .int)
/-- RegisterColours.end(I)Z -/
noncomputable def mt_65 : ev_M := ([(12, [ei_pu (.inl 0, 0, 0), ei_re 0]),
  (0, [ei_li 1, ei_if ((true, false, false), 0), ei_li 1, ei_la 0, ei_gf (0, 0, 13, 0), ei_ic ((true, true, false), 2), ei_fa 0]),
  (14, [ei_la 0, ei_li 1, ei_pf (0, 0, 0, 13, 0), ei_pu (.inl 1, 0, 0), ei_re 0])], 1, 0, 0, 2, ⟨"RegisterColours", "end", "(I)Z"⟩, prog_1_method_4_code, some .boolean)
/-- RegisterColoursModel.end(I)Z -/
noncomputable def mt_66 : ev_M := ([(0, [ei_la 0, ei_pu (.inl 0, 0, 0), ei_pf (11, 22, 0, 140, 0), ei_la 0, ei_li 1, ei_pu (.inl 0, 0, 0), ei_la 0, ei_gf (11, 20, 363, 0), ei_ca (18, 4, 12, 143, 0, 0, 0), ei_if ((true, false, true), 1), ei_pu (.inl 0, 0, 0), ei_re 0]),
  (20, [ei_la 0, ei_li 1, ei_pf (11, 20, 0, 363, 0), ei_pu (.inl 1, 0, 0), ei_re 0])], 0, 0, 0, 2, ⟨"RegisterColoursModel", "end", "(I)Z"⟩, prog_14_method_68_code, some .boolean)
/-- RegisterColours.code()I -/
noncomputable def mt_67 : ev_M := ([(0, [ei_la 0, ei_gf (0, 6, 22, 0), ei_la 0, ei_gf (0, 0, 13, 0), ei_ca (68, 2, 7, 103, 0, 0, 0), ei_si 1, ei_la 0, ei_pu (.inl 0, 0, 0), ei_pf (0, 0, 0, 13, 0), ei_li 1, ei_if ((true, false, true), 1)]),
  (23, [ei_la 0, ei_gf (0, 1, 29, 0), ei_gf (10, 5, 39, 0), ei_la 0, ei_gf (0, 6, 22, 0), ei_gf (6, 2, 107, 0), ei_ca (36, 2, 10, 110, 0, 0, 0), ei_la 0, ei_gf (0, 1, 29, 0), ei_la 0, ei_gf (0, 6, 22, 0), ei_gf (6, 0, 116, 0), ei_pf (10, 7, 0, 119, 0), ei_la 0, ei_ca (30, 1, 1, 96, 0, 0, 0), ei_la 0, ei_gf (0, 1, 29, 0), ei_gf (10, 7, 119, 0), ei_re 0])], 0, 0, 0, 2, ⟨"RegisterColours", "code", "()I"⟩, prog_1_method_5_code, some .int)
/-- RegisterColours$Reader.readText(I)Z -/
noncomputable def mt_68 : ev_M := ([(0, [ei_la 0, ei_li 1, ei_ca (69, 2, 7, 53, 0, 0, 0), ei_la 0, ei_pu (.inl 0, 0, 0), ei_pf (6, 5, 0, 46, 0), ei_la 0, ei_pu (.inl 0, 0, 0), ei_pf (6, 0, 0, 20, 0), ei_la 0, ei_pu (.inl 0, 0, 0), ei_pf (6, 1, 0, 24, 0), ei_la 0, ei_pu (.inl 4294967295, 0, 0), ei_pf (6, 3, 0, 27, 0), ei_la 0, ei_gf (6, 2, 14, 0), ei_pu (.inl 0, 0, 0), ei_pf (9, 0, 0, 56, 0), ei_pu (.inl 0, 0, 0), ei_si 2, ei_li 2, ei_pu (.inl 40, 1, 0), ei_ic ((false, false, true), 1), ei_la 0, ei_gf (6, 4, 30, 0), ei_la 0, ei_gf (6, 5, 46, 0), ei_al 0, ei_if ((false, true, false), 1)]),
  (70, [ei_la 0, ei_gf (6, 1, 24, 0), ei_if ((true, false, true), 2), ei_la 0, ei_ca (70, 1, 7, 62, 0, 0, 0), ei_fa 2]),
  (81, [ei_la 0, ei_gf (6, 1, 24, 0), ei_if ((true, false, true), 4), ei_pu (.inl 1, 0, 0), ei_go 3]),
  (93, [ei_re 0]),
  (92, [])], 0, 0, 0, 3, ⟨"RegisterColours$Reader", "readText", "(I)Z"⟩, prog_8_method_2_code, some .boolean)
/-- RegisterColours$Reader.cutTokens(I)V -/
noncomputable def mt_69 : ev_M := ([(0, [ei_pu (.inl 0, 0, 0), ei_si 2, ei_pu (.inl 0, 0, 0), ei_si 3, ei_pu (.inl 0, 0, 0), ei_si 4, ei_li 4, ei_pu (.inl 400, 2, 0), ei_ic ((false, true, true), 1), ei_li 3, ei_li 1, ei_ic ((false, true, true), 1)]),
  (99, [ei_la 0, ei_gf (6, 4, 30, 0), ei_li 2, ei_pu (.inl 0, 0, 0), ei_as 0, ei_la 0, ei_gf (6, 6, 34, 0), ei_li 2, ei_li 1, ei_as 0, ei_re 2])], 0, 0, 0, 6, ⟨"RegisterColours$Reader", "cutTokens", "(I)V"⟩, prog_8_method_18_code, none)
/-- RegisterColours$Reader.settleJumps()V -/
noncomputable def mt_70 : ev_M := ([(0, [ei_la 0, ei_gf (6, 7, 40, 0), ei_la 0, ei_gf (6, 0, 20, 0), ei_la 0, ei_gf (6, 2, 14, 0), ei_gf (9, 0, 56, 0), ei_as 0, ei_pu (.inl 0, 0, 0), ei_si 1, ei_li 1, ei_la 0, ei_gf (6, 0, 20, 0), ei_ic ((false, true, true), 1)]),
  (114, [ei_re 2])], 0, 0, 0, 3, ⟨"RegisterColours$Reader", "settleJumps", "()V"⟩, prog_8_method_17_code, none)
/-- RegisterColoursModel.code()I -/
noncomputable def mt_71 : ev_M := ([(0, [ei_la 0, ei_pu (.inl 0, 0, 0), ei_pf (11, 22, 0, 140, 0), ei_la 0, ei_pu (.inl 0, 0, 0), ei_pf (11, 47, 0, 448, 0), ei_la 0, ei_pu (.inl 4294967295, 0, 0), ei_pf (11, 34, 0, 96, 0), ei_la 0, ei_ca (72, 1, 12, 451, 0, 0, 0), ei_si 1, ei_la 0, ei_pu (.inl 0, 0, 0), ei_pf (11, 20, 0, 363, 0), ei_li 1, ei_pu (.inl 4294967295, 0, 0), ei_ic ((true, false, true), 1)]),
  (48, [ei_pu (.inl 0, 0, 0), ei_si 2, ei_li 2, ei_pu (.inl 6, 1, 0), ei_li 1, ei_ib 1, ei_ic ((false, true, true), 2)]),
  (76, [ei_la 0, ei_li 1, ei_pf (11, 30, 0, 445, 0), ei_la 0, ei_ca (74, 1, 12, 454, 0, 0, 0), ei_la 0, ei_pu (.inl 0, 0, 0), ei_pf (11, 25, 1, 154, 0), ei_li 1, ei_re 0])], 0, 0, 0, 3, ⟨"RegisterColoursModel", "code", "()I"⟩, prog_14_method_89_code, some .int)
/-- RegisterColoursModel.readCode()I -/
noncomputable def mt_72 : ev_M := ([(0, [ei_la 0, ei_pu (.inl 0, 0, 0), ei_pf (11, 35, 0, 414, 0), ei_la 0, ei_pu (.inl 0, 0, 0), ei_pf (11, 31, 0, 369, 0), ei_la 0, ei_ca (73, 1, 12, 408, 0, 0, 0), ei_la 0, ei_gf (11, 33, 378, 0), ei_if ((false, true, false), 1)]),
  (31, [ei_pu (.inl 0, 0, 0), ei_si 1, ei_li 1, ei_la 0, ei_gf (11, 35, 414, 0), ei_ic ((false, true, true), 2)]),
  (120, [ei_la 0, ei_gf (11, 35, 414, 0), ei_re 0])], 0, 0, 0, 4, ⟨"RegisterColoursModel", "readCode", "()I"⟩, prog_14_method_87_code, some .int)
/-- RegisterColoursModel.reads()V -/
noncomputable def mt_73 : ev_M := ([(0, [ei_la 0, ei_la 0, ei_gf (11, 31, 369, 0), ei_ca (41, 2, 12, 372, 0, 0, 0), ei_pu (.inl 32, 1, 0), ei_ic ((false, true, false), 2), ei_la 0, ei_la 0, ei_gf (11, 31, 369, 0), ei_ca (41, 2, 12, 372, 0, 0, 0), ei_pu (.inl 10, 1, 0), ei_ic ((true, false, true), 1), ei_fa 2]),
  (39, [ei_la 0, ei_la 0, ei_gf (11, 31, 369, 0), ei_pf (11, 62, 0, 375, 0), ei_la 0, ei_pu (.inl 1, 0, 0), ei_pf (11, 33, 0, 378, 0), ei_la 0, ei_la 0, ei_gf (11, 31, 369, 0), ei_ca (41, 2, 12, 372, 0, 0, 0), ei_si 1, ei_li 1, ei_pu (.inl 4294967295, 0, 0), ei_ic ((true, false, true), 3), ei_la 0, ei_pu (.inl 0, 0, 0), ei_pf (11, 33, 0, 378, 0), ei_re 2]),
  (26, []),
  (72, [])], 0, 0, 0, 2, ⟨"RegisterColoursModel", "reads", "()V"⟩, prog_14_method_74_code, none)
/-- RegisterColoursModel.makesSteps()V -/
noncomputable def mt_74 : ev_M := ([(0, [ei_la 0, ei_gf (11, 19, 23, 0), ei_pu (.inl 0, 0, 0), ei_pu (.inl 0, 0, 0), ei_as 0, ei_pu (.inl 0, 0, 0), ei_si 1, ei_li 1, ei_la 0, ei_gf (11, 30, 445, 0), ei_ic ((false, true, true), 1)]),
  (142, [ei_la 0, ei_gf (11, 49, 105, 0), ei_la 0, ei_gf (11, 30, 445, 0), ei_la 0, ei_gf (11, 19, 23, 0), ei_pu (.inl 0, 0, 0), ei_al 0, ei_as 0, ei_pu (.inl 0, 0, 0), ei_si 1, ei_li 1, ei_la 0, ei_gf (11, 19, 23, 0), ei_pu (.inl 0, 0, 0), ei_al 0, ei_ic ((false, true, true), 2)]),
  (209, [ei_re 2])], 0, 0, 0, 3, ⟨"RegisterColoursModel", "makesSteps", "()V"⟩, prog_14_method_88_code, none)
/-- RegisterColours.fault(I)I -/
noncomputable def mt_75 : ev_M := ([(28, [ei_re 0]),
  (12, [ei_li 1, ei_pu (.inl 1, 0, 0), ei_ic ((true, false, true), 2), ei_la 0, ei_gf (0, 6, 22, 0), ei_gf (6, 3, 123, 0), ei_go 0]),
  (27, [ei_pu (.inl 4294967295, 0, 0), ei_fa 0]),
  (0, [ei_li 1, ei_if ((true, false, true), 1), ei_la 0, ei_gf (0, 6, 22, 0), ei_gf (6, 1, 120, 0), ei_re 0])], 3, 0, 0, 2, ⟨"RegisterColours", "fault", "(I)I"⟩, prog_1_method_6_code, some .int)
/-- RegisterColoursModel.fault(I)I -/
noncomputable def mt_76 : ev_M := ([(29, [ei_re 0]),
  (16, [ei_li 1, ei_pu (.inl 1, 0, 0), ei_ic ((true, false, true), 2), ei_la 0, ei_gf (11, 34, 96, 0), ei_go 0]),
  (28, [ei_pu (.inl 4294967295, 0, 0), ei_fa 0]),
  (0, [ei_la 0, ei_pu (.inl 0, 0, 0), ei_pf (11, 22, 0, 140, 0), ei_li 1, ei_if ((true, false, true), 1), ei_la 0, ei_gf (11, 47, 448, 0), ei_go 0])], 3, 0, 0, 2, ⟨"RegisterColoursModel", "fault", "(I)I"⟩, prog_14_method_90_code, some .int)
/-- RegisterColours.input(IZ)I -/
noncomputable def mt_77 : ev_M := ([(18, [ei_li 2, ei_if ((false, true, false), 3), ei_la 0, ei_gf (0, 1, 29, 0), ei_gf (10, 8, 129, 0), ei_la 0, ei_gf (0, 1, 29, 0), ei_gf (10, 6, 126, 0), ei_li 1, ei_as 0, ei_la 0, ei_gf (0, 1, 29, 0), ei_st 0, ei_gf (10, 6, 126, 0), ei_pu (.inl 1, 0, 0), ei_ib 0, ei_pf (10, 6, 0, 126, 0), ei_go 1]),
  (62, [ei_la 0, ei_pu (.inl 4294967295, 0, 0), ei_pf (0, 5, 0, 63, 0), ei_la 0, ei_gf (0, 1, 29, 0), ei_gf (10, 6, 126, 0), ei_re 0]),
  (0, [ei_li 2, ei_if ((false, true, false), 0), ei_la 0, ei_gf (0, 1, 29, 0), ei_gf (10, 6, 126, 0), ei_pu (.inl 16, 1, 0), ei_ic ((true, false, false), 0)]),
  (54, [ei_la 0, ei_gf (0, 1, 29, 0), ei_pu (.inl 0, 0, 0), ei_pf (10, 6, 0, 126, 0), ei_fa 1])], 2, 0, 0, 3, ⟨"RegisterColours", "input", "(IZ)I"⟩, prog_1_method_7_code, some .int)
/-- RegisterColoursModel.input(IZ)I -/
noncomputable def mt_78 : ev_M := ([(0, [ei_la 0, ei_pu (.inl 0, 0, 0), ei_pf (11, 22, 0, 140, 0), ei_li 2, ei_if ((true, false, true), 1), ei_la 0, ei_pu (.inl 0, 0, 0), ei_pf (11, 28, 0, 457, 0), ei_pu (.inl 0, 0, 0), ei_re 0]),
  (16, [ei_la 0, ei_gf (11, 28, 457, 0), ei_pu (.inl 16, 1, 0), ei_ic ((true, false, true), 2)]),
  (27, [ei_la 0, ei_gf (11, 36, 108, 0), ei_la 0, ei_gf (11, 28, 457, 0), ei_li 1, ei_as 0, ei_la 0, ei_la 0, ei_gf (11, 28, 457, 0), ei_pu (.inl 1, 0, 0), ei_ib 0, ei_pf (11, 28, 0, 457, 0), ei_la 0, ei_gf (11, 28, 457, 0), ei_re 0])], 0, 0, 0, 3, ⟨"RegisterColoursModel", "input", "(IZ)I"⟩, prog_14_method_91_code, some .int)
/-- RegisterColours.allocate()I -/
noncomputable def mt_79 : ev_M := ([(0, [ei_la 0, ei_gf (0, 9, 66, 0), ei_nn 1, ei_la 0, ei_nw (1, 132, [.inr (.inl 0), .inr (.inl 0), .inr (.inl 0), .inr (.inl 0), .inr (.inl 0)]), ei_st 0, ei_ca (80, 1, 2, 134, 5, 42, 10695), ei_pf (0, 9, 3, 66, 0), ei_fa 1]),
  (18, [ei_la 0, ei_gf (0, 9, 66, 0), ei_la 0, ei_gf (0, 1, 29, 0), ei_ca (84, 2, 2, 135, 0, 0, 0), ei_si 1, ei_li 1, ei_pu (.inl 4294967295, 0, 0), ei_ic ((false, true, false), 2), ei_la 0, ei_gf (0, 1, 29, 0), ei_gf (10, 9, 139, 0), ei_la 0, ei_gf (0, 9, 66, 0), ei_gf (1, 0, 143, 0), ei_ca (93, 2, 5, 146, 0, 0, 0), ei_la 0, ei_gf (0, 1, 29, 0), ei_pu (.inl 1, 0, 0), ei_pf (10, 3, 1, 151, 0), ei_la 0, ei_pu (.inl 4294967295, 0, 0), ei_pf (0, 5, 0, 63, 0), ei_fa 2]),
  (65, [ei_li 1, ei_re 0])], 0, 43, 10700, 2, ⟨"RegisterColours", "allocate", "()I"⟩, prog_1_method_8_code, some .int)
/-- RegisterColours$Allocator.<init>()V -/
noncomputable def mt_80 : ev_M := ([(0, [ei_la 0, ei_oi 3, ei_la 0, ei_nw (4, 9, [.inr (.inl 0), .inr (.inl 0), .inr (.inl 0), .inl 0, .inr (.inl 0), .inl 0, .inl 0, .inl 0, .inr (.inl 0), .inl 0, .inl 0, .inl 0, .inl 0]), ei_st 0, ei_ca (39, 1, 5, 11, 5, 10, 2806), ei_pf (1, 0, 3, 12, 0), ei_la 0, ei_nw (3, 18, [.inl 0, .inr (.inl 0), .inl 0, .inl 0, .inr (.inl 0), .inl 0, .inr (.inl 0), .inr (.inl 0), .inr (.inl 0), .inr (.inl 0), .inl 0, .inr (.inl 0), .inr (.inl 0), .inl 0, .inr (.inl 0), .inr (.inl 0), .inr (.inl 0), .inr (.inl 0)]), ei_st 0, ei_la 0, ei_gf (1, 0, 12, 0), ei_gf (4, 2, 20, 0), ei_la 0, ei_gf (1, 0, 12, 0), ei_gf (4, 4, 24, 0), ei_ca (47, 3, 4, 28, 2, 10, 3424), ei_pf (1, 3, 3, 31, 0), ei_la 0, ei_nw (5, 35, [.inr (.inl 0), .inr (.inl 0), .inr (.inl 0), .inl 0, .inl 0, .inr (.inl 0)]), ei_st 0, ei_la 0, ei_gf (1, 0, 12, 0), ei_gf (4, 2, 20, 0), ei_la 0, ei_gf (1, 3, 31, 0), ei_ca (81, 3, 6, 37, 2, 2, 600), ei_pf (1, 1, 3, 40, 0), ei_la 0, ei_nw (2, 44, [.inr (.inl 0), .inr (.inl 0), .inr (.inl 0), .inr (.inl 0), .inl 0, .inl 0, .inl 0, .inr (.inl 0), .inr (.inl 0), .inr (.inl 0)]), ei_st 0, ei_la 0, ei_gf (1, 3, 31, 0), ei_ca (82, 2, 3, 46, 2, 6, 1004), ei_pf (1, 2, 3, 49, 0), ei_la 0, ei_nw (8, 53, [.inr (.inl 0), .inr (.inl 0), .inr (.inl 0), .inr (.inl 0), .inr (.inl 0), .inr (.inl 0), .inr (.inl 0)]), ei_st 0, ei_la 0, ei_gf (1, 0, 12, 0), ei_la 0, ei_gf (1, 1, 40, 0), ei_gf (5, 0, 55, 0), ei_ca (83, 3, 9, 58, 2, 9, 2807), ei_pf (1, 4, 3, 61, 0), ei_re 2])], 0, 42, 10695, 1, ⟨"RegisterColours$Allocator", "<init>", "()V"⟩, prog_2_method_1_code, none)
/-- RegisterColours$Merger.<init>(LRegisterColours$Steps;LRegisterColours$Graph;)V -/
noncomputable def mt_81 : ev_M := ([(0, [ei_la 0, ei_oi 3, ei_la 0, ei_pu (.inl 200, 2, 0), ei_na 0, ei_pf (5, 0, 3, 9, 0), ei_la 0, ei_pu (.inl 0, 0, 0), ei_pf (5, 3, 0, 15, 0), ei_la 0, ei_pu (.inl 400, 2, 0), ei_na 0, ei_pf (5, 5, 3, 19, 0), ei_la 0, ei_pu (.inl 0, 0, 0), ei_pf (5, 4, 0, 22, 0), ei_la 0, ei_la 1, ei_pf (5, 2, 3, 25, 0), ei_la 0, ei_la 2, ei_pf (5, 1, 3, 29, 0), ei_re 2])], 0, 2, 600, 3, ⟨"RegisterColours$Merger", "<init>", "(LRegisterColours$Steps;LRegisterColours$Graph;)V"⟩, prog_6_method_1_code, none)
/-- RegisterColours$Colourer.<init>(LRegisterColours$Graph;)V -/
noncomputable def mt_82 : ev_M := ([(0, [ei_la 0, ei_oi 3, ei_la 0, ei_pu (.inl 200, 2, 0), ei_na 0, ei_pf (2, 1, 3, 9, 0), ei_la 0, ei_pu (.inl 200, 2, 0), ei_na 2, ei_pf (2, 2, 3, 15, 0), ei_la 0, ei_pu (.inl 0, 0, 0), ei_pf (2, 4, 0, 19, 0), ei_la 0, ei_pu (.inl 0, 0, 0), ei_pf (2, 5, 0, 23, 0), ei_la 0, ei_pu (.inl 200, 2, 0), ei_na 0, ei_pf (2, 7, 3, 26, 0), ei_la 0, ei_pu (.inl 200, 2, 0), ei_na 2, ei_pf (2, 8, 3, 29, 0), ei_la 0, ei_pu (.inl 0, 0, 0), ei_pf (2, 6, 0, 32, 0), ei_la 0, ei_pu (.inl 200, 2, 0), ei_na 0, ei_pf (2, 9, 3, 35, 0), ei_la 0, ei_la 1, ei_pf (2, 0, 3, 38, 0), ei_la 0, ei_la 1, ei_gf (3, 0, 42, 1), ei_na 1, ei_pf (2, 3, 3, 47, 0), ei_re 2])], 0, 6, 1004, 2, ⟨"RegisterColours$Colourer", "<init>", "(LRegisterColours$Graph;)V"⟩, prog_3_method_1_code, none)
/-- RegisterColours$Spiller.<init>(LRegisterColours$Left;[I)V -/
noncomputable def mt_83 : ev_M := ([(0, [ei_la 0, ei_oi 3, ei_la 0, ei_pu (.inl 200, 2, 0), ei_na 0, ei_pf (8, 0, 3, 9, 0), ei_la 0, ei_pu (.inl 200, 2, 0), ei_na 0, ei_pf (8, 1, 3, 15, 0), ei_la 0, ei_pu (.inl 401, 2, 0), ei_na 0, ei_pf (8, 2, 3, 18, 0), ei_la 0, ei_nw (9, 21, [.inl 0, .inr (.inl 0), .inr (.inl 0), .inr (.inl 0), .inr (.inl 0), .inr (.inl 0)]), ei_st 0, ei_pu (.inl 400, 2, 0), ei_ca (32, 2, 10, 23, 2, 5, 2000), ei_pf (8, 3, 3, 26, 0), ei_la 0, ei_la 1, ei_pf (8, 4, 3, 30, 0), ei_la 0, ei_la 1, ei_gf (4, 2, 34, 0), ei_pf (8, 5, 3, 39, 0), ei_la 0, ei_la 2, ei_pf (8, 6, 3, 40, 0), ei_re 2])], 0, 9, 2807, 3, ⟨"RegisterColours$Spiller", "<init>", "(LRegisterColours$Left;[I)V"⟩, prog_10_method_1_code, none)
/-- RegisterColours$Allocator.doRounds(LRegisterColours$Told;)I -/
noncomputable def mt_84 : ev_M := ([(0, [ei_la 0, ei_gf (1, 0, 12, 0), ei_la 1, ei_gf (10, 5, 65, 0), ei_ca (85, 2, 5, 70, 0, 0, 0), ei_pu (.inl 1, 0, 0), ei_si 2, ei_li 2, ei_pu (.inl 8, 1, 0), ei_ic ((false, false, true), 2), ei_la 0, ei_gf (1, 3, 31, 0), ei_la 1, ei_la 0, ei_gf (1, 0, 12, 0), ei_gf (4, 5, 74, 0), ei_ca (22, 3, 4, 78, 0, 0, 0), ei_la 0, ei_gf (1, 1, 40, 0), ei_ca (86, 1, 6, 82, 0, 0, 0), ei_la 0, ei_gf (1, 2, 49, 0), ei_ca (88, 1, 3, 85, 0, 0, 0), ei_la 0, ei_gf (1, 2, 49, 0), ei_ca (91, 1, 3, 88, 0, 0, 0), ei_la 0, ei_gf (1, 0, 12, 0), ei_la 0, ei_gf (1, 1, 40, 0), ei_gf (5, 3, 91, 0), ei_pf (4, 7, 0, 94, 0), ei_la 0, ei_gf (1, 0, 12, 0), ei_st 0, ei_gf (4, 3, 95, 0), ei_la 0, ei_gf (1, 2, 49, 0), ei_gf (2, 5, 98, 0), ei_ib 0, ei_pf (4, 3, 0, 95, 0), ei_la 0, ei_gf (1, 2, 49, 0), ei_gf (2, 4, 99, 0), ei_if ((true, false, true), 1), ei_la 0, ei_gf (1, 0, 12, 0), ei_li 2, ei_pf (4, 6, 0, 102, 0), ei_la 0, ei_ca (92, 1, 2, 105, 0, 0, 0), ei_li 2, ei_re 0]),
  (112, []),
  (141, [])], 0, 0, 0, 3, ⟨"RegisterColours$Allocator", "doRounds", "(LRegisterColours$Told;)I"⟩, prog_2_method_2_code, some .int)
/-- RegisterColours$Left.begin(LRegisterColours$Steps;)V -/
noncomputable def mt_85 : ev_M := ([(0, [ei_la 0, ei_gf (4, 2, 14, 0), ei_la 1, ei_ca (36, 2, 10, 58, 0, 0, 0), ei_la 0, ei_gf (4, 4, 20, 0), ei_ca (48, 1, 0, 62, 4, 0, 0), ei_la 0, ei_gf (4, 0, 24, 0), ei_pu (.inl 4294967295, 0, 0), ei_ca (19, 2, 0, 66, 1, 0, 0), ei_la 0, ei_gf (4, 8, 27, 0), ei_pu (.inl 0, 0, 0), ei_ca (19, 2, 0, 66, 1, 0, 0), ei_la 0, ei_gf (4, 1, 30, 0), ei_pu (.inl 4294967295, 0, 0), ei_ca (19, 2, 0, 66, 1, 0, 0), ei_la 0, ei_pu (.inl 44, 1, 0), ei_pf (4, 5, 0, 33, 0), ei_la 0, ei_pu (.inl 0, 0, 0), ei_pf (4, 6, 0, 37, 0), ei_la 0, ei_pu (.inl 0, 0, 0), ei_pf (4, 9, 0, 40, 0), ei_la 0, ei_pu (.inl 0, 0, 0), ei_pf (4, 10, 0, 43, 0), ei_la 0, ei_pu (.inl 0, 0, 0), ei_pf (4, 11, 0, 46, 0), ei_la 0, ei_pu (.inl 0, 0, 0), ei_pf (4, 7, 0, 49, 0), ei_la 0, ei_pu (.inl 0, 0, 0), ei_pf (4, 12, 0, 52, 0), ei_la 0, ei_pu (.inl 0, 0, 0), ei_pf (4, 3, 0, 55, 0), ei_re 2])], 0, 0, 0, 2, ⟨"RegisterColours$Left", "begin", "(LRegisterColours$Steps;)V"⟩, prog_5_method_2_code, none)
/-- RegisterColours$Merger.mergeMoves()V -/
noncomputable def mt_86 : ev_M := ([(7, [ei_li 1, ei_pu (.inl 200, 2, 0), ei_ic ((false, true, true), 5), ei_la 0, ei_gf (5, 0, 9, 0), ei_li 1, ei_li 1, ei_la 0, ei_gf (5, 1, 29, 0), ei_gf (3, 2, 33, 0), ei_ic ((false, true, true), 2), ei_la 0, ei_gf (5, 1, 29, 0), ei_li 1, ei_ca (11, 2, 4, 38, 0, 0, 0), ei_if ((false, true, false), 2), ei_li 1, ei_go 1]),
  (46, [ei_as 0, ei_ii (1, 1), ei_go 0]),
  (45, [ei_pu (.inl 4294967295, 0, 0), ei_fa 1]),
  (61, [ei_li 2, ei_pu (.inl 1000000, 5, 45), ei_ic ((false, true, true), 7), ei_li 1, ei_if ((false, true, false), 7), ei_pu (.inl 0, 0, 0), ei_si 1, ei_pu (.inl 0, 0, 0), ei_si 3, ei_li 3, ei_la 0, ei_gf (5, 4, 22, 0), ei_ic ((false, true, true), 6)]),
  (0, [ei_la 0, ei_pu (.inl 0, 0, 0), ei_pf (5, 3, 0, 15, 0), ei_pu (.inl 0, 0, 0), ei_si 1, ei_fa 0]),
  (53, [ei_la 0, ei_ca (87, 1, 6, 42, 0, 0, 0), ei_pu (.inl 1, 0, 0), ei_si 1, ei_pu (.inl 0, 0, 0), ei_si 2, ei_fa 3]),
  (136, [ei_ii (2, 1), ei_go 3]),
  (142, [ei_re 2])], 4, 0, 0, 5, ⟨"RegisterColours$Merger", "mergeMoves", "()V"⟩, prog_6_method_2_code, none)
/-- RegisterColours$Merger.orderMoves()V -/
noncomputable def mt_87 : ev_M := ([(9, [ei_li 1, ei_if ((true, true, false), 3), ei_pu (.inl 0, 0, 0), ei_si 2, ei_li 2, ei_la 0, ei_gf (5, 2, 25, 0), ei_gf (9, 0, 58, 0), ei_ic ((false, true, true), 1)]),
  (83, [ei_li 1, ei_pu (.inl 10, 1, 0), ei_dv 0, ei_si 1, ei_go 0]),
  (0, [ei_la 0, ei_pu (.inl 0, 0, 0), ei_pf (5, 4, 0, 22, 0), ei_pu (.inl 1000, 2, 0), ei_si 1, ei_fa 0]),
  (91, [ei_re 2])], 2, 0, 0, 3, ⟨"RegisterColours$Merger", "orderMoves", "()V"⟩, prog_6_method_3_code, none)
/-- RegisterColours$Colourer.layAll()V -/
noncomputable def mt_88 : ev_M := ([(0, [ei_la 0, ei_gf (2, 0, 38, 0), ei_gf (3, 6, 51, 0), ei_pu (.inl 0, 0, 0), ei_la 0, ei_gf (2, 3, 47, 0), ei_pu (.inl 0, 0, 0), ei_la 0, ei_gf (2, 3, 47, 0), ei_an, ei_cy 54, ei_la 0, ei_pu (.inl 8, 1, 0), ei_ca (42, 2, 3, 60, 0, 0, 0), ei_si 1, ei_li 1, ei_la 0, ei_gf (2, 0, 38, 0), ei_gf (3, 2, 64, 0), ei_ic ((false, true, true), 1)]),
  (68, [ei_la 0, ei_pu (.inl 0, 0, 0), ei_pf (2, 6, 0, 32, 0), ei_pu (.inl 0, 0, 0), ei_si 1, ei_li 1, ei_pu (.inl 200, 2, 0), ei_ic ((false, true, true), 6), ei_la 0, ei_ca (89, 1, 3, 71, 0, 0, 0), ei_si 2, ei_li 2, ei_pu (.inl 4294967295, 0, 0), ei_ic ((true, false, true), 4), ei_pu (.inl 1, 0, 0), ei_go 2]),
  (97, [ei_si 3, ei_li 3, ei_if ((false, true, false), 3), ei_la 0, ei_ca (90, 1, 3, 75, 0, 0, 0), ei_si 2, ei_fa 3]),
  (107, [ei_li 2, ei_pu (.inl 4294967295, 0, 0), ei_ic ((true, false, true), 5), ei_re 2]),
  (96, []),
  (113, []),
  (154, [])], 0, 0, 0, 4, ⟨"RegisterColours$Colourer", "layAll", "()V"⟩, prog_3_method_2_code, none)
/-- RegisterColours$Colourer.leastLight()I -/
noncomputable def mt_89 : ev_M := ([(0, [ei_la 0, ei_pu (.inl 8, 1, 0), ei_ca (42, 2, 3, 60, 0, 0, 0), ei_si 1, ei_li 1, ei_la 0, ei_gf (2, 0, 38, 0), ei_gf (3, 2, 64, 0), ei_ic ((false, true, true), 1)]),
  (48, [ei_pu (.inl 4294967295, 0, 0), ei_re 0])], 0, 0, 0, 2, ⟨"RegisterColours$Colourer", "leastLight", "()I"⟩, prog_3_method_5_code, some .int)
/-- RegisterColours$Colourer.cheapest()I -/
noncomputable def mt_90 : ev_M := ([(0, [ei_pu (.inl 4294967295, 0, 0), ei_si 1, ei_la 0, ei_pu (.inl 8, 1, 0), ei_ca (42, 2, 3, 60, 0, 0, 0), ei_si 2, ei_li 2, ei_la 0, ei_gf (2, 0, 38, 0), ei_gf (3, 2, 64, 0), ei_ic ((false, true, true), 1)]),
  (47, [ei_li 1, ei_re 0])], 0, 0, 0, 3, ⟨"RegisterColours$Colourer", "cheapest", "()I"⟩, prog_3_method_6_code, some .int)
/-- RegisterColours$Colourer.colourAll()V -/
noncomputable def mt_91 : ev_M := ([(12, [ei_li 1, ei_pu (.inl 200, 2, 0), ei_ic ((false, true, true), 4), ei_la 0, ei_gf (2, 1, 9, 0), ei_li 1, ei_li 1, ei_la 0, ei_gf (2, 0, 38, 0), ei_gf (3, 3, 107, 0), ei_ic ((false, true, true), 2), ei_li 1, ei_go 1]),
  (40, [ei_as 0, ei_la 0, ei_gf (2, 2, 15, 0), ei_li 1, ei_pu (.inl 0, 0, 0), ei_as 2, ei_ii (1, 1), ei_go 0]),
  (39, [ei_pu (.inl 4294967295, 0, 0), ei_fa 1]),
  (0, [ei_la 0, ei_pu (.inl 0, 0, 0), ei_pf (2, 4, 0, 19, 0), ei_la 0, ei_pu (.inl 0, 0, 0), ei_pf (2, 5, 0, 23, 0), ei_pu (.inl 0, 0, 0), ei_si 1, ei_fa 0]),
  (54, [ei_la 0, ei_gf (2, 6, 32, 0), ei_pu (.inl 1, 0, 0), ei_ib 4, ei_si 1, ei_li 1, ei_if ((true, false, false), 5)]),
  (151, [ei_re 2])], 3, 0, 0, 3, ⟨"RegisterColours$Colourer", "colourAll", "()V"⟩, prog_3_method_8_code, none)
/-- RegisterColours$Allocator.keepColours()V -/
noncomputable def mt_92 : ev_M := ([(2, [ei_li 1, ei_pu (.inl 200, 2, 0), ei_ic ((false, true, true), 4), ei_la 0, ei_gf (1, 1, 40, 0), ei_gf (5, 0, 55, 0), ei_li 1, ei_al 0, ei_si 2, ei_la 0, ei_gf (1, 0, 12, 0), ei_gf (4, 1, 115, 0), ei_li 1, ei_li 2, ei_as 0, ei_la 0, ei_gf (1, 0, 12, 0), ei_gf (4, 0, 118, 0), ei_li 1, ei_li 2, ei_if ((false, true, true), 2), ei_pu (.inl 4294967295, 0, 0), ei_go 1]),
  (54, [ei_as 0, ei_ii (1, 1), ei_go 0]),
  (45, [ei_la 0, ei_gf (1, 2, 49, 0), ei_gf (2, 1, 121, 0), ei_li 2, ei_al 0, ei_fa 1]),
  (0, [ei_pu (.inl 0, 0, 0), ei_si 1, ei_fa 0]),
  (61, [ei_re 2])], 3, 0, 0, 3, ⟨"RegisterColours$Allocator", "keepColours", "()V"⟩, prog_2_method_3_code, none)
/-- RegisterColours$Left.takeFrom(LRegisterColours$Left;)V -/
noncomputable def mt_93 : ev_M := ([(0, [ei_la 0, ei_gf (4, 2, 14, 0), ei_la 1, ei_gf (4, 2, 14, 0), ei_ca (36, 2, 10, 58, 0, 0, 0), ei_la 1, ei_gf (4, 4, 20, 0), ei_pu (.inl 0, 0, 0), ei_la 0, ei_gf (4, 4, 20, 0), ei_pu (.inl 0, 0, 0), ei_pu (.inl 200, 2, 0), ei_cy 72, ei_la 1, ei_gf (4, 0, 24, 0), ei_pu (.inl 0, 0, 0), ei_la 0, ei_gf (4, 0, 24, 0), ei_pu (.inl 0, 0, 0), ei_pu (.inl 200, 2, 0), ei_cy 72, ei_la 1, ei_gf (4, 8, 27, 0), ei_pu (.inl 0, 0, 0), ei_la 0, ei_gf (4, 8, 27, 0), ei_pu (.inl 0, 0, 0), ei_pu (.inl 200, 2, 0), ei_cy 72, ei_la 1, ei_gf (4, 1, 30, 0), ei_pu (.inl 0, 0, 0), ei_la 0, ei_gf (4, 1, 30, 0), ei_pu (.inl 0, 0, 0), ei_pu (.inl 200, 2, 0), ei_cy 72, ei_la 0, ei_la 1, ei_gf (4, 5, 33, 0), ei_pf (4, 5, 0, 33, 0), ei_la 0, ei_la 1, ei_gf (4, 6, 37, 0), ei_pf (4, 6, 0, 37, 0), ei_la 0, ei_la 1, ei_gf (4, 9, 40, 0), ei_pf (4, 9, 0, 40, 0), ei_la 0, ei_la 1, ei_gf (4, 10, 43, 0), ei_pf (4, 10, 0, 43, 0), ei_la 0, ei_la 1, ei_gf (4, 11, 46, 0), ei_pf (4, 11, 0, 46, 0), ei_la 0, ei_la 1, ei_gf (4, 7, 49, 0), ei_pf (4, 7, 0, 49, 0), ei_la 0, ei_la 1, ei_gf (4, 12, 52, 0), ei_pf (4, 12, 0, 52, 0), ei_la 0, ei_la 1, ei_gf (4, 3, 55, 0), ei_pf (4, 3, 0, 55, 0), ei_re 2])], 0, 0, 0, 2, ⟨"RegisterColours$Left", "takeFrom", "(LRegisterColours$Left;)V"⟩, prog_5_method_3_code, none)
/-- RegisterColoursModel.allocate()I -/
noncomputable def mt_94 : ev_M := ([(13, [ei_li 1, ei_pu (.inl 200, 2, 0), ei_ic ((false, true, true), 2), ei_la 0, ei_gf (11, 9, 72, 0), ei_li 1, ei_pu (.inl 0, 0, 0), ei_as 0, ei_ii (1, 1), ei_go 0]),
  (0, [ei_la 0, ei_pu (.inl 0, 0, 0), ei_pf (11, 22, 0, 140, 0), ei_la 0, ei_pu (.inl 0, 0, 0), ei_pu (.inl 1, 0, 0), ei_ca (49, 3, 12, 327, 0, 0, 0), ei_pu (.inl 0, 0, 0), ei_si 1, ei_fa 0]),
  (33, [ei_la 0, ei_pu (.inl 0, 0, 0), ei_pf (11, 43, 0, 293, 0), ei_la 0, ei_pu (.inl 0, 0, 0), ei_pf (11, 44, 0, 299, 0), ei_la 0, ei_pu (.inl 0, 0, 0), ei_pf (11, 45, 0, 296, 0), ei_la 0, ei_pu (.inl 0, 0, 0), ei_pf (11, 46, 0, 302, 0), ei_la 0, ei_pu (.inl 0, 0, 0), ei_pf (11, 42, 0, 281, 0), ei_la 0, ei_pu (.inl 44, 1, 0), ei_pf (11, 60, 0, 305, 0), ei_la 0, ei_ca (95, 1, 12, 357, 0, 0, 0), ei_si 1, ei_li 1, ei_pu (.inl 4294967295, 0, 0), ei_ic ((false, true, false), 3), ei_la 0, ei_li 1, ei_ca (100, 2, 12, 360, 0, 0, 0), ei_fa 3]),
  (79, [ei_li 1, ei_re 0])], 1, 0, 0, 2, ⟨"RegisterColoursModel", "allocate", "()I"⟩, prog_14_method_63_code, some .int)
/-- RegisterColoursModel.rounds()I -/
noncomputable def mt_95 : ev_M := ([(0, [ei_pu (.inl 1, 0, 0), ei_si 1, ei_li 1, ei_pu (.inl 9, 1, 0), ei_ic ((false, false, true), 2), ei_la 0, ei_pu (.inl 1, 0, 0), ei_ca (21, 2, 12, 330, 0, 0, 0), ei_la 0, ei_ca (96, 1, 12, 333, 0, 0, 0), ei_la 0, ei_ca (97, 1, 12, 336, 0, 0, 0), ei_la 0, ei_ca (99, 1, 12, 339, 0, 0, 0), ei_if ((true, false, true), 1), ei_li 1, ei_re 0]),
  (30, []),
  (57, [])], 0, 0, 0, 2, ⟨"RegisterColoursModel", "rounds", "()I"⟩, prog_14_method_59_code, some .int)
/-- RegisterColoursModel.mergesAll()V -/
noncomputable def mt_96 : ev_M := ([(9, [ei_li 1, ei_if ((true, true, false), 4), ei_pu (.inl 0, 0, 0), ei_si 2, ei_li 2, ei_la 0, ei_gf (11, 19, 23, 0), ei_pu (.inl 1, 0, 0), ei_al 0, ei_ic ((false, true, true), 1)]),
  (73, [ei_li 1, ei_pu (.inl 10, 1, 0), ei_dv 0, ei_si 1, ei_go 0]),
  (88, [ei_li 1, ei_if ((false, true, false), 6), ei_pu (.inl 0, 0, 0), ei_si 1, ei_pu (.inl 0, 0, 0), ei_si 2, ei_li 2, ei_la 0, ei_gf (11, 39, 256, 0), ei_ic ((false, true, true), 5)]),
  (0, [ei_la 0, ei_pu (.inl 0, 0, 0), ei_pf (11, 39, 0, 256, 0), ei_pu (.inl 1000, 2, 0), ei_si 1, ei_fa 0]),
  (81, [ei_la 0, ei_pu (.inl 0, 0, 0), ei_pf (11, 40, 0, 259, 0), ei_pu (.inl 1, 0, 0), ei_si 1, ei_fa 2]),
  (138, [ei_go 2]),
  (141, [ei_re 2])], 3, 0, 0, 3, ⟨"RegisterColoursModel", "mergesAll", "()V"⟩, prog_14_method_43_code, none)
/-- RegisterColoursModel.laysAll()V -/
noncomputable def mt_97 : ev_M := ([(0, [ei_la 0, ei_pu (.inl 0, 0, 0), ei_pf (11, 41, 0, 268, 0), ei_la 0, ei_ca (98, 1, 12, 271, 0, 0, 0), ei_si 1, ei_li 1, ei_pu (.inl 4294967295, 0, 0), ei_ic ((false, true, false), 1)]),
  (61, [ei_re 2])], 0, 0, 0, 2, ⟨"RegisterColoursModel", "laysAll", "()V"⟩, prog_14_method_46_code, none)
/-- RegisterColoursModel.nextOut()I -/
noncomputable def mt_98 : ev_M := ([(7, [ei_li 2, ei_pu (.inl 200, 2, 0), ei_ic ((false, true, true), 3), ei_la 0, ei_gf (11, 0, 51, 0), ei_li 2, ei_al 2, ei_if ((true, false, true), 4), ei_go 1]),
  (52, [ei_ii (2, 1), ei_go 0]),
  (0, [ei_pu (.inl 4294967295, 0, 0), ei_si 1, ei_la 0, ei_gf (11, 4, 7, 0), ei_si 2, ei_fa 0]),
  (58, [ei_li 1, ei_re 0]),
  (26, [])], 2, 0, 0, 3, ⟨"RegisterColoursModel", "nextOut", "()I"⟩, prog_14_method_45_code, some .int)
/-- RegisterColoursModel.coloursAll()I -/
noncomputable def mt_99 : ev_M := ([(2, [ei_li 1, ei_pu (.inl 200, 2, 0), ei_ic ((false, true, true), 4), ei_la 0, ei_gf (11, 12, 63, 0), ei_li 1, ei_la 0, ei_li 1, ei_ca (0, 2, 12, 228, 0, 0, 0), ei_if ((false, true, false), 2), ei_li 1, ei_go 1]),
  (27, [ei_as 0, ei_ii (1, 1), ei_go 0]),
  (26, [ei_pu (.inl 4294967295, 0, 0), ei_fa 1]),
  (0, [ei_pu (.inl 0, 0, 0), ei_si 1, ei_fa 0]),
  (34, [ei_pu (.inl 0, 0, 0), ei_si 1, ei_la 0, ei_gf (11, 41, 268, 0), ei_pu (.inl 1, 0, 0), ei_ib 4, ei_si 2, ei_li 2, ei_if ((true, false, false), 5)]),
  (107, [ei_li 1, ei_re 0])], 3, 0, 0, 4, ⟨"RegisterColoursModel", "coloursAll", "()I"⟩, prog_14_method_49_code, some .int)
/-- RegisterColoursModel.keepsLeft(I)V -/
noncomputable def mt_100 : ev_M := ([(8, [ei_li 2, ei_pu (.inl 200, 2, 0), ei_ic ((false, true, true), 6), ei_la 0, ei_gf (11, 14, 78, 0), ei_li 2, ei_la 0, ei_gf (11, 2, 44, 0), ei_li 2, ei_al 2, ei_if ((false, true, false), 3), ei_la 0, ei_gf (11, 12, 63, 0), ei_la 0, ei_gf (11, 7, 48, 0), ei_li 2, ei_al 0, ei_al 0, ei_go 1]),
  (44, [ei_as 0, ei_la 0, ei_gf (11, 16, 84, 0), ei_li 2, ei_la 0, ei_gf (11, 2, 44, 0), ei_li 2, ei_al 2, ei_if ((false, true, false), 4), ei_la 0, ei_gf (11, 7, 48, 0), ei_li 2, ei_al 0, ei_go 2]),
  (69, [ei_as 0, ei_la 0, ei_gf (11, 15, 81, 0), ei_li 2, ei_la 0, ei_gf (11, 9, 72, 0), ei_li 2, ei_al 0, ei_as 0, ei_la 0, ei_gf (11, 13, 29, 0), ei_li 2, ei_la 0, ei_gf (11, 11, 26, 0), ei_li 2, ei_al 0, ei_as 0, ei_ii (2, 1), ei_go 0]),
  (43, [ei_pu (.inl 4294967295, 0, 0), ei_fa 1]),
  (68, [ei_pu (.inl 4294967295, 0, 0), ei_fa 2]),
  (0, [ei_la 0, ei_pu (.inl 1, 0, 0), ei_pu (.inl 3, 0, 0), ei_ca (49, 3, 12, 327, 0, 0, 0), ei_pu (.inl 0, 0, 0), ei_si 2, ei_fa 0]),
  (100, [ei_la 0, ei_gf (11, 26, 87, 0), ei_pu (.inl 0, 0, 0), ei_li 1, ei_as 0, ei_la 0, ei_gf (11, 26, 87, 0), ei_pu (.inl 1, 0, 0), ei_la 0, ei_gf (11, 19, 23, 0), ei_pu (.inl 3, 0, 0), ei_al 0, ei_as 0, ei_la 0, ei_gf (11, 26, 87, 0), ei_pu (.inl 2, 0, 0), ei_la 0, ei_gf (11, 43, 293, 0), ei_as 0, ei_la 0, ei_gf (11, 26, 87, 0), ei_pu (.inl 3, 0, 0), ei_la 0, ei_gf (11, 44, 299, 0), ei_as 0, ei_la 0, ei_gf (11, 26, 87, 0), ei_pu (.inl 4, 0, 0), ei_la 0, ei_gf (11, 45, 296, 0), ei_as 0, ei_la 0, ei_gf (11, 26, 87, 0), ei_pu (.inl 5, 0, 0), ei_la 0, ei_gf (11, 40, 259, 0), ei_as 0, ei_la 0, ei_gf (11, 26, 87, 0), ei_pu (.inl 6, 1, 0), ei_pu (.inl 0, 0, 0), ei_as 0, ei_la 0, ei_gf (11, 26, 87, 0), ei_pu (.inl 7, 1, 0), ei_pu (.inl 0, 0, 0), ei_as 0, ei_pu (.inl 0, 0, 0), ei_si 2, ei_li 2, ei_la 0, ei_gf (11, 19, 23, 0), ei_pu (.inl 3, 0, 0), ei_al 0, ei_ic ((false, true, true), 7)]),
  (264, [ei_la 0, ei_gf (11, 26, 87, 0), ei_pu (.inl 8, 1, 0), ei_la 0, ei_pu (.inl 0, 0, 0), ei_ca (50, 2, 12, 349, 0, 0, 0), ei_as 0, ei_la 0, ei_gf (11, 26, 87, 0), ei_pu (.inl 9, 1, 0), ei_la 0, ei_pu (.inl 1, 0, 0), ei_ca (50, 2, 12, 349, 0, 0, 0), ei_as 0, ei_la 0, ei_gf (11, 26, 87, 0), ei_pu (.inl 10, 1, 0), ei_la 0, ei_gf (11, 46, 302, 0), ei_as 0, ei_la 0, ei_gf (11, 26, 87, 0), ei_pu (.inl 11, 1, 0), ei_la 0, ei_gf (11, 42, 281, 0), ei_as 0, ei_la 0, ei_pu (.inl 1, 0, 0), ei_pf (11, 25, 1, 154, 0), ei_re 2])], 5, 0, 0, 3, ⟨"RegisterColoursModel", "keepsLeft", "(I)V"⟩, prog_14_method_60_code, none)
/-- RegisterColours.step(IZI)I -/
noncomputable def mt_101 : ev_M := ([(55, [ei_pu (.inl 4294967295, 0, 0), ei_re 0]),
  (0, [ei_li 2, ei_if ((false, true, false), 2), ei_la 0, ei_gf (0, 1, 29, 0), ei_gf (10, 3, 151, 0), ei_if ((true, false, true), 2), ei_pu (.inl 4294967295, 0, 0), ei_re 0]),
  (16, [ei_li 2, ei_if ((false, true, false), 3)]),
  (33, [ei_la 0, ei_gf (0, 1, 29, 0), ei_gf (10, 5, 39, 0), ei_sa 4, ei_li 1, ei_if ((true, false, false), 0), ei_li 1, ei_la 4, ei_gf (9, 0, 155, 0), ei_ic ((true, false, false), 4), ei_fa 0]),
  (57, [])], 1, 0, 0, 5, ⟨"RegisterColours", "step", "(IZI)I"⟩, prog_1_method_9_code, some .int)
/-- RegisterColoursModel.step(IZI)I -/
noncomputable def mt_102 : ev_M := ([(56, [ei_pu (.inl 4294967295, 0, 0), ei_re 0]),
  (14, [ei_si 4, ei_li 2, ei_if ((false, true, false), 4), ei_la 0, ei_gf (11, 25, 154, 0), ei_if ((false, true, false), 0), ei_fa 4]),
  (0, [ei_la 0, ei_pu (.inl 0, 0, 0), ei_pf (11, 22, 0, 140, 0), ei_li 2, ei_if ((false, true, false), 3), ei_pu (.inl 3, 0, 0), ei_go 1]),
  (13, [ei_pu (.inl 0, 0, 0), ei_fa 1]),
  (27, [ei_la 0, ei_li 1, ei_pu (.inl 0, 0, 0), ei_la 0, ei_gf (11, 19, 23, 0), ei_li 4, ei_al 0, ei_pu (.inl 1, 0, 0), ei_ib 4, ei_ca (18, 4, 12, 143, 0, 0, 0), ei_if ((false, true, false), 0)])], 2, 0, 0, 7, ⟨"RegisterColoursModel", "step", "(IZI)I"⟩, prog_14_method_107_code, some .int)
/-- RegisterColours.live(II)I -/
noncomputable def mt_103 : ev_M := ([(26, [ei_pu (.inl 4294967295, 0, 0), ei_re 0]),
  (0, [ei_li 1, ei_if ((true, false, false), 0), ei_li 1, ei_la 0, ei_gf (0, 1, 29, 0), ei_gf (10, 5, 39, 0), ei_gf (9, 0, 155, 0), ei_ic ((false, true, true), 0)])], 1, 0, 0, 3, ⟨"RegisterColours", "live", "(II)I"⟩, prog_1_method_10_code, some .int)
/-- RegisterColoursModel.live(II)I -/
noncomputable def mt_104 : ev_M := ([(30, [ei_pu (.inl 4294967295, 0, 0), ei_re 0]),
  (0, [ei_la 0, ei_pu (.inl 0, 0, 0), ei_pf (11, 22, 0, 140, 0), ei_la 0, ei_li 1, ei_pu (.inl 0, 0, 0), ei_la 0, ei_gf (11, 19, 23, 0), ei_pu (.inl 0, 0, 0), ei_al 0, ei_pu (.inl 1, 0, 0), ei_ib 4, ei_ca (18, 4, 12, 143, 0, 0, 0), ei_if ((false, true, false), 0)])], 1, 0, 0, 3, ⟨"RegisterColoursModel", "live", "(II)I"⟩, prog_14_method_108_code, some .int)
/-- RegisterColours.value(II)I -/
noncomputable def mt_105 : ev_M := ([(97, [ei_pu (.inl 4294967295, 0, 0), ei_re 0]),
  (10, [ei_la 0, ei_ca (28, 1, 1, 173, 0, 0, 0), ei_sa 3, ei_li 2, ei_tw (2147483648, 0, [2, 3, 4, 5, 6], 36)]),
  (52, [ei_la 3, ei_li 1, ei_ca (11, 2, 4, 195, 0, 0, 0), ei_ca (1, 1, 0, 191, 1, 0, 0), ei_re 0]),
  (61, [ei_la 3, ei_gf (3, 11, 198, 0), ei_li 1, ei_al 0, ei_re 0]),
  (68, [ei_la 3, ei_li 1, ei_la 3, ei_gf (3, 6, 201, 0), ei_ca (44, 3, 4, 205, 0, 0, 0), ei_re 0]),
  (78, [ei_la 3, ei_li 1, ei_ca (17, 2, 4, 209, 0, 0, 0), ei_re 0]),
  (84, [ei_la 3, ei_li 1, ei_la 3, ei_gf (3, 6, 201, 0), ei_ca (51, 3, 4, 212, 0, 0, 0), ei_ca (1, 1, 0, 191, 1, 0, 0), ei_re 0]),
  (0, [ei_la 0, ei_li 1, ei_ca (37, 2, 1, 184, 0, 0, 0), ei_if ((true, false, true), 1), ei_pu (.inl 4294967295, 0, 0), ei_re 0])], 7, 0, 0, 4, ⟨"RegisterColours", "value", "(II)I"⟩, prog_1_method_11_code, some .int)
/-- RegisterColoursModel.value(II)I -/
noncomputable def mt_106 : ev_M := ([(102, [ei_re 0]),
  (63, [ei_re 0]),
  (62, [ei_pu (.inl 0, 0, 0), ei_fa 1]),
  (101, [ei_pu (.inl 0, 0, 0), ei_fa 0]),
  (23, [ei_pu (.inl 4294967295, 0, 0), ei_re 0]),
  (40, [ei_la 0, ei_pu (.inl 0, 0, 0), ei_ca (21, 2, 12, 330, 0, 0, 0), ei_li 2, ei_if ((true, false, true), 6), ei_la 0, ei_gf (11, 2, 44, 0), ei_li 1, ei_al 2, ei_if ((false, true, false), 2), ei_pu (.inl 1, 0, 0), ei_go 1]),
  (64, [ei_li 2, ei_pu (.inl 1, 0, 0), ei_ic ((true, false, true), 7), ei_la 0, ei_gf (11, 8, 41, 0), ei_li 1, ei_al 0, ei_re 0]),
  (76, [ei_li 2, ei_pu (.inl 2, 0, 0), ei_ic ((true, false, true), 9), ei_la 0, ei_li 1, ei_ca (45, 2, 12, 238, 0, 0, 0), ei_go 0]),
  (25, [ei_li 2, ei_pu (.inl 3, 0, 0), ei_ic ((true, false, true), 5), ei_la 0, ei_la 0, ei_li 1, ei_ca (14, 2, 12, 169, 0, 0, 0), ei_ca (16, 2, 12, 241, 0, 0, 0), ei_re 0]),
  (89, [ei_la 0, ei_li 1, ei_ca (52, 2, 12, 244, 0, 0, 0), ei_if ((false, true, false), 3), ei_pu (.inl 1, 0, 0), ei_go 0]),
  (0, [ei_la 0, ei_pu (.inl 0, 0, 0), ei_pf (11, 22, 0, 140, 0), ei_la 0, ei_li 1, ei_ca (38, 2, 12, 516, 0, 0, 0), ei_if ((false, true, false), 4), ei_la 0, ei_li 2, ei_pu (.inl 0, 0, 0), ei_pu (.inl 4, 0, 0), ei_ca (18, 4, 12, 143, 0, 0, 0), ei_if ((true, false, true), 8), ei_fa 4])], 10, 0, 0, 3, ⟨"RegisterColoursModel", "value", "(II)I"⟩, prog_14_method_109_code, some .int)
/-- RegisterColours.edge(II)I -/
noncomputable def mt_107 : ev_M := ([(16, [ei_pu (.inl 4294967295, 0, 0), ei_re 0]),
  (18, [ei_la 0, ei_ca (28, 1, 1, 173, 0, 0, 0), ei_li 1, ei_li 2, ei_ca (5, 3, 4, 216, 0, 0, 0), ei_ca (1, 1, 0, 191, 1, 0, 0), ei_re 0]),
  (0, [ei_la 0, ei_li 1, ei_ca (37, 2, 1, 184, 0, 0, 0), ei_if ((false, true, false), 0), ei_la 0, ei_li 2, ei_ca (37, 2, 1, 184, 0, 0, 0), ei_if ((true, false, true), 1), ei_fa 0])], 2, 0, 0, 3, ⟨"RegisterColours", "edge", "(II)I"⟩, prog_1_method_12_code, some .int)
/-- RegisterColoursModel.edge(II)I -/
noncomputable def mt_108 : ev_M := ([(46, [ei_re 0]),
  (45, [ei_pu (.inl 0, 0, 0), ei_fa 0]),
  (21, [ei_pu (.inl 4294967295, 0, 0), ei_re 0]),
  (23, [ei_la 0, ei_pu (.inl 0, 0, 0), ei_ca (21, 2, 12, 330, 0, 0, 0), ei_la 0, ei_la 0, ei_gf (11, 3, 38, 0), ei_li 1, ei_li 2, ei_ca (3, 4, 12, 203, 0, 0, 0), ei_if ((false, true, false), 1), ei_pu (.inl 1, 0, 0), ei_go 0]),
  (0, [ei_la 0, ei_pu (.inl 0, 0, 0), ei_pf (11, 22, 0, 140, 0), ei_la 0, ei_li 1, ei_ca (38, 2, 12, 516, 0, 0, 0), ei_if ((false, true, false), 2), ei_la 0, ei_li 2, ei_ca (38, 2, 12, 516, 0, 0, 0), ei_if ((true, false, true), 3), ei_fa 2])], 4, 0, 0, 3, ⟨"RegisterColoursModel", "edge", "(II)I"⟩, prog_14_method_110_code, some .int)
/-- RegisterColours.colour(II)I -/
noncomputable def mt_109 : ev_M := ([(22, [ei_si 3, ei_la 0, ei_gf (0, 1, 29, 0), ei_gf (10, 3, 151, 0), ei_if ((false, true, false), 1)]),
  (48, [ei_pu (.inl 4294967295, 0, 0), ei_re 0]),
  (21, [ei_pu (.inl 0, 0, 0), ei_fa 0]),
  (0, [ei_li 1, ei_la 0, ei_gf (0, 1, 29, 0), ei_gf (10, 2, 81, 0), ei_ic ((true, false, false), 2), ei_li 1, ei_pu (.inl 8, 1, 0), ei_ic ((false, true, true), 2), ei_pu (.inl 1, 0, 0), ei_go 0])], 3, 0, 0, 4, ⟨"RegisterColours", "colour", "(II)I"⟩, prog_1_method_13_code, some .int)
/-- RegisterColoursModel.colour(II)I -/
noncomputable def mt_110 : ev_M := ([(0, [ei_la 0, ei_pu (.inl 0, 0, 0), ei_pf (11, 22, 0, 140, 0), ei_la 0, ei_gf (11, 25, 154, 0), ei_if ((false, true, false), 1)]),
  (48, [ei_pu (.inl 4294967295, 0, 0), ei_re 0])], 0, 0, 0, 3, ⟨"RegisterColoursModel", "colour", "(II)I"⟩, prog_14_method_64_code, some .int)
/-- RegisterColours.left(I)I -/
noncomputable def mt_111 : ev_M := ([(0, [ei_la 0, ei_gf (0, 1, 29, 0), ei_gf (10, 3, 151, 0), ei_if ((true, false, true), 1), ei_pu (.inl 4294967295, 0, 0), ei_re 0]),
  (12, [])], 0, 0, 0, 3, ⟨"RegisterColours", "left", "(I)I"⟩, prog_1_method_14_code, some .int)
/-- RegisterColoursModel.left(I)I -/
noncomputable def mt_112 : ev_M := ([(0, [ei_la 0, ei_pu (.inl 0, 0, 0), ei_pf (11, 22, 0, 140, 0), ei_la 0, ei_gf (11, 25, 154, 0), ei_if ((false, true, false), 1)]),
  (32, [ei_pu (.inl 4294967295, 0, 0), ei_re 0])], 0, 0, 0, 2, ⟨"RegisterColoursModel", "left", "(I)I"⟩, prog_14_method_65_code, some .int)
/-- RegisterColours.run(II)I -/
noncomputable def mt_113 : ev_M := ([(24, [ei_pu (.inl 4294967295, 0, 0), ei_re 0]),
  (131, [ei_pu (.inl 4294967295, 0, 0), ei_re 0]),
  (0, [ei_li 1, ei_if ((true, false, false), 0), ei_li 1, ei_pu (.inl 1, 0, 0), ei_ic ((false, false, true), 0), ei_li 1, ei_pu (.inl 1, 0, 0), ei_ic ((true, false, true), 3), ei_la 0, ei_gf (0, 1, 29, 0), ei_gf (10, 3, 151, 0), ei_if ((true, false, true), 3), ei_fa 0]),
  (26, [ei_la 0, ei_gf (0, 5, 63, 0), ei_li 1, ei_ic ((false, true, false), 5), ei_la 0, ei_gf (0, 7, 59, 0), ei_li 1, ei_pu (.inl 1, 0, 0), ei_ic ((true, false, true), 4)]),
  (47, [ei_pu (.inl 0, 0, 0), ei_ca (114, 2, 8, 266, 0, 0, 0), ei_la 0, ei_li 1, ei_pf (0, 5, 0, 63, 0), ei_fa 5]),
  (56, [ei_li 2, ei_tw (2147483648, 1, [6, 8, 9, 10], 31)]),
  (88, [ei_la 0, ei_gf (0, 7, 59, 0), ei_gf (7, 1, 270, 0), ei_if ((true, false, true), 7)]),
  (102, [ei_pu (.inl 0, 0, 0), ei_ca (1, 1, 0, 191, 1, 0, 0), ei_re 0]),
  (107, [ei_la 0, ei_gf (0, 7, 59, 0), ei_gf (7, 2, 273, 0), ei_re 0]),
  (115, [ei_la 0, ei_gf (0, 7, 59, 0), ei_gf (7, 3, 276, 0), ei_re 0]),
  (123, [ei_la 0, ei_gf (0, 7, 59, 0), ei_gf (7, 4, 279, 0), ei_re 0])], 2, 0, 0, 3, ⟨"RegisterColours", "run", "(II)I"⟩, prog_1_method_15_code, some .int)
/-- RegisterColours$Runner.runSteps(Z)V -/
noncomputable def mt_114 : ev_M := ([(0, [ei_la 0, ei_li 1, ei_pf (7, 10, 1, 36, 0), ei_la 0, ei_li 1, ei_if ((false, true, false), 1)]),
  (23, [ei_la 0, ei_gf (7, 8, 42, 0), ei_gf (10, 5, 52, 0), ei_pf (7, 0, 3, 58, 0), ei_la 0, ei_li 1, ei_if ((false, true, false), 2)]),
  (51, [ei_la 0, ei_gf (7, 9, 46, 0), ei_pf (7, 11, 3, 49, 0), ei_la 0, ei_gf (7, 5, 25, 0), ei_pu (.inr (.inr (.inl 0)), 3, 0), ei_ca (13, 2, 0, 69, 1, 0, 0), ei_la 0, ei_gf (7, 6, 29, 0), ei_pu (.inl 0, 0, 0), ei_ca (19, 2, 0, 75, 1, 0, 0), ei_la 0, ei_gf (7, 7, 33, 0), ei_pu (.inr (.inr (.inl 0)), 3, 0), ei_ca (13, 2, 0, 69, 1, 0, 0), ei_la 0, ei_pu (.inl 0, 0, 0), ei_pf (7, 2, 0, 15, 0), ei_la 0, ei_pu (.inl 0, 0, 0), ei_pf (7, 3, 0, 19, 0), ei_la 0, ei_pu (.inl 0, 0, 0), ei_pf (7, 4, 0, 22, 0), ei_la 0, ei_pu (.inl 0, 0, 0), ei_pf (7, 12, 0, 39, 0), ei_pu (.inl 0, 0, 0), ei_si 2, ei_li 2, ei_la 0, ei_gf (7, 0, 58, 0), ei_gf (9, 0, 78, 0), ei_ic ((false, true, true), 3)]),
  (144, [ei_la 0, ei_li 2, ei_la 0, ei_gf (7, 0, 58, 0), ei_gf (9, 0, 78, 0), ei_ic ((true, false, false), 5), ei_pu (.inl 1, 0, 0), ei_go 4]),
  (161, [ei_pf (7, 1, 1, 9, 0), ei_re 2]),
  (160, [])], 0, 0, 0, 3, ⟨"RegisterColours$Runner", "runSteps", "(Z)V"⟩, prog_9_method_2_code, none)
/-- RegisterColoursModel.run(II)I -/
noncomputable def mt_115 : ev_M := ([(52, [ei_li 4, ei_pu (.inl 200, 2, 0), ei_ic ((false, true, true), 8), ei_la 0, ei_gf (11, 17, 111, 0), ei_li 4, ei_pu (.inr (.inr (.inl 0)), 3, 0), ei_as 1, ei_la 0, ei_gf (11, 18, 121, 0), ei_li 4, ei_pu (.inr (.inr (.inl 0)), 3, 0), ei_as 1, ei_ii (4, 1), ei_go 0]),
  (85, [ei_li 4, ei_pu (.inl 8, 1, 0), ei_ic ((false, true, true), 9), ei_la 0, ei_gf (11, 29, 115, 0), ei_li 4, ei_pu (.inl 0, 0, 0), ei_as 0, ei_ii (4, 1), ei_go 1]),
  (37, [ei_pu (.inl 4294967295, 0, 0), ei_re 0]),
  (109, [ei_li 4, ei_pu (.inl 4, 0, 0), ei_ic ((false, true, true), 10), ei_la 0, ei_gf (11, 32, 118, 0), ei_li 4, ei_pu (.inl 0, 0, 0), ei_as 0, ei_ii (4, 1), ei_go 3]),
  (244, [ei_re 0]),
  (0, [ei_la 0, ei_pu (.inl 0, 0, 0), ei_pf (11, 22, 0, 140, 0), ei_la 0, ei_li 1, ei_pu (.inl 0, 0, 0), ei_pu (.inl 1, 0, 0), ei_ca (18, 4, 12, 143, 0, 0, 0), ei_if ((false, true, false), 2), ei_la 0, ei_li 2, ei_pu (.inl 0, 0, 0), ei_pu (.inl 3, 0, 0), ei_ca (18, 4, 12, 143, 0, 0, 0), ei_if ((false, true, false), 2), ei_li 1, ei_pu (.inl 1, 0, 0), ei_ic ((true, false, true), 6), ei_la 0, ei_gf (11, 25, 154, 0), ei_if ((true, false, true), 6), ei_fa 2]),
  (39, [ei_li 1, ei_if ((true, false, true), 16), ei_pu (.inl 0, 0, 0), ei_go 7]),
  (48, [ei_si 3, ei_pu (.inl 0, 0, 0), ei_si 4, ei_fa 0]),
  (82, [ei_pu (.inl 0, 0, 0), ei_si 4, ei_fa 1]),
  (106, [ei_pu (.inl 0, 0, 0), ei_si 4, ei_fa 3]),
  (129, [ei_la 0, ei_pu (.inl 0, 0, 0), ei_pf (11, 65, 0, 474, 0), ei_la 0, ei_pu (.inl 0, 0, 0), ei_pf (11, 50, 0, 477, 0), ei_la 0, ei_pu (.inl 0, 0, 0), ei_pf (11, 51, 0, 480, 0), ei_la 0, ei_pu (.inl 0, 0, 0), ei_pf (11, 52, 0, 489, 0), ei_pu (.inl 0, 0, 0), ei_si 4, ei_li 4, ei_la 0, ei_gf (11, 19, 23, 0), ei_li 3, ei_al 0, ei_ic ((false, true, true), 11)]),
  (195, [ei_li 2, ei_if ((true, false, true), 13), ei_li 4, ei_la 0, ei_gf (11, 19, 23, 0), ei_li 3, ei_al 0, ei_ic ((false, true, true), 12)]),
  (214, [ei_pu (.inl 0, 0, 0), ei_re 0]),
  (216, [ei_li 2, ei_pu (.inl 1, 0, 0), ei_ic ((true, false, true), 14), ei_la 0, ei_gf (11, 52, 489, 0), ei_go 4]),
  (228, [ei_li 2, ei_pu (.inl 2, 0, 0), ei_ic ((true, false, true), 15), ei_la 0, ei_gf (11, 50, 477, 0), ei_go 4]),
  (240, [ei_la 0, ei_gf (11, 51, 480, 0), ei_fa 4]),
  (47, [])], 5, 0, 0, 5, ⟨"RegisterColoursModel", "run", "(II)I"⟩, prog_14_method_97_code, some .int)
/-- RegisterColours.proved()I -/
noncomputable def mt_116 : ev_M := ([(0, [ei_la 0, ei_gf (0, 1, 29, 0), ei_gf (10, 3, 151, 0), ei_if ((true, false, true), 1), ei_pu (.inl 4294967295, 0, 0), ei_re 0]),
  (12, [])], 0, 0, 0, 1, ⟨"RegisterColours", "proved", "()I"⟩, prog_1_method_16_code, some .int)
/-- RegisterColoursModel.proved()I -/
noncomputable def mt_117 : ev_M := ([(0, [ei_la 0, ei_pu (.inl 0, 0, 0), ei_pf (11, 22, 0, 140, 0), ei_la 0, ei_gf (11, 25, 154, 0), ei_if ((true, false, true), 1), ei_pu (.inl 4294967295, 0, 0), ei_re 0]),
  (14, [])], 0, 0, 0, 3, ⟨"RegisterColoursModel", "proved", "()I"⟩, prog_14_method_105_code, some .int)
/-- RegisterColours.graph(I)I -/
noncomputable def mt_118 : ev_M := ([(83, [ei_pu (.inl 4294967295, 0, 0), ei_re 0]),
  (0, [ei_li 1, ei_tw (2147483648, 0, [2, 4, 5, 6], 31)]),
  (32, [ei_la 0, ei_ca (28, 1, 1, 173, 0, 0, 0), ei_ca (53, 1, 4, 289, 0, 0, 0), ei_pu (.inl 4294967295, 0, 0), ei_ic ((false, true, false), 7), ei_pu (.inl 1, 0, 0), ei_go 3]),
  (48, [ei_ca (1, 1, 0, 191, 1, 0, 0), ei_re 0]),
  (52, [ei_la 0, ei_ca (28, 1, 1, 173, 0, 0, 0), ei_ca (53, 1, 4, 289, 0, 0, 0), ei_re 0]),
  (60, [ei_la 0, ei_ca (28, 1, 1, 173, 0, 0, 0), ei_la 0, ei_gf (0, 1, 29, 0), ei_gf (10, 0, 292, 0), ei_ca (120, 2, 4, 295, 0, 0, 0), ei_re 0]),
  (75, [ei_la 0, ei_ca (28, 1, 1, 173, 0, 0, 0), ei_ca (119, 1, 4, 298, 0, 0, 0), ei_re 0]),
  (47, [])], 1, 0, 0, 2, ⟨"RegisterColours", "graph", "(I)I"⟩, prog_1_method_17_code, some .int)
/-- RegisterColours$Graph.heaviest()I -/
noncomputable def mt_119 : ev_M := ([(0, [ei_pu (.inl 0, 0, 0), ei_si 1, ei_pu (.inl 0, 0, 0), ei_si 2, ei_li 2, ei_la 0, ei_gf (3, 9, 27, 0), ei_gf (9, 0, 101, 0), ei_ic ((false, true, true), 1)]),
  (87, [ei_li 1, ei_re 0])], 0, 0, 0, 5, ⟨"RegisterColours$Graph", "heaviest", "()I"⟩, prog_4_method_25_code, some .int)
/-- RegisterColours$Graph.clashes([I)I -/
noncomputable def mt_120 : ev_M := ([(13, [ei_li 4, ei_li 3, ei_ic ((false, true, true), 4), ei_la 1, ei_li 3, ei_al 0, ei_pu (.inl 4294967295, 0, 0), ei_ic ((false, true, false), 1)]),
  (40, [ei_pu (.inl 0, 0, 0), ei_si 5, ei_li 2, ei_li 5, ei_if ((false, true, false), 2)]),
  (69, [ei_pu (.inl 0, 0, 0), ei_ca (1, 1, 0, 197, 4, 0, 0), ei_ib 0, ei_si 2, ei_ii (4, 1), ei_go 0]),
  (4, [ei_li 3, ei_pu (.inl 24, 1, 0), ei_ic ((false, true, true), 6), ei_pu (.inl 0, 0, 0), ei_si 4, ei_fa 0]),
  (81, [ei_ii (3, 1), ei_go 3]),
  (0, [ei_pu (.inl 0, 0, 0), ei_si 2, ei_pu (.inl 0, 0, 0), ei_si 3, ei_fa 3]),
  (87, [ei_li 2, ei_re 0])], 5, 0, 0, 6, ⟨"RegisterColours$Graph", "clashes", "([I)I"⟩, prog_4_method_26_code, some .int)
/-- RegisterColoursModel.graph(I)I -/
noncomputable def mt_121 : ev_M := ([(68, [ei_re 0]),
  (22, [ei_li 1, ei_pu (.inl 1, 0, 0), ei_ic ((true, false, true), 2), ei_la 0, ei_ca (55, 1, 12, 531, 0, 0, 0), ei_if ((false, true, false), 9), ei_la 0, ei_gf (11, 37, 519, 0), ei_go 7]),
  (43, [ei_li 1, ei_pu (.inl 2, 0, 0), ei_ic ((true, false, true), 3), ei_la 0, ei_ca (122, 1, 12, 534, 0, 0, 0), ei_go 0]),
  (55, [ei_li 1, ei_pu (.inl 3, 0, 0), ei_ic ((true, false, true), 4), ei_la 0, ei_ca (123, 1, 12, 537, 0, 0, 0), ei_go 0]),
  (67, [ei_pu (.inl 4294967295, 0, 0), ei_fa 0]),
  (0, [ei_la 0, ei_pu (.inl 0, 0, 0), ei_pf (11, 22, 0, 140, 0), ei_li 1, ei_if ((true, false, true), 1), ei_la 0, ei_ca (55, 1, 12, 531, 0, 0, 0), ei_if ((false, true, false), 8), ei_pu (.inl 1, 0, 0), ei_go 6]),
  (21, [ei_re 0]),
  (42, [ei_re 0]),
  (20, []),
  (41, [])], 5, 0, 0, 2, ⟨"RegisterColoursModel", "graph", "(I)I"⟩, prog_14_method_116_code, some .int)
/-- RegisterColoursModel.clashes()I -/
noncomputable def mt_122 : ev_M := ([(17, [ei_li 3, ei_li 2, ei_ic ((false, true, true), 3), ei_la 0, ei_gf (11, 10, 134, 0), ei_li 2, ei_al 0, ei_if ((true, true, false), 1)]),
  (69, [ei_ii (3, 1), ei_go 0]),
  (9, [ei_li 2, ei_pu (.inl 24, 1, 0), ei_ic ((false, true, true), 5), ei_pu (.inl 0, 0, 0), ei_si 3, ei_fa 0]),
  (75, [ei_ii (2, 1), ei_go 2]),
  (0, [ei_la 0, ei_pu (.inl 0, 0, 0), ei_ca (21, 2, 12, 330, 0, 0, 0), ei_pu (.inl 0, 0, 0), ei_si 1, ei_pu (.inl 0, 0, 0), ei_si 2, ei_fa 2]),
  (81, [ei_li 1, ei_re 0])], 4, 0, 0, 4, ⟨"RegisterColoursModel", "clashes", "()I"⟩, prog_14_method_114_code, some .int)
/-- RegisterColoursModel.heaviest()I -/
noncomputable def mt_123 : ev_M := ([(0, [ei_la 0, ei_pu (.inl 0, 0, 0), ei_ca (20, 2, 12, 223, 0, 0, 0), ei_pu (.inl 0, 0, 0), ei_si 1, ei_pu (.inl 0, 0, 0), ei_si 2, ei_li 2, ei_la 0, ei_gf (11, 19, 23, 0), ei_pu (.inl 0, 0, 0), ei_al 0, ei_ic ((false, true, true), 1)]),
  (92, [ei_li 1, ei_re 0])], 0, 0, 0, 5, ⟨"RegisterColoursModel", "heaviest", "()I"⟩, prog_14_method_115_code, some .int)
/-- RegisterColours.paint(II)Z -/
noncomputable def mt_124 : ev_M := ([(21, [ei_pu (.inl 0, 0, 0), ei_re 0]),
  (0, [ei_li 1, ei_if ((true, false, false), 0), ei_li 1, ei_pu (.inl 24, 1, 0), ei_ic ((false, true, true), 0), ei_li 2, ei_pu (.inl 4294967295, 0, 0), ei_ic ((true, false, false), 0), ei_li 2, ei_pu (.inl 8, 1, 0), ei_ic ((true, false, false), 2), ei_fa 0]),
  (23, [ei_la 0, ei_gf (0, 1, 29, 0), ei_gf (10, 0, 292, 0), ei_li 1, ei_li 2, ei_as 0, ei_pu (.inl 1, 0, 0), ei_re 0])], 1, 0, 0, 3, ⟨"RegisterColours", "paint", "(II)Z"⟩, prog_1_method_18_code, some .boolean)
/-- RegisterColoursModel.paint(II)Z -/
noncomputable def mt_125 : ev_M := ([(27, [ei_pu (.inl 0, 0, 0), ei_re 0]),
  (0, [ei_la 0, ei_pu (.inl 0, 0, 0), ei_pf (11, 22, 0, 140, 0), ei_la 0, ei_li 1, ei_pu (.inl 0, 0, 0), ei_pu (.inl 23, 1, 0), ei_ca (18, 4, 12, 143, 0, 0, 0), ei_if ((false, true, false), 0), ei_la 0, ei_li 2, ei_pu (.inl 4294967295, 0, 0), ei_pu (.inl 7, 1, 0), ei_ca (18, 4, 12, 143, 0, 0, 0), ei_if ((true, false, true), 2), ei_fa 0]),
  (29, [ei_la 0, ei_gf (11, 10, 134, 0), ei_li 1, ei_li 2, ei_pu (.inl 1, 0, 0), ei_ib 0, ei_as 0, ei_pu (.inl 1, 0, 0), ei_re 0])], 1, 0, 0, 3, ⟨"RegisterColoursModel", "paint", "(II)Z"⟩, prog_14_method_117_code, some .boolean)
/-- RegisterColours.image(Z)Z -/
noncomputable def mt_126 : ev_M := ([(0, [ei_li 1, ei_if ((false, true, false), 2), ei_la 0, ei_gf (0, 10, 74, 0), ei_nn 1, ei_la 0, ei_nw (10, 26, [.inr (.inl 0), .inl 0, .inl 0, .inl 0, .inl 0, .inr (.inl 0), .inl 0, .inl 0, .inr (.inl 0), .inr (.inl 0)]), ei_st 0, ei_ca (46, 1, 11, 28, 2, 19, 4865), ei_pf (0, 10, 3, 74, 0), ei_fa 1]),
  (22, [ei_la 0, ei_gf (0, 10, 74, 0), ei_la 0, ei_gf (0, 1, 29, 0), ei_ca (127, 2, 11, 301, 0, 0, 0), ei_pu (.inl 1, 0, 0), ei_re 0]),
  (35, [ei_la 0, ei_gf (0, 10, 74, 0), ei_nn 3, ei_pu (.inl 0, 0, 0), ei_re 0]),
  (44, [])], 0, 20, 4875, 2, ⟨"RegisterColours", "image", "(Z)Z"⟩, prog_1_method_19_code, some .boolean)
/-- RegisterColours$Told.takeFrom(LRegisterColours$Told;)V -/
noncomputable def mt_127 : ev_M := ([(0, [ei_la 0, ei_la 1, ei_gf (10, 2, 9, 0), ei_pf (10, 2, 0, 9, 0), ei_la 0, ei_la 1, ei_gf (10, 4, 15, 0), ei_pf (10, 4, 0, 15, 0), ei_la 0, ei_la 1, ei_gf (10, 1, 18, 0), ei_pf (10, 1, 0, 18, 0), ei_la 0, ei_la 1, ei_gf (10, 7, 21, 0), ei_pf (10, 7, 0, 21, 0), ei_la 0, ei_la 1, ei_gf (10, 6, 24, 0), ei_pf (10, 6, 0, 24, 0), ei_la 0, ei_la 1, ei_gf (10, 3, 27, 0), ei_pf (10, 3, 1, 27, 0), ei_la 0, ei_gf (10, 5, 36, 0), ei_la 1, ei_gf (10, 5, 36, 0), ei_ca (36, 2, 10, 60, 0, 0, 0), ei_la 1, ei_gf (10, 8, 40, 0), ei_pu (.inl 0, 0, 0), ei_la 0, ei_gf (10, 8, 40, 0), ei_pu (.inl 0, 0, 0), ei_pu (.inl 16, 1, 0), ei_cy 64, ei_la 1, ei_gf (10, 0, 44, 0), ei_pu (.inl 0, 0, 0), ei_la 0, ei_gf (10, 0, 44, 0), ei_pu (.inl 0, 0, 0), ei_pu (.inl 24, 1, 0), ei_cy 64, ei_la 1, ei_gf (10, 3, 27, 0), ei_if ((false, true, false), 1)]),
  (107, [ei_re 2])], 0, 0, 0, 2, ⟨"RegisterColours$Told", "takeFrom", "(LRegisterColours$Told;)V"⟩, prog_12_method_2_code, none)
/-- RegisterColoursModel.image(Z)Z -/
noncomputable def mt_128 : ev_M := ([(0, [ei_la 0, ei_pu (.inl 0, 0, 0), ei_pf (11, 22, 0, 140, 0), ei_li 1, ei_if ((true, false, true), 1), ei_la 0, ei_gf (11, 53, 559, 0), ei_if ((true, false, true), 1), ei_pu (.inl 0, 0, 0), ei_re 0]),
  (18, [ei_la 0, ei_pu (.inl 1, 0, 0), ei_pf (11, 53, 1, 559, 0), ei_la 0, ei_li 1, ei_pf (11, 6, 1, 553, 0), ei_la 0, ei_pu (.inl 0, 0, 0), ei_pf (11, 1, 0, 556, 0), ei_la 0, ei_la 0, ei_la 0, ei_gf (11, 4, 7, 0), ei_ca (33, 2, 12, 562, 0, 0, 0), ei_pf (11, 4, 0, 7, 0), ei_la 0, ei_la 0, ei_la 0, ei_gf (11, 24, 13, 0), ei_ca (33, 2, 12, 562, 0, 0, 0), ei_pf (11, 24, 0, 13, 0), ei_la 0, ei_la 0, ei_la 0, ei_gf (11, 27, 16, 0), ei_ca (33, 2, 12, 562, 0, 0, 0), ei_pf (11, 27, 0, 16, 0), ei_la 0, ei_la 0, ei_la 0, ei_gf (11, 30, 445, 0), ei_ca (33, 2, 12, 562, 0, 0, 0), ei_pf (11, 30, 0, 445, 0), ei_la 0, ei_la 0, ei_la 0, ei_gf (11, 28, 457, 0), ei_ca (33, 2, 12, 562, 0, 0, 0), ei_pf (11, 28, 0, 457, 0), ei_la 0, ei_gf (11, 19, 23, 0), ei_pu (.inl 3, 0, 0), ei_la 0, ei_la 0, ei_gf (11, 19, 23, 0), ei_pu (.inl 3, 0, 0), ei_al 0, ei_ca (33, 2, 12, 562, 0, 0, 0), ei_as 0, ei_la 0, ei_la 0, ei_la 0, ei_gf (11, 25, 154, 0), ei_if ((false, true, false), 2)]),
  (122, [ei_pu (.inl 0, 0, 0), ei_ca (33, 2, 12, 562, 0, 0, 0), ei_pu (.inl 1, 0, 0), ei_ic ((true, false, true), 3)]),
  (134, [ei_pu (.inl 0, 0, 0), ei_pf (11, 25, 1, 154, 0), ei_la 0, ei_la 0, ei_gf (11, 48, 99, 0), ei_pu (.inl 0, 0, 0), ei_pu (.inl 240, 2, 0), ei_ca (31, 4, 12, 565, 0, 0, 0), ei_la 0, ei_la 0, ei_gf (11, 36, 108, 0), ei_pu (.inl 0, 0, 0), ei_pu (.inl 16, 1, 0), ei_ca (31, 4, 12, 565, 0, 0, 0), ei_la 0, ei_la 0, ei_gf (11, 10, 134, 0), ei_pu (.inl 0, 0, 0), ei_pu (.inl 24, 1, 0), ei_ca (31, 4, 12, 565, 0, 0, 0), ei_la 0, ei_la 0, ei_gf (11, 14, 78, 0), ei_pu (.inl 0, 0, 0), ei_pu (.inl 200, 2, 0), ei_ca (31, 4, 12, 565, 0, 0, 0), ei_la 0, ei_la 0, ei_gf (11, 15, 81, 0), ei_pu (.inl 0, 0, 0), ei_pu (.inl 200, 2, 0), ei_ca (31, 4, 12, 565, 0, 0, 0), ei_la 0, ei_la 0, ei_gf (11, 16, 84, 0), ei_pu (.inl 0, 0, 0), ei_pu (.inl 200, 2, 0), ei_ca (31, 4, 12, 565, 0, 0, 0), ei_la 0, ei_la 0, ei_gf (11, 13, 29, 0), ei_pu (.inl 0, 0, 0), ei_pu (.inl 200, 2, 0), ei_ca (31, 4, 12, 565, 0, 0, 0), ei_la 0, ei_la 0, ei_gf (11, 26, 87, 0), ei_pu (.inl 0, 0, 0), ei_pu (.inl 12, 1, 0), ei_ca (31, 4, 12, 565, 0, 0, 0), ei_la 0, ei_la 0, ei_gf (11, 38, 19, 0), ei_la 0, ei_pu (.inl 3, 0, 0), ei_pu (.inl 0, 0, 0), ei_ca (129, 3, 12, 158, 0, 0, 0), ei_pu (.inl 2000, 2, 0), ei_ca (31, 4, 12, 565, 0, 0, 0), ei_li 1, ei_if ((true, false, true), 4)]),
  (256, [ei_pu (.inl 1, 0, 0), ei_re 0])], 0, 0, 0, 2, ⟨"RegisterColoursModel", "image", "(Z)Z"⟩, prog_14_method_125_code, some .boolean)
/-- RegisterColoursModel.at(II)I -/
noncomputable def mt_129 : ev_M := ([(0, [ei_pu (.inl 5, 0, 0), ei_pu (.inl 410, 2, 0), ei_li 1, ei_ib 1, ei_li 2, ei_ib 0, ei_ib 1, ei_re 0])], 0, 0, 0, 3, ⟨"RegisterColoursModel", "at", "(II)I"⟩, prog_14_method_13_code, some .int)
/-- RegisterColours.look(I)I -/
noncomputable def mt_130 : ev_M := ([(161, [ei_pu (.inl 4294867296, 6, 313), ei_re 0]),
  (0, [ei_li 1, ei_tw (2147483648, 0, [2, 3, 4, 5, 6, 7, 8, 9, 10, 11, 12], 59)]),
  (60, [ei_la 0, ei_gf (0, 1, 29, 0), ei_gf (10, 7, 119, 0), ei_re 0]),
  (68, [ei_la 0, ei_gf (0, 1, 29, 0), ei_gf (10, 5, 39, 0), ei_gf (9, 0, 155, 0), ei_re 0]),
  (79, [ei_la 0, ei_gf (0, 1, 29, 0), ei_gf (10, 2, 81, 0), ei_re 0]),
  (87, [ei_la 0, ei_gf (0, 1, 29, 0), ei_gf (10, 4, 93, 0), ei_re 0]),
  (95, [ei_la 0, ei_gf (0, 1, 29, 0), ei_gf (10, 1, 84, 0), ei_re 0]),
  (103, [ei_la 0, ei_gf (0, 1, 29, 0), ei_gf (10, 6, 126, 0), ei_re 0]),
  (111, [ei_la 0, ei_ca (28, 1, 1, 173, 0, 0, 0), ei_ca (134, 1, 4, 304, 0, 0, 0), ei_re 0]),
  (119, [ei_la 0, ei_ca (28, 1, 1, 173, 0, 0, 0), ei_ca (133, 1, 4, 307, 0, 0, 0), ei_re 0]),
  (127, [ei_la 0, ei_gf (0, 1, 29, 0), ei_gf (10, 5, 39, 0), ei_la 0, ei_gf (0, 8, 33, 0), ei_ca (132, 2, 10, 248, 0, 0, 0), ei_re 0]),
  (142, [ei_la 0, ei_gf (0, 1, 29, 0), ei_ca (131, 1, 11, 310, 0, 0, 0), ei_re 0]),
  (150, [ei_la 0, ei_gf (0, 1, 29, 0), ei_gf (10, 3, 151, 0), ei_ca (1, 1, 0, 191, 1, 0, 0), ei_re 0])], 1, 0, 0, 2, ⟨"RegisterColours", "look", "(I)I"⟩, prog_1_method_20_code, some .int)
/-- RegisterColours$Told.paintedCount()I -/
noncomputable def mt_131 : ev_M := ([(4, [ei_li 2, ei_pu (.inl 24, 1, 0), ei_ic ((false, true, true), 3), ei_la 0, ei_gf (10, 0, 44, 0), ei_li 2, ei_al 0, ei_pu (.inl 4294967295, 0, 0), ei_ic ((false, true, false), 1)]),
  (23, [ei_ii (2, 1), ei_go 0]),
  (0, [ei_pu (.inl 0, 0, 0), ei_si 1, ei_pu (.inl 0, 0, 0), ei_si 2, ei_fa 0]),
  (29, [ei_li 1, ei_re 0])], 2, 0, 0, 3, ⟨"RegisterColours$Told", "paintedCount", "()I"⟩, prog_12_method_3_code, some .int)
/-- RegisterColours$Steps.moves([I)I -/
noncomputable def mt_132 : ev_M := ([(0, [ei_pu (.inl 0, 0, 0), ei_si 2, ei_pu (.inl 0, 0, 0), ei_si 3, ei_li 3, ei_la 0, ei_gf (9, 0, 9, 0), ei_ic ((false, true, true), 1)]),
  (30, [ei_li 2, ei_re 0])], 0, 0, 0, 4, ⟨"RegisterColours$Steps", "moves", "([I)I"⟩, prog_11_method_6_code, some .int)
/-- RegisterColours$Graph.edgesNotFixed()I -/
noncomputable def mt_133 : ev_M := ([(15, [ei_li 3, ei_li 2, ei_ic ((false, true, true), 2), ei_li 1, ei_la 0, ei_li 2, ei_li 3, ei_ca (5, 3, 4, 201, 0, 0, 0), ei_ca (1, 1, 0, 197, 4, 0, 0), ei_ib 0, ei_si 1, ei_ii (3, 1), ei_go 0]),
  (5, [ei_li 2, ei_la 0, ei_gf (3, 2, 15, 0), ei_ic ((false, true, true), 4), ei_pu (.inl 0, 0, 0), ei_si 3, ei_fa 0]),
  (38, [ei_ii (2, 1), ei_go 1]),
  (0, [ei_pu (.inl 0, 0, 0), ei_si 1, ei_pu (.inl 8, 1, 0), ei_si 2, ei_fa 1]),
  (44, [ei_li 1, ei_re 0])], 3, 0, 0, 4, ⟨"RegisterColours$Graph", "edgesNotFixed", "()I"⟩, prog_4_method_24_code, some .int)
/-- RegisterColours$Graph.thereNotFixed()I -/
noncomputable def mt_134 : ev_M := ([(5, [ei_li 2, ei_la 0, ei_gf (3, 2, 15, 0), ei_ic ((false, true, true), 2), ei_li 1, ei_la 0, ei_li 2, ei_ca (11, 2, 4, 194, 0, 0, 0), ei_ca (1, 1, 0, 197, 4, 0, 0), ei_ib 0, ei_si 1, ei_ii (2, 1), ei_go 0]),
  (0, [ei_pu (.inl 0, 0, 0), ei_si 1, ei_pu (.inl 8, 1, 0), ei_si 2, ei_fa 0]),
  (30, [ei_li 1, ei_re 0])], 1, 0, 0, 3, ⟨"RegisterColours$Graph", "thereNotFixed", "()I"⟩, prog_4_method_23_code, some .int)
/-- RegisterColoursModel.look(I)I -/
noncomputable def mt_135 : ev_M := ([(134, [ei_re 0]),
  (14, [ei_li 1, ei_pu (.inl 1, 0, 0), ei_ic ((true, false, true), 2), ei_la 0, ei_gf (11, 19, 23, 0), ei_pu (.inl 0, 0, 0), ei_al 0, ei_re 0]),
  (26, [ei_li 1, ei_pu (.inl 2, 0, 0), ei_ic ((true, false, true), 3), ei_la 0, ei_gf (11, 4, 7, 0), ei_re 0]),
  (36, [ei_li 1, ei_pu (.inl 3, 0, 0), ei_ic ((true, false, true), 4), ei_la 0, ei_gf (11, 24, 13, 0), ei_re 0]),
  (46, [ei_li 1, ei_pu (.inl 4, 0, 0), ei_ic ((true, false, true), 5), ei_la 0, ei_gf (11, 27, 16, 0), ei_re 0]),
  (56, [ei_li 1, ei_pu (.inl 5, 0, 0), ei_ic ((true, false, true), 6), ei_la 0, ei_gf (11, 28, 457, 0), ei_re 0]),
  (66, [ei_li 1, ei_pu (.inl 6, 1, 0), ei_ic ((true, false, true), 7), ei_la 0, ei_ca (136, 1, 12, 540, 0, 0, 0), ei_re 0]),
  (77, [ei_li 1, ei_pu (.inl 7, 1, 0), ei_ic ((true, false, true), 8), ei_la 0, ei_ca (137, 1, 12, 543, 0, 0, 0), ei_re 0]),
  (88, [ei_li 1, ei_pu (.inl 8, 1, 0), ei_ic ((true, false, true), 9), ei_la 0, ei_ca (138, 1, 12, 546, 0, 0, 0), ei_re 0]),
  (99, [ei_li 1, ei_pu (.inl 9, 1, 0), ei_ic ((true, false, true), 10), ei_la 0, ei_ca (139, 1, 12, 549, 0, 0, 0), ei_re 0]),
  (110, [ei_li 1, ei_pu (.inl 10, 1, 0), ei_ic ((true, false, true), 11), ei_la 0, ei_gf (11, 25, 154, 0), ei_if ((false, true, false), 13)]),
  (131, [ei_pu (.inl 4294867296, 6, 552), ei_fa 0]),
  (0, [ei_la 0, ei_pu (.inl 0, 0, 0), ei_pf (11, 22, 0, 140, 0), ei_li 1, ei_if ((true, false, true), 1), ei_la 0, ei_gf (11, 30, 445, 0), ei_re 0]),
  (127, [ei_pu (.inl 0, 0, 0), ei_go 0])], 12, 0, 0, 2, ⟨"RegisterColoursModel", "look", "(I)I"⟩, prog_14_method_122_code, some .int)
/-- RegisterColoursModel.thereMany()I -/
noncomputable def mt_136 : ev_M := ([(10, [ei_li 2, ei_pu (.inl 44, 1, 0), ei_ic ((false, true, true), 3), ei_la 0, ei_gf (11, 2, 44, 0), ei_li 2, ei_al 2, ei_if ((false, true, false), 1)]),
  (29, [ei_ii (2, 1), ei_go 0]),
  (0, [ei_la 0, ei_pu (.inl 0, 0, 0), ei_ca (21, 2, 12, 330, 0, 0, 0), ei_pu (.inl 0, 0, 0), ei_si 1, ei_pu (.inl 8, 1, 0), ei_si 2, ei_fa 0]),
  (35, [ei_li 1, ei_re 0])], 2, 0, 0, 3, ⟨"RegisterColoursModel", "thereMany", "()I"⟩, prog_14_method_118_code, some .int)
/-- RegisterColoursModel.edgeMany()I -/
noncomputable def mt_137 : ev_M := ([(18, [ei_li 3, ei_li 2, ei_ic ((false, true, true), 3), ei_la 0, ei_la 0, ei_gf (11, 3, 38, 0), ei_li 2, ei_li 3, ei_ca (3, 4, 12, 203, 0, 0, 0), ei_if ((false, true, false), 1)]),
  (40, [ei_ii (3, 1), ei_go 0]),
  (10, [ei_li 2, ei_pu (.inl 44, 1, 0), ei_ic ((false, true, true), 5), ei_pu (.inl 0, 0, 0), ei_si 3, ei_fa 0]),
  (46, [ei_ii (2, 1), ei_go 2]),
  (0, [ei_la 0, ei_pu (.inl 0, 0, 0), ei_ca (21, 2, 12, 330, 0, 0, 0), ei_pu (.inl 0, 0, 0), ei_si 1, ei_pu (.inl 8, 1, 0), ei_si 2, ei_fa 2]),
  (52, [ei_li 1, ei_re 0])], 4, 0, 0, 4, ⟨"RegisterColoursModel", "edgeMany", "()I"⟩, prog_14_method_119_code, some .int)
/-- RegisterColoursModel.moveCount()I -/
noncomputable def mt_138 : ev_M := ([(0, [ei_pu (.inl 0, 0, 0), ei_si 1, ei_pu (.inl 0, 0, 0), ei_si 2, ei_li 2, ei_la 0, ei_gf (11, 19, 23, 0), ei_pu (.inl 0, 0, 0), ei_al 0, ei_ic ((false, true, true), 1)]),
  (33, [ei_li 1, ei_re 0])], 0, 0, 0, 3, ⟨"RegisterColoursModel", "moveCount", "()I"⟩, prog_14_method_120_code, some .int)
/-- RegisterColoursModel.paintedMany()I -/
noncomputable def mt_139 : ev_M := ([(4, [ei_li 2, ei_pu (.inl 24, 1, 0), ei_ic ((false, true, true), 3), ei_la 0, ei_gf (11, 10, 134, 0), ei_li 2, ei_al 0, ei_if ((true, true, false), 1)]),
  (23, [ei_ii (2, 1), ei_go 0]),
  (0, [ei_pu (.inl 0, 0, 0), ei_si 1, ei_pu (.inl 0, 0, 0), ei_si 2, ei_fa 0]),
  (29, [ei_li 1, ei_re 0])], 2, 0, 0, 3, ⟨"RegisterColoursModel", "paintedMany", "()I"⟩, prog_14_method_121_code, some .int)
noncomputable def ev_pg : List ev_M := [mt_0, mt_1, mt_2, mt_3, mt_4, mt_5, mt_6, mt_7, mt_8, mt_9, mt_10, mt_11, mt_12, mt_13, mt_14, mt_15, mt_16, mt_17, mt_18, mt_19, mt_20, mt_21, mt_22, mt_23, mt_24, mt_25, mt_26, mt_27, mt_28, mt_29, mt_30, mt_31, mt_32, mt_33, mt_34, mt_35, mt_36, mt_37, mt_38, mt_39, mt_40, mt_41, mt_42, mt_43, mt_44, mt_45, mt_46, mt_47, mt_48, mt_49, mt_50, mt_51, mt_52, mt_53, mt_54, mt_55, mt_56, mt_57, mt_58, mt_59, mt_60, mt_61, mt_62, mt_63, mt_64, mt_65, mt_66, mt_67, mt_68, mt_69, mt_70, mt_71, mt_72, mt_73, mt_74, mt_75, mt_76, mt_77, mt_78, mt_79, mt_80, mt_81, mt_82, mt_83, mt_84, mt_85, mt_86, mt_87, mt_88, mt_89, mt_90, mt_91, mt_92, mt_93, mt_94, mt_95, mt_96, mt_97, mt_98, mt_99, mt_100, mt_101, mt_102, mt_103, mt_104, mt_105, mt_106, mt_107, mt_108, mt_109, mt_110, mt_111, mt_112, mt_113, mt_114, mt_115, mt_116, mt_117, mt_118, mt_119, mt_120, mt_121, mt_122, mt_123, mt_124, mt_125, mt_126, mt_127, mt_128, mt_129, mt_130, mt_131, mt_132, mt_133, mt_134, mt_135, mt_136, mt_137, mt_138, mt_139]
end
section
/-! ===== the program's tables are right: bytes, words, fields ===== -/
def ev_tb (k : Nat) : List Jvm.Cond := match k with
  | 0 => k2_sels lw_privs
  | 1 => tables_1_1
  | 2 => tables_1_2
  | 3 => tables_1_3
  | 4 => tables_1_4
  | 5 => tables_1_5
  | 6 => tables_1_6
  | 7 => tables_1_7
  | 8 => tables_1_8
  | 9 => tables_1_9
  | _ => []
theorem ev_tb_in (k : Nat) {w : Jvm.Cond} (h : w ∈ ev_tb k) : w ∈ lw_tbl := by
  have T : ∀ {x}, x ∈ tables_1 → x ∈ lw_tbl := fun h => List.mem_append_right _ h
  match k, h with
  | 0, h => exact List.mem_append_left _ h
  | 1, h => exact T (List.mem_append_left _ h)
  | 2, h => exact T (List.mem_append_right _ (List.mem_append_left _ h))
  | 3, h => exact T (List.mem_append_right _ (List.mem_append_right _ (List.mem_append_left _ h)))
  | 4, h => exact T (List.mem_append_right _ (List.mem_append_right _ (List.mem_append_right _ (List.mem_append_left _ h))))
  | 5, h => exact T (List.mem_append_right _ (List.mem_append_right _ (List.mem_append_right _ (List.mem_append_right _ (List.mem_append_left _ h)))))
  | 6, h => exact T (List.mem_append_right _ (List.mem_append_right _ (List.mem_append_right _ (List.mem_append_right _ (List.mem_append_right _ (List.mem_append_left _ h))))))
  | 7, h => exact T (List.mem_append_right _ (List.mem_append_right _ (List.mem_append_right _ (List.mem_append_right _ (List.mem_append_right _ (List.mem_append_right _ (List.mem_append_left _ h)))))))
  | 8, h => exact T (List.mem_append_right _ (List.mem_append_right _ (List.mem_append_right _ (List.mem_append_right _ (List.mem_append_right _ (List.mem_append_right _ (List.mem_append_right _ (List.mem_append_left _ h))))))))
  | 9, h => exact T (List.mem_append_right _ (List.mem_append_right _ (List.mem_append_right _ (List.mem_append_right _ (List.mem_append_right _ (List.mem_append_right _ (List.mem_append_right _ (List.mem_append_right _ h))))))))
  | _ + 10, h => cases h
def ev_gw : List Jvm.Cond := lw_tbl.filter goodWord
def ev_isn (w : Jvm.Cond) : Bool := match w with
  | .fieldLinkNest _ _ _ _ _ _ => true
  | .methodLinkNest _ _ _ _ => true
  | _ => false
def ev_nw : List Jvm.Cond := lw_tbl.filter ev_isn
theorem ev_gw_ok : ev_gok ev_gw := fun w h => good_of_word (List.mem_filter.mp h).2
theorem ev_nw_ok : ev_nok ev_nw := by
  intro w h
  have h1 := (List.mem_filter.mp h).2
  match w, h1 with
  | .fieldLinkNest a i b n d h, _ => exact Or.inl ⟨a, i, b, n, d, h, rfl⟩
  | .methodLinkNest a i x h, _ => exact Or.inr ⟨a, i, x, h, rfl⟩
theorem ev_pl {ws : List Jvm.Cond} {pl : List (Nat × Nat)} {f : Jvm.Cond → Bool} (h1 : ws.map some = pl.map (fun q => (ev_tb q.1)[q.2]?)) (h2 : ws.all f = true) : ∀ w ∈ ws, w ∈ lw_tbl.filter f := by
  intro w hw
  have h3 : some w ∈ ws.map some := List.mem_map.mpr ⟨w, hw, rfl⟩
  rw [h1] at h3
  obtain ⟨q, -, hq⟩ := List.mem_map.mp h3
  exact List.mem_filter.mpr ⟨ev_tb_in q.1 (List.mem_of_getElem? hq), List.all_eq_true.mp h2 w hw⟩
noncomputable def ev_dkb (cl : List vw_C) (pg : List ev_M) (m : ev_M) : Nat → List ev_I → Bool
  | _, [] => true
  | pc, i :: r => match ev_fal i with
    | some t => decide (ev_pc m.1 t = pc)
    | none => decide (decode m.2.2.2.2.2.2.1 pc = .ok (ev_xi m pc i)) && ev_si cl pg m i && ev_dkb cl pg m (pc + (ev_xi m pc i).2) r
noncomputable def ev_wm (cl : List vw_C) (pg : List ev_M) (m : ev_M) : List Jvm.Cond := m.1.flatMap (fun b => b.2.flatMap (ev_wi cl pg m))
noncomputable def ev_nlm (cl : List vw_C) (pg : List ev_M) (m : ev_M) : List Jvm.Cond := m.1.flatMap (fun b => b.2.flatMap (ev_ni cl pg m))
theorem ev_dkb_ok {cl : List vw_C} {pg : List ev_M} {m : ev_M} {gw nw : List Jvm.Cond} : ∀ (r : List ev_I) (pc : Nat), ev_dkb cl pg m pc r = true → (∀ w ∈ r.flatMap (ev_wi cl pg m), w ∈ gw) → (∀ w ∈ r.flatMap (ev_ni cl pg m), w ∈ nw) → ev_okc cl pg gw nw m pc r
  | [], _, _, _, _ => trivial
  | i :: r, pc, h, h1, h2 => by
    unfold ev_dkb at h
    unfold ev_okc
    cases hf : ev_fal i with
    | some t =>
      rw [hf] at h
      exact of_decide_eq_true h
    | none =>
      rw [hf] at h
      obtain ⟨h, h5⟩ := ev_band (show Bool.and _ _ = true from h)
      obtain ⟨h3, h4⟩ := ev_band (show Bool.and _ _ = true from h)
      rw [List.flatMap_cons] at h1 h2
      exact ⟨of_decide_eq_true h3, fun w hw => h1 w (List.mem_append_left _ hw), fun w hw => h2 w (List.mem_append_left _ hw), h4, ev_dkb_ok r _ h5 (fun w hw => h1 w (List.mem_append_right _ hw)) (fun w hw => h2 w (List.mem_append_right _ hw))⟩
theorem ev_ckm {cl : List vw_C} {pg : List ev_M} {m : ev_M} {pl pn : List (Nat × Nat)} (h1 : m.1.all (fun b => ev_dkb cl pg m b.1 b.2) = true) (h2 : (ev_cw m :: ev_wm cl pg m).map some = pl.map (fun q => (ev_tb q.1)[q.2]?)) (h3 : (ev_cw m :: ev_wm cl pg m).all goodWord = true) (h4 : (ev_nlm cl pg m).map some = pn.map (fun q => (ev_tb q.1)[q.2]?)) (h5 : (ev_nlm cl pg m).all ev_isn = true) (h6 : ev_pc m.1 m.2.1 = 0 ∧ plainName (ev_own m) = true ∧ m.2.2.2.2.1 ≤ 21) : ev_mok cl pg ev_gw ev_nw m := by
  have k1 := ev_pl h2 h3
  have k2 := ev_pl h4 h5
  refine ⟨fun b hb => ev_dkb_ok b.2 b.1 (List.all_eq_true.mp h1 b hb) (fun w hw => k1 w (List.mem_cons_of_mem _ (List.mem_flatMap.mpr ⟨b, hb, hw⟩))) (fun w hw => k2 w (List.mem_flatMap.mpr ⟨b, hb, hw⟩)), h6.1, h6.2.1, k1 _ List.mem_cons_self, h6.2.2⟩
theorem ev_ckk {q : vw_C} {pl : List (Nat × Nat)} (h1 : (u_ws q.1 q.2.1 q.2.2).map some = pl.map (fun q => (ev_tb q.1)[q.2]?)) (h2 : (u_ws q.1 q.2.1 q.2.2).all goodWord = true) (h3 : (List.range q.2.2).all (fun k => (parseFieldDescriptor (q.2.1 k).2.2.1).isSome) = true) (h4 : ∀ a, a < q.2.2 → ∀ b, b < q.2.2 → a ≠ b → (q.2.1 a).2.1 ≠ (q.2.1 b).2.1) : (∀ w ∈ u_ws q.1 q.2.1 q.2.2, w ∈ ev_gw) ∧ ∃ ty0 : Nat → FieldType, (∀ k, k < q.2.2 → parseFieldDescriptor (q.2.1 k).2.2.1 = some (ty0 k)) ∧ (∀ a, a < q.2.2 → ∀ b, b < q.2.2 → a ≠ b → (q.2.1 a).2.1 ≠ (q.2.1 b).2.1) := by
  refine ⟨ev_pl h1 h2, fun k => (parseFieldDescriptor (q.2.1 k).2.2.1).getD .int, fun k hk => ?_, h4⟩
  have h := List.all_eq_true.mp h3 k (List.mem_range.mpr hk)
  dsimp only at h ⊢
  cases hp : parseFieldDescriptor (q.2.1 k).2.2.1 with
  | none => rw [hp] at h; cases h
  | some ty => rfl
theorem ck_k0 : (∀ w ∈ u_ws "RegisterColours" kd_0 12, w ∈ ev_gw) ∧ ∃ ty0 : Nat → FieldType, (∀ k, k < 12 → parseFieldDescriptor (kd_0 k).2.2.1 = some (ty0 k)) ∧ (∀ a, a < 12 → ∀ b, b < 12 → a ≠ b → (kd_0 a).2.1 ≠ (kd_0 b).2.1) := ev_ckk (q := ("RegisterColours", kd_0, 12)) (pl := [(2, 189), (2, 193), (2, 199), (2, 197), (2, 187), (2, 203), (2, 191), (2, 201), (2, 195), (2, 205), (2, 209), (2, 207)]) (by decide +kernel) (by decide +kernel) (by decide +kernel) (by decide +kernel)
theorem ck_k1 : (∀ w ∈ u_ws "RegisterColours$Allocator" kd_1 5, w ∈ ev_gw) ∧ ∃ ty0 : Nat → FieldType, (∀ k, k < 5 → parseFieldDescriptor (kd_1 k).2.2.1 = some (ty0 k)) ∧ (∀ a, a < 5 → ∀ b, b < 5 → a ≠ b → (kd_1 a).2.1 ≠ (kd_1 b).2.1) := ev_ckk (q := ("RegisterColours$Allocator", kd_1, 5)) (pl := [(4, 55), (4, 59), (4, 61), (4, 57), (4, 63)]) (by decide +kernel) (by decide +kernel) (by decide +kernel) (by decide +kernel)
theorem ck_k2 : (∀ w ∈ u_ws "RegisterColours$Colourer" kd_2 10, w ∈ ev_gw) ∧ ∃ ty0 : Nat → FieldType, (∀ k, k < 10 → parseFieldDescriptor (kd_2 k).2.2.1 = some (ty0 k)) ∧ (∀ a, a < 10 → ∀ b, b < 10 → a ≠ b → (kd_2 a).2.1 ≠ (kd_2 b).2.1) := ev_ckk (q := ("RegisterColours$Colourer", kd_2, 10)) (pl := [(4, 16), (3, 238), (4, 0), (4, 12), (4, 2), (4, 4), (4, 10), (4, 6), (4, 8), (4, 14)]) (by decide +kernel) (by decide +kernel) (by decide +kernel) (by decide +kernel)
theorem ck_k3 : (∀ w ∈ u_ws "RegisterColours$Graph" kd_3 18, w ∈ ev_gw) ∧ ∃ ty0 : Nat → FieldType, (∀ k, k < 18 → parseFieldDescriptor (kd_3 k).2.2.1 = some (ty0 k)) ∧ (∀ a, a < 18 → ∀ b, b < 18 → a ≠ b → (kd_3 a).2.1 ≠ (kd_3 b).2.1) := ev_ckk (q := ("RegisterColours$Graph", kd_3, 18)) (pl := [(2, 84), (2, 88), (2, 108), (2, 106), (2, 82), (2, 110), (2, 100), (2, 94), (2, 96), (2, 80), (2, 112), (2, 104), (2, 86), (2, 114), (2, 90), (2, 92), (2, 98), (2, 102)]) (by decide +kernel) (by decide +kernel) (by decide +kernel) (by decide +kernel)
theorem ck_k4 : (∀ w ∈ u_ws "RegisterColours$Left" kd_4 13, w ∈ ev_gw) ∧ ∃ ty0 : Nat → FieldType, (∀ k, k < 13 → parseFieldDescriptor (kd_4 k).2.2.1 = some (ty0 k)) ∧ (∀ a, a < 13 → ∀ b, b < 13 → a ≠ b → (kd_4 a).2.1 ≠ (kd_4 b).2.1) := ev_ckk (q := ("RegisterColours$Left", kd_4, 13)) (pl := [(1, 206), (1, 210), (1, 202), (1, 226), (1, 204), (1, 212), (1, 214), (1, 222), (1, 208), (1, 216), (1, 218), (1, 220), (1, 224)]) (by decide +kernel) (by decide +kernel) (by decide +kernel) (by decide +kernel)
theorem ck_k5 : (∀ w ∈ u_ws "RegisterColours$Merger" kd_5 6, w ∈ ev_gw) ∧ ∃ ty0 : Nat → FieldType, (∀ k, k < 6 → parseFieldDescriptor (kd_5 k).2.2.1 = some (ty0 k)) ∧ (∀ a, a < 6 → ∀ b, b < 6 → a ≠ b → (kd_5 a).2.1 ≠ (kd_5 b).2.1) := ev_ckk (q := ("RegisterColours$Merger", kd_5, 6)) (pl := [(3, 205), (3, 215), (3, 213), (3, 207), (3, 211), (3, 209)]) (by decide +kernel) (by decide +kernel) (by decide +kernel) (by decide +kernel)
theorem ck_k6 : (∀ w ∈ u_ws "RegisterColours$Reader" kd_6 11, w ∈ ev_gw) ∧ ∃ ty0 : Nat → FieldType, (∀ k, k < 11 → parseFieldDescriptor (kd_6 k).2.2.1 = some (ty0 k)) ∧ (∀ a, a < 11 → ∀ b, b < 11 → a ≠ b → (kd_6 a).2.1 ≠ (kd_6 b).2.1) := ev_ckk (q := ("RegisterColours$Reader", kd_6, 11)) (pl := [(1, 119), (1, 121), (1, 117), (1, 123), (1, 127), (1, 137), (1, 129), (1, 133), (1, 125), (1, 131), (1, 135)]) (by decide +kernel) (by decide +kernel) (by decide +kernel) (by decide +kernel)
theorem ck_k7 : (∀ w ∈ u_ws "RegisterColours$Runner" kd_7 13, w ∈ ev_gw) ∧ ∃ ty0 : Nat → FieldType, (∀ k, k < 13 → parseFieldDescriptor (kd_7 k).2.2.1 = some (ty0 k)) ∧ (∀ a, a < 13 → ∀ b, b < 13 → a ≠ b → (kd_7 a).2.1 ≠ (kd_7 b).2.1) := ev_ckk (q := ("RegisterColours$Runner", kd_7, 13)) (pl := [(2, 164), (2, 142), (2, 144), (2, 146), (2, 148), (2, 150), (2, 152), (2, 154), (2, 156), (2, 158), (2, 160), (2, 162), (2, 166)]) (by decide +kernel) (by decide +kernel) (by decide +kernel) (by decide +kernel)
theorem ck_k8 : (∀ w ∈ u_ws "RegisterColours$Spiller" kd_8 7, w ∈ ev_gw) ∧ ∃ ty0 : Nat → FieldType, (∀ k, k < 7 → parseFieldDescriptor (kd_8 k).2.2.1 = some (ty0 k)) ∧ (∀ a, a < 7 → ∀ b, b < 7 → a ≠ b → (kd_8 a).2.1 ≠ (kd_8 b).2.1) := ev_ckk (q := ("RegisterColours$Spiller", kd_8, 7)) (pl := [(4, 34), (4, 36), (4, 38), (4, 40), (4, 42), (4, 44), (4, 46)]) (by decide +kernel) (by decide +kernel) (by decide +kernel) (by decide +kernel)
theorem ck_k9 : (∀ w ∈ u_ws "RegisterColours$Steps" kd_9 6, w ∈ ev_gw) ∧ ∃ ty0 : Nat → FieldType, (∀ k, k < 6 → parseFieldDescriptor (kd_9 k).2.2.1 = some (ty0 k)) ∧ (∀ a, a < 6 → ∀ b, b < 6 → a ≠ b → (kd_9 a).2.1 ≠ (kd_9 b).2.1) := ev_ckk (q := ("RegisterColours$Steps", kd_9, 6)) (pl := [(1, 97), (1, 87), (1, 89), (1, 91), (1, 93), (1, 95)]) (by decide +kernel) (by decide +kernel) (by decide +kernel) (by decide +kernel)
theorem ck_k10 : (∀ w ∈ u_ws "RegisterColours$Told" kd_10 10, w ∈ ev_gw) ∧ ∃ ty0 : Nat → FieldType, (∀ k, k < 10 → parseFieldDescriptor (kd_10 k).2.2.1 = some (ty0 k)) ∧ (∀ a, a < 10 → ∀ b, b < 10 → a ≠ b → (kd_10 a).2.1 ≠ (kd_10 b).2.1) := ev_ckk (q := ("RegisterColours$Told", kd_10, 10)) (pl := [(2, 37), (2, 25), (2, 21), (2, 31), (2, 23), (2, 33), (2, 29), (2, 27), (2, 35), (2, 39)]) (by decide +kernel) (by decide +kernel) (by decide +kernel) (by decide +kernel)
theorem ck_k11 : (∀ w ∈ u_ws "RegisterColoursModel" kd_11 73, w ∈ ev_gw) ∧ ∃ ty0 : Nat → FieldType, (∀ k, k < 73 → parseFieldDescriptor (kd_11 k).2.2.1 = some (ty0 k)) ∧ (∀ a, a < 73 → ∀ b, b < 73 → a ≠ b → (kd_11 a).2.1 ≠ (kd_11 b).2.1) := ev_ckk (q := ("RegisterColoursModel", kd_11, 73)) (pl := [(6, 213), (7, 87), (6, 209), (6, 205), (6, 187), (7, 85), (7, 89), (6, 211), (6, 207), (6, 235), (7, 79), (6, 197), (6, 227), (6, 199), (7, 13), (7, 15), (7, 17), (7, 57), (7, 63), (6, 195), (7, 23), (7, 21), (6, 185), (6, 201), (6, 189), (7, 11), (7, 19), (6, 191), (7, 53), (7, 59), (7, 43), (7, 25), (7, 61), (7, 29), (7, 41), (7, 45), (7, 55), (7, 81), (6, 193), (6, 215), (6, 219), (6, 221), (6, 229), (6, 237), (6, 239), (7, 1), (7, 3), (7, 39), (7, 47), (7, 51), (7, 67), (7, 69), (7, 71), (7, 83), (6, 203), (6, 217), (6, 223), (6, 225), (6, 231), (6, 233), (7, 5), (7, 7), (7, 27), (7, 33), (7, 49), (7, 65), (7, 73), (7, 75), (7, 77), (7, 9), (7, 31), (7, 35), (7, 37)]) (by decide +kernel) (by decide +kernel) (by decide +kernel) (by decide +kernel)
end
section
/-! the methods' tables, one by one -/
theorem ck_m0 : ev_mok ev_cl ev_pg ev_gw ev_nw mt_0 := ev_ckm (pl := [(7, 172), (6, 113)]) (pn := []) (by decide +kernel) (by decide +kernel) (by decide +kernel) (by decide +kernel) (by decide +kernel) (by decide +kernel)
theorem ck_m1 : ev_mok ev_cl ev_pg ev_gw ev_nw mt_1 := ev_ckm (pl := [(5, 112)]) (pn := []) (by decide +kernel) (by decide +kernel) (by decide +kernel) (by decide +kernel) (by decide +kernel) (by decide +kernel)
theorem ck_m2 : ev_mok ev_cl ev_pg ev_gw ev_nw mt_2 := ev_ckm (pl := [(7, 135)]) (pn := []) (by decide +kernel) (by decide +kernel) (by decide +kernel) (by decide +kernel) (by decide +kernel) (by decide +kernel)
theorem ck_m3 : ev_mok ev_cl ev_pg ev_gw ev_nw mt_3 := ev_ckm (pl := [(7, 208)]) (pn := []) (by decide +kernel) (by decide +kernel) (by decide +kernel) (by decide +kernel) (by decide +kernel) (by decide +kernel)
theorem ck_m4 : ev_mok ev_cl ev_pg ev_gw ev_nw mt_4 := ev_ckm (pl := [(4, 174)]) (pn := []) (by decide +kernel) (by decide +kernel) (by decide +kernel) (by decide +kernel) (by decide +kernel) (by decide +kernel)
theorem ck_m5 : ev_mok ev_cl ev_pg ev_gw ev_nw mt_5 := ev_ckm (pl := [(4, 192), (2, 55), (2, 52), (4, 173), (1, 1)]) (pn := [(4, 172)]) (by decide +kernel) (by decide +kernel) (by decide +kernel) (by decide +kernel) (by decide +kernel) (by decide +kernel)
theorem ck_m6 : ev_mok ev_cl ev_pg ev_gw ev_nw mt_6 := ev_ckm (pl := [(4, 124)]) (pn := []) (by decide +kernel) (by decide +kernel) (by decide +kernel) (by decide +kernel) (by decide +kernel) (by decide +kernel)
theorem ck_m7 : ev_mok ev_cl ev_pg ev_gw ev_nw mt_7 := ev_ckm (pl := [(2, 174)]) (pn := []) (by decide +kernel) (by decide +kernel) (by decide +kernel) (by decide +kernel) (by decide +kernel) (by decide +kernel)
theorem ck_m8 : ev_mok ev_cl ev_pg ev_gw ev_nw mt_8 := ev_ckm (pl := [(7, 167)]) (pn := []) (by decide +kernel) (by decide +kernel) (by decide +kernel) (by decide +kernel) (by decide +kernel) (by decide +kernel)
theorem ck_m9 : ev_mok ev_cl ev_pg ev_gw ev_nw mt_9 := ev_ckm (pl := [(4, 147), (4, 148), (4, 149), (4, 149), (4, 150)]) (pn := []) (by decide +kernel) (by decide +kernel) (by decide +kernel) (by decide +kernel) (by decide +kernel) (by decide +kernel)
theorem ck_m10 : ev_mok ev_cl ev_pg ev_gw ev_nw mt_10 := ev_ckm (pl := [(7, 176), (6, 122), (7, 164), (7, 166), (0, 87), (1, 9), (6, 122), (7, 164), (7, 166), (0, 87), (1, 9)]) (pn := []) (by decide +kernel) (by decide +kernel) (by decide +kernel) (by decide +kernel) (by decide +kernel) (by decide +kernel)
theorem ck_m11 : ev_mok ev_cl ev_pg ev_gw ev_nw mt_11 := ev_ckm (pl := [(4, 171), (2, 61), (4, 173), (1, 1)]) (pn := [(4, 172)]) (by decide +kernel) (by decide +kernel) (by decide +kernel) (by decide +kernel) (by decide +kernel) (by decide +kernel)
theorem ck_m12 : ev_mok ev_cl ev_pg ev_gw ev_nw mt_12 := ev_ckm (pl := [(4, 136), (2, 55), (2, 52), (4, 123), (1, 1), (2, 55), (2, 52), (4, 123), (1, 1)]) (pn := [(4, 122), (4, 122)]) (by decide +kernel) (by decide +kernel) (by decide +kernel) (by decide +kernel) (by decide +kernel) (by decide +kernel)
theorem ck_m13 : ev_mok ev_cl ev_pg ev_gw ev_nw mt_13 := ev_ckm (pl := [(4, 99)]) (pn := []) (by decide +kernel) (by decide +kernel) (by decide +kernel) (by decide +kernel) (by decide +kernel) (by decide +kernel)
theorem ck_m14 : ev_mok ev_cl ev_pg ev_gw ev_nw mt_14 := ev_ckm (pl := [(7, 200), (6, 118), (7, 201), (7, 203), (0, 96), (1, 9)]) (pn := []) (by decide +kernel) (by decide +kernel) (by decide +kernel) (by decide +kernel) (by decide +kernel) (by decide +kernel)
theorem ck_m15 : ev_mok ev_cl ev_pg ev_gw ev_nw mt_15 := ev_ckm (pl := [(7, 204)]) (pn := []) (by decide +kernel) (by decide +kernel) (by decide +kernel) (by decide +kernel) (by decide +kernel) (by decide +kernel)
theorem ck_m16 : ev_mok ev_cl ev_pg ev_gw ev_nw mt_16 := ev_ckm (pl := [(8, 0), (6, 113), (6, 114), (6, 113)]) (pn := []) (by decide +kernel) (by decide +kernel) (by decide +kernel) (by decide +kernel) (by decide +kernel) (by decide +kernel)
theorem ck_m17 : ev_mok ev_cl ev_pg ev_gw ev_nw mt_17 := ev_ckm (pl := [(4, 213), (2, 49), (2, 72), (2, 49), (2, 78), (2, 72)]) (pn := []) (by decide +kernel) (by decide +kernel) (by decide +kernel) (by decide +kernel) (by decide +kernel) (by decide +kernel)
theorem ck_m18 : ev_mok ev_cl ev_pg ev_gw ev_nw mt_18 := ev_ckm (pl := [(7, 103)]) (pn := []) (by decide +kernel) (by decide +kernel) (by decide +kernel) (by decide +kernel) (by decide +kernel) (by decide +kernel)
theorem ck_m19 : ev_mok ev_cl ev_pg ev_gw ev_nw mt_19 := ev_ckm (pl := [(1, 231)]) (pn := []) (by decide +kernel) (by decide +kernel) (by decide +kernel) (by decide +kernel) (by decide +kernel) (by decide +kernel)
theorem ck_m20 : ev_mok ev_cl ev_pg ev_gw ev_nw mt_20 := ev_ckm (pl := [(7, 131), (6, 117), (6, 120), (7, 132), (7, 134), (0, 79), (1, 9), (6, 117)]) (pn := []) (by decide +kernel) (by decide +kernel) (by decide +kernel) (by decide +kernel) (by decide +kernel) (by decide +kernel)
theorem ck_m21 : ev_mok ev_cl ev_pg ev_gw ev_nw mt_21 := ev_ckm (pl := [(7, 127), (6, 122), (7, 132), (7, 134), (0, 79), (1, 9), (6, 123), (6, 126), (6, 124), (6, 124), (7, 169), (7, 171), (0, 88), (1, 9), (6, 125), (6, 126), (7, 168), (7, 173), (7, 175), (0, 89), (1, 9), (6, 113), (7, 128), (7, 130), (0, 78), (1, 9), (6, 117)]) (pn := []) (by decide +kernel) (by decide +kernel) (by decide +kernel) (by decide +kernel) (by decide +kernel) (by decide +kernel)
theorem ck_m22 : ev_mok ev_cl ev_pg ev_gw ev_nw mt_22 := ev_ckm (pl := [(4, 80), (2, 49), (4, 81), (2, 217), (1, 10), (2, 218), (2, 74), (2, 74), (2, 77), (1, 234), (2, 72), (1, 236), (2, 78), (2, 0), (2, 79), (4, 82), (4, 84), (0, 22), (1, 7), (4, 93), (4, 95), (0, 23), (1, 7), (4, 125), (4, 127), (0, 26), (1, 7), (4, 129), (4, 131), (0, 27), (1, 7), (4, 155), (4, 157), (0, 30), (1, 7)]) (pn := []) (by decide +kernel) (by decide +kernel) (by decide +kernel) (by decide +kernel) (by decide +kernel) (by decide +kernel)
theorem ck_m23 : ev_mok ev_cl ev_pg ev_gw ev_nw mt_23 := ev_ckm (pl := [(4, 85), (2, 48), (1, 81), (2, 48), (1, 81), (2, 48), (1, 81)]) (pn := []) (by decide +kernel) (by decide +kernel) (by decide +kernel) (by decide +kernel) (by decide +kernel) (by decide +kernel)
theorem ck_m24 : ev_mok ev_cl ev_pg ev_gw ev_nw mt_24 := ev_ckm (pl := [(4, 96), (4, 100), (2, 48), (1, 81), (2, 54), (4, 97), (4, 98), (1, 6)]) (pn := []) (by decide +kernel) (by decide +kernel) (by decide +kernel) (by decide +kernel) (by decide +kernel) (by decide +kernel)
theorem ck_m25 : ev_mok ev_cl ev_pg ev_gw ev_nw mt_25 := ev_ckm (pl := [(4, 128), (2, 74), (2, 49), (2, 58), (4, 123), (1, 1), (2, 49), (2, 59), (4, 123), (1, 1), (2, 58), (4, 97), (4, 98), (1, 6), (2, 59), (4, 97), (4, 98), (1, 6)]) (pn := [(4, 122), (4, 122)]) (by decide +kernel) (by decide +kernel) (by decide +kernel) (by decide +kernel) (by decide +kernel) (by decide +kernel)
theorem ck_m26 : ev_mok ev_cl ev_pg ev_gw ev_nw mt_26 := ev_ckm (pl := [(4, 132), (4, 133), (4, 135), (0, 28), (1, 7), (2, 72), (2, 55), (4, 97), (4, 98), (1, 6), (2, 48), (1, 81)]) (pn := []) (by decide +kernel) (by decide +kernel) (by decide +kernel) (by decide +kernel) (by decide +kernel) (by decide +kernel)
theorem ck_m27 : ev_mok ev_cl ev_pg ev_gw ev_nw mt_27 := ev_ckm (pl := [(4, 158), (2, 72), (2, 61), (4, 123), (1, 1), (2, 68), (4, 159), (1, 230), (1, 6), (2, 61), (4, 97), (4, 98), (1, 6), (2, 74), (2, 48), (1, 81)]) (pn := [(4, 122)]) (by decide +kernel) (by decide +kernel) (by decide +kernel) (by decide +kernel) (by decide +kernel) (by decide +kernel)
theorem ck_m28 : ev_mok ev_cl ev_pg ev_gw ev_nw mt_28 := ev_ckm (pl := [(5, 92), (2, 181), (2, 180), (2, 178), (5, 93), (4, 78), (4, 79), (1, 7), (2, 181), (2, 180)]) (pn := []) (by decide +kernel) (by decide +kernel) (by decide +kernel) (by decide +kernel) (by decide +kernel) (by decide +kernel)
theorem ck_m29 : ev_mok ev_cl ev_pg ev_gw ev_nw mt_29 := ev_ckm (pl := [(7, 236), (7, 197), (7, 199), (0, 95), (1, 9), (7, 197), (7, 199), (0, 95), (1, 9)]) (pn := []) (by decide +kernel) (by decide +kernel) (by decide +kernel) (by decide +kernel) (by decide +kernel) (by decide +kernel)
theorem ck_m30 : ev_mok ev_cl ev_pg ev_gw ev_nw mt_30 := ev_ckm (pl := [(2, 222), (2, 178), (2, 8), (2, 181), (2, 183)]) (pn := []) (by decide +kernel) (by decide +kernel) (by decide +kernel) (by decide +kernel) (by decide +kernel) (by decide +kernel)
theorem ck_m31 : ev_mok ev_cl ev_pg ev_gw ev_nw mt_31 := ev_ckm (pl := [(9, 100), (6, 184), (6, 182), (6, 183), (6, 183), (6, 183)]) (pn := []) (by decide +kernel) (by decide +kernel) (by decide +kernel) (by decide +kernel) (by decide +kernel) (by decide +kernel)
theorem ck_m32 : ev_mok ev_cl ev_pg ev_gw ev_nw mt_32 := ev_ckm (pl := [(1, 41), (1, 42), (1, 29), (1, 30), (1, 78), (1, 101), (1, 43), (1, 101), (1, 49), (1, 101), (1, 57), (1, 101), (1, 65), (1, 101), (1, 72)]) (pn := []) (by decide +kernel) (by decide +kernel) (by decide +kernel) (by decide +kernel) (by decide +kernel) (by decide +kernel)
theorem ck_m33 : ev_mok ev_cl ev_pg ev_gw ev_nw mt_33 := ev_ckm (pl := [(9, 96), (6, 184), (6, 182), (6, 183), (6, 183), (6, 183), (6, 182), (6, 183)]) (pn := []) (by decide +kernel) (by decide +kernel) (by decide +kernel) (by decide +kernel) (by decide +kernel) (by decide +kernel)
theorem ck_m34 : ev_mok ev_cl ev_pg ev_gw ev_nw mt_34 := ev_ckm (pl := [(2, 230), (2, 176), (2, 175), (2, 176), (2, 176), (2, 176)]) (pn := []) (by decide +kernel) (by decide +kernel) (by decide +kernel) (by decide +kernel) (by decide +kernel) (by decide +kernel)
theorem ck_m35 : ev_mok ev_cl ev_pg ev_gw ev_nw mt_35 := ev_ckm (pl := [(8, 100), (6, 150), (6, 151), (6, 151), (6, 151)]) (pn := []) (by decide +kernel) (by decide +kernel) (by decide +kernel) (by decide +kernel) (by decide +kernel) (by decide +kernel)
theorem ck_m36 : ev_mok ev_cl ev_pg ev_gw ev_nw mt_36 := ev_ckm (pl := [(3, 164), (1, 78), (1, 43), (3, 165), (2, 217), (1, 10), (2, 218), (1, 43), (1, 43), (3, 166), (3, 168), (3, 167), (1, 15), (1, 49), (1, 49), (3, 166), (3, 168), (3, 167), (1, 15), (1, 57), (1, 57), (3, 166), (3, 168), (3, 167), (1, 15), (1, 65), (1, 65), (3, 166), (3, 168), (3, 167), (1, 15), (1, 72), (1, 72), (3, 166), (3, 168), (3, 167), (1, 15), (1, 78)]) (pn := []) (by decide +kernel) (by decide +kernel) (by decide +kernel) (by decide +kernel) (by decide +kernel) (by decide +kernel)
theorem ck_m37 : ev_mok ev_cl ev_pg ev_gw ev_nw mt_37 := ev_ckm (pl := [(5, 105), (2, 178), (1, 233)]) (pn := []) (by decide +kernel) (by decide +kernel) (by decide +kernel) (by decide +kernel) (by decide +kernel) (by decide +kernel)
theorem ck_m38 : ev_mok ev_cl ev_pg ev_gw ev_nw mt_38 := ev_ckm (pl := [(9, 27), (7, 100), (7, 102), (0, 72), (1, 9), (6, 113), (7, 100), (7, 102), (0, 72), (1, 9)]) (pn := []) (by decide +kernel) (by decide +kernel) (by decide +kernel) (by decide +kernel) (by decide +kernel) (by decide +kernel)
theorem ck_m39 : ev_mok ev_cl ev_pg ev_gw ev_nw mt_39 := ev_ckm (pl := [(1, 152), (1, 153), (1, 29), (1, 30), (1, 154), (1, 38), (1, 3), (1, 155), (1, 40), (1, 3), (1, 156), (1, 101), (1, 162), (1, 101), (1, 168), (1, 101), (1, 171), (1, 101), (1, 174), (1, 177), (1, 181), (1, 184), (1, 187), (1, 190), (1, 193), (1, 196), (1, 199)]) (pn := []) (by decide +kernel) (by decide +kernel) (by decide +kernel) (by decide +kernel) (by decide +kernel) (by decide +kernel)
theorem ck_m40 : ev_mok ev_cl ev_pg ev_gw ev_nw mt_40 := ev_ckm (pl := [(7, 107)]) (pn := []) (by decide +kernel) (by decide +kernel) (by decide +kernel) (by decide +kernel) (by decide +kernel) (by decide +kernel)
theorem ck_m41 : ev_mok ev_cl ev_pg ev_gw ev_nw mt_41 := ev_ckm (pl := [(8, 120), (6, 151)]) (pn := []) (by decide +kernel) (by decide +kernel) (by decide +kernel) (by decide +kernel) (by decide +kernel) (by decide +kernel)
theorem ck_m42 : ev_mok ev_cl ev_pg ev_gw ev_nw mt_42 := ev_ckm (pl := [(5, 1), (3, 235), (3, 237), (2, 76), (4, 143), (1, 1)]) (pn := [(5, 2)]) (by decide +kernel) (by decide +kernel) (by decide +kernel) (by decide +kernel) (by decide +kernel) (by decide +kernel)
theorem ck_m43 : ev_mok ev_cl ev_pg ev_gw ev_nw mt_43 := ev_ckm (pl := [(4, 144), (4, 121), (4, 121)]) (pn := []) (by decide +kernel) (by decide +kernel) (by decide +kernel) (by decide +kernel) (by decide +kernel) (by decide +kernel)
theorem ck_m44 : ev_mok ev_cl ev_pg ev_gw ev_nw mt_44 := ev_ckm (pl := [(4, 208), (2, 77), (2, 55), (2, 52), (4, 209), (4, 146), (1, 20), (2, 58), (4, 209), (4, 146), (1, 20), (2, 49)]) (pn := []) (by decide +kernel) (by decide +kernel) (by decide +kernel) (by decide +kernel) (by decide +kernel) (by decide +kernel)
theorem ck_m45 : ev_mok ev_cl ev_pg ev_gw ev_nw mt_45 := ev_ckm (pl := [(7, 232), (6, 126), (6, 122), (7, 205), (7, 207), (0, 97), (1, 9), (7, 233), (7, 235), (0, 104), (1, 9)]) (pn := []) (by decide +kernel) (by decide +kernel) (by decide +kernel) (by decide +kernel) (by decide +kernel) (by decide +kernel)
theorem ck_m46 : ev_mok ev_cl ev_pg ev_gw ev_nw mt_46 := ev_ckm (pl := [(1, 144), (1, 145), (1, 29), (1, 30), (1, 232), (1, 235), (1, 238), (2, 2), (2, 4), (2, 7), (1, 146), (1, 38), (1, 3), (1, 147), (1, 40), (1, 3), (2, 9), (1, 101), (2, 13), (1, 101), (2, 16), (1, 148), (1, 149), (1, 5), (1, 151), (1, 5), (2, 18), (2, 16), (1, 229), (1, 230), (1, 6)]) (pn := [(1, 150)]) (by decide +kernel) (by decide +kernel) (by decide +kernel) (by decide +kernel) (by decide +kernel) (by decide +kernel)
end
section
/-! the methods' tables, one by one -/
theorem ck_m47 : ev_mok ev_cl ev_pg ev_gw ev_nw mt_47 := ev_ckm (pl := [(2, 46), (2, 47), (1, 29), (1, 30), (2, 72), (2, 74), (2, 77), (2, 78), (2, 79), (2, 48), (2, 49), (1, 44), (2, 52), (2, 52), (2, 117), (2, 54), (2, 52), (2, 117), (2, 55), (2, 52), (2, 117), (2, 56), (2, 52), (2, 117), (2, 57), (2, 52), (2, 117), (2, 58), (2, 52), (2, 117), (2, 59), (2, 118), (2, 60), (2, 52), (2, 117), (2, 61), (1, 101), (2, 65), (1, 101), (2, 68)]) (pn := []) (by decide +kernel) (by decide +kernel) (by decide +kernel) (by decide +kernel) (by decide +kernel) (by decide +kernel)
theorem ck_m48 : ev_mok ev_cl ev_pg ev_gw ev_nw mt_48 := ev_ckm (pl := [(2, 171), (2, 172), (2, 173), (1, 1)]) (pn := []) (by decide +kernel) (by decide +kernel) (by decide +kernel) (by decide +kernel) (by decide +kernel) (by decide +kernel)
theorem ck_m49 : ev_mok ev_cl ev_pg ev_gw ev_nw mt_49 := ev_ckm (pl := [(7, 115), (6, 117), (6, 117), (6, 117)]) (pn := []) (by decide +kernel) (by decide +kernel) (by decide +kernel) (by decide +kernel) (by decide +kernel) (by decide +kernel)
theorem ck_m50 : ev_mok ev_cl ev_pg ev_gw ev_nw mt_50 := ev_ckm (pl := [(8, 80), (6, 117)]) (pn := []) (by decide +kernel) (by decide +kernel) (by decide +kernel) (by decide +kernel) (by decide +kernel) (by decide +kernel)
theorem ck_m51 : ev_mok ev_cl ev_pg ev_gw ev_nw mt_51 := ev_ckm (pl := [(4, 204), (4, 205), (4, 206), (4, 207), (1, 7), (4, 210), (4, 211), (4, 212), (1, 7)]) (pn := []) (by decide +kernel) (by decide +kernel) (by decide +kernel) (by decide +kernel) (by decide +kernel) (by decide +kernel)
theorem ck_m52 : ev_mok ev_cl ev_pg ev_gw ev_nw mt_52 := ev_ckm (pl := [(7, 228), (7, 169), (7, 171), (0, 88), (1, 9), (7, 229), (7, 231), (0, 103), (1, 9), (7, 197), (7, 199), (0, 95), (1, 9), (7, 237), (7, 239), (0, 105), (1, 9)]) (pn := []) (by decide +kernel) (by decide +kernel) (by decide +kernel) (by decide +kernel) (by decide +kernel) (by decide +kernel)
theorem ck_m53 : ev_mok ev_cl ev_pg ev_gw ev_nw mt_53 := ev_ckm (pl := [(6, 42), (2, 61), (6, 43), (6, 44), (1, 7)]) (pn := []) (by decide +kernel) (by decide +kernel) (by decide +kernel) (by decide +kernel) (by decide +kernel) (by decide +kernel)
theorem ck_m54 : ev_mok ev_cl ev_pg ev_gw ev_nw mt_54 := ev_ckm (pl := [(6, 45), (6, 46)]) (pn := []) (by decide +kernel) (by decide +kernel) (by decide +kernel) (by decide +kernel) (by decide +kernel) (by decide +kernel)
theorem ck_m55 : ev_mok ev_cl ev_pg ev_gw ev_nw mt_55 := ev_ckm (pl := [(9, 43), (6, 126), (7, 124), (7, 126), (0, 77), (1, 9), (6, 180)]) (pn := []) (by decide +kernel) (by decide +kernel) (by decide +kernel) (by decide +kernel) (by decide +kernel) (by decide +kernel)
theorem ck_m56 : ev_mok ev_cl ev_pg ev_gw ev_nw mt_56 := ev_ckm (pl := [(1, 27), (1, 28), (1, 29), (1, 30), (1, 100), (2, 175), (2, 176), (1, 31), (1, 32), (1, 2), (2, 175), (1, 33), (1, 34), (1, 2), (2, 177), (1, 140), (1, 141), (1, 4), (1, 142), (1, 143), (1, 4), (2, 178), (1, 101), (2, 179), (2, 42), (2, 43), (1, 7), (2, 178), (2, 10), (2, 179), (2, 44), (2, 45), (1, 7), (2, 180), (2, 181), (2, 119), (2, 120), (1, 8), (2, 178), (2, 179), (2, 121), (2, 122), (1, 8), (2, 182), (2, 183), (2, 184), (2, 185), (2, 186), (2, 179), (2, 169), (2, 170), (1, 1)]) (pn := []) (by decide +kernel) (by decide +kernel) (by decide +kernel) (by decide +kernel) (by decide +kernel) (by decide +kernel)
theorem ck_m57 : ev_mok ev_cl ev_pg ev_gw ev_nw mt_57 := ev_ckm (pl := [(1, 35), (1, 36), (1, 29), (1, 30), (1, 37), (1, 38), (1, 3), (1, 39), (1, 40), (1, 3), (1, 102), (1, 104), (1, 106), (1, 108), (1, 101), (1, 111), (1, 101), (1, 112), (1, 101), (1, 113), (1, 101), (1, 114), (1, 101), (1, 115), (1, 116), (1, 110)]) (pn := []) (by decide +kernel) (by decide +kernel) (by decide +kernel) (by decide +kernel) (by decide +kernel) (by decide +kernel)
theorem ck_m58 : ev_mok ev_cl ev_pg ev_gw ev_nw mt_58 := ev_ckm (pl := [(2, 123), (2, 124), (1, 29), (1, 30), (2, 125), (2, 127), (2, 129), (2, 131), (2, 117), (2, 133), (1, 101), (2, 134), (2, 117), (2, 135), (2, 138), (2, 141), (2, 136), (2, 137), (2, 139), (2, 11), (2, 140)]) (pn := []) (by decide +kernel) (by decide +kernel) (by decide +kernel) (by decide +kernel) (by decide +kernel) (by decide +kernel)
theorem ck_m59 : ev_mok ev_cl ev_pg ev_gw ev_nw mt_59 := ev_ckm (pl := [(6, 109), (6, 110), (1, 29), (1, 30), (6, 113), (6, 114), (6, 115), (1, 101), (6, 116), (1, 101), (6, 117), (1, 101), (6, 118), (1, 101), (6, 119), (1, 101), (6, 120), (1, 101), (6, 121), (1, 101), (6, 122), (1, 101), (6, 123), (2, 118), (6, 124), (1, 101), (6, 125), (2, 118), (6, 126), (1, 101), (6, 128), (1, 101), (6, 131), (2, 118), (6, 132), (1, 101), (6, 133), (1, 101), (6, 135), (1, 101), (6, 136), (1, 101), (6, 137), (1, 101), (6, 143), (1, 101), (6, 146), (1, 101), (6, 147), (1, 101), (6, 148), (1, 101), (6, 149), (1, 101), (6, 150), (1, 101), (6, 156), (6, 160), (1, 101), (6, 163), (1, 101), (6, 164), (1, 101), (6, 165), (1, 101), (6, 167), (2, 117), (6, 168), (1, 101), (6, 169), (1, 101), (6, 170), (2, 117), (6, 171), (6, 111), (1, 101), (6, 176), (1, 101), (6, 177), (2, 118), (6, 178), (1, 101), (6, 179), (1, 101), (6, 182)]) (pn := []) (by decide +kernel) (by decide +kernel) (by decide +kernel) (by decide +kernel) (by decide +kernel) (by decide +kernel)
theorem ck_m60 : ev_mok ev_cl ev_pg ev_gw ev_nw mt_60 := ev_ckm (pl := [(2, 215), (2, 219), (2, 221), (0, 0), (1, 1), (2, 178), (1, 233), (2, 178), (1, 239), (2, 178), (1, 237), (2, 178), (1, 233), (2, 178), (2, 178), (1, 239), (2, 216), (2, 217), (1, 10), (2, 218), (1, 239)]) (pn := []) (by decide +kernel) (by decide +kernel) (by decide +kernel) (by decide +kernel) (by decide +kernel) (by decide +kernel)
theorem ck_m61 : ev_mok ev_cl ev_pg ev_gw ev_nw mt_61 := ev_ckm (pl := [(7, 95), (6, 113), (6, 114), (6, 115), (6, 115), (6, 113), (7, 104), (7, 106), (0, 73), (1, 9), (6, 115), (6, 145), (6, 112), (7, 96), (7, 98), (0, 71), (1, 9)]) (pn := []) (by decide +kernel) (by decide +kernel) (by decide +kernel) (by decide +kernel) (by decide +kernel) (by decide +kernel)
theorem ck_m62 : ev_mok ev_cl ev_pg ev_gw ev_nw mt_62 := ev_ckm (pl := [(7, 99), (7, 100), (7, 102), (0, 72), (1, 9), (6, 113), (7, 100), (7, 102), (0, 72), (1, 9), (7, 100), (7, 102), (0, 72), (1, 9)]) (pn := []) (by decide +kernel) (by decide +kernel) (by decide +kernel) (by decide +kernel) (by decide +kernel) (by decide +kernel)
theorem ck_m63 : ev_mok ev_cl ev_pg ev_gw ev_nw mt_63 := ev_ckm (pl := [(2, 226), (2, 176), (2, 227), (2, 229), (0, 1), (1, 1), (2, 227), (2, 229), (0, 1), (1, 1), (2, 227), (2, 229), (0, 1), (1, 1), (2, 227), (2, 229), (0, 1), (1, 1), (2, 227), (2, 229), (0, 1), (1, 1), (2, 176)]) (pn := []) (by decide +kernel) (by decide +kernel) (by decide +kernel) (by decide +kernel) (by decide +kernel) (by decide +kernel)
theorem ck_m64 : ev_mok ev_cl ev_pg ev_gw ev_nw mt_64 := ev_ckm (pl := [(8, 96), (6, 112), (6, 151), (8, 97), (8, 99), (0, 127), (1, 9), (8, 97), (8, 99), (0, 127), (1, 9), (8, 97), (8, 99), (0, 127), (1, 9), (8, 97), (8, 99), (0, 127), (1, 9), (8, 97), (8, 99), (0, 127), (1, 9), (6, 151)]) (pn := []) (by decide +kernel) (by decide +kernel) (by decide +kernel) (by decide +kernel) (by decide +kernel) (by decide +kernel)
theorem ck_m65 : ev_mok ev_cl ev_pg ev_gw ev_nw mt_65 := ev_ckm (pl := [(2, 234), (2, 176), (2, 176)]) (pn := []) (by decide +kernel) (by decide +kernel) (by decide +kernel) (by decide +kernel) (by decide +kernel) (by decide +kernel)
theorem ck_m66 : ev_mok ev_cl ev_pg ev_gw ev_nw mt_66 := ev_ckm (pl := [(8, 104), (6, 112), (6, 151), (7, 100), (7, 102), (0, 72), (1, 9), (6, 151)]) (pn := []) (by decide +kernel) (by decide +kernel) (by decide +kernel) (by decide +kernel) (by decide +kernel) (by decide +kernel)
theorem ck_m67 : ev_mok ev_cl ev_pg ev_gw ev_nw mt_67 := ev_ckm (pl := [(2, 238), (2, 177), (2, 176), (2, 239), (3, 0), (3, 1), (1, 2), (2, 176), (2, 178), (2, 10), (2, 177), (1, 103), (3, 161), (3, 162), (3, 163), (1, 3), (2, 178), (2, 177), (1, 105), (2, 3), (2, 219), (2, 221), (0, 0), (1, 1), (2, 178), (2, 3)]) (pn := []) (by decide +kernel) (by decide +kernel) (by decide +kernel) (by decide +kernel) (by decide +kernel) (by decide +kernel)
theorem ck_m68 : ev_mok ev_cl ev_pg ev_gw ev_nw mt_68 := ev_ckm (pl := [(3, 2), (3, 3), (3, 5), (0, 2), (1, 2), (1, 116), (1, 104), (1, 106), (1, 108), (1, 102), (1, 79), (1, 111), (1, 116), (1, 106), (3, 157), (3, 159), (0, 21), (1, 2), (1, 106)]) (pn := []) (by decide +kernel) (by decide +kernel) (by decide +kernel) (by decide +kernel) (by decide +kernel) (by decide +kernel)
theorem ck_m69 : ev_mok ev_cl ev_pg ev_gw ev_nw mt_69 := ev_ckm (pl := [(3, 6), (1, 111), (1, 112)]) (pn := []) (by decide +kernel) (by decide +kernel) (by decide +kernel) (by decide +kernel) (by decide +kernel) (by decide +kernel)
theorem ck_m70 : ev_mok ev_cl ev_pg ev_gw ev_nw mt_70 := ev_ckm (pl := [(3, 160), (1, 114), (1, 104), (1, 102), (1, 79), (1, 104)]) (pn := []) (by decide +kernel) (by decide +kernel) (by decide +kernel) (by decide +kernel) (by decide +kernel) (by decide +kernel)
theorem ck_m71 : ev_mok ev_cl ev_pg ev_gw ev_nw mt_71 := ev_ckm (pl := [(8, 108), (6, 112), (6, 159), (6, 160), (8, 109), (8, 111), (0, 128), (1, 9), (6, 151), (6, 161), (8, 185), (8, 187), (0, 147), (1, 9), (6, 145)]) (pn := []) (by decide +kernel) (by decide +kernel) (by decide +kernel) (by decide +kernel) (by decide +kernel) (by decide +kernel)
theorem ck_m72 : ev_mok ev_cl ev_pg ev_gw ev_nw mt_72 := ev_ckm (pl := [(8, 112), (6, 162), (6, 152), (8, 113), (8, 115), (0, 129), (1, 9), (6, 154), (6, 162), (6, 162)]) (pn := []) (by decide +kernel) (by decide +kernel) (by decide +kernel) (by decide +kernel) (by decide +kernel) (by decide +kernel)
theorem ck_m73 : ev_mok ev_cl ev_pg ev_gw ev_nw mt_73 := ev_ckm (pl := [(8, 116), (6, 152), (8, 117), (8, 119), (0, 130), (1, 9), (6, 152), (8, 117), (8, 119), (0, 130), (1, 9), (6, 152), (6, 153), (6, 154), (6, 152), (8, 117), (8, 119), (0, 130), (1, 9), (6, 154)]) (pn := []) (by decide +kernel) (by decide +kernel) (by decide +kernel) (by decide +kernel) (by decide +kernel) (by decide +kernel)
theorem ck_m74 : ev_mok ev_cl ev_pg ev_gw ev_nw mt_74 := ev_ckm (pl := [(8, 188), (6, 117), (6, 161), (6, 165), (6, 161), (6, 117), (6, 117)]) (pn := []) (by decide +kernel) (by decide +kernel) (by decide +kernel) (by decide +kernel) (by decide +kernel) (by decide +kernel)
theorem ck_m75 : ev_mok ev_cl ev_pg ev_gw ev_nw mt_75 := ev_ckm (pl := [(3, 172), (2, 177), (1, 109), (2, 177), (1, 107)]) (pn := []) (by decide +kernel) (by decide +kernel) (by decide +kernel) (by decide +kernel) (by decide +kernel) (by decide +kernel)
theorem ck_m76 : ev_mok ev_cl ev_pg ev_gw ev_nw mt_76 := ev_ckm (pl := [(8, 192), (6, 160), (6, 112), (6, 159)]) (pn := []) (by decide +kernel) (by decide +kernel) (by decide +kernel) (by decide +kernel) (by decide +kernel) (by decide +kernel)
theorem ck_m77 : ev_mok ev_cl ev_pg ev_gw ev_nw mt_77 := ev_ckm (pl := [(3, 176), (2, 178), (2, 15), (2, 178), (2, 6), (2, 178), (2, 6), (2, 6), (2, 183), (2, 178), (2, 6), (2, 178), (2, 6), (2, 178), (2, 6)]) (pn := []) (by decide +kernel) (by decide +kernel) (by decide +kernel) (by decide +kernel) (by decide +kernel) (by decide +kernel)
theorem ck_m78 : ev_mok ev_cl ev_pg ev_gw ev_nw mt_78 := ev_ckm (pl := [(8, 196), (6, 112), (6, 166), (6, 166), (6, 167), (6, 166), (6, 166), (6, 166), (6, 166)]) (pn := []) (by decide +kernel) (by decide +kernel) (by decide +kernel) (by decide +kernel) (by decide +kernel) (by decide +kernel)
theorem ck_m79 : ev_mok ev_cl ev_pg ev_gw ev_nw mt_79 := ev_ckm (pl := [(3, 180), (2, 184), (3, 181), (3, 182), (1, 16), (3, 184), (1, 16), (2, 184), (2, 184), (2, 178), (4, 66), (4, 67), (4, 68), (1, 16), (2, 178), (2, 20), (2, 184), (4, 50), (5, 80), (5, 81), (5, 82), (1, 5), (2, 178), (2, 8), (2, 183)]) (pn := [(3, 183)]) (by decide +kernel) (by decide +kernel) (by decide +kernel) (by decide +kernel) (by decide +kernel) (by decide +kernel)
theorem ck_m80 : ev_mok ev_cl ev_pg ev_gw ev_nw mt_80 := ev_ckm (pl := [(3, 185), (3, 186), (1, 29), (1, 30), (3, 187), (1, 149), (1, 5), (1, 151), (1, 5), (4, 49), (3, 189), (2, 43), (1, 7), (4, 49), (1, 157), (4, 49), (1, 163), (3, 190), (2, 45), (1, 7), (4, 51), (3, 191), (3, 192), (1, 17), (4, 49), (1, 157), (4, 51), (3, 193), (3, 194), (1, 17), (4, 52), (3, 218), (3, 219), (1, 18), (4, 51), (3, 220), (3, 221), (1, 18), (4, 53), (4, 19), (4, 20), (1, 19), (4, 49), (4, 52), (3, 198), (4, 21), (4, 22), (1, 19), (4, 54)]) (pn := [(3, 188)]) (by decide +kernel) (by decide +kernel) (by decide +kernel) (by decide +kernel) (by decide +kernel) (by decide +kernel)
theorem ck_m81 : ev_mok ev_cl ev_pg ev_gw ev_nw mt_81 := ev_ckm (pl := [(3, 195), (3, 196), (1, 29), (1, 30), (1, 101), (3, 197), (3, 199), (1, 101), (3, 201), (3, 202), (3, 203), (3, 204)]) (pn := []) (by decide +kernel) (by decide +kernel) (by decide +kernel) (by decide +kernel) (by decide +kernel) (by decide +kernel)
theorem ck_m82 : ev_mok ev_cl ev_pg ev_gw ev_nw mt_82 := ev_ckm (pl := [(3, 222), (3, 223), (1, 29), (1, 30), (1, 101), (3, 224), (2, 118), (3, 226), (3, 228), (3, 230), (1, 101), (3, 232), (2, 118), (3, 233), (3, 234), (1, 101), (3, 236), (3, 237), (2, 117), (3, 235)]) (pn := [(2, 53)]) (by decide +kernel) (by decide +kernel) (by decide +kernel) (by decide +kernel) (by decide +kernel) (by decide +kernel)
theorem ck_m83 : ev_mok ev_cl ev_pg ev_gw ev_nw mt_83 := ev_ckm (pl := [(4, 23), (4, 24), (1, 29), (1, 30), (1, 101), (4, 27), (1, 101), (4, 28), (1, 101), (4, 29), (4, 25), (1, 38), (1, 3), (4, 26), (1, 40), (1, 3), (4, 30), (4, 31), (1, 158), (4, 32), (4, 33)]) (pn := []) (by decide +kernel) (by decide +kernel) (by decide +kernel) (by decide +kernel) (by decide +kernel) (by decide +kernel)
theorem ck_m84 : ev_mok ev_cl ev_pg ev_gw ev_nw mt_84 := ev_ckm (pl := [(4, 69), (4, 49), (2, 12), (4, 70), (4, 71), (4, 72), (1, 5), (4, 51), (4, 49), (1, 180), (4, 77), (4, 78), (4, 79), (1, 7), (4, 52), (4, 164), (4, 165), (4, 166), (1, 17), (4, 53), (4, 233), (4, 234), (4, 235), (1, 18), (4, 53), (5, 24), (5, 25), (5, 26), (1, 18), (4, 49), (4, 52), (3, 200), (1, 194), (4, 49), (1, 200), (4, 53), (3, 231), (1, 200), (4, 53), (3, 229), (4, 49), (1, 182), (5, 35), (5, 37), (0, 43), (1, 16)]) (pn := []) (by decide +kernel) (by decide +kernel) (by decide +kernel) (by decide +kernel) (by decide +kernel) (by decide +kernel)
theorem ck_m85 : ev_mok ev_cl ev_pg ev_gw ev_nw mt_85 := ev_ckm (pl := [(4, 73), (1, 156), (4, 74), (3, 162), (3, 163), (1, 3), (1, 162), (2, 170), (1, 1), (1, 168), (4, 76), (1, 230), (1, 6), (1, 171), (4, 76), (1, 230), (1, 6), (1, 174), (4, 76), (1, 230), (1, 6), (1, 177), (1, 181), (1, 184), (1, 187), (1, 190), (1, 193), (1, 196), (1, 199)]) (pn := [(4, 75)]) (by decide +kernel) (by decide +kernel) (by decide +kernel) (by decide +kernel) (by decide +kernel) (by decide +kernel)
theorem ck_m86 : ev_mok ev_cl ev_pg ev_gw ev_nw mt_86 := ev_ckm (pl := [(4, 167), (3, 197), (3, 204), (2, 75), (3, 204), (4, 168), (4, 169), (4, 170), (1, 7), (4, 180), (3, 202), (3, 199), (4, 175), (4, 177), (0, 32), (1, 17)]) (pn := []) (by decide +kernel) (by decide +kernel) (by decide +kernel) (by decide +kernel) (by decide +kernel) (by decide +kernel)
theorem ck_m87 : ev_mok ev_cl ev_pg ev_gw ev_nw mt_87 := ev_ckm (pl := [(4, 178), (3, 203), (1, 83), (3, 202)]) (pn := []) (by decide +kernel) (by decide +kernel) (by decide +kernel) (by decide +kernel) (by decide +kernel) (by decide +kernel)
theorem ck_m88 : ev_mok ev_cl ev_pg ev_gw ev_nw mt_88 := ev_ckm (pl := [(4, 236), (3, 237), (2, 62), (3, 235), (3, 235), (4, 237), (3, 168), (3, 167), (1, 15), (4, 238), (5, 0), (0, 37), (1, 18), (3, 237), (2, 76), (3, 234), (5, 4), (5, 6), (0, 38), (1, 18), (5, 9), (5, 11), (0, 39), (1, 18)]) (pn := []) (by decide +kernel) (by decide +kernel) (by decide +kernel) (by decide +kernel) (by decide +kernel) (by decide +kernel)
theorem ck_m89 : ev_mok ev_cl ev_pg ev_gw ev_nw mt_89 := ev_ckm (pl := [(5, 7), (4, 238), (5, 0), (0, 37), (1, 18), (3, 237), (2, 76)]) (pn := []) (by decide +kernel) (by decide +kernel) (by decide +kernel) (by decide +kernel) (by decide +kernel) (by decide +kernel)
theorem ck_m90 : ev_mok ev_cl ev_pg ev_gw ev_nw mt_90 := ev_ckm (pl := [(5, 12), (4, 238), (5, 0), (0, 37), (1, 18), (3, 237), (2, 76)]) (pn := []) (by decide +kernel) (by decide +kernel) (by decide +kernel) (by decide +kernel) (by decide +kernel) (by decide +kernel)
theorem ck_m91 : ev_mok ev_cl ev_pg ev_gw ev_nw mt_91 := ev_ckm (pl := [(5, 27), (3, 224), (3, 237), (2, 73), (3, 226), (3, 228), (3, 230), (3, 234)]) (pn := []) (by decide +kernel) (by decide +kernel) (by decide +kernel) (by decide +kernel) (by decide +kernel) (by decide +kernel)
theorem ck_m92 : ev_mok ev_cl ev_pg ev_gw ev_nw mt_92 := ev_ckm (pl := [(5, 38), (4, 52), (3, 198), (4, 49), (1, 175), (4, 49), (1, 169), (4, 53), (3, 225)]) (pn := []) (by decide +kernel) (by decide +kernel) (by decide +kernel) (by decide +kernel) (by decide +kernel) (by decide +kernel)
theorem ck_m93 : ev_mok ev_cl ev_pg ev_gw ev_nw mt_93 := ev_ckm (pl := [(5, 83), (1, 156), (1, 156), (4, 74), (3, 162), (3, 163), (1, 3), (1, 162), (1, 162), (5, 84), (3, 168), (3, 167), (1, 15), (1, 168), (1, 168), (5, 84), (3, 168), (3, 167), (1, 15), (1, 171), (1, 171), (5, 84), (3, 168), (3, 167), (1, 15), (1, 174), (1, 174), (5, 84), (3, 168), (3, 167), (1, 15), (1, 177), (1, 177), (1, 181), (1, 181), (1, 184), (1, 184), (1, 187), (1, 187), (1, 190), (1, 190), (1, 193), (1, 193), (1, 196), (1, 196), (1, 199), (1, 199)]) (pn := []) (by decide +kernel) (by decide +kernel) (by decide +kernel) (by decide +kernel) (by decide +kernel) (by decide +kernel)
end
section
/-! the methods' tables, one by one -/
theorem ck_m94 : ev_mok ev_cl ev_pg ev_gw ev_nw mt_94 := ev_ckm (pl := [(7, 111), (6, 137), (6, 112), (7, 112), (7, 114), (0, 74), (1, 9), (6, 138), (6, 139), (6, 140), (6, 141), (6, 134), (6, 142), (7, 120), (7, 122), (0, 76), (1, 9), (8, 73), (8, 75), (0, 124), (1, 9)]) (pn := []) (by decide +kernel) (by decide +kernel) (by decide +kernel) (by decide +kernel) (by decide +kernel) (by decide +kernel)
theorem ck_m95 : ev_mok ev_cl ev_pg ev_gw ev_nw mt_95 := ev_ckm (pl := [(7, 123), (7, 124), (7, 126), (0, 77), (1, 9), (7, 213), (7, 215), (0, 99), (1, 9), (8, 9), (8, 11), (0, 108), (1, 9), (8, 21), (8, 23), (0, 111), (1, 9)]) (pn := []) (by decide +kernel) (by decide +kernel) (by decide +kernel) (by decide +kernel) (by decide +kernel) (by decide +kernel)
theorem ck_m96 : ev_mok ev_cl ev_pg ev_gw ev_nw mt_96 := ev_ckm (pl := [(7, 216), (6, 117), (6, 127), (6, 127), (6, 129)]) (pn := []) (by decide +kernel) (by decide +kernel) (by decide +kernel) (by decide +kernel) (by decide +kernel) (by decide +kernel)
theorem ck_m97 : ev_mok ev_cl ev_pg ev_gw ev_nw mt_97 := ev_ckm (pl := [(8, 12), (6, 130), (8, 13), (8, 15), (0, 109), (1, 9)]) (pn := []) (by decide +kernel) (by decide +kernel) (by decide +kernel) (by decide +kernel) (by decide +kernel) (by decide +kernel)
theorem ck_m98 : ev_mok ev_cl ev_pg ev_gw ev_nw mt_98 := ev_ckm (pl := [(8, 16), (6, 126), (6, 113)]) (pn := []) (by decide +kernel) (by decide +kernel) (by decide +kernel) (by decide +kernel) (by decide +kernel) (by decide +kernel)
theorem ck_m99 : ev_mok ev_cl ev_pg ev_gw ev_nw mt_99 := ev_ckm (pl := [(8, 24), (6, 133), (7, 169), (7, 171), (0, 88), (1, 9), (6, 130)]) (pn := []) (by decide +kernel) (by decide +kernel) (by decide +kernel) (by decide +kernel) (by decide +kernel) (by decide +kernel)
theorem ck_m100 : ev_mok ev_cl ev_pg ev_gw ev_nw mt_100 := ev_ckm (pl := [(8, 76), (6, 146), (6, 124), (6, 133), (6, 125), (6, 148), (6, 124), (6, 125), (6, 147), (6, 137), (6, 119), (6, 118), (7, 112), (7, 114), (0, 74), (1, 9), (6, 149), (6, 149), (6, 117), (6, 149), (6, 138), (6, 149), (6, 139), (6, 149), (6, 140), (6, 149), (6, 129), (6, 149), (6, 149), (6, 117), (6, 149), (8, 77), (8, 79), (0, 125), (1, 9), (6, 149), (8, 77), (8, 79), (0, 125), (1, 9), (6, 149), (6, 141), (6, 149), (6, 134), (6, 145)]) (pn := []) (by decide +kernel) (by decide +kernel) (by decide +kernel) (by decide +kernel) (by decide +kernel) (by decide +kernel)
theorem ck_m101 : ev_mok ev_cl ev_pg ev_gw ev_nw mt_101 := ev_ckm (pl := [(5, 88), (2, 178), (2, 8), (2, 178), (2, 10), (1, 86)]) (pn := []) (by decide +kernel) (by decide +kernel) (by decide +kernel) (by decide +kernel) (by decide +kernel) (by decide +kernel)
theorem ck_m102 : ev_mok ev_cl ev_pg ev_gw ev_nw mt_102 := ev_ckm (pl := [(9, 19), (6, 145), (6, 112), (6, 117), (7, 100), (7, 102), (0, 72), (1, 9)]) (pn := []) (by decide +kernel) (by decide +kernel) (by decide +kernel) (by decide +kernel) (by decide +kernel) (by decide +kernel)
theorem ck_m103 : ev_mok ev_cl ev_pg ev_gw ev_nw mt_103 := ev_ckm (pl := [(5, 101), (2, 178), (2, 10), (1, 86)]) (pn := []) (by decide +kernel) (by decide +kernel) (by decide +kernel) (by decide +kernel) (by decide +kernel) (by decide +kernel)
theorem ck_m104 : ev_mok ev_cl ev_pg ev_gw ev_nw mt_104 := ev_ckm (pl := [(9, 23), (6, 112), (6, 117), (7, 100), (7, 102), (0, 72), (1, 9)]) (pn := []) (by decide +kernel) (by decide +kernel) (by decide +kernel) (by decide +kernel) (by decide +kernel) (by decide +kernel)
theorem ck_m105 : ev_mok ev_cl ev_pg ev_gw ev_nw mt_105 := ev_ckm (pl := [(5, 116), (5, 89), (5, 91), (0, 52), (1, 1), (5, 117), (4, 169), (4, 170), (1, 7), (5, 110), (5, 111), (1, 1), (2, 71), (2, 64), (5, 118), (4, 206), (4, 207), (1, 7), (5, 119), (4, 211), (4, 212), (1, 7), (2, 64), (5, 120), (4, 202), (4, 203), (1, 7), (5, 110), (5, 111), (1, 1), (5, 102), (5, 104), (0, 53), (1, 1)]) (pn := []) (by decide +kernel) (by decide +kernel) (by decide +kernel) (by decide +kernel) (by decide +kernel) (by decide +kernel)
theorem ck_m106 : ev_mok ev_cl ev_pg ev_gw ev_nw mt_106 := ev_ckm (pl := [(9, 31), (7, 124), (7, 126), (0, 77), (1, 9), (6, 124), (6, 123), (7, 229), (7, 231), (0, 103), (1, 9), (7, 197), (7, 199), (0, 95), (1, 9), (7, 237), (7, 239), (0, 105), (1, 9), (7, 225), (7, 227), (0, 102), (1, 9), (6, 112), (9, 24), (9, 26), (0, 160), (1, 9), (7, 100), (7, 102), (0, 72), (1, 9)]) (pn := []) (by decide +kernel) (by decide +kernel) (by decide +kernel) (by decide +kernel) (by decide +kernel) (by decide +kernel)
theorem ck_m107 : ev_mok ev_cl ev_pg ev_gw ev_nw mt_107 := ev_ckm (pl := [(5, 124), (5, 89), (5, 91), (0, 52), (1, 1), (5, 125), (4, 190), (4, 191), (1, 7), (5, 110), (5, 111), (1, 1), (5, 102), (5, 104), (0, 53), (1, 1), (5, 102), (5, 104), (0, 53), (1, 1)]) (pn := []) (by decide +kernel) (by decide +kernel) (by decide +kernel) (by decide +kernel) (by decide +kernel) (by decide +kernel)
theorem ck_m108 : ev_mok ev_cl ev_pg ev_gw ev_nw mt_108 := ev_ckm (pl := [(9, 35), (7, 124), (7, 126), (0, 77), (1, 9), (6, 122), (7, 205), (7, 207), (0, 97), (1, 9), (6, 112), (9, 24), (9, 26), (0, 160), (1, 9), (9, 24), (9, 26), (0, 160), (1, 9)]) (pn := []) (by decide +kernel) (by decide +kernel) (by decide +kernel) (by decide +kernel) (by decide +kernel) (by decide +kernel)
theorem ck_m109 : ev_mok ev_cl ev_pg ev_gw ev_nw mt_109 := ev_ckm (pl := [(5, 129), (2, 178), (2, 8), (2, 178), (1, 233)]) (pn := []) (by decide +kernel) (by decide +kernel) (by decide +kernel) (by decide +kernel) (by decide +kernel) (by decide +kernel)
theorem ck_m110 : ev_mok ev_cl ev_pg ev_gw ev_nw mt_110 := ev_ckm (pl := [(8, 88), (6, 112), (6, 145)]) (pn := []) (by decide +kernel) (by decide +kernel) (by decide +kernel) (by decide +kernel) (by decide +kernel) (by decide +kernel)
theorem ck_m111 : ev_mok ev_cl ev_pg ev_gw ev_nw mt_111 := ev_ckm (pl := [(5, 133), (2, 178), (2, 8)]) (pn := []) (by decide +kernel) (by decide +kernel) (by decide +kernel) (by decide +kernel) (by decide +kernel) (by decide +kernel)
theorem ck_m112 : ev_mok ev_cl ev_pg ev_gw ev_nw mt_112 := ev_ckm (pl := [(8, 92), (6, 112), (6, 145)]) (pn := []) (by decide +kernel) (by decide +kernel) (by decide +kernel) (by decide +kernel) (by decide +kernel) (by decide +kernel)
theorem ck_m113 : ev_mok ev_cl ev_pg ev_gw ev_nw mt_113 := ev_ckm (pl := [(5, 163), (2, 178), (2, 8), (2, 183), (2, 182), (5, 164), (5, 165), (5, 166), (1, 8), (2, 183), (2, 182), (2, 126), (5, 110), (5, 111), (1, 1), (2, 182), (2, 128), (2, 182), (2, 130), (2, 182), (2, 132)]) (pn := []) (by decide +kernel) (by decide +kernel) (by decide +kernel) (by decide +kernel) (by decide +kernel) (by decide +kernel)
theorem ck_m114 : ev_mok ev_cl ev_pg ev_gw ev_nw mt_114 := ev_ckm (pl := [(5, 167), (2, 138), (2, 136), (2, 11), (2, 140), (2, 137), (2, 139), (2, 133), (5, 168), (4, 98), (1, 6), (2, 134), (5, 169), (1, 230), (1, 6), (2, 135), (5, 168), (4, 98), (1, 6), (2, 127), (2, 129), (2, 131), (2, 141), (2, 140), (1, 80), (2, 140), (1, 80), (2, 125)]) (pn := []) (by decide +kernel) (by decide +kernel) (by decide +kernel) (by decide +kernel) (by decide +kernel) (by decide +kernel)
theorem ck_m115 : ev_mok ev_cl ev_pg ev_gw ev_nw mt_115 := ev_ckm (pl := [(8, 200), (6, 168), (6, 171), (6, 169), (6, 170), (6, 112), (7, 100), (7, 102), (0, 72), (1, 9), (7, 100), (7, 102), (0, 72), (1, 9), (6, 145), (6, 172), (6, 173), (6, 174), (6, 175), (6, 117), (6, 117), (6, 175), (6, 173), (6, 174)]) (pn := []) (by decide +kernel) (by decide +kernel) (by decide +kernel) (by decide +kernel) (by decide +kernel) (by decide +kernel)
theorem ck_m116 : ev_mok ev_cl ev_pg ev_gw ev_nw mt_116 := ev_ckm (pl := [(5, 205), (2, 178), (2, 8)]) (pn := []) (by decide +kernel) (by decide +kernel) (by decide +kernel) (by decide +kernel) (by decide +kernel) (by decide +kernel)
theorem ck_m117 : ev_mok ev_cl ev_pg ev_gw ev_nw mt_117 := ev_ckm (pl := [(8, 227), (6, 112), (6, 145)]) (pn := []) (by decide +kernel) (by decide +kernel) (by decide +kernel) (by decide +kernel) (by decide +kernel) (by decide +kernel)
theorem ck_m118 : ev_mok ev_cl ev_pg ev_gw ev_nw mt_118 := ev_ckm (pl := [(6, 38), (5, 89), (5, 91), (0, 52), (1, 1), (6, 39), (6, 40), (6, 41), (1, 7), (5, 110), (5, 111), (1, 1), (5, 89), (5, 91), (0, 52), (1, 1), (6, 39), (6, 40), (6, 41), (1, 7), (5, 89), (5, 91), (0, 52), (1, 1), (2, 178), (2, 17), (6, 61), (6, 62), (6, 63), (1, 7), (5, 89), (5, 91), (0, 52), (1, 1), (6, 67), (6, 68), (6, 69), (1, 7)]) (pn := []) (by decide +kernel) (by decide +kernel) (by decide +kernel) (by decide +kernel) (by decide +kernel) (by decide +kernel)
theorem ck_m119 : ev_mok ev_cl ev_pg ev_gw ev_nw mt_119 := ev_ckm (pl := [(6, 70), (2, 48), (1, 81)]) (pn := []) (by decide +kernel) (by decide +kernel) (by decide +kernel) (by decide +kernel) (by decide +kernel) (by decide +kernel)
theorem ck_m120 : ev_mok ev_cl ev_pg ev_gw ev_nw mt_120 := ev_ckm (pl := [(6, 64), (5, 111), (1, 1)]) (pn := [(6, 66)]) (by decide +kernel) (by decide +kernel) (by decide +kernel) (by decide +kernel) (by decide +kernel) (by decide +kernel)
theorem ck_m121 : ev_mok ev_cl ev_pg ev_gw ev_nw mt_121 := ev_ckm (pl := [(9, 39), (9, 40), (9, 42), (0, 161), (1, 9), (6, 180), (9, 56), (9, 58), (0, 165), (1, 9), (9, 60), (9, 62), (0, 166), (1, 9), (6, 112), (9, 40), (9, 42), (0, 161), (1, 9)]) (pn := []) (by decide +kernel) (by decide +kernel) (by decide +kernel) (by decide +kernel) (by decide +kernel) (by decide +kernel)
theorem ck_m122 : ev_mok ev_cl ev_pg ev_gw ev_nw mt_122 := ev_ckm (pl := [(9, 59), (6, 179), (7, 124), (7, 126), (0, 77), (1, 9)]) (pn := []) (by decide +kernel) (by decide +kernel) (by decide +kernel) (by decide +kernel) (by decide +kernel) (by decide +kernel)
theorem ck_m123 : ev_mok ev_cl ev_pg ev_gw ev_nw mt_123 := ev_ckm (pl := [(9, 63), (7, 128), (7, 130), (0, 78), (1, 9), (6, 117)]) (pn := []) (by decide +kernel) (by decide +kernel) (by decide +kernel) (by decide +kernel) (by decide +kernel) (by decide +kernel)
theorem ck_m124 : ev_mok ev_cl ev_pg ev_gw ev_nw mt_124 := ev_ckm (pl := [(6, 75), (2, 178), (2, 17)]) (pn := []) (by decide +kernel) (by decide +kernel) (by decide +kernel) (by decide +kernel) (by decide +kernel) (by decide +kernel)
theorem ck_m125 : ev_mok ev_cl ev_pg ev_gw ev_nw mt_125 := ev_ckm (pl := [(9, 67), (6, 112), (7, 100), (7, 102), (0, 72), (1, 9), (7, 100), (7, 102), (0, 72), (1, 9), (6, 179)]) (pn := []) (by decide +kernel) (by decide +kernel) (by decide +kernel) (by decide +kernel) (by decide +kernel) (by decide +kernel)
theorem ck_m126 : ev_mok ev_cl ev_pg ev_gw ev_nw mt_126 := ev_ckm (pl := [(6, 79), (2, 186), (1, 140), (1, 141), (1, 4), (1, 142), (1, 143), (1, 4), (2, 186), (2, 186), (2, 178), (6, 80), (6, 81), (6, 82), (1, 4), (2, 186)]) (pn := []) (by decide +kernel) (by decide +kernel) (by decide +kernel) (by decide +kernel) (by decide +kernel) (by decide +kernel)
theorem ck_m127 : ev_mok ev_cl ev_pg ev_gw ev_nw mt_127 := ev_ckm (pl := [(6, 83), (1, 232), (1, 232), (1, 235), (1, 235), (1, 238), (1, 238), (2, 2), (2, 2), (2, 4), (2, 4), (2, 7), (2, 7), (2, 9), (2, 9), (6, 84), (3, 162), (3, 163), (1, 3), (2, 13), (2, 13), (6, 85), (3, 168), (3, 167), (1, 15), (2, 16), (2, 16), (6, 85), (3, 168), (3, 167), (1, 15), (2, 7)]) (pn := []) (by decide +kernel) (by decide +kernel) (by decide +kernel) (by decide +kernel) (by decide +kernel) (by decide +kernel)
theorem ck_m128 : ev_mok ev_cl ev_pg ev_gw ev_nw mt_128 := ev_ckm (pl := [(9, 92), (6, 112), (6, 181), (6, 181), (6, 184), (6, 183), (6, 113), (9, 93), (9, 95), (0, 171), (1, 9), (6, 113), (6, 114), (9, 93), (9, 95), (0, 171), (1, 9), (6, 114), (6, 115), (9, 93), (9, 95), (0, 171), (1, 9), (6, 115), (6, 161), (9, 93), (9, 95), (0, 171), (1, 9), (6, 161), (6, 166), (9, 93), (9, 95), (0, 171), (1, 9), (6, 166), (6, 117), (6, 117), (9, 93), (9, 95), (0, 171), (1, 9), (6, 145), (9, 93), (9, 95), (0, 171), (1, 9), (6, 145), (6, 163), (9, 97), (9, 99), (0, 172), (1, 9), (6, 167), (9, 97), (9, 99), (0, 172), (1, 9), (6, 179), (9, 97), (9, 99), (0, 172), (1, 9), (6, 146), (9, 97), (9, 99), (0, 172), (1, 9), (6, 147), (9, 97), (9, 99), (0, 172), (1, 9), (6, 148), (9, 97), (9, 99), (0, 172), (1, 9), (6, 119), (9, 97), (9, 99), (0, 172), (1, 9), (6, 149), (9, 97), (9, 99), (0, 172), (1, 9), (6, 116), (7, 116), (7, 118), (0, 75), (1, 9), (9, 97), (9, 99), (0, 172), (1, 9)]) (pn := []) (by decide +kernel) (by decide +kernel) (by decide +kernel) (by decide +kernel) (by decide +kernel) (by decide +kernel)
theorem ck_m129 : ev_mok ev_cl ev_pg ev_gw ev_nw mt_129 := ev_ckm (pl := [(7, 119)]) (pn := []) (by decide +kernel) (by decide +kernel) (by decide +kernel) (by decide +kernel) (by decide +kernel) (by decide +kernel)
theorem ck_m130 : ev_mok ev_cl ev_pg ev_gw ev_nw mt_130 := ev_ckm (pl := [(6, 90), (6, 104), (2, 178), (2, 3), (2, 178), (2, 10), (1, 86), (2, 178), (1, 233), (2, 178), (1, 237), (2, 178), (1, 239), (2, 178), (2, 6), (5, 89), (5, 91), (0, 52), (1, 1), (6, 91), (6, 92), (6, 93), (1, 7), (5, 89), (5, 91), (0, 52), (1, 1), (6, 96), (6, 97), (6, 98), (1, 7), (2, 178), (2, 10), (2, 179), (5, 140), (5, 141), (5, 142), (1, 3), (2, 178), (6, 100), (6, 101), (6, 102), (1, 4), (2, 178), (2, 8), (5, 110), (5, 111), (1, 1)]) (pn := []) (by decide +kernel) (by decide +kernel) (by decide +kernel) (by decide +kernel) (by decide +kernel) (by decide +kernel)
theorem ck_m131 : ev_mok ev_cl ev_pg ev_gw ev_nw mt_131 := ev_ckm (pl := [(6, 103), (2, 16)]) (pn := []) (by decide +kernel) (by decide +kernel) (by decide +kernel) (by decide +kernel) (by decide +kernel) (by decide +kernel)
theorem ck_m132 : ev_mok ev_cl ev_pg ev_gw ev_nw mt_132 := ev_ckm (pl := [(5, 143), (1, 78)]) (pn := []) (by decide +kernel) (by decide +kernel) (by decide +kernel) (by decide +kernel) (by decide +kernel) (by decide +kernel)
theorem ck_m133 : ev_mok ev_cl ev_pg ev_gw ev_nw mt_133 := ev_ckm (pl := [(6, 99), (6, 65), (4, 190), (4, 191), (1, 7), (5, 111), (1, 1), (2, 74)]) (pn := [(6, 66)]) (by decide +kernel) (by decide +kernel) (by decide +kernel) (by decide +kernel) (by decide +kernel) (by decide +kernel)
theorem ck_m134 : ev_mok ev_cl ev_pg ev_gw ev_nw mt_134 := ev_ckm (pl := [(6, 94), (2, 74), (6, 95), (4, 169), (4, 170), (1, 7), (5, 111), (1, 1)]) (pn := [(6, 66)]) (by decide +kernel) (by decide +kernel) (by decide +kernel) (by decide +kernel) (by decide +kernel) (by decide +kernel)
theorem ck_m135 : ev_mok ev_cl ev_pg ev_gw ev_nw mt_135 := ev_ckm (pl := [(9, 71), (6, 117), (6, 113), (6, 114), (6, 115), (6, 166), (9, 72), (9, 74), (0, 167), (1, 9), (9, 76), (9, 78), (0, 168), (1, 9), (9, 80), (9, 82), (0, 169), (1, 9), (9, 84), (9, 86), (0, 170), (1, 9), (6, 145), (9, 88), (6, 112), (6, 161)]) (pn := []) (by decide +kernel) (by decide +kernel) (by decide +kernel) (by decide +kernel) (by decide +kernel) (by decide +kernel)
theorem ck_m136 : ev_mok ev_cl ev_pg ev_gw ev_nw mt_136 := ev_ckm (pl := [(9, 75), (6, 124), (7, 124), (7, 126), (0, 77), (1, 9)]) (pn := []) (by decide +kernel) (by decide +kernel) (by decide +kernel) (by decide +kernel) (by decide +kernel) (by decide +kernel)
theorem ck_m137 : ev_mok ev_cl ev_pg ev_gw ev_nw mt_137 := ev_ckm (pl := [(9, 79), (6, 122), (7, 205), (7, 207), (0, 97), (1, 9), (7, 124), (7, 126), (0, 77), (1, 9)]) (pn := []) (by decide +kernel) (by decide +kernel) (by decide +kernel) (by decide +kernel) (by decide +kernel) (by decide +kernel)
theorem ck_m138 : ev_mok ev_cl ev_pg ev_gw ev_nw mt_138 := ev_ckm (pl := [(9, 83), (6, 117)]) (pn := []) (by decide +kernel) (by decide +kernel) (by decide +kernel) (by decide +kernel) (by decide +kernel) (by decide +kernel)
theorem ck_m139 : ev_mok ev_cl ev_pg ev_gw ev_nw mt_139 := ev_ckm (pl := [(9, 87), (6, 179)]) (pn := []) (by decide +kernel) (by decide +kernel) (by decide +kernel) (by decide +kernel) (by decide +kernel) (by decide +kernel)
end
section
/-! ===== answers by lists of boxes ===== -/
theorem ev_sat_cons {σ : Nat → Int32} {x : Nat × Nat} {r : ev_E} : ev_sat σ (x :: r) ↔ (x.1 ≤ ev_bi (σ 0) ∧ ev_bi (σ 0) ≤ x.2) ∧ ev_sat (fun k => σ (k + 1)) r := by
  constructor
  · intro h
    exact ⟨h 0 x.1 x.2 rfl, fun k lo hi hk => h (k + 1) lo hi hk⟩
  · rintro ⟨h1, h2⟩ k lo hi hk
    cases k with
    | zero =>
      have hk : x = (lo, hi) := Option.some.inj hk
      subst hk
      exact h1
    | succ k => exact h2 k lo hi hk
theorem ev_sat_nil {σ : Nat → Int32} : ev_sat σ [] := fun k lo hi h => by simp at h
noncomputable def ev_spc (l : List (ev_E × Nat)) (σ : Nat → Int32) : Int32 := match l with
  | [] => 0
  | q :: r => @ite _ (ev_sat σ q.1) (Classical.propDecidable _) (Int32.ofNat q.2) (ev_spc r σ)
def ev_bsub : ev_E → ev_E → Bool
  | [], _ => true
  | b :: bs, o :: os => Nat.ble b.1 o.1 && Nat.ble o.2 b.2 && ev_bsub bs os
  | _ :: _, [] => false
def ev_bdis : ev_E → ev_E → Bool
  | b :: bs, o :: os => Nat.ble (Nat.succ o.2) b.1 || Nat.ble (Nat.succ b.2) o.1 || ev_bdis bs os
  | _, _ => false
theorem ev_bsub_ok : ∀ (b o : ev_E) (σ : Nat → Int32), ev_bsub b o = true → ev_sat σ o → ev_sat σ b
  | [], _, _, _, _ => ev_sat_nil
  | b :: bs, o :: os, σ, h, hs => by
    obtain ⟨h, h3⟩ := ev_band (show Bool.and _ _ = true from h)
    obtain ⟨h1, h2⟩ := ev_band (show Bool.and _ _ = true from h)
    have h1 := Nat.le_of_ble_eq_true h1
    have h2 := Nat.le_of_ble_eq_true h2
    obtain ⟨s1, s2⟩ := ev_sat_cons.mp hs
    exact ev_sat_cons.mpr ⟨⟨by omega, by omega⟩, ev_bsub_ok bs os _ h3 s2⟩
theorem ev_bdis_ok : ∀ (b o : ev_E) (σ : Nat → Int32), ev_bdis b o = true → ev_sat σ o → ¬ ev_sat σ b
  | b :: bs, o :: os, σ, h, hs, hb => by
    obtain ⟨s1, s2⟩ := ev_sat_cons.mp hs
    obtain ⟨b1, b2⟩ := ev_sat_cons.mp hb
    cases h1 : Nat.ble (Nat.succ o.2) b.1 with
    | true =>
      have h1 : o.2 + 1 ≤ b.1 := Nat.le_of_ble_eq_true h1
      omega
    | false =>
      cases h2 : Nat.ble (Nat.succ b.2) o.1 with
      | true =>
        have h2 : b.2 + 1 ≤ o.1 := Nat.le_of_ble_eq_true h2
        omega
      | false =>
        unfold ev_bdis at h
        rw [h1, h2] at h
        exact ev_bdis_ok bs os _ h s2 b2
  | [], _, _, h, _, _ => by simp [ev_bdis] at h
  | _ :: _, [], _, h, _, _ => by simp [ev_bdis] at h
def ev_lf (l : List (ev_E × Nat)) (e : ev_E) (n : Nat) : Bool := match l with
  | [] => false
  | q :: r => bif ev_bsub q.1 e then Nat.beq q.2 n else (ev_bdis q.1 e || Nat.beq q.2 n) && ev_lf r e n
theorem ev_lf_ok (e : ev_E) (n : Nat) (σ : Nat → Int32) (hs : ev_sat σ e) : ∀ l : List (ev_E × Nat), ev_lf l e n = true → ev_spc l σ = Int32.ofNat n
  | [], h => by cases h
  | q :: r, h => by
    unfold ev_lf at h
    unfold ev_spc
    cases h1 : ev_bsub q.1 e with
    | true =>
      rw [h1] at h
      rw [if_pos (ev_bsub_ok _ _ _ h1 hs), ev_beq.mp h]
    | false =>
      rw [h1] at h
      obtain ⟨h2, h3⟩ := ev_band (show Bool.and (Bool.or (ev_bdis q.1 e) (Nat.beq q.2 n)) (ev_lf r e n) = true from h)
      have ih := ev_lf_ok e n σ hs r h3
      rw [ih]
      cases h4 : ev_bdis q.1 e with
      | true => rw [if_neg (ev_bdis_ok _ _ _ h4 hs)]
      | false =>
        rw [h4] at h2
        rw [ev_beq.mp h2]
        split <;> rfl
def ev_all (r : ev_R) (l : List (ev_E × Nat)) : Bool := match r with
  | none => false
  | some os => os.all (fun o => match o.1 with
    | .inl n => ev_lf l o.2.2.2 n
    | _ => false)
theorem ev_all_ok {r : ev_R} {l : List (ev_E × Nat)} (h : ev_all r l = true) : ∃ os, r = some os ∧ ∀ o ∈ os, ∀ (σ : Nat → Int32) (ρ : Nat → Nat), ev_sat σ o.2.2.2 → ev_ro σ ρ o.1 = some (.int (ev_spc l σ)) := by
  cases r with
  | none => cases h
  | some os =>
    refine ⟨os, rfl, fun o ho σ ρ hs => ?_⟩
    have h1 := List.all_eq_true.mp h o ho
    match hv : o.1, h1 with
    | .inl n, h1 =>
      show some (Value.int (Int32.ofNat n)) = _
      rw [ev_lf_ok _ n σ hs l h1]
/-! ===== the two new objects ===== -/
noncomputable def ev_tz {α : Type} (d : Nat) : α → ev_tr α d := Nat.rec (motive := fun d => α → ev_tr α d) (fun a => a) (fun d ih a => ((ih a, ih a) : ev_tr α d × ev_tr α d)) d
noncomputable def ev_h0 : ev_H := ev_tz 7 (.inr (9, 0, 0, []))
def ev_hof (r : ev_R) (d : ev_H) : ev_H := match r with
  | some [o] => o.2.1
  | _ => d
def ev_oneq (r : ev_R) (k : Nat) : Bool := match r with
  | some [o] => Nat.beq o.2.2.1 k
  | _ => false
theorem ev_one_ok (r : ev_R) (d : ev_H) (k : Nat) (h : ev_oneq r k = true) : ∃ o, r = some [o] ∧ o.2.1 = ev_hof r d ∧ o.2.2.1 = k := by
  cases r with
  | none => exact absurd h (by simp [ev_oneq])
  | some l =>
    cases l with
    | nil => exact absurd h (by simp [ev_oneq])
    | cons o t =>
      cases t with
      | cons _ _ => exact absurd h (by simp [ev_oneq])
      | nil =>
        refine ⟨o, rfl, ?_, ?_⟩
        · simp only [ev_hof]
        · simp only [ev_oneq] at h
          exact ev_beq.mp h
def ev_fxx : List ev_V := [.inl 0, .inr (.inl 0), .inl 0, .inr (.inl 0), .inr (.inl 0), .inl 0, .inr (.inl 0), .inr (.inl 0), .inr (.inl 0), .inr (.inl 0), .inr (.inl 0), .inr (.inl 0)]
noncomputable def ev_nxx : ev_H := ev_ts 7 ev_h0 0 (.inl (0, ev_fxx))
noncomputable def ev_oxx : ev_R := ev_met ev_pg 7 56 [.inr (.inl 1)] ev_nxx 1 []
noncomputable def ev_hxx : ev_H := ev_hof ev_oxx ev_nxx
theorem ev_oxx_one : ev_oneq ev_oxx 50 = true := by decide +kernel
theorem ev_oxx_ok : ∃ o, ev_oxx = some [o] ∧ o.2.1 = ev_hxx ∧ o.2.2.1 = 50 := ev_one_ok ev_oxx ev_nxx 50 ev_oxx_one
def ev_fmm : List ev_V := [.inr (.inl 0), .inl 0, .inr (.inl 0), .inr (.inl 0), .inl 0, .inr (.inl 0), .inl 0, .inr (.inl 0), .inr (.inl 0), .inr (.inl 0), .inr (.inl 0), .inr (.inl 0), .inr (.inl 0), .inr (.inl 0), .inr (.inl 0), .inr (.inl 0), .inr (.inl 0), .inr (.inl 0), .inr (.inl 0), .inr (.inl 0), .inl 0, .inr (.inl 0), .inl 0, .inr (.inl 0), .inl 0, .inl 0, .inr (.inl 0), .inl 0, .inl 0, .inr (.inl 0), .inl 0, .inl 0, .inr (.inl 0), .inl 0, .inl 0, .inl 0, .inr (.inl 0), .inl 0, .inr (.inl 0), .inl 0, .inl 0, .inl 0, .inl 0, .inl 0, .inl 0, .inl 0, .inl 0, .inl 0, .inr (.inl 0), .inr (.inl 0), .inl 0, .inl 0, .inl 0, .inl 0, .inr (.inl 0), .inr (.inl 0), .inr (.inl 0), .inr (.inl 0), .inr (.inl 0), .inr (.inl 0), .inl 0, .inr (.inl 0), .inl 0, .inr (.inl 0), .inr (.inl 0), .inl 0, .inr (.inl 0), .inr (.inl 0), .inr (.inl 0), .inl 0, .inl 0, .inl 0, .inl 0]
noncomputable def ev_nmm : ev_H := ev_ts 7 ev_h0 0 (.inl (11, ev_fmm))
noncomputable def ev_omm : ev_R := ev_met ev_pg 7 59 [.inr (.inl 1)] ev_nmm 1 []
noncomputable def ev_hmm : ev_H := ev_hof ev_omm ev_nmm
theorem ev_omm_one : ev_oneq ev_omm 39 = true := by decide +kernel
theorem ev_omm_ok : ∃ o, ev_omm = some [o] ∧ o.2.1 = ev_hmm ∧ o.2.2.1 = 39 := ev_one_ok ev_omm ev_nmm 39 ev_omm_one
def sp_set : List (ev_E × Nat) := [([(0, 2147483647), (0, 4294967295)], 0), ([(2147483651, 4294967295), (0, 4294967295)], 0), ([(2147483648, 2147483648), (0, 2147483649)], 0), ([(2147483648, 2147483648), (2147483657, 4294967295)], 0), ([(2147483648, 2147483648), (2147483650, 2147483656)], 1), ([(2147483649, 2147483649), (0, 2147483648)], 0), ([(2147483649, 2147483649), (2147483653, 4294967295)], 0), ([(2147483649, 2147483649), (2147483649, 2147483652)], 1), ([(2147483650, 2147483650), (0, 2147483648)], 0), ([(2147483650, 2147483650), (2147483653, 4294967295)], 0), ([(2147483650, 2147483650), (2147483649, 2147483652)], 1)]
def sp_feed : List (ev_E × Nat) := [([(0, 4294967295), (0, 4294967295), (0, 4294967295), (0, 4294967295), (0, 4294967295)], 20)]
def sp_end : List (ev_E × Nat) := [([(0, 2147483647)], 0), ([(2147483648, 2147483648)], 1), ([(2147483649, 4294967295)], 0)]
def sp_code : List (ev_E × Nat) := [([], 0)]
def sp_fault : List (ev_E × Nat) := [([(0, 2147483647)], 4294967295), ([(2147483649, 2147483649)], 4294967295), ([(2147483650, 4294967295)], 4294967295), ([(2147483648, 2147483648)], 0)]
def sp_input : List (ev_E × Nat) := [([(0, 4294967295), (2147483648, 2147483648)], 0), ([(0, 4294967295), (2147483649, 2147483649)], 1)]
def sp_allocate : List (ev_E × Nat) := [([], 1)]
def sp_step : List (ev_E × Nat) := [([(0, 4294967295), (2147483648, 2147483649), (0, 4294967295)], 4294967295)]
def sp_live : List (ev_E × Nat) := [([(0, 4294967295), (0, 4294967295)], 4294967295)]
def sp_value : List (ev_E × Nat) := [([(0, 2147483647), (0, 4294967295)], 4294967295), ([(2147483692, 4294967295), (0, 4294967295)], 4294967295), ([(2147483652, 2147483655), (0, 4294967295)], 4294967295), ([(0, 4294967295), (0, 2147483647)], 4294967295), ([(0, 4294967295), (2147483653, 4294967295)], 4294967295), ([(0, 4294967295), (2147483649, 2147483649)], 0), ([(2147483648, 2147483651), (2147483648, 2147483648)], 1), ([(2147483648, 2147483651), (2147483650, 2147483650)], 3), ([(2147483648, 2147483651), (2147483651, 2147483651)], 4), ([(2147483648, 2147483651), (2147483652, 2147483652)], 1), ([(2147483656, 2147483691), (2147483648, 2147483648)], 0), ([(2147483656, 2147483691), (2147483650, 2147483650)], 0), ([(2147483656, 2147483679), (2147483651, 2147483651)], 4), ([(2147483680, 2147483691), (2147483651, 2147483651)], 2), ([(2147483656, 2147483691), (2147483652, 2147483652)], 0)]
def sp_edge : List (ev_E × Nat) := [([(0, 2147483647), (0, 4294967295)], 4294967295), ([(2147483692, 4294967295), (0, 4294967295)], 4294967295), ([(2147483652, 2147483655), (0, 4294967295)], 4294967295), ([(0, 4294967295), (0, 2147483647)], 4294967295), ([(0, 4294967295), (2147483692, 4294967295)], 4294967295), ([(0, 4294967295), (2147483652, 2147483655)], 4294967295), ([(2147483656, 2147483691), (0, 4294967295)], 0), ([(0, 4294967295), (2147483656, 2147483691)], 0), ([(2147483648, 2147483648), (2147483648, 2147483648)], 0), ([(2147483649, 2147483649), (2147483649, 2147483649)], 0), ([(2147483650, 2147483650), (2147483650, 2147483650)], 0), ([(2147483651, 2147483651), (2147483651, 2147483651)], 0), ([(2147483648, 2147483648), (2147483649, 2147483649)], 1), ([(2147483648, 2147483648), (2147483650, 2147483650)], 1), ([(2147483648, 2147483648), (2147483651, 2147483651)], 1), ([(2147483649, 2147483649), (2147483648, 2147483648)], 1), ([(2147483649, 2147483649), (2147483650, 2147483650)], 1), ([(2147483649, 2147483649), (2147483651, 2147483651)], 1), ([(2147483650, 2147483650), (2147483648, 2147483648)], 1), ([(2147483650, 2147483650), (2147483649, 2147483649)], 1), ([(2147483650, 2147483650), (2147483651, 2147483651)], 1), ([(2147483651, 2147483651), (2147483648, 2147483648)], 1), ([(2147483651, 2147483651), (2147483649, 2147483649)], 1), ([(2147483651, 2147483651), (2147483650, 2147483650)], 1)]
def sp_colour : List (ev_E × Nat) := [([(0, 4294967295), (0, 4294967295)], 4294967295)]
def sp_left : List (ev_E × Nat) := [([(0, 4294967295)], 4294967295)]
def sp_run : List (ev_E × Nat) := [([(0, 2147483647), (0, 4294967295)], 4294967295), ([(2147483649, 4294967295), (0, 4294967295)], 4294967295), ([(2147483648, 2147483648), (0, 2147483647)], 4294967295), ([(2147483648, 2147483648), (2147483652, 4294967295)], 4294967295), ([(2147483648, 2147483648), (2147483648, 2147483651)], 0), ([(0, 4294967295), (0, 4294967295)], 4294967295)]
def sp_proved : List (ev_E × Nat) := [([], 4294967295)]
def sp_graph : List (ev_E × Nat) := [([(0, 2147483647)], 4294967295), ([(2147483652, 4294967295)], 4294967295), ([(2147483651, 2147483651)], 0), ([(2147483650, 2147483650)], 0), ([(2147483649, 2147483649)], 0), ([(2147483648, 2147483648)], 1)]
def sp_paint : List (ev_E × Nat) := [([(0, 2147483647), (0, 4294967295)], 0), ([(2147483672, 4294967295), (0, 4294967295)], 0), ([(0, 4294967295), (0, 2147483646)], 0), ([(0, 4294967295), (2147483656, 4294967295)], 0), ([(2147483648, 2147483671), (2147483647, 2147483655)], 1)]
def sp_image : List (ev_E × Nat) := [([(2147483648, 2147483648)], 0), ([(2147483649, 2147483649)], 1)]
def sp_look : List (ev_E × Nat) := [([(0, 2147483647)], 4294867296), ([(2147483659, 4294967295)], 4294867296), ([(2147483658, 2147483658)], 0), ([(2147483657, 2147483657)], 0), ([(2147483656, 2147483656)], 0), ([(2147483655, 2147483655)], 0), ([(2147483654, 2147483654)], 0), ([(2147483653, 2147483653)], 0), ([(2147483652, 2147483652)], 1), ([(2147483651, 2147483651)], 2), ([(2147483650, 2147483650)], 4), ([(2147483649, 2147483649)], 0), ([(2147483648, 2147483648)], 0)]
end
section
/-! the class, first calls -/
theorem ex_xx_set_0 : ev_all (ev_met ev_pg 7 60 [.inr (.inl 1), .inr (.inr (.inr (.inl (0, [])))), .inr (.inr (.inr (.inl (1, []))))] ev_hxx 50 [(0, 4294967295), (0, 4294967295)]) sp_set = true := by decide +kernel
theorem ex_xx_feed_0 : ev_all (ev_met ev_pg 7 63 [.inr (.inl 1), .inr (.inr (.inr (.inl (0, [])))), .inr (.inr (.inr (.inl (1, [])))), .inr (.inr (.inr (.inl (2, [])))), .inr (.inr (.inr (.inl (3, [])))), .inr (.inr (.inr (.inl (4, []))))] ev_hxx 50 [(0, 4294967295), (0, 4294967295), (0, 4294967295), (0, 4294967295), (0, 4294967295)]) sp_feed = true := by decide +kernel
theorem ex_xx_end_0 : ev_all (ev_met ev_pg 7 65 [.inr (.inl 1), .inr (.inr (.inr (.inl (0, []))))] ev_hxx 50 [(0, 4294967295)]) sp_end = true := by decide +kernel
theorem ex_xx_code_0 : ev_all (ev_met ev_pg 7 67 [.inr (.inl 1)] ev_hxx 50 []) sp_code = true := by decide +kernel
theorem ex_xx_fault_0 : ev_all (ev_met ev_pg 7 75 [.inr (.inl 1), .inr (.inr (.inr (.inl (0, []))))] ev_hxx 50 [(0, 4294967295)]) sp_fault = true := by decide +kernel
theorem ex_xx_input_0 : ev_all (ev_met ev_pg 7 77 [.inr (.inl 1), .inr (.inr (.inr (.inl (0, [])))), .inr (.inr (.inr (.inl (1, []))))] ev_hxx 50 [(0, 4294967295), (2147483648, 2147483649)]) sp_input = true := by decide +kernel
theorem ex_xx_allocate_0 : ev_all (ev_met ev_pg 7 79 [.inr (.inl 1)] ev_hxx 50 []) sp_allocate = true := by decide +kernel
theorem ex_xx_step_0 : ev_all (ev_met ev_pg 7 101 [.inr (.inl 1), .inr (.inr (.inr (.inl (0, [])))), .inr (.inr (.inr (.inl (1, [])))), .inr (.inr (.inr (.inl (2, []))))] ev_hxx 50 [(0, 4294967295), (2147483648, 2147483649), (0, 4294967295)]) sp_step = true := by decide +kernel
theorem ex_xx_live_0 : ev_all (ev_met ev_pg 7 103 [.inr (.inl 1), .inr (.inr (.inr (.inl (0, [])))), .inr (.inr (.inr (.inl (1, []))))] ev_hxx 50 [(0, 4294967295), (0, 4294967295)]) sp_live = true := by decide +kernel
theorem ex_xx_value_0 : ev_all (ev_met ev_pg 7 105 [.inr (.inl 1), .inr (.inr (.inr (.inl (0, [])))), .inr (.inr (.inr (.inl (1, []))))] ev_hxx 50 [(0, 4294967295), (0, 4294967295)]) sp_value = true := by decide +kernel
theorem ex_xx_edge_0 : ev_all (ev_met ev_pg 7 107 [.inr (.inl 1), .inr (.inr (.inr (.inl (0, [])))), .inr (.inr (.inr (.inl (1, []))))] ev_hxx 50 [(0, 4294967295), (0, 4294967295)]) sp_edge = true := by decide +kernel
theorem ex_xx_colour_0 : ev_all (ev_met ev_pg 7 109 [.inr (.inl 1), .inr (.inr (.inr (.inl (0, [])))), .inr (.inr (.inr (.inl (1, []))))] ev_hxx 50 [(0, 4294967295), (0, 4294967295)]) sp_colour = true := by decide +kernel
theorem ex_xx_left_0 : ev_all (ev_met ev_pg 7 111 [.inr (.inl 1), .inr (.inr (.inr (.inl (0, []))))] ev_hxx 50 [(0, 4294967295)]) sp_left = true := by decide +kernel
theorem ex_xx_run_0 : ev_all (ev_met ev_pg 7 113 [.inr (.inl 1), .inr (.inr (.inr (.inl (0, [])))), .inr (.inr (.inr (.inl (1, []))))] ev_hxx 50 [(0, 4294967295), (0, 4294967295)]) sp_run = true := by decide +kernel
theorem ex_xx_proved_0 : ev_all (ev_met ev_pg 7 116 [.inr (.inl 1)] ev_hxx 50 []) sp_proved = true := by decide +kernel
theorem ex_xx_graph_0 : ev_all (ev_met ev_pg 7 118 [.inr (.inl 1), .inr (.inr (.inr (.inl (0, []))))] ev_hxx 50 [(0, 4294967295)]) sp_graph = true := by decide +kernel
theorem ex_xx_paint_0 : ev_all (ev_met ev_pg 7 124 [.inr (.inl 1), .inr (.inr (.inr (.inl (0, [])))), .inr (.inr (.inr (.inl (1, []))))] ev_hxx 50 [(0, 4294967295), (0, 4294967295)]) sp_paint = true := by decide +kernel
theorem ex_xx_image_0 : ev_all (ev_met ev_pg 7 126 [.inr (.inl 1), .inr (.inr (.inr (.inl (0, []))))] ev_hxx 50 [(2147483648, 2147483649)]) sp_image = true := by decide +kernel
theorem ex_xx_look_0 : ev_all (ev_met ev_pg 7 130 [.inr (.inl 1), .inr (.inr (.inr (.inl (0, []))))] ev_hxx 50 [(0, 4294967295)]) sp_look = true := by decide +kernel
end
section
/-! the reference, first calls -/
theorem ex_mm_set_0 : ev_all (ev_met ev_pg 7 61 [.inr (.inl 1), .inr (.inr (.inr (.inl (0, [])))), .inr (.inr (.inr (.inl (1, []))))] ev_hmm 39 [(0, 4294967295), (0, 4294967295)]) sp_set = true := by decide +kernel
theorem ex_mm_feed_0 : ev_all (ev_met ev_pg 7 64 [.inr (.inl 1), .inr (.inr (.inr (.inl (0, [])))), .inr (.inr (.inr (.inl (1, [])))), .inr (.inr (.inr (.inl (2, [])))), .inr (.inr (.inr (.inl (3, [])))), .inr (.inr (.inr (.inl (4, []))))] ev_hmm 39 [(0, 4294967295), (0, 4294967295), (0, 4294967295), (0, 4294967295), (0, 4294967295)]) sp_feed = true := by decide +kernel
theorem ex_mm_end_0 : ev_all (ev_met ev_pg 7 66 [.inr (.inl 1), .inr (.inr (.inr (.inl (0, []))))] ev_hmm 39 [(0, 4294967295)]) sp_end = true := by decide +kernel
theorem ex_mm_code_0 : ev_all (ev_met ev_pg 7 71 [.inr (.inl 1)] ev_hmm 39 []) sp_code = true := by decide +kernel
theorem ex_mm_fault_0 : ev_all (ev_met ev_pg 7 76 [.inr (.inl 1), .inr (.inr (.inr (.inl (0, []))))] ev_hmm 39 [(0, 4294967295)]) sp_fault = true := by decide +kernel
theorem ex_mm_input_0 : ev_all (ev_met ev_pg 7 78 [.inr (.inl 1), .inr (.inr (.inr (.inl (0, [])))), .inr (.inr (.inr (.inl (1, []))))] ev_hmm 39 [(0, 4294967295), (2147483648, 2147483649)]) sp_input = true := by decide +kernel
theorem ex_mm_step_0 : ev_all (ev_met ev_pg 7 102 [.inr (.inl 1), .inr (.inr (.inr (.inl (0, [])))), .inr (.inr (.inr (.inl (1, [])))), .inr (.inr (.inr (.inl (2, []))))] ev_hmm 39 [(0, 4294967295), (2147483648, 2147483649), (0, 4294967295)]) sp_step = true := by decide +kernel
theorem ex_mm_live_0 : ev_all (ev_met ev_pg 7 104 [.inr (.inl 1), .inr (.inr (.inr (.inl (0, [])))), .inr (.inr (.inr (.inl (1, []))))] ev_hmm 39 [(0, 4294967295), (0, 4294967295)]) sp_live = true := by decide +kernel
theorem ex_mm_colour_0 : ev_all (ev_met ev_pg 7 110 [.inr (.inl 1), .inr (.inr (.inr (.inl (0, [])))), .inr (.inr (.inr (.inl (1, []))))] ev_hmm 39 [(0, 4294967295), (0, 4294967295)]) sp_colour = true := by decide +kernel
theorem ex_mm_left_0 : ev_all (ev_met ev_pg 7 112 [.inr (.inl 1), .inr (.inr (.inr (.inl (0, []))))] ev_hmm 39 [(0, 4294967295)]) sp_left = true := by decide +kernel
theorem ex_mm_run_0 : ev_all (ev_met ev_pg 7 115 [.inr (.inl 1), .inr (.inr (.inr (.inl (0, [])))), .inr (.inr (.inr (.inl (1, []))))] ev_hmm 39 [(0, 4294967295), (0, 4294967295)]) sp_run = true := by decide +kernel
theorem ex_mm_proved_0 : ev_all (ev_met ev_pg 7 117 [.inr (.inl 1)] ev_hmm 39 []) sp_proved = true := by decide +kernel
theorem ex_mm_paint_0 : ev_all (ev_met ev_pg 7 125 [.inr (.inl 1), .inr (.inr (.inr (.inl (0, [])))), .inr (.inr (.inr (.inl (1, []))))] ev_hmm 39 [(0, 4294967295), (0, 4294967295)]) sp_paint = true := by decide +kernel
theorem ex_mm_allocate_0 : ev_all (ev_met ev_pg 7 94 [.inr (.inl 1)] ev_hmm 39 []) sp_allocate = true := by decide +kernel
theorem ex_mm_image_0 : ev_all (ev_met ev_pg 7 128 [.inr (.inl 1), .inr (.inr (.inr (.inl (0, []))))] ev_hmm 39 [(2147483648, 2147483649)]) sp_image = true := by decide +kernel
end
section
/-! the reference, first calls -/
theorem ex_mm_value_0 : ev_all (ev_met ev_pg 7 106 [.inr (.inl 1), .inr (.inr (.inr (.inl (0, [])))), .inr (.inr (.inr (.inl (1, []))))] ev_hmm 39 [(0, 4294967295), (0, 2147483648)]) sp_value = true := by decide +kernel
theorem ex_mm_value_1 : ev_all (ev_met ev_pg 7 106 [.inr (.inl 1), .inr (.inr (.inr (.inl (0, [])))), .inr (.inr (.inr (.inl (1, []))))] ev_hmm 39 [(0, 4294967295), (2147483649, 2147483649)]) sp_value = true := by decide +kernel
theorem ex_mm_value_2 : ev_all (ev_met ev_pg 7 106 [.inr (.inl 1), .inr (.inr (.inr (.inl (0, [])))), .inr (.inr (.inr (.inl (1, []))))] ev_hmm 39 [(0, 2147483651), (2147483650, 2147483650)]) sp_value = true := by decide +kernel
theorem ex_mm_value_3 : ev_all (ev_met ev_pg 7 106 [.inr (.inl 1), .inr (.inr (.inr (.inl (0, [])))), .inr (.inr (.inr (.inl (1, []))))] ev_hmm 39 [(2147483652, 2147483659), (2147483650, 2147483650)]) sp_value = true := by decide +kernel
theorem ex_mm_value_4 : ev_all (ev_met ev_pg 7 106 [.inr (.inl 1), .inr (.inr (.inr (.inl (0, [])))), .inr (.inr (.inr (.inl (1, []))))] ev_hmm 39 [(2147483660, 2147483667), (2147483650, 2147483650)]) sp_value = true := by decide +kernel
theorem ex_mm_value_5 : ev_all (ev_met ev_pg 7 106 [.inr (.inl 1), .inr (.inr (.inr (.inl (0, [])))), .inr (.inr (.inr (.inl (1, []))))] ev_hmm 39 [(2147483668, 2147483673), (2147483650, 2147483650)]) sp_value = true := by decide +kernel
theorem ex_mm_value_6 : ev_all (ev_met ev_pg 7 106 [.inr (.inl 1), .inr (.inr (.inr (.inl (0, [])))), .inr (.inr (.inr (.inl (1, []))))] ev_hmm 39 [(2147483674, 2147483679), (2147483650, 2147483650)]) sp_value = true := by decide +kernel
end
section
/-! the reference, first calls -/
theorem ex_mm_value_7 : ev_all (ev_met ev_pg 7 106 [.inr (.inl 1), .inr (.inr (.inr (.inl (0, [])))), .inr (.inr (.inr (.inl (1, []))))] ev_hmm 39 [(2147483680, 2147483685), (2147483650, 2147483650)]) sp_value = true := by decide +kernel
theorem ex_mm_value_8 : ev_all (ev_met ev_pg 7 106 [.inr (.inl 1), .inr (.inr (.inr (.inl (0, [])))), .inr (.inr (.inr (.inl (1, []))))] ev_hmm 39 [(2147483686, 2147483691), (2147483650, 2147483650)]) sp_value = true := by decide +kernel
theorem ex_mm_value_9 : ev_all (ev_met ev_pg 7 106 [.inr (.inl 1), .inr (.inr (.inr (.inl (0, [])))), .inr (.inr (.inr (.inl (1, []))))] ev_hmm 39 [(2147483692, 4294967295), (2147483650, 2147483650)]) sp_value = true := by decide +kernel
theorem ex_mm_value_10 : ev_all (ev_met ev_pg 7 106 [.inr (.inl 1), .inr (.inr (.inr (.inl (0, [])))), .inr (.inr (.inr (.inl (1, []))))] ev_hmm 39 [(0, 2147483667), (2147483651, 2147483651)]) sp_value = true := by decide +kernel
theorem ex_mm_value_11 : ev_all (ev_met ev_pg 7 106 [.inr (.inl 1), .inr (.inr (.inr (.inl (0, [])))), .inr (.inr (.inr (.inl (1, []))))] ev_hmm 39 [(2147483668, 4294967295), (2147483651, 2147483651)]) sp_value = true := by decide +kernel
theorem ex_mm_value_12 : ev_all (ev_met ev_pg 7 106 [.inr (.inl 1), .inr (.inr (.inr (.inl (0, [])))), .inr (.inr (.inr (.inl (1, []))))] ev_hmm 39 [(0, 2147483667), (2147483652, 4294967295)]) sp_value = true := by decide +kernel
theorem ex_mm_value_13 : ev_all (ev_met ev_pg 7 106 [.inr (.inl 1), .inr (.inr (.inr (.inl (0, [])))), .inr (.inr (.inr (.inl (1, []))))] ev_hmm 39 [(2147483668, 2147483679), (2147483652, 4294967295)]) sp_value = true := by decide +kernel
theorem ex_mm_value_14 : ev_all (ev_met ev_pg 7 106 [.inr (.inl 1), .inr (.inr (.inr (.inl (0, [])))), .inr (.inr (.inr (.inl (1, []))))] ev_hmm 39 [(2147483680, 4294967295), (2147483652, 4294967295)]) sp_value = true := by decide +kernel
end
section
/-! the reference, first calls -/
theorem ex_mm_edge_0 : ev_all (ev_met ev_pg 7 108 [.inr (.inl 1), .inr (.inr (.inr (.inl (0, [])))), .inr (.inr (.inr (.inl (1, []))))] ev_hmm 39 [(0, 2147483648), (0, 4294967295)]) sp_edge = true := by decide +kernel
theorem ex_mm_edge_1 : ev_all (ev_met ev_pg 7 108 [.inr (.inl 1), .inr (.inr (.inr (.inl (0, [])))), .inr (.inr (.inr (.inl (1, []))))] ev_hmm 39 [(2147483649, 2147483651), (0, 4294967295)]) sp_edge = true := by decide +kernel
end
section
/-! the reference, first calls -/
theorem ex_mm_edge_2 : ev_all (ev_met ev_pg 7 108 [.inr (.inl 1), .inr (.inr (.inr (.inl (0, [])))), .inr (.inr (.inr (.inl (1, []))))] ev_hmm 39 [(2147483652, 2147483663), (0, 4294967295)]) sp_edge = true := by decide +kernel
theorem ex_mm_edge_3 : ev_all (ev_met ev_pg 7 108 [.inr (.inl 1), .inr (.inr (.inr (.inl (0, [])))), .inr (.inr (.inr (.inl (1, []))))] ev_hmm 39 [(2147483664, 2147483673), (0, 4294967295)]) sp_edge = true := by decide +kernel
end
section
/-! the reference, first calls -/
theorem ex_mm_edge_4 : ev_all (ev_met ev_pg 7 108 [.inr (.inl 1), .inr (.inr (.inr (.inl (0, [])))), .inr (.inr (.inr (.inl (1, []))))] ev_hmm 39 [(2147483674, 2147483683), (0, 4294967295)]) sp_edge = true := by decide +kernel
theorem ex_mm_edge_5 : ev_all (ev_met ev_pg 7 108 [.inr (.inl 1), .inr (.inr (.inr (.inl (0, [])))), .inr (.inr (.inr (.inl (1, []))))] ev_hmm 39 [(2147483684, 2147483690), (0, 4294967295)]) sp_edge = true := by decide +kernel
end
section
/-! the reference, first calls -/
theorem ex_mm_edge_6 : ev_all (ev_met ev_pg 7 108 [.inr (.inl 1), .inr (.inr (.inr (.inl (0, [])))), .inr (.inr (.inr (.inl (1, []))))] ev_hmm 39 [(2147483691, 2147483691), (0, 4294967295)]) sp_edge = true := by decide +kernel
theorem ex_mm_edge_7 : ev_all (ev_met ev_pg 7 108 [.inr (.inl 1), .inr (.inr (.inr (.inl (0, [])))), .inr (.inr (.inr (.inl (1, []))))] ev_hmm 39 [(2147483692, 4294967295), (0, 4294967295)]) sp_edge = true := by decide +kernel
end
section
/-! the reference, first calls -/
theorem ex_mm_graph_0 : ev_all (ev_met ev_pg 7 121 [.inr (.inl 1), .inr (.inr (.inr (.inl (0, []))))] ev_hmm 39 [(0, 4294967295)]) sp_graph = true := by decide +kernel
end
section
/-! the reference, first calls -/
theorem ex_mm_look_0 : ev_all (ev_met ev_pg 7 135 [.inr (.inl 1), .inr (.inr (.inr (.inl (0, []))))] ev_hmm 39 [(0, 4294967295)]) sp_look = true := by decide +kernel
end
section
/-! the law's instructions -/
theorem dl_0 : decode code 0 = .ok (.new 7, 3) := by decide +kernel
theorem dl_3 : decode code 3 = .ok (.dup, 1) := by decide +kernel
theorem dl_4 : decode code 4 = .ok (.invokespecial 9, 3) := by decide +kernel
theorem dl_7 : decode code 7 = .ok (.astore_n 1, 1) := by decide +kernel
theorem dl_8 : decode code 8 = .ok (.new 10, 3) := by decide +kernel
theorem dl_11 : decode code 11 = .ok (.dup, 1) := by decide +kernel
theorem dl_12 : decode code 12 = .ok (.invokespecial 12, 3) := by decide +kernel
theorem dl_15 : decode code 15 = .ok (.astore_n 2, 1) := by decide +kernel
theorem dl_16 : decode code 16 = .ok (.iconst 0, 1) := by decide +kernel
theorem dl_17 : decode code 17 = .ok (.istore_n 3, 1) := by decide +kernel
theorem dl_18 : decode code 18 = .ok (.iload_n 3, 1) := by decide +kernel
theorem dl_19 : decode code 19 = .ok (.aload_n 0, 1) := by decide +kernel
theorem dl_20 : decode code 20 = .ok (.arraylength, 1) := by decide +kernel
theorem dl_21 : decode code 21 = .ok (.bipush 6, 2) := by decide +kernel
theorem dl_23 : decode code 23 = .ok (.isub, 1) := by decide +kernel
theorem dl_24 : decode code 24 = .ok (.if_icmp .gt 701, 3) := by decide +kernel
theorem dl_27 : decode code 27 = .ok (.aload_n 0, 1) := by decide +kernel
theorem dl_28 : decode code 28 = .ok (.iload_n 3, 1) := by decide +kernel
theorem dl_29 : decode code 29 = .ok (.iaload, 1) := by decide +kernel
theorem dl_30 : decode code 30 = .ok (.bipush 31, 2) := by decide +kernel
theorem dl_32 : decode code 32 = .ok (.iand, 1) := by decide +kernel
theorem dl_33 : decode code 33 = .ok (.tableswitch 686 0 18 #[91, 124, 187, 210, 223, 246, 295, 308, 367, 400, 433, 466, 499, 522, 555, 568, 591, 624, 663], 91) := by decide +kernel
theorem dl_124 : decode code 124 = .ok (.aload_n 1, 1) := by decide +kernel
theorem dl_125 : decode code 125 = .ok (.aload_n 0, 1) := by decide +kernel
theorem dl_126 : decode code 126 = .ok (.iload_n 3, 1) := by decide +kernel
theorem dl_127 : decode code 127 = .ok (.iconst 1, 1) := by decide +kernel
theorem dl_128 : decode code 128 = .ok (.iadd, 1) := by decide +kernel
theorem dl_129 : decode code 129 = .ok (.iaload, 1) := by decide +kernel
theorem dl_130 : decode code 130 = .ok (.aload_n 0, 1) := by decide +kernel
theorem dl_131 : decode code 131 = .ok (.iload_n 3, 1) := by decide +kernel
theorem dl_132 : decode code 132 = .ok (.iconst 2, 1) := by decide +kernel
theorem dl_133 : decode code 133 = .ok (.iadd, 1) := by decide +kernel
theorem dl_134 : decode code 134 = .ok (.iaload, 1) := by decide +kernel
theorem dl_135 : decode code 135 = .ok (.invokevirtual 13, 3) := by decide +kernel
theorem dl_138 : decode code 138 = .ok (.aload_n 2, 1) := by decide +kernel
theorem dl_139 : decode code 139 = .ok (.aload_n 0, 1) := by decide +kernel
theorem dl_140 : decode code 140 = .ok (.iload_n 3, 1) := by decide +kernel
theorem dl_141 : decode code 141 = .ok (.iconst 1, 1) := by decide +kernel
theorem dl_142 : decode code 142 = .ok (.iadd, 1) := by decide +kernel
theorem dl_143 : decode code 143 = .ok (.iaload, 1) := by decide +kernel
theorem dl_144 : decode code 144 = .ok (.aload_n 0, 1) := by decide +kernel
theorem dl_145 : decode code 145 = .ok (.iload_n 3, 1) := by decide +kernel
theorem dl_146 : decode code 146 = .ok (.iconst 2, 1) := by decide +kernel
theorem dl_147 : decode code 147 = .ok (.iadd, 1) := by decide +kernel
theorem dl_148 : decode code 148 = .ok (.iaload, 1) := by decide +kernel
theorem dl_149 : decode code 149 = .ok (.invokevirtual 17, 3) := by decide +kernel
theorem dl_152 : decode code 152 = .ok (.if_icmp .eq 567, 3) := by decide +kernel
theorem dl_155 : decode code 155 = .ok (.iconst 0, 1) := by decide +kernel
theorem dl_156 : decode code 156 = .ok (.ireturn, 1) := by decide +kernel
theorem dl_157 : decode code 157 = .ok (.aload_n 1, 1) := by decide +kernel
theorem dl_158 : decode code 158 = .ok (.aload_n 0, 1) := by decide +kernel
theorem dl_159 : decode code 159 = .ok (.iload_n 3, 1) := by decide +kernel
theorem dl_160 : decode code 160 = .ok (.iconst 1, 1) := by decide +kernel
theorem dl_161 : decode code 161 = .ok (.iadd, 1) := by decide +kernel
theorem dl_162 : decode code 162 = .ok (.iaload, 1) := by decide +kernel
theorem dl_163 : decode code 163 = .ok (.aload_n 0, 1) := by decide +kernel
theorem dl_164 : decode code 164 = .ok (.iload_n 3, 1) := by decide +kernel
theorem dl_165 : decode code 165 = .ok (.iconst 2, 1) := by decide +kernel
theorem dl_166 : decode code 166 = .ok (.iadd, 1) := by decide +kernel
theorem dl_167 : decode code 167 = .ok (.iaload, 1) := by decide +kernel
theorem dl_168 : decode code 168 = .ok (.aload_n 0, 1) := by decide +kernel
theorem dl_169 : decode code 169 = .ok (.iload_n 3, 1) := by decide +kernel
theorem dl_170 : decode code 170 = .ok (.iconst 3, 1) := by decide +kernel
theorem dl_171 : decode code 171 = .ok (.iadd, 1) := by decide +kernel
theorem dl_172 : decode code 172 = .ok (.iaload, 1) := by decide +kernel
theorem dl_173 : decode code 173 = .ok (.aload_n 0, 1) := by decide +kernel
theorem dl_174 : decode code 174 = .ok (.iload_n 3, 1) := by decide +kernel
theorem dl_175 : decode code 175 = .ok (.iconst 4, 1) := by decide +kernel
theorem dl_176 : decode code 176 = .ok (.iadd, 1) := by decide +kernel
theorem dl_177 : decode code 177 = .ok (.iaload, 1) := by decide +kernel
theorem dl_178 : decode code 178 = .ok (.aload_n 0, 1) := by decide +kernel
theorem dl_179 : decode code 179 = .ok (.iload_n 3, 1) := by decide +kernel
theorem dl_180 : decode code 180 = .ok (.iconst 5, 1) := by decide +kernel
theorem dl_181 : decode code 181 = .ok (.iadd, 1) := by decide +kernel
theorem dl_182 : decode code 182 = .ok (.iaload, 1) := by decide +kernel
theorem dl_183 : decode code 183 = .ok (.invokevirtual 18, 3) := by decide +kernel
theorem dl_186 : decode code 186 = .ok (.aload_n 2, 1) := by decide +kernel
theorem dl_187 : decode code 187 = .ok (.aload_n 0, 1) := by decide +kernel
theorem dl_188 : decode code 188 = .ok (.iload_n 3, 1) := by decide +kernel
theorem dl_189 : decode code 189 = .ok (.iconst 1, 1) := by decide +kernel
theorem dl_190 : decode code 190 = .ok (.iadd, 1) := by decide +kernel
theorem dl_191 : decode code 191 = .ok (.iaload, 1) := by decide +kernel
theorem dl_192 : decode code 192 = .ok (.aload_n 0, 1) := by decide +kernel
theorem dl_193 : decode code 193 = .ok (.iload_n 3, 1) := by decide +kernel
theorem dl_194 : decode code 194 = .ok (.iconst 2, 1) := by decide +kernel
theorem dl_195 : decode code 195 = .ok (.iadd, 1) := by decide +kernel
theorem dl_196 : decode code 196 = .ok (.iaload, 1) := by decide +kernel
theorem dl_197 : decode code 197 = .ok (.aload_n 0, 1) := by decide +kernel
theorem dl_198 : decode code 198 = .ok (.iload_n 3, 1) := by decide +kernel
theorem dl_199 : decode code 199 = .ok (.iconst 3, 1) := by decide +kernel
theorem dl_200 : decode code 200 = .ok (.iadd, 1) := by decide +kernel
theorem dl_201 : decode code 201 = .ok (.iaload, 1) := by decide +kernel
theorem dl_202 : decode code 202 = .ok (.aload_n 0, 1) := by decide +kernel
theorem dl_203 : decode code 203 = .ok (.iload_n 3, 1) := by decide +kernel
theorem dl_204 : decode code 204 = .ok (.iconst 4, 1) := by decide +kernel
theorem dl_205 : decode code 205 = .ok (.iadd, 1) := by decide +kernel
theorem dl_206 : decode code 206 = .ok (.iaload, 1) := by decide +kernel
theorem dl_207 : decode code 207 = .ok (.aload_n 0, 1) := by decide +kernel
theorem dl_208 : decode code 208 = .ok (.iload_n 3, 1) := by decide +kernel
theorem dl_209 : decode code 209 = .ok (.iconst 5, 1) := by decide +kernel
theorem dl_210 : decode code 210 = .ok (.iadd, 1) := by decide +kernel
theorem dl_211 : decode code 211 = .ok (.iaload, 1) := by decide +kernel
theorem dl_212 : decode code 212 = .ok (.invokevirtual 22, 3) := by decide +kernel
theorem dl_215 : decode code 215 = .ok (.if_icmp .eq 504, 3) := by decide +kernel
theorem dl_218 : decode code 218 = .ok (.iconst 0, 1) := by decide +kernel
theorem dl_219 : decode code 219 = .ok (.ireturn, 1) := by decide +kernel
theorem dl_220 : decode code 220 = .ok (.aload_n 1, 1) := by decide +kernel
theorem dl_221 : decode code 221 = .ok (.aload_n 0, 1) := by decide +kernel
theorem dl_222 : decode code 222 = .ok (.iload_n 3, 1) := by decide +kernel
theorem dl_223 : decode code 223 = .ok (.iconst 1, 1) := by decide +kernel
theorem dl_224 : decode code 224 = .ok (.iadd, 1) := by decide +kernel
theorem dl_225 : decode code 225 = .ok (.iaload, 1) := by decide +kernel
theorem dl_226 : decode code 226 = .ok (.invokevirtual 23, 3) := by decide +kernel
theorem dl_229 : decode code 229 = .ok (.aload_n 2, 1) := by decide +kernel
theorem dl_230 : decode code 230 = .ok (.aload_n 0, 1) := by decide +kernel
theorem dl_231 : decode code 231 = .ok (.iload_n 3, 1) := by decide +kernel
theorem dl_232 : decode code 232 = .ok (.iconst 1, 1) := by decide +kernel
theorem dl_233 : decode code 233 = .ok (.iadd, 1) := by decide +kernel
theorem dl_234 : decode code 234 = .ok (.iaload, 1) := by decide +kernel
theorem dl_235 : decode code 235 = .ok (.invokevirtual 27, 3) := by decide +kernel
theorem dl_238 : decode code 238 = .ok (.if_icmp .eq 481, 3) := by decide +kernel
theorem dl_241 : decode code 241 = .ok (.iconst 0, 1) := by decide +kernel
theorem dl_242 : decode code 242 = .ok (.ireturn, 1) := by decide +kernel
theorem dl_243 : decode code 243 = .ok (.aload_n 1, 1) := by decide +kernel
theorem dl_244 : decode code 244 = .ok (.invokevirtual 28, 3) := by decide +kernel
theorem dl_247 : decode code 247 = .ok (.aload_n 2, 1) := by decide +kernel
theorem dl_248 : decode code 248 = .ok (.invokevirtual 32, 3) := by decide +kernel
theorem dl_251 : decode code 251 = .ok (.if_icmp .eq 468, 3) := by decide +kernel
theorem dl_254 : decode code 254 = .ok (.iconst 0, 1) := by decide +kernel
theorem dl_255 : decode code 255 = .ok (.ireturn, 1) := by decide +kernel
theorem dl_256 : decode code 256 = .ok (.aload_n 1, 1) := by decide +kernel
theorem dl_257 : decode code 257 = .ok (.aload_n 0, 1) := by decide +kernel
theorem dl_258 : decode code 258 = .ok (.iload_n 3, 1) := by decide +kernel
theorem dl_259 : decode code 259 = .ok (.iconst 1, 1) := by decide +kernel
theorem dl_260 : decode code 260 = .ok (.iadd, 1) := by decide +kernel
theorem dl_261 : decode code 261 = .ok (.iaload, 1) := by decide +kernel
theorem dl_262 : decode code 262 = .ok (.invokevirtual 33, 3) := by decide +kernel
theorem dl_265 : decode code 265 = .ok (.aload_n 2, 1) := by decide +kernel
theorem dl_266 : decode code 266 = .ok (.aload_n 0, 1) := by decide +kernel
theorem dl_267 : decode code 267 = .ok (.iload_n 3, 1) := by decide +kernel
theorem dl_268 : decode code 268 = .ok (.iconst 1, 1) := by decide +kernel
theorem dl_269 : decode code 269 = .ok (.iadd, 1) := by decide +kernel
theorem dl_270 : decode code 270 = .ok (.iaload, 1) := by decide +kernel
theorem dl_271 : decode code 271 = .ok (.invokevirtual 37, 3) := by decide +kernel
theorem dl_274 : decode code 274 = .ok (.if_icmp .eq 445, 3) := by decide +kernel
theorem dl_277 : decode code 277 = .ok (.iconst 0, 1) := by decide +kernel
theorem dl_278 : decode code 278 = .ok (.ireturn, 1) := by decide +kernel
theorem dl_279 : decode code 279 = .ok (.aload_n 1, 1) := by decide +kernel
theorem dl_280 : decode code 280 = .ok (.aload_n 0, 1) := by decide +kernel
theorem dl_281 : decode code 281 = .ok (.iload_n 3, 1) := by decide +kernel
theorem dl_282 : decode code 282 = .ok (.iconst 1, 1) := by decide +kernel
theorem dl_283 : decode code 283 = .ok (.iadd, 1) := by decide +kernel
theorem dl_284 : decode code 284 = .ok (.iaload, 1) := by decide +kernel
theorem dl_285 : decode code 285 = .ok (.aload_n 0, 1) := by decide +kernel
theorem dl_286 : decode code 286 = .ok (.iload_n 3, 1) := by decide +kernel
theorem dl_287 : decode code 287 = .ok (.iconst 2, 1) := by decide +kernel
theorem dl_288 : decode code 288 = .ok (.iadd, 1) := by decide +kernel
theorem dl_289 : decode code 289 = .ok (.iaload, 1) := by decide +kernel
theorem dl_290 : decode code 290 = .ok (.ifCond .eq 7, 3) := by decide +kernel
theorem dl_293 : decode code 293 = .ok (.iconst 1, 1) := by decide +kernel
theorem dl_294 : decode code 294 = .ok (.goto 4, 3) := by decide +kernel
end
section
/-! the law's instructions -/
theorem dl_297 : decode code 297 = .ok (.iconst 0, 1) := by decide +kernel
theorem dl_298 : decode code 298 = .ok (.invokevirtual 38, 3) := by decide +kernel
theorem dl_301 : decode code 301 = .ok (.aload_n 2, 1) := by decide +kernel
theorem dl_302 : decode code 302 = .ok (.aload_n 0, 1) := by decide +kernel
theorem dl_303 : decode code 303 = .ok (.iload_n 3, 1) := by decide +kernel
theorem dl_304 : decode code 304 = .ok (.iconst 1, 1) := by decide +kernel
theorem dl_305 : decode code 305 = .ok (.iadd, 1) := by decide +kernel
theorem dl_306 : decode code 306 = .ok (.iaload, 1) := by decide +kernel
theorem dl_307 : decode code 307 = .ok (.aload_n 0, 1) := by decide +kernel
theorem dl_308 : decode code 308 = .ok (.iload_n 3, 1) := by decide +kernel
theorem dl_309 : decode code 309 = .ok (.iconst 2, 1) := by decide +kernel
theorem dl_310 : decode code 310 = .ok (.iadd, 1) := by decide +kernel
theorem dl_311 : decode code 311 = .ok (.iaload, 1) := by decide +kernel
theorem dl_312 : decode code 312 = .ok (.ifCond .eq 7, 3) := by decide +kernel
theorem dl_315 : decode code 315 = .ok (.iconst 1, 1) := by decide +kernel
theorem dl_316 : decode code 316 = .ok (.goto 4, 3) := by decide +kernel
theorem dl_319 : decode code 319 = .ok (.iconst 0, 1) := by decide +kernel
theorem dl_320 : decode code 320 = .ok (.invokevirtual 42, 3) := by decide +kernel
theorem dl_323 : decode code 323 = .ok (.if_icmp .eq 396, 3) := by decide +kernel
theorem dl_326 : decode code 326 = .ok (.iconst 0, 1) := by decide +kernel
theorem dl_327 : decode code 327 = .ok (.ireturn, 1) := by decide +kernel
theorem dl_328 : decode code 328 = .ok (.aload_n 1, 1) := by decide +kernel
theorem dl_329 : decode code 329 = .ok (.invokevirtual 43, 3) := by decide +kernel
theorem dl_332 : decode code 332 = .ok (.aload_n 2, 1) := by decide +kernel
theorem dl_333 : decode code 333 = .ok (.invokevirtual 46, 3) := by decide +kernel
theorem dl_336 : decode code 336 = .ok (.if_icmp .eq 383, 3) := by decide +kernel
theorem dl_339 : decode code 339 = .ok (.iconst 0, 1) := by decide +kernel
theorem dl_340 : decode code 340 = .ok (.ireturn, 1) := by decide +kernel
theorem dl_341 : decode code 341 = .ok (.aload_n 1, 1) := by decide +kernel
theorem dl_342 : decode code 342 = .ok (.aload_n 0, 1) := by decide +kernel
theorem dl_343 : decode code 343 = .ok (.iload_n 3, 1) := by decide +kernel
theorem dl_344 : decode code 344 = .ok (.iconst 1, 1) := by decide +kernel
theorem dl_345 : decode code 345 = .ok (.iadd, 1) := by decide +kernel
theorem dl_346 : decode code 346 = .ok (.iaload, 1) := by decide +kernel
theorem dl_347 : decode code 347 = .ok (.aload_n 0, 1) := by decide +kernel
theorem dl_348 : decode code 348 = .ok (.iload_n 3, 1) := by decide +kernel
theorem dl_349 : decode code 349 = .ok (.iconst 2, 1) := by decide +kernel
theorem dl_350 : decode code 350 = .ok (.iadd, 1) := by decide +kernel
theorem dl_351 : decode code 351 = .ok (.iaload, 1) := by decide +kernel
theorem dl_352 : decode code 352 = .ok (.ifCond .eq 7, 3) := by decide +kernel
theorem dl_355 : decode code 355 = .ok (.iconst 1, 1) := by decide +kernel
theorem dl_356 : decode code 356 = .ok (.goto 4, 3) := by decide +kernel
theorem dl_359 : decode code 359 = .ok (.iconst 0, 1) := by decide +kernel
theorem dl_360 : decode code 360 = .ok (.aload_n 0, 1) := by decide +kernel
theorem dl_361 : decode code 361 = .ok (.iload_n 3, 1) := by decide +kernel
theorem dl_362 : decode code 362 = .ok (.iconst 3, 1) := by decide +kernel
theorem dl_363 : decode code 363 = .ok (.iadd, 1) := by decide +kernel
theorem dl_364 : decode code 364 = .ok (.iaload, 1) := by decide +kernel
theorem dl_365 : decode code 365 = .ok (.invokevirtual 47, 3) := by decide +kernel
theorem dl_368 : decode code 368 = .ok (.aload_n 2, 1) := by decide +kernel
theorem dl_369 : decode code 369 = .ok (.aload_n 0, 1) := by decide +kernel
theorem dl_370 : decode code 370 = .ok (.iload_n 3, 1) := by decide +kernel
theorem dl_371 : decode code 371 = .ok (.iconst 1, 1) := by decide +kernel
theorem dl_372 : decode code 372 = .ok (.iadd, 1) := by decide +kernel
theorem dl_373 : decode code 373 = .ok (.iaload, 1) := by decide +kernel
theorem dl_374 : decode code 374 = .ok (.aload_n 0, 1) := by decide +kernel
theorem dl_375 : decode code 375 = .ok (.iload_n 3, 1) := by decide +kernel
theorem dl_376 : decode code 376 = .ok (.iconst 2, 1) := by decide +kernel
theorem dl_377 : decode code 377 = .ok (.iadd, 1) := by decide +kernel
theorem dl_378 : decode code 378 = .ok (.iaload, 1) := by decide +kernel
theorem dl_379 : decode code 379 = .ok (.ifCond .eq 7, 3) := by decide +kernel
theorem dl_382 : decode code 382 = .ok (.iconst 1, 1) := by decide +kernel
theorem dl_383 : decode code 383 = .ok (.goto 4, 3) := by decide +kernel
theorem dl_386 : decode code 386 = .ok (.iconst 0, 1) := by decide +kernel
theorem dl_387 : decode code 387 = .ok (.aload_n 0, 1) := by decide +kernel
theorem dl_388 : decode code 388 = .ok (.iload_n 3, 1) := by decide +kernel
theorem dl_389 : decode code 389 = .ok (.iconst 3, 1) := by decide +kernel
theorem dl_390 : decode code 390 = .ok (.iadd, 1) := by decide +kernel
theorem dl_391 : decode code 391 = .ok (.iaload, 1) := by decide +kernel
theorem dl_392 : decode code 392 = .ok (.invokevirtual 51, 3) := by decide +kernel
theorem dl_395 : decode code 395 = .ok (.if_icmp .eq 324, 3) := by decide +kernel
theorem dl_398 : decode code 398 = .ok (.iconst 0, 1) := by decide +kernel
theorem dl_399 : decode code 399 = .ok (.ireturn, 1) := by decide +kernel
theorem dl_400 : decode code 400 = .ok (.aload_n 1, 1) := by decide +kernel
theorem dl_401 : decode code 401 = .ok (.aload_n 0, 1) := by decide +kernel
theorem dl_402 : decode code 402 = .ok (.iload_n 3, 1) := by decide +kernel
theorem dl_403 : decode code 403 = .ok (.iconst 1, 1) := by decide +kernel
theorem dl_404 : decode code 404 = .ok (.iadd, 1) := by decide +kernel
theorem dl_405 : decode code 405 = .ok (.iaload, 1) := by decide +kernel
theorem dl_406 : decode code 406 = .ok (.aload_n 0, 1) := by decide +kernel
theorem dl_407 : decode code 407 = .ok (.iload_n 3, 1) := by decide +kernel
theorem dl_408 : decode code 408 = .ok (.iconst 2, 1) := by decide +kernel
theorem dl_409 : decode code 409 = .ok (.iadd, 1) := by decide +kernel
theorem dl_410 : decode code 410 = .ok (.iaload, 1) := by decide +kernel
theorem dl_411 : decode code 411 = .ok (.invokevirtual 52, 3) := by decide +kernel
theorem dl_414 : decode code 414 = .ok (.aload_n 2, 1) := by decide +kernel
theorem dl_415 : decode code 415 = .ok (.aload_n 0, 1) := by decide +kernel
theorem dl_416 : decode code 416 = .ok (.iload_n 3, 1) := by decide +kernel
theorem dl_417 : decode code 417 = .ok (.iconst 1, 1) := by decide +kernel
theorem dl_418 : decode code 418 = .ok (.iadd, 1) := by decide +kernel
theorem dl_419 : decode code 419 = .ok (.iaload, 1) := by decide +kernel
theorem dl_420 : decode code 420 = .ok (.aload_n 0, 1) := by decide +kernel
theorem dl_421 : decode code 421 = .ok (.iload_n 3, 1) := by decide +kernel
theorem dl_422 : decode code 422 = .ok (.iconst 2, 1) := by decide +kernel
theorem dl_423 : decode code 423 = .ok (.iadd, 1) := by decide +kernel
theorem dl_424 : decode code 424 = .ok (.iaload, 1) := by decide +kernel
theorem dl_425 : decode code 425 = .ok (.invokevirtual 56, 3) := by decide +kernel
theorem dl_428 : decode code 428 = .ok (.if_icmp .eq 291, 3) := by decide +kernel
theorem dl_431 : decode code 431 = .ok (.iconst 0, 1) := by decide +kernel
theorem dl_432 : decode code 432 = .ok (.ireturn, 1) := by decide +kernel
theorem dl_433 : decode code 433 = .ok (.aload_n 1, 1) := by decide +kernel
theorem dl_434 : decode code 434 = .ok (.aload_n 0, 1) := by decide +kernel
theorem dl_435 : decode code 435 = .ok (.iload_n 3, 1) := by decide +kernel
theorem dl_436 : decode code 436 = .ok (.iconst 1, 1) := by decide +kernel
theorem dl_437 : decode code 437 = .ok (.iadd, 1) := by decide +kernel
theorem dl_438 : decode code 438 = .ok (.iaload, 1) := by decide +kernel
theorem dl_439 : decode code 439 = .ok (.aload_n 0, 1) := by decide +kernel
theorem dl_440 : decode code 440 = .ok (.iload_n 3, 1) := by decide +kernel
theorem dl_441 : decode code 441 = .ok (.iconst 2, 1) := by decide +kernel
theorem dl_442 : decode code 442 = .ok (.iadd, 1) := by decide +kernel
theorem dl_443 : decode code 443 = .ok (.iaload, 1) := by decide +kernel
theorem dl_444 : decode code 444 = .ok (.invokevirtual 57, 3) := by decide +kernel
theorem dl_447 : decode code 447 = .ok (.aload_n 2, 1) := by decide +kernel
theorem dl_448 : decode code 448 = .ok (.aload_n 0, 1) := by decide +kernel
theorem dl_449 : decode code 449 = .ok (.iload_n 3, 1) := by decide +kernel
theorem dl_450 : decode code 450 = .ok (.iconst 1, 1) := by decide +kernel
theorem dl_451 : decode code 451 = .ok (.iadd, 1) := by decide +kernel
theorem dl_452 : decode code 452 = .ok (.iaload, 1) := by decide +kernel
theorem dl_453 : decode code 453 = .ok (.aload_n 0, 1) := by decide +kernel
theorem dl_454 : decode code 454 = .ok (.iload_n 3, 1) := by decide +kernel
theorem dl_455 : decode code 455 = .ok (.iconst 2, 1) := by decide +kernel
theorem dl_456 : decode code 456 = .ok (.iadd, 1) := by decide +kernel
theorem dl_457 : decode code 457 = .ok (.iaload, 1) := by decide +kernel
theorem dl_458 : decode code 458 = .ok (.invokevirtual 60, 3) := by decide +kernel
theorem dl_461 : decode code 461 = .ok (.if_icmp .eq 258, 3) := by decide +kernel
theorem dl_464 : decode code 464 = .ok (.iconst 0, 1) := by decide +kernel
theorem dl_465 : decode code 465 = .ok (.ireturn, 1) := by decide +kernel
theorem dl_466 : decode code 466 = .ok (.aload_n 1, 1) := by decide +kernel
theorem dl_467 : decode code 467 = .ok (.aload_n 0, 1) := by decide +kernel
theorem dl_468 : decode code 468 = .ok (.iload_n 3, 1) := by decide +kernel
theorem dl_469 : decode code 469 = .ok (.iconst 1, 1) := by decide +kernel
theorem dl_470 : decode code 470 = .ok (.iadd, 1) := by decide +kernel
theorem dl_471 : decode code 471 = .ok (.iaload, 1) := by decide +kernel
theorem dl_472 : decode code 472 = .ok (.aload_n 0, 1) := by decide +kernel
theorem dl_473 : decode code 473 = .ok (.iload_n 3, 1) := by decide +kernel
theorem dl_474 : decode code 474 = .ok (.iconst 2, 1) := by decide +kernel
theorem dl_475 : decode code 475 = .ok (.iadd, 1) := by decide +kernel
theorem dl_476 : decode code 476 = .ok (.iaload, 1) := by decide +kernel
theorem dl_477 : decode code 477 = .ok (.invokevirtual 61, 3) := by decide +kernel
theorem dl_480 : decode code 480 = .ok (.aload_n 2, 1) := by decide +kernel
theorem dl_481 : decode code 481 = .ok (.aload_n 0, 1) := by decide +kernel
theorem dl_482 : decode code 482 = .ok (.iload_n 3, 1) := by decide +kernel
theorem dl_483 : decode code 483 = .ok (.iconst 1, 1) := by decide +kernel
theorem dl_484 : decode code 484 = .ok (.iadd, 1) := by decide +kernel
theorem dl_485 : decode code 485 = .ok (.iaload, 1) := by decide +kernel
theorem dl_486 : decode code 486 = .ok (.aload_n 0, 1) := by decide +kernel
theorem dl_487 : decode code 487 = .ok (.iload_n 3, 1) := by decide +kernel
theorem dl_488 : decode code 488 = .ok (.iconst 2, 1) := by decide +kernel
theorem dl_489 : decode code 489 = .ok (.iadd, 1) := by decide +kernel
theorem dl_490 : decode code 490 = .ok (.iaload, 1) := by decide +kernel
theorem dl_491 : decode code 491 = .ok (.invokevirtual 64, 3) := by decide +kernel
theorem dl_494 : decode code 494 = .ok (.if_icmp .eq 225, 3) := by decide +kernel
theorem dl_497 : decode code 497 = .ok (.iconst 0, 1) := by decide +kernel
theorem dl_498 : decode code 498 = .ok (.ireturn, 1) := by decide +kernel
theorem dl_499 : decode code 499 = .ok (.aload_n 1, 1) := by decide +kernel
theorem dl_500 : decode code 500 = .ok (.aload_n 0, 1) := by decide +kernel
theorem dl_501 : decode code 501 = .ok (.iload_n 3, 1) := by decide +kernel
theorem dl_502 : decode code 502 = .ok (.iconst 1, 1) := by decide +kernel
theorem dl_503 : decode code 503 = .ok (.iadd, 1) := by decide +kernel
theorem dl_504 : decode code 504 = .ok (.iaload, 1) := by decide +kernel
theorem dl_505 : decode code 505 = .ok (.aload_n 0, 1) := by decide +kernel
end
section
/-! the law's instructions -/
theorem dl_506 : decode code 506 = .ok (.iload_n 3, 1) := by decide +kernel
theorem dl_507 : decode code 507 = .ok (.iconst 2, 1) := by decide +kernel
theorem dl_508 : decode code 508 = .ok (.iadd, 1) := by decide +kernel
theorem dl_509 : decode code 509 = .ok (.iaload, 1) := by decide +kernel
theorem dl_510 : decode code 510 = .ok (.invokevirtual 65, 3) := by decide +kernel
theorem dl_513 : decode code 513 = .ok (.aload_n 2, 1) := by decide +kernel
theorem dl_514 : decode code 514 = .ok (.aload_n 0, 1) := by decide +kernel
theorem dl_515 : decode code 515 = .ok (.iload_n 3, 1) := by decide +kernel
theorem dl_516 : decode code 516 = .ok (.iconst 1, 1) := by decide +kernel
theorem dl_517 : decode code 517 = .ok (.iadd, 1) := by decide +kernel
theorem dl_518 : decode code 518 = .ok (.iaload, 1) := by decide +kernel
theorem dl_519 : decode code 519 = .ok (.aload_n 0, 1) := by decide +kernel
theorem dl_520 : decode code 520 = .ok (.iload_n 3, 1) := by decide +kernel
theorem dl_521 : decode code 521 = .ok (.iconst 2, 1) := by decide +kernel
theorem dl_522 : decode code 522 = .ok (.iadd, 1) := by decide +kernel
theorem dl_523 : decode code 523 = .ok (.iaload, 1) := by decide +kernel
theorem dl_524 : decode code 524 = .ok (.invokevirtual 68, 3) := by decide +kernel
theorem dl_527 : decode code 527 = .ok (.if_icmp .eq 192, 3) := by decide +kernel
theorem dl_530 : decode code 530 = .ok (.iconst 0, 1) := by decide +kernel
theorem dl_531 : decode code 531 = .ok (.ireturn, 1) := by decide +kernel
theorem dl_532 : decode code 532 = .ok (.aload_n 1, 1) := by decide +kernel
theorem dl_533 : decode code 533 = .ok (.aload_n 0, 1) := by decide +kernel
theorem dl_534 : decode code 534 = .ok (.iload_n 3, 1) := by decide +kernel
theorem dl_535 : decode code 535 = .ok (.iconst 1, 1) := by decide +kernel
theorem dl_536 : decode code 536 = .ok (.iadd, 1) := by decide +kernel
theorem dl_537 : decode code 537 = .ok (.iaload, 1) := by decide +kernel
theorem dl_538 : decode code 538 = .ok (.invokevirtual 69, 3) := by decide +kernel
theorem dl_541 : decode code 541 = .ok (.aload_n 2, 1) := by decide +kernel
theorem dl_542 : decode code 542 = .ok (.aload_n 0, 1) := by decide +kernel
theorem dl_543 : decode code 543 = .ok (.iload_n 3, 1) := by decide +kernel
theorem dl_544 : decode code 544 = .ok (.iconst 1, 1) := by decide +kernel
theorem dl_545 : decode code 545 = .ok (.iadd, 1) := by decide +kernel
theorem dl_546 : decode code 546 = .ok (.iaload, 1) := by decide +kernel
theorem dl_547 : decode code 547 = .ok (.invokevirtual 72, 3) := by decide +kernel
theorem dl_550 : decode code 550 = .ok (.if_icmp .eq 169, 3) := by decide +kernel
theorem dl_553 : decode code 553 = .ok (.iconst 0, 1) := by decide +kernel
theorem dl_554 : decode code 554 = .ok (.ireturn, 1) := by decide +kernel
theorem dl_555 : decode code 555 = .ok (.aload_n 1, 1) := by decide +kernel
theorem dl_556 : decode code 556 = .ok (.aload_n 0, 1) := by decide +kernel
theorem dl_557 : decode code 557 = .ok (.iload_n 3, 1) := by decide +kernel
theorem dl_558 : decode code 558 = .ok (.iconst 1, 1) := by decide +kernel
theorem dl_559 : decode code 559 = .ok (.iadd, 1) := by decide +kernel
theorem dl_560 : decode code 560 = .ok (.iaload, 1) := by decide +kernel
theorem dl_561 : decode code 561 = .ok (.aload_n 0, 1) := by decide +kernel
theorem dl_562 : decode code 562 = .ok (.iload_n 3, 1) := by decide +kernel
theorem dl_563 : decode code 563 = .ok (.iconst 2, 1) := by decide +kernel
theorem dl_564 : decode code 564 = .ok (.iadd, 1) := by decide +kernel
theorem dl_565 : decode code 565 = .ok (.iaload, 1) := by decide +kernel
theorem dl_566 : decode code 566 = .ok (.invokevirtual 73, 3) := by decide +kernel
theorem dl_569 : decode code 569 = .ok (.aload_n 2, 1) := by decide +kernel
theorem dl_570 : decode code 570 = .ok (.aload_n 0, 1) := by decide +kernel
theorem dl_571 : decode code 571 = .ok (.iload_n 3, 1) := by decide +kernel
theorem dl_572 : decode code 572 = .ok (.iconst 1, 1) := by decide +kernel
theorem dl_573 : decode code 573 = .ok (.iadd, 1) := by decide +kernel
theorem dl_574 : decode code 574 = .ok (.iaload, 1) := by decide +kernel
theorem dl_575 : decode code 575 = .ok (.aload_n 0, 1) := by decide +kernel
theorem dl_576 : decode code 576 = .ok (.iload_n 3, 1) := by decide +kernel
theorem dl_577 : decode code 577 = .ok (.iconst 2, 1) := by decide +kernel
theorem dl_578 : decode code 578 = .ok (.iadd, 1) := by decide +kernel
theorem dl_579 : decode code 579 = .ok (.iaload, 1) := by decide +kernel
theorem dl_580 : decode code 580 = .ok (.invokevirtual 76, 3) := by decide +kernel
theorem dl_583 : decode code 583 = .ok (.if_icmp .eq 136, 3) := by decide +kernel
theorem dl_586 : decode code 586 = .ok (.iconst 0, 1) := by decide +kernel
theorem dl_587 : decode code 587 = .ok (.ireturn, 1) := by decide +kernel
theorem dl_588 : decode code 588 = .ok (.aload_n 1, 1) := by decide +kernel
theorem dl_589 : decode code 589 = .ok (.invokevirtual 77, 3) := by decide +kernel
theorem dl_592 : decode code 592 = .ok (.aload_n 2, 1) := by decide +kernel
theorem dl_593 : decode code 593 = .ok (.invokevirtual 80, 3) := by decide +kernel
theorem dl_596 : decode code 596 = .ok (.if_icmp .eq 123, 3) := by decide +kernel
theorem dl_599 : decode code 599 = .ok (.iconst 0, 1) := by decide +kernel
theorem dl_600 : decode code 600 = .ok (.ireturn, 1) := by decide +kernel
theorem dl_601 : decode code 601 = .ok (.aload_n 1, 1) := by decide +kernel
theorem dl_602 : decode code 602 = .ok (.aload_n 0, 1) := by decide +kernel
theorem dl_603 : decode code 603 = .ok (.iload_n 3, 1) := by decide +kernel
theorem dl_604 : decode code 604 = .ok (.iconst 1, 1) := by decide +kernel
theorem dl_605 : decode code 605 = .ok (.iadd, 1) := by decide +kernel
theorem dl_606 : decode code 606 = .ok (.iaload, 1) := by decide +kernel
theorem dl_607 : decode code 607 = .ok (.invokevirtual 81, 3) := by decide +kernel
theorem dl_610 : decode code 610 = .ok (.aload_n 2, 1) := by decide +kernel
theorem dl_611 : decode code 611 = .ok (.aload_n 0, 1) := by decide +kernel
theorem dl_612 : decode code 612 = .ok (.iload_n 3, 1) := by decide +kernel
theorem dl_613 : decode code 613 = .ok (.iconst 1, 1) := by decide +kernel
theorem dl_614 : decode code 614 = .ok (.iadd, 1) := by decide +kernel
theorem dl_615 : decode code 615 = .ok (.iaload, 1) := by decide +kernel
theorem dl_616 : decode code 616 = .ok (.invokevirtual 84, 3) := by decide +kernel
theorem dl_619 : decode code 619 = .ok (.if_icmp .eq 100, 3) := by decide +kernel
theorem dl_622 : decode code 622 = .ok (.iconst 0, 1) := by decide +kernel
theorem dl_623 : decode code 623 = .ok (.ireturn, 1) := by decide +kernel
theorem dl_624 : decode code 624 = .ok (.aload_n 1, 1) := by decide +kernel
theorem dl_625 : decode code 625 = .ok (.aload_n 0, 1) := by decide +kernel
theorem dl_626 : decode code 626 = .ok (.iload_n 3, 1) := by decide +kernel
theorem dl_627 : decode code 627 = .ok (.iconst 1, 1) := by decide +kernel
theorem dl_628 : decode code 628 = .ok (.iadd, 1) := by decide +kernel
theorem dl_629 : decode code 629 = .ok (.iaload, 1) := by decide +kernel
theorem dl_630 : decode code 630 = .ok (.aload_n 0, 1) := by decide +kernel
theorem dl_631 : decode code 631 = .ok (.iload_n 3, 1) := by decide +kernel
theorem dl_632 : decode code 632 = .ok (.iconst 2, 1) := by decide +kernel
theorem dl_633 : decode code 633 = .ok (.iadd, 1) := by decide +kernel
theorem dl_634 : decode code 634 = .ok (.iaload, 1) := by decide +kernel
theorem dl_635 : decode code 635 = .ok (.invokevirtual 85, 3) := by decide +kernel
theorem dl_638 : decode code 638 = .ok (.aload_n 2, 1) := by decide +kernel
theorem dl_639 : decode code 639 = .ok (.aload_n 0, 1) := by decide +kernel
theorem dl_640 : decode code 640 = .ok (.iload_n 3, 1) := by decide +kernel
theorem dl_641 : decode code 641 = .ok (.iconst 1, 1) := by decide +kernel
theorem dl_642 : decode code 642 = .ok (.iadd, 1) := by decide +kernel
theorem dl_643 : decode code 643 = .ok (.iaload, 1) := by decide +kernel
theorem dl_644 : decode code 644 = .ok (.aload_n 0, 1) := by decide +kernel
theorem dl_645 : decode code 645 = .ok (.iload_n 3, 1) := by decide +kernel
theorem dl_646 : decode code 646 = .ok (.iconst 2, 1) := by decide +kernel
theorem dl_647 : decode code 647 = .ok (.iadd, 1) := by decide +kernel
theorem dl_648 : decode code 648 = .ok (.iaload, 1) := by decide +kernel
theorem dl_649 : decode code 649 = .ok (.invokevirtual 88, 3) := by decide +kernel
theorem dl_652 : decode code 652 = .ok (.if_icmp .eq 67, 3) := by decide +kernel
theorem dl_655 : decode code 655 = .ok (.iconst 0, 1) := by decide +kernel
theorem dl_656 : decode code 656 = .ok (.ireturn, 1) := by decide +kernel
theorem dl_657 : decode code 657 = .ok (.aload_n 1, 1) := by decide +kernel
theorem dl_658 : decode code 658 = .ok (.aload_n 0, 1) := by decide +kernel
theorem dl_659 : decode code 659 = .ok (.iload_n 3, 1) := by decide +kernel
theorem dl_660 : decode code 660 = .ok (.iconst 1, 1) := by decide +kernel
theorem dl_661 : decode code 661 = .ok (.iadd, 1) := by decide +kernel
theorem dl_662 : decode code 662 = .ok (.iaload, 1) := by decide +kernel
theorem dl_663 : decode code 663 = .ok (.ifCond .eq 7, 3) := by decide +kernel
theorem dl_666 : decode code 666 = .ok (.iconst 1, 1) := by decide +kernel
theorem dl_667 : decode code 667 = .ok (.goto 4, 3) := by decide +kernel
theorem dl_670 : decode code 670 = .ok (.iconst 0, 1) := by decide +kernel
theorem dl_671 : decode code 671 = .ok (.invokevirtual 89, 3) := by decide +kernel
theorem dl_674 : decode code 674 = .ok (.aload_n 2, 1) := by decide +kernel
theorem dl_675 : decode code 675 = .ok (.aload_n 0, 1) := by decide +kernel
theorem dl_676 : decode code 676 = .ok (.iload_n 3, 1) := by decide +kernel
theorem dl_677 : decode code 677 = .ok (.iconst 1, 1) := by decide +kernel
theorem dl_678 : decode code 678 = .ok (.iadd, 1) := by decide +kernel
theorem dl_679 : decode code 679 = .ok (.iaload, 1) := by decide +kernel
theorem dl_680 : decode code 680 = .ok (.ifCond .eq 7, 3) := by decide +kernel
theorem dl_683 : decode code 683 = .ok (.iconst 1, 1) := by decide +kernel
theorem dl_684 : decode code 684 = .ok (.goto 4, 3) := by decide +kernel
theorem dl_687 : decode code 687 = .ok (.iconst 0, 1) := by decide +kernel
theorem dl_688 : decode code 688 = .ok (.invokevirtual 93, 3) := by decide +kernel
theorem dl_691 : decode code 691 = .ok (.if_icmp .eq 28, 3) := by decide +kernel
theorem dl_694 : decode code 694 = .ok (.iconst 0, 1) := by decide +kernel
theorem dl_695 : decode code 695 = .ok (.ireturn, 1) := by decide +kernel
theorem dl_696 : decode code 696 = .ok (.aload_n 1, 1) := by decide +kernel
theorem dl_697 : decode code 697 = .ok (.aload_n 0, 1) := by decide +kernel
theorem dl_698 : decode code 698 = .ok (.iload_n 3, 1) := by decide +kernel
theorem dl_699 : decode code 699 = .ok (.iconst 1, 1) := by decide +kernel
theorem dl_700 : decode code 700 = .ok (.iadd, 1) := by decide +kernel
theorem dl_701 : decode code 701 = .ok (.iaload, 1) := by decide +kernel
theorem dl_702 : decode code 702 = .ok (.invokevirtual 94, 3) := by decide +kernel
theorem dl_705 : decode code 705 = .ok (.aload_n 2, 1) := by decide +kernel
theorem dl_706 : decode code 706 = .ok (.aload_n 0, 1) := by decide +kernel
theorem dl_707 : decode code 707 = .ok (.iload_n 3, 1) := by decide +kernel
theorem dl_708 : decode code 708 = .ok (.iconst 1, 1) := by decide +kernel
theorem dl_709 : decode code 709 = .ok (.iadd, 1) := by decide +kernel
theorem dl_710 : decode code 710 = .ok (.iaload, 1) := by decide +kernel
theorem dl_711 : decode code 711 = .ok (.invokevirtual 97, 3) := by decide +kernel
theorem dl_714 : decode code 714 = .ok (.if_icmp .eq 5, 3) := by decide +kernel
theorem dl_717 : decode code 717 = .ok (.iconst 0, 1) := by decide +kernel
theorem dl_718 : decode code 718 = .ok (.ireturn, 1) := by decide +kernel
theorem dl_719 : decode code 719 = .ok (.iinc 3 6, 3) := by decide +kernel
theorem dl_722 : decode code 722 = .ok (.goto (-704), 3) := by decide +kernel
theorem dl_725 : decode code 725 = .ok (.iconst 1, 1) := by decide +kernel
theorem dl_726 : decode code 726 = .ok (.ireturn, 1) := by decide +kernel
end
section
/-! ===== all the tables; what a first call answers ===== -/
set_option maxRecDepth 20000 in
theorem ev_sys : ev_Sys ev_cl ev_pg ev_gw ev_nw := by
  refine ⟨?_, ev_gw_ok, ev_nw_ok, ?_⟩
  · intro ci q h
    match ci, h with
    | 0, h => cases h; exact ck_k0
    | 1, h => cases h; exact ck_k1
    | 2, h => cases h; exact ck_k2
    | 3, h => cases h; exact ck_k3
    | 4, h => cases h; exact ck_k4
    | 5, h => cases h; exact ck_k5
    | 6, h => cases h; exact ck_k6
    | 7, h => cases h; exact ck_k7
    | 8, h => cases h; exact ck_k8
    | 9, h => cases h; exact ck_k9
    | 10, h => cases h; exact ck_k10
    | 11, h => cases h; exact ck_k11
    | _ + 12, h => simp [ev_cl] at h
  · unfold ev_pg
    exact List.forall_mem_cons.mpr ⟨ck_m0, List.forall_mem_cons.mpr ⟨ck_m1, List.forall_mem_cons.mpr ⟨ck_m2, List.forall_mem_cons.mpr ⟨ck_m3, List.forall_mem_cons.mpr ⟨ck_m4, List.forall_mem_cons.mpr ⟨ck_m5, List.forall_mem_cons.mpr ⟨ck_m6, List.forall_mem_cons.mpr ⟨ck_m7, List.forall_mem_cons.mpr ⟨ck_m8, List.forall_mem_cons.mpr ⟨ck_m9, List.forall_mem_cons.mpr ⟨ck_m10, List.forall_mem_cons.mpr ⟨ck_m11, List.forall_mem_cons.mpr ⟨ck_m12, List.forall_mem_cons.mpr ⟨ck_m13, List.forall_mem_cons.mpr ⟨ck_m14, List.forall_mem_cons.mpr ⟨ck_m15, List.forall_mem_cons.mpr ⟨ck_m16, List.forall_mem_cons.mpr ⟨ck_m17, List.forall_mem_cons.mpr ⟨ck_m18, List.forall_mem_cons.mpr ⟨ck_m19, List.forall_mem_cons.mpr ⟨ck_m20, List.forall_mem_cons.mpr ⟨ck_m21, List.forall_mem_cons.mpr ⟨ck_m22, List.forall_mem_cons.mpr ⟨ck_m23, List.forall_mem_cons.mpr ⟨ck_m24, List.forall_mem_cons.mpr ⟨ck_m25, List.forall_mem_cons.mpr ⟨ck_m26, List.forall_mem_cons.mpr ⟨ck_m27, List.forall_mem_cons.mpr ⟨ck_m28, List.forall_mem_cons.mpr ⟨ck_m29, List.forall_mem_cons.mpr ⟨ck_m30, List.forall_mem_cons.mpr ⟨ck_m31, List.forall_mem_cons.mpr ⟨ck_m32, List.forall_mem_cons.mpr ⟨ck_m33, List.forall_mem_cons.mpr ⟨ck_m34, List.forall_mem_cons.mpr ⟨ck_m35, List.forall_mem_cons.mpr ⟨ck_m36, List.forall_mem_cons.mpr ⟨ck_m37, List.forall_mem_cons.mpr ⟨ck_m38, List.forall_mem_cons.mpr ⟨ck_m39, List.forall_mem_cons.mpr ⟨ck_m40, List.forall_mem_cons.mpr ⟨ck_m41, List.forall_mem_cons.mpr ⟨ck_m42, List.forall_mem_cons.mpr ⟨ck_m43, List.forall_mem_cons.mpr ⟨ck_m44, List.forall_mem_cons.mpr ⟨ck_m45, List.forall_mem_cons.mpr ⟨ck_m46, List.forall_mem_cons.mpr ⟨ck_m47, List.forall_mem_cons.mpr ⟨ck_m48, List.forall_mem_cons.mpr ⟨ck_m49, List.forall_mem_cons.mpr ⟨ck_m50, List.forall_mem_cons.mpr ⟨ck_m51, List.forall_mem_cons.mpr ⟨ck_m52, List.forall_mem_cons.mpr ⟨ck_m53, List.forall_mem_cons.mpr ⟨ck_m54, List.forall_mem_cons.mpr ⟨ck_m55, List.forall_mem_cons.mpr ⟨ck_m56, List.forall_mem_cons.mpr ⟨ck_m57, List.forall_mem_cons.mpr ⟨ck_m58, List.forall_mem_cons.mpr ⟨ck_m59, List.forall_mem_cons.mpr ⟨ck_m60, List.forall_mem_cons.mpr ⟨ck_m61, List.forall_mem_cons.mpr ⟨ck_m62, List.forall_mem_cons.mpr ⟨ck_m63, List.forall_mem_cons.mpr ⟨ck_m64, List.forall_mem_cons.mpr ⟨ck_m65, List.forall_mem_cons.mpr ⟨ck_m66, List.forall_mem_cons.mpr ⟨ck_m67, List.forall_mem_cons.mpr ⟨ck_m68, List.forall_mem_cons.mpr ⟨ck_m69, List.forall_mem_cons.mpr ⟨ck_m70, List.forall_mem_cons.mpr ⟨ck_m71, List.forall_mem_cons.mpr ⟨ck_m72, List.forall_mem_cons.mpr ⟨ck_m73, List.forall_mem_cons.mpr ⟨ck_m74, List.forall_mem_cons.mpr ⟨ck_m75, List.forall_mem_cons.mpr ⟨ck_m76, List.forall_mem_cons.mpr ⟨ck_m77, List.forall_mem_cons.mpr ⟨ck_m78, List.forall_mem_cons.mpr ⟨ck_m79, List.forall_mem_cons.mpr ⟨ck_m80, List.forall_mem_cons.mpr ⟨ck_m81, List.forall_mem_cons.mpr ⟨ck_m82, List.forall_mem_cons.mpr ⟨ck_m83, List.forall_mem_cons.mpr ⟨ck_m84, List.forall_mem_cons.mpr ⟨ck_m85, List.forall_mem_cons.mpr ⟨ck_m86, List.forall_mem_cons.mpr ⟨ck_m87, List.forall_mem_cons.mpr ⟨ck_m88, List.forall_mem_cons.mpr ⟨ck_m89, List.forall_mem_cons.mpr ⟨ck_m90, List.forall_mem_cons.mpr ⟨ck_m91, List.forall_mem_cons.mpr ⟨ck_m92, List.forall_mem_cons.mpr ⟨ck_m93, List.forall_mem_cons.mpr ⟨ck_m94, List.forall_mem_cons.mpr ⟨ck_m95, List.forall_mem_cons.mpr ⟨ck_m96, List.forall_mem_cons.mpr ⟨ck_m97, List.forall_mem_cons.mpr ⟨ck_m98, List.forall_mem_cons.mpr ⟨ck_m99, List.forall_mem_cons.mpr ⟨ck_m100, List.forall_mem_cons.mpr ⟨ck_m101, List.forall_mem_cons.mpr ⟨ck_m102, List.forall_mem_cons.mpr ⟨ck_m103, List.forall_mem_cons.mpr ⟨ck_m104, List.forall_mem_cons.mpr ⟨ck_m105, List.forall_mem_cons.mpr ⟨ck_m106, List.forall_mem_cons.mpr ⟨ck_m107, List.forall_mem_cons.mpr ⟨ck_m108, List.forall_mem_cons.mpr ⟨ck_m109, List.forall_mem_cons.mpr ⟨ck_m110, List.forall_mem_cons.mpr ⟨ck_m111, List.forall_mem_cons.mpr ⟨ck_m112, List.forall_mem_cons.mpr ⟨ck_m113, List.forall_mem_cons.mpr ⟨ck_m114, List.forall_mem_cons.mpr ⟨ck_m115, List.forall_mem_cons.mpr ⟨ck_m116, List.forall_mem_cons.mpr ⟨ck_m117, List.forall_mem_cons.mpr ⟨ck_m118, List.forall_mem_cons.mpr ⟨ck_m119, List.forall_mem_cons.mpr ⟨ck_m120, List.forall_mem_cons.mpr ⟨ck_m121, List.forall_mem_cons.mpr ⟨ck_m122, List.forall_mem_cons.mpr ⟨ck_m123, List.forall_mem_cons.mpr ⟨ck_m124, List.forall_mem_cons.mpr ⟨ck_m125, List.forall_mem_cons.mpr ⟨ck_m126, List.forall_mem_cons.mpr ⟨ck_m127, List.forall_mem_cons.mpr ⟨ck_m128, List.forall_mem_cons.mpr ⟨ck_m129, List.forall_mem_cons.mpr ⟨ck_m130, List.forall_mem_cons.mpr ⟨ck_m131, List.forall_mem_cons.mpr ⟨ck_m132, List.forall_mem_cons.mpr ⟨ck_m133, List.forall_mem_cons.mpr ⟨ck_m134, List.forall_mem_cons.mpr ⟨ck_m135, List.forall_mem_cons.mpr ⟨ck_m136, List.forall_mem_cons.mpr ⟨ck_m137, List.forall_mem_cons.mpr ⟨ck_m138, List.forall_mem_cons.mpr ⟨ck_m139, fun _ h => absurd h List.not_mem_nil⟩⟩⟩⟩⟩⟩⟩⟩⟩⟩⟩⟩⟩⟩⟩⟩⟩⟩⟩⟩⟩⟩⟩⟩⟩⟩⟩⟩⟩⟩⟩⟩⟩⟩⟩⟩⟩⟩⟩⟩⟩⟩⟩⟩⟩⟩⟩⟩⟩⟩⟩⟩⟩⟩⟩⟩⟩⟩⟩⟩⟩⟩⟩⟩⟩⟩⟩⟩⟩⟩⟩⟩⟩⟩⟩⟩⟩⟩⟩⟩⟩⟩⟩⟩⟩⟩⟩⟩⟩⟩⟩⟩⟩⟩⟩⟩⟩⟩⟩⟩⟩⟩⟩⟩⟩⟩⟩⟩⟩⟩⟩⟩⟩⟩⟩⟩⟩⟩⟩⟩⟩⟩⟩⟩⟩⟩⟩⟩⟩⟩⟩⟩⟩⟩⟩⟩⟩⟩⟩⟩
theorem pb_xx_set (σ : Nat → Int32) : ∃ env, ev_sat σ env ∧ ev_all (ev_met ev_pg 7 60 [.inr (.inl 1), .inr (.inr (.inr (.inl (0, [])))), .inr (.inr (.inr (.inl (1, []))))] ev_hxx 50 env) sp_set = true := by
  have t0 := ev_bi_top (σ 0)
  have t1 := ev_bi_top (σ 1)
  exact ⟨_, ev_sat_cons.mpr ⟨⟨by show _ ≤ ev_bi (σ 0); omega, by show ev_bi (σ 0) ≤ _; omega⟩, ev_sat_cons.mpr ⟨⟨by show _ ≤ ev_bi (σ 1); omega, by show ev_bi (σ 1) ≤ _; omega⟩, ev_sat_nil⟩⟩, ex_xx_set_0⟩
theorem pb_mm_set (σ : Nat → Int32) : ∃ env, ev_sat σ env ∧ ev_all (ev_met ev_pg 7 61 [.inr (.inl 1), .inr (.inr (.inr (.inl (0, [])))), .inr (.inr (.inr (.inl (1, []))))] ev_hmm 39 env) sp_set = true := by
  have t0 := ev_bi_top (σ 0)
  have t1 := ev_bi_top (σ 1)
  exact ⟨_, ev_sat_cons.mpr ⟨⟨by show _ ≤ ev_bi (σ 0); omega, by show ev_bi (σ 0) ≤ _; omega⟩, ev_sat_cons.mpr ⟨⟨by show _ ≤ ev_bi (σ 1); omega, by show ev_bi (σ 1) ≤ _; omega⟩, ev_sat_nil⟩⟩, ex_mm_set_0⟩
theorem pb_xx_feed (σ : Nat → Int32) : ∃ env, ev_sat σ env ∧ ev_all (ev_met ev_pg 7 63 [.inr (.inl 1), .inr (.inr (.inr (.inl (0, [])))), .inr (.inr (.inr (.inl (1, [])))), .inr (.inr (.inr (.inl (2, [])))), .inr (.inr (.inr (.inl (3, [])))), .inr (.inr (.inr (.inl (4, []))))] ev_hxx 50 env) sp_feed = true := by
  have t0 := ev_bi_top (σ 0)
  have t1 := ev_bi_top (σ 1)
  have t2 := ev_bi_top (σ 2)
  have t3 := ev_bi_top (σ 3)
  have t4 := ev_bi_top (σ 4)
  exact ⟨_, ev_sat_cons.mpr ⟨⟨by show _ ≤ ev_bi (σ 0); omega, by show ev_bi (σ 0) ≤ _; omega⟩, ev_sat_cons.mpr ⟨⟨by show _ ≤ ev_bi (σ 1); omega, by show ev_bi (σ 1) ≤ _; omega⟩, ev_sat_cons.mpr ⟨⟨by show _ ≤ ev_bi (σ 2); omega, by show ev_bi (σ 2) ≤ _; omega⟩, ev_sat_cons.mpr ⟨⟨by show _ ≤ ev_bi (σ 3); omega, by show ev_bi (σ 3) ≤ _; omega⟩, ev_sat_cons.mpr ⟨⟨by show _ ≤ ev_bi (σ 4); omega, by show ev_bi (σ 4) ≤ _; omega⟩, ev_sat_nil⟩⟩⟩⟩⟩, ex_xx_feed_0⟩
theorem pb_mm_feed (σ : Nat → Int32) : ∃ env, ev_sat σ env ∧ ev_all (ev_met ev_pg 7 64 [.inr (.inl 1), .inr (.inr (.inr (.inl (0, [])))), .inr (.inr (.inr (.inl (1, [])))), .inr (.inr (.inr (.inl (2, [])))), .inr (.inr (.inr (.inl (3, [])))), .inr (.inr (.inr (.inl (4, []))))] ev_hmm 39 env) sp_feed = true := by
  have t0 := ev_bi_top (σ 0)
  have t1 := ev_bi_top (σ 1)
  have t2 := ev_bi_top (σ 2)
  have t3 := ev_bi_top (σ 3)
  have t4 := ev_bi_top (σ 4)
  exact ⟨_, ev_sat_cons.mpr ⟨⟨by show _ ≤ ev_bi (σ 0); omega, by show ev_bi (σ 0) ≤ _; omega⟩, ev_sat_cons.mpr ⟨⟨by show _ ≤ ev_bi (σ 1); omega, by show ev_bi (σ 1) ≤ _; omega⟩, ev_sat_cons.mpr ⟨⟨by show _ ≤ ev_bi (σ 2); omega, by show ev_bi (σ 2) ≤ _; omega⟩, ev_sat_cons.mpr ⟨⟨by show _ ≤ ev_bi (σ 3); omega, by show ev_bi (σ 3) ≤ _; omega⟩, ev_sat_cons.mpr ⟨⟨by show _ ≤ ev_bi (σ 4); omega, by show ev_bi (σ 4) ≤ _; omega⟩, ev_sat_nil⟩⟩⟩⟩⟩, ex_mm_feed_0⟩
theorem pb_xx_end (σ : Nat → Int32) : ∃ env, ev_sat σ env ∧ ev_all (ev_met ev_pg 7 65 [.inr (.inl 1), .inr (.inr (.inr (.inl (0, []))))] ev_hxx 50 env) sp_end = true := by
  have t0 := ev_bi_top (σ 0)
  exact ⟨_, ev_sat_cons.mpr ⟨⟨by show _ ≤ ev_bi (σ 0); omega, by show ev_bi (σ 0) ≤ _; omega⟩, ev_sat_nil⟩, ex_xx_end_0⟩
theorem pb_mm_end (σ : Nat → Int32) : ∃ env, ev_sat σ env ∧ ev_all (ev_met ev_pg 7 66 [.inr (.inl 1), .inr (.inr (.inr (.inl (0, []))))] ev_hmm 39 env) sp_end = true := by
  have t0 := ev_bi_top (σ 0)
  exact ⟨_, ev_sat_cons.mpr ⟨⟨by show _ ≤ ev_bi (σ 0); omega, by show ev_bi (σ 0) ≤ _; omega⟩, ev_sat_nil⟩, ex_mm_end_0⟩
theorem pb_xx_code (σ : Nat → Int32) : ∃ env, ev_sat σ env ∧ ev_all (ev_met ev_pg 7 67 [.inr (.inl 1)] ev_hxx 50 env) sp_code = true := by
  exact ⟨_, ev_sat_nil, ex_xx_code_0⟩
theorem pb_mm_code (σ : Nat → Int32) : ∃ env, ev_sat σ env ∧ ev_all (ev_met ev_pg 7 71 [.inr (.inl 1)] ev_hmm 39 env) sp_code = true := by
  exact ⟨_, ev_sat_nil, ex_mm_code_0⟩
theorem pb_xx_fault (σ : Nat → Int32) : ∃ env, ev_sat σ env ∧ ev_all (ev_met ev_pg 7 75 [.inr (.inl 1), .inr (.inr (.inr (.inl (0, []))))] ev_hxx 50 env) sp_fault = true := by
  have t0 := ev_bi_top (σ 0)
  exact ⟨_, ev_sat_cons.mpr ⟨⟨by show _ ≤ ev_bi (σ 0); omega, by show ev_bi (σ 0) ≤ _; omega⟩, ev_sat_nil⟩, ex_xx_fault_0⟩
theorem pb_mm_fault (σ : Nat → Int32) : ∃ env, ev_sat σ env ∧ ev_all (ev_met ev_pg 7 76 [.inr (.inl 1), .inr (.inr (.inr (.inl (0, []))))] ev_hmm 39 env) sp_fault = true := by
  have t0 := ev_bi_top (σ 0)
  exact ⟨_, ev_sat_cons.mpr ⟨⟨by show _ ≤ ev_bi (σ 0); omega, by show ev_bi (σ 0) ≤ _; omega⟩, ev_sat_nil⟩, ex_mm_fault_0⟩
theorem pb_xx_input (σ : Nat → Int32) (h1 : σ 1 = 0 ∨ σ 1 = 1) : ∃ env, ev_sat σ env ∧ ev_all (ev_met ev_pg 7 77 [.inr (.inl 1), .inr (.inr (.inr (.inl (0, [])))), .inr (.inr (.inr (.inl (1, []))))] ev_hxx 50 env) sp_input = true := by
  have t0 := ev_bi_top (σ 0)
  have t1 := ev_bi_top (σ 1)
  have z1 : 2147483648 ≤ ev_bi (σ 1) ∧ ev_bi (σ 1) ≤ 2147483649 := by
    rcases h1 with h | h <;> rw [h] <;> decide +kernel
  exact ⟨_, ev_sat_cons.mpr ⟨⟨by show _ ≤ ev_bi (σ 0); omega, by show ev_bi (σ 0) ≤ _; omega⟩, ev_sat_cons.mpr ⟨⟨by show _ ≤ ev_bi (σ 1); omega, by show ev_bi (σ 1) ≤ _; omega⟩, ev_sat_nil⟩⟩, ex_xx_input_0⟩
theorem pb_mm_input (σ : Nat → Int32) (h1 : σ 1 = 0 ∨ σ 1 = 1) : ∃ env, ev_sat σ env ∧ ev_all (ev_met ev_pg 7 78 [.inr (.inl 1), .inr (.inr (.inr (.inl (0, [])))), .inr (.inr (.inr (.inl (1, []))))] ev_hmm 39 env) sp_input = true := by
  have t0 := ev_bi_top (σ 0)
  have t1 := ev_bi_top (σ 1)
  have z1 : 2147483648 ≤ ev_bi (σ 1) ∧ ev_bi (σ 1) ≤ 2147483649 := by
    rcases h1 with h | h <;> rw [h] <;> decide +kernel
  exact ⟨_, ev_sat_cons.mpr ⟨⟨by show _ ≤ ev_bi (σ 0); omega, by show ev_bi (σ 0) ≤ _; omega⟩, ev_sat_cons.mpr ⟨⟨by show _ ≤ ev_bi (σ 1); omega, by show ev_bi (σ 1) ≤ _; omega⟩, ev_sat_nil⟩⟩, ex_mm_input_0⟩
theorem pb_xx_allocate (σ : Nat → Int32) : ∃ env, ev_sat σ env ∧ ev_all (ev_met ev_pg 7 79 [.inr (.inl 1)] ev_hxx 50 env) sp_allocate = true := by
  exact ⟨_, ev_sat_nil, ex_xx_allocate_0⟩
theorem pb_mm_allocate (σ : Nat → Int32) : ∃ env, ev_sat σ env ∧ ev_all (ev_met ev_pg 7 94 [.inr (.inl 1)] ev_hmm 39 env) sp_allocate = true := by
  exact ⟨_, ev_sat_nil, ex_mm_allocate_0⟩
theorem pb_xx_step (σ : Nat → Int32) (h1 : σ 1 = 0 ∨ σ 1 = 1) : ∃ env, ev_sat σ env ∧ ev_all (ev_met ev_pg 7 101 [.inr (.inl 1), .inr (.inr (.inr (.inl (0, [])))), .inr (.inr (.inr (.inl (1, [])))), .inr (.inr (.inr (.inl (2, []))))] ev_hxx 50 env) sp_step = true := by
  have t0 := ev_bi_top (σ 0)
  have t1 := ev_bi_top (σ 1)
  have z1 : 2147483648 ≤ ev_bi (σ 1) ∧ ev_bi (σ 1) ≤ 2147483649 := by
    rcases h1 with h | h <;> rw [h] <;> decide +kernel
  have t2 := ev_bi_top (σ 2)
  exact ⟨_, ev_sat_cons.mpr ⟨⟨by show _ ≤ ev_bi (σ 0); omega, by show ev_bi (σ 0) ≤ _; omega⟩, ev_sat_cons.mpr ⟨⟨by show _ ≤ ev_bi (σ 1); omega, by show ev_bi (σ 1) ≤ _; omega⟩, ev_sat_cons.mpr ⟨⟨by show _ ≤ ev_bi (σ 2); omega, by show ev_bi (σ 2) ≤ _; omega⟩, ev_sat_nil⟩⟩⟩, ex_xx_step_0⟩
theorem pb_mm_step (σ : Nat → Int32) (h1 : σ 1 = 0 ∨ σ 1 = 1) : ∃ env, ev_sat σ env ∧ ev_all (ev_met ev_pg 7 102 [.inr (.inl 1), .inr (.inr (.inr (.inl (0, [])))), .inr (.inr (.inr (.inl (1, [])))), .inr (.inr (.inr (.inl (2, []))))] ev_hmm 39 env) sp_step = true := by
  have t0 := ev_bi_top (σ 0)
  have t1 := ev_bi_top (σ 1)
  have z1 : 2147483648 ≤ ev_bi (σ 1) ∧ ev_bi (σ 1) ≤ 2147483649 := by
    rcases h1 with h | h <;> rw [h] <;> decide +kernel
  have t2 := ev_bi_top (σ 2)
  exact ⟨_, ev_sat_cons.mpr ⟨⟨by show _ ≤ ev_bi (σ 0); omega, by show ev_bi (σ 0) ≤ _; omega⟩, ev_sat_cons.mpr ⟨⟨by show _ ≤ ev_bi (σ 1); omega, by show ev_bi (σ 1) ≤ _; omega⟩, ev_sat_cons.mpr ⟨⟨by show _ ≤ ev_bi (σ 2); omega, by show ev_bi (σ 2) ≤ _; omega⟩, ev_sat_nil⟩⟩⟩, ex_mm_step_0⟩
theorem pb_xx_live (σ : Nat → Int32) : ∃ env, ev_sat σ env ∧ ev_all (ev_met ev_pg 7 103 [.inr (.inl 1), .inr (.inr (.inr (.inl (0, [])))), .inr (.inr (.inr (.inl (1, []))))] ev_hxx 50 env) sp_live = true := by
  have t0 := ev_bi_top (σ 0)
  have t1 := ev_bi_top (σ 1)
  exact ⟨_, ev_sat_cons.mpr ⟨⟨by show _ ≤ ev_bi (σ 0); omega, by show ev_bi (σ 0) ≤ _; omega⟩, ev_sat_cons.mpr ⟨⟨by show _ ≤ ev_bi (σ 1); omega, by show ev_bi (σ 1) ≤ _; omega⟩, ev_sat_nil⟩⟩, ex_xx_live_0⟩
theorem pb_mm_live (σ : Nat → Int32) : ∃ env, ev_sat σ env ∧ ev_all (ev_met ev_pg 7 104 [.inr (.inl 1), .inr (.inr (.inr (.inl (0, [])))), .inr (.inr (.inr (.inl (1, []))))] ev_hmm 39 env) sp_live = true := by
  have t0 := ev_bi_top (σ 0)
  have t1 := ev_bi_top (σ 1)
  exact ⟨_, ev_sat_cons.mpr ⟨⟨by show _ ≤ ev_bi (σ 0); omega, by show ev_bi (σ 0) ≤ _; omega⟩, ev_sat_cons.mpr ⟨⟨by show _ ≤ ev_bi (σ 1); omega, by show ev_bi (σ 1) ≤ _; omega⟩, ev_sat_nil⟩⟩, ex_mm_live_0⟩
theorem pb_xx_value (σ : Nat → Int32) : ∃ env, ev_sat σ env ∧ ev_all (ev_met ev_pg 7 105 [.inr (.inl 1), .inr (.inr (.inr (.inl (0, [])))), .inr (.inr (.inr (.inl (1, []))))] ev_hxx 50 env) sp_value = true := by
  have t0 := ev_bi_top (σ 0)
  have t1 := ev_bi_top (σ 1)
  exact ⟨_, ev_sat_cons.mpr ⟨⟨by show _ ≤ ev_bi (σ 0); omega, by show ev_bi (σ 0) ≤ _; omega⟩, ev_sat_cons.mpr ⟨⟨by show _ ≤ ev_bi (σ 1); omega, by show ev_bi (σ 1) ≤ _; omega⟩, ev_sat_nil⟩⟩, ex_xx_value_0⟩
theorem pb_mm_value (σ : Nat → Int32) : ∃ env, ev_sat σ env ∧ ev_all (ev_met ev_pg 7 106 [.inr (.inl 1), .inr (.inr (.inr (.inl (0, [])))), .inr (.inr (.inr (.inl (1, []))))] ev_hmm 39 env) sp_value = true := by
  have t0 := ev_bi_top (σ 0)
  have t1 := ev_bi_top (σ 1)
  by_cases g0 : ev_bi (σ 1) ≤ 2147483648
  · exact ⟨_, ev_sat_cons.mpr ⟨⟨by show _ ≤ ev_bi (σ 0); omega, by show ev_bi (σ 0) ≤ _; omega⟩, ev_sat_cons.mpr ⟨⟨by show _ ≤ ev_bi (σ 1); omega, by show ev_bi (σ 1) ≤ _; omega⟩, ev_sat_nil⟩⟩, ex_mm_value_0⟩
  by_cases g1 : ev_bi (σ 1) ≤ 2147483649
  · exact ⟨_, ev_sat_cons.mpr ⟨⟨by show _ ≤ ev_bi (σ 0); omega, by show ev_bi (σ 0) ≤ _; omega⟩, ev_sat_cons.mpr ⟨⟨by show _ ≤ ev_bi (σ 1); omega, by show ev_bi (σ 1) ≤ _; omega⟩, ev_sat_nil⟩⟩, ex_mm_value_1⟩
  by_cases g2 : ev_bi (σ 1) ≤ 2147483650
  · by_cases c2 : ev_bi (σ 0) ≤ 2147483651
    · exact ⟨_, ev_sat_cons.mpr ⟨⟨by show _ ≤ ev_bi (σ 0); omega, by show ev_bi (σ 0) ≤ _; omega⟩, ev_sat_cons.mpr ⟨⟨by show _ ≤ ev_bi (σ 1); omega, by show ev_bi (σ 1) ≤ _; omega⟩, ev_sat_nil⟩⟩, ex_mm_value_2⟩
    by_cases c3 : ev_bi (σ 0) ≤ 2147483659
    · exact ⟨_, ev_sat_cons.mpr ⟨⟨by show _ ≤ ev_bi (σ 0); omega, by show ev_bi (σ 0) ≤ _; omega⟩, ev_sat_cons.mpr ⟨⟨by show _ ≤ ev_bi (σ 1); omega, by show ev_bi (σ 1) ≤ _; omega⟩, ev_sat_nil⟩⟩, ex_mm_value_3⟩
    by_cases c4 : ev_bi (σ 0) ≤ 2147483667
    · exact ⟨_, ev_sat_cons.mpr ⟨⟨by show _ ≤ ev_bi (σ 0); omega, by show ev_bi (σ 0) ≤ _; omega⟩, ev_sat_cons.mpr ⟨⟨by show _ ≤ ev_bi (σ 1); omega, by show ev_bi (σ 1) ≤ _; omega⟩, ev_sat_nil⟩⟩, ex_mm_value_4⟩
    by_cases c5 : ev_bi (σ 0) ≤ 2147483673
    · exact ⟨_, ev_sat_cons.mpr ⟨⟨by show _ ≤ ev_bi (σ 0); omega, by show ev_bi (σ 0) ≤ _; omega⟩, ev_sat_cons.mpr ⟨⟨by show _ ≤ ev_bi (σ 1); omega, by show ev_bi (σ 1) ≤ _; omega⟩, ev_sat_nil⟩⟩, ex_mm_value_5⟩
    by_cases c6 : ev_bi (σ 0) ≤ 2147483679
    · exact ⟨_, ev_sat_cons.mpr ⟨⟨by show _ ≤ ev_bi (σ 0); omega, by show ev_bi (σ 0) ≤ _; omega⟩, ev_sat_cons.mpr ⟨⟨by show _ ≤ ev_bi (σ 1); omega, by show ev_bi (σ 1) ≤ _; omega⟩, ev_sat_nil⟩⟩, ex_mm_value_6⟩
    by_cases c7 : ev_bi (σ 0) ≤ 2147483685
    · exact ⟨_, ev_sat_cons.mpr ⟨⟨by show _ ≤ ev_bi (σ 0); omega, by show ev_bi (σ 0) ≤ _; omega⟩, ev_sat_cons.mpr ⟨⟨by show _ ≤ ev_bi (σ 1); omega, by show ev_bi (σ 1) ≤ _; omega⟩, ev_sat_nil⟩⟩, ex_mm_value_7⟩
    by_cases c8 : ev_bi (σ 0) ≤ 2147483691
    · exact ⟨_, ev_sat_cons.mpr ⟨⟨by show _ ≤ ev_bi (σ 0); omega, by show ev_bi (σ 0) ≤ _; omega⟩, ev_sat_cons.mpr ⟨⟨by show _ ≤ ev_bi (σ 1); omega, by show ev_bi (σ 1) ≤ _; omega⟩, ev_sat_nil⟩⟩, ex_mm_value_8⟩
    exact ⟨_, ev_sat_cons.mpr ⟨⟨by show _ ≤ ev_bi (σ 0); omega, by show ev_bi (σ 0) ≤ _; omega⟩, ev_sat_cons.mpr ⟨⟨by show _ ≤ ev_bi (σ 1); omega, by show ev_bi (σ 1) ≤ _; omega⟩, ev_sat_nil⟩⟩, ex_mm_value_9⟩
  by_cases g3 : ev_bi (σ 1) ≤ 2147483651
  · by_cases c10 : ev_bi (σ 0) ≤ 2147483667
    · exact ⟨_, ev_sat_cons.mpr ⟨⟨by show _ ≤ ev_bi (σ 0); omega, by show ev_bi (σ 0) ≤ _; omega⟩, ev_sat_cons.mpr ⟨⟨by show _ ≤ ev_bi (σ 1); omega, by show ev_bi (σ 1) ≤ _; omega⟩, ev_sat_nil⟩⟩, ex_mm_value_10⟩
    exact ⟨_, ev_sat_cons.mpr ⟨⟨by show _ ≤ ev_bi (σ 0); omega, by show ev_bi (σ 0) ≤ _; omega⟩, ev_sat_cons.mpr ⟨⟨by show _ ≤ ev_bi (σ 1); omega, by show ev_bi (σ 1) ≤ _; omega⟩, ev_sat_nil⟩⟩, ex_mm_value_11⟩
  by_cases c12 : ev_bi (σ 0) ≤ 2147483667
  · exact ⟨_, ev_sat_cons.mpr ⟨⟨by show _ ≤ ev_bi (σ 0); omega, by show ev_bi (σ 0) ≤ _; omega⟩, ev_sat_cons.mpr ⟨⟨by show _ ≤ ev_bi (σ 1); omega, by show ev_bi (σ 1) ≤ _; omega⟩, ev_sat_nil⟩⟩, ex_mm_value_12⟩
  by_cases c13 : ev_bi (σ 0) ≤ 2147483679
  · exact ⟨_, ev_sat_cons.mpr ⟨⟨by show _ ≤ ev_bi (σ 0); omega, by show ev_bi (σ 0) ≤ _; omega⟩, ev_sat_cons.mpr ⟨⟨by show _ ≤ ev_bi (σ 1); omega, by show ev_bi (σ 1) ≤ _; omega⟩, ev_sat_nil⟩⟩, ex_mm_value_13⟩
  exact ⟨_, ev_sat_cons.mpr ⟨⟨by show _ ≤ ev_bi (σ 0); omega, by show ev_bi (σ 0) ≤ _; omega⟩, ev_sat_cons.mpr ⟨⟨by show _ ≤ ev_bi (σ 1); omega, by show ev_bi (σ 1) ≤ _; omega⟩, ev_sat_nil⟩⟩, ex_mm_value_14⟩
theorem pb_xx_edge (σ : Nat → Int32) : ∃ env, ev_sat σ env ∧ ev_all (ev_met ev_pg 7 107 [.inr (.inl 1), .inr (.inr (.inr (.inl (0, [])))), .inr (.inr (.inr (.inl (1, []))))] ev_hxx 50 env) sp_edge = true := by
  have t0 := ev_bi_top (σ 0)
  have t1 := ev_bi_top (σ 1)
  exact ⟨_, ev_sat_cons.mpr ⟨⟨by show _ ≤ ev_bi (σ 0); omega, by show ev_bi (σ 0) ≤ _; omega⟩, ev_sat_cons.mpr ⟨⟨by show _ ≤ ev_bi (σ 1); omega, by show ev_bi (σ 1) ≤ _; omega⟩, ev_sat_nil⟩⟩, ex_xx_edge_0⟩
theorem pb_mm_edge (σ : Nat → Int32) : ∃ env, ev_sat σ env ∧ ev_all (ev_met ev_pg 7 108 [.inr (.inl 1), .inr (.inr (.inr (.inl (0, [])))), .inr (.inr (.inr (.inl (1, []))))] ev_hmm 39 env) sp_edge = true := by
  have t0 := ev_bi_top (σ 0)
  have t1 := ev_bi_top (σ 1)
  by_cases c0 : ev_bi (σ 0) ≤ 2147483648
  · exact ⟨_, ev_sat_cons.mpr ⟨⟨by show _ ≤ ev_bi (σ 0); omega, by show ev_bi (σ 0) ≤ _; omega⟩, ev_sat_cons.mpr ⟨⟨by show _ ≤ ev_bi (σ 1); omega, by show ev_bi (σ 1) ≤ _; omega⟩, ev_sat_nil⟩⟩, ex_mm_edge_0⟩
  by_cases c1 : ev_bi (σ 0) ≤ 2147483651
  · exact ⟨_, ev_sat_cons.mpr ⟨⟨by show _ ≤ ev_bi (σ 0); omega, by show ev_bi (σ 0) ≤ _; omega⟩, ev_sat_cons.mpr ⟨⟨by show _ ≤ ev_bi (σ 1); omega, by show ev_bi (σ 1) ≤ _; omega⟩, ev_sat_nil⟩⟩, ex_mm_edge_1⟩
  by_cases c2 : ev_bi (σ 0) ≤ 2147483663
  · exact ⟨_, ev_sat_cons.mpr ⟨⟨by show _ ≤ ev_bi (σ 0); omega, by show ev_bi (σ 0) ≤ _; omega⟩, ev_sat_cons.mpr ⟨⟨by show _ ≤ ev_bi (σ 1); omega, by show ev_bi (σ 1) ≤ _; omega⟩, ev_sat_nil⟩⟩, ex_mm_edge_2⟩
  by_cases c3 : ev_bi (σ 0) ≤ 2147483673
  · exact ⟨_, ev_sat_cons.mpr ⟨⟨by show _ ≤ ev_bi (σ 0); omega, by show ev_bi (σ 0) ≤ _; omega⟩, ev_sat_cons.mpr ⟨⟨by show _ ≤ ev_bi (σ 1); omega, by show ev_bi (σ 1) ≤ _; omega⟩, ev_sat_nil⟩⟩, ex_mm_edge_3⟩
  by_cases c4 : ev_bi (σ 0) ≤ 2147483683
  · exact ⟨_, ev_sat_cons.mpr ⟨⟨by show _ ≤ ev_bi (σ 0); omega, by show ev_bi (σ 0) ≤ _; omega⟩, ev_sat_cons.mpr ⟨⟨by show _ ≤ ev_bi (σ 1); omega, by show ev_bi (σ 1) ≤ _; omega⟩, ev_sat_nil⟩⟩, ex_mm_edge_4⟩
  by_cases c5 : ev_bi (σ 0) ≤ 2147483690
  · exact ⟨_, ev_sat_cons.mpr ⟨⟨by show _ ≤ ev_bi (σ 0); omega, by show ev_bi (σ 0) ≤ _; omega⟩, ev_sat_cons.mpr ⟨⟨by show _ ≤ ev_bi (σ 1); omega, by show ev_bi (σ 1) ≤ _; omega⟩, ev_sat_nil⟩⟩, ex_mm_edge_5⟩
  by_cases c6 : ev_bi (σ 0) ≤ 2147483691
  · exact ⟨_, ev_sat_cons.mpr ⟨⟨by show _ ≤ ev_bi (σ 0); omega, by show ev_bi (σ 0) ≤ _; omega⟩, ev_sat_cons.mpr ⟨⟨by show _ ≤ ev_bi (σ 1); omega, by show ev_bi (σ 1) ≤ _; omega⟩, ev_sat_nil⟩⟩, ex_mm_edge_6⟩
  exact ⟨_, ev_sat_cons.mpr ⟨⟨by show _ ≤ ev_bi (σ 0); omega, by show ev_bi (σ 0) ≤ _; omega⟩, ev_sat_cons.mpr ⟨⟨by show _ ≤ ev_bi (σ 1); omega, by show ev_bi (σ 1) ≤ _; omega⟩, ev_sat_nil⟩⟩, ex_mm_edge_7⟩
theorem pb_xx_colour (σ : Nat → Int32) : ∃ env, ev_sat σ env ∧ ev_all (ev_met ev_pg 7 109 [.inr (.inl 1), .inr (.inr (.inr (.inl (0, [])))), .inr (.inr (.inr (.inl (1, []))))] ev_hxx 50 env) sp_colour = true := by
  have t0 := ev_bi_top (σ 0)
  have t1 := ev_bi_top (σ 1)
  exact ⟨_, ev_sat_cons.mpr ⟨⟨by show _ ≤ ev_bi (σ 0); omega, by show ev_bi (σ 0) ≤ _; omega⟩, ev_sat_cons.mpr ⟨⟨by show _ ≤ ev_bi (σ 1); omega, by show ev_bi (σ 1) ≤ _; omega⟩, ev_sat_nil⟩⟩, ex_xx_colour_0⟩
theorem pb_mm_colour (σ : Nat → Int32) : ∃ env, ev_sat σ env ∧ ev_all (ev_met ev_pg 7 110 [.inr (.inl 1), .inr (.inr (.inr (.inl (0, [])))), .inr (.inr (.inr (.inl (1, []))))] ev_hmm 39 env) sp_colour = true := by
  have t0 := ev_bi_top (σ 0)
  have t1 := ev_bi_top (σ 1)
  exact ⟨_, ev_sat_cons.mpr ⟨⟨by show _ ≤ ev_bi (σ 0); omega, by show ev_bi (σ 0) ≤ _; omega⟩, ev_sat_cons.mpr ⟨⟨by show _ ≤ ev_bi (σ 1); omega, by show ev_bi (σ 1) ≤ _; omega⟩, ev_sat_nil⟩⟩, ex_mm_colour_0⟩
theorem pb_xx_left (σ : Nat → Int32) : ∃ env, ev_sat σ env ∧ ev_all (ev_met ev_pg 7 111 [.inr (.inl 1), .inr (.inr (.inr (.inl (0, []))))] ev_hxx 50 env) sp_left = true := by
  have t0 := ev_bi_top (σ 0)
  exact ⟨_, ev_sat_cons.mpr ⟨⟨by show _ ≤ ev_bi (σ 0); omega, by show ev_bi (σ 0) ≤ _; omega⟩, ev_sat_nil⟩, ex_xx_left_0⟩
theorem pb_mm_left (σ : Nat → Int32) : ∃ env, ev_sat σ env ∧ ev_all (ev_met ev_pg 7 112 [.inr (.inl 1), .inr (.inr (.inr (.inl (0, []))))] ev_hmm 39 env) sp_left = true := by
  have t0 := ev_bi_top (σ 0)
  exact ⟨_, ev_sat_cons.mpr ⟨⟨by show _ ≤ ev_bi (σ 0); omega, by show ev_bi (σ 0) ≤ _; omega⟩, ev_sat_nil⟩, ex_mm_left_0⟩
theorem pb_xx_run (σ : Nat → Int32) : ∃ env, ev_sat σ env ∧ ev_all (ev_met ev_pg 7 113 [.inr (.inl 1), .inr (.inr (.inr (.inl (0, [])))), .inr (.inr (.inr (.inl (1, []))))] ev_hxx 50 env) sp_run = true := by
  have t0 := ev_bi_top (σ 0)
  have t1 := ev_bi_top (σ 1)
  exact ⟨_, ev_sat_cons.mpr ⟨⟨by show _ ≤ ev_bi (σ 0); omega, by show ev_bi (σ 0) ≤ _; omega⟩, ev_sat_cons.mpr ⟨⟨by show _ ≤ ev_bi (σ 1); omega, by show ev_bi (σ 1) ≤ _; omega⟩, ev_sat_nil⟩⟩, ex_xx_run_0⟩
theorem pb_mm_run (σ : Nat → Int32) : ∃ env, ev_sat σ env ∧ ev_all (ev_met ev_pg 7 115 [.inr (.inl 1), .inr (.inr (.inr (.inl (0, [])))), .inr (.inr (.inr (.inl (1, []))))] ev_hmm 39 env) sp_run = true := by
  have t0 := ev_bi_top (σ 0)
  have t1 := ev_bi_top (σ 1)
  exact ⟨_, ev_sat_cons.mpr ⟨⟨by show _ ≤ ev_bi (σ 0); omega, by show ev_bi (σ 0) ≤ _; omega⟩, ev_sat_cons.mpr ⟨⟨by show _ ≤ ev_bi (σ 1); omega, by show ev_bi (σ 1) ≤ _; omega⟩, ev_sat_nil⟩⟩, ex_mm_run_0⟩
theorem pb_xx_proved (σ : Nat → Int32) : ∃ env, ev_sat σ env ∧ ev_all (ev_met ev_pg 7 116 [.inr (.inl 1)] ev_hxx 50 env) sp_proved = true := by
  exact ⟨_, ev_sat_nil, ex_xx_proved_0⟩
theorem pb_mm_proved (σ : Nat → Int32) : ∃ env, ev_sat σ env ∧ ev_all (ev_met ev_pg 7 117 [.inr (.inl 1)] ev_hmm 39 env) sp_proved = true := by
  exact ⟨_, ev_sat_nil, ex_mm_proved_0⟩
theorem pb_xx_graph (σ : Nat → Int32) : ∃ env, ev_sat σ env ∧ ev_all (ev_met ev_pg 7 118 [.inr (.inl 1), .inr (.inr (.inr (.inl (0, []))))] ev_hxx 50 env) sp_graph = true := by
  have t0 := ev_bi_top (σ 0)
  exact ⟨_, ev_sat_cons.mpr ⟨⟨by show _ ≤ ev_bi (σ 0); omega, by show ev_bi (σ 0) ≤ _; omega⟩, ev_sat_nil⟩, ex_xx_graph_0⟩
theorem pb_mm_graph (σ : Nat → Int32) : ∃ env, ev_sat σ env ∧ ev_all (ev_met ev_pg 7 121 [.inr (.inl 1), .inr (.inr (.inr (.inl (0, []))))] ev_hmm 39 env) sp_graph = true := by
  have t0 := ev_bi_top (σ 0)
  exact ⟨_, ev_sat_cons.mpr ⟨⟨by show _ ≤ ev_bi (σ 0); omega, by show ev_bi (σ 0) ≤ _; omega⟩, ev_sat_nil⟩, ex_mm_graph_0⟩
theorem pb_xx_paint (σ : Nat → Int32) : ∃ env, ev_sat σ env ∧ ev_all (ev_met ev_pg 7 124 [.inr (.inl 1), .inr (.inr (.inr (.inl (0, [])))), .inr (.inr (.inr (.inl (1, []))))] ev_hxx 50 env) sp_paint = true := by
  have t0 := ev_bi_top (σ 0)
  have t1 := ev_bi_top (σ 1)
  exact ⟨_, ev_sat_cons.mpr ⟨⟨by show _ ≤ ev_bi (σ 0); omega, by show ev_bi (σ 0) ≤ _; omega⟩, ev_sat_cons.mpr ⟨⟨by show _ ≤ ev_bi (σ 1); omega, by show ev_bi (σ 1) ≤ _; omega⟩, ev_sat_nil⟩⟩, ex_xx_paint_0⟩
theorem pb_mm_paint (σ : Nat → Int32) : ∃ env, ev_sat σ env ∧ ev_all (ev_met ev_pg 7 125 [.inr (.inl 1), .inr (.inr (.inr (.inl (0, [])))), .inr (.inr (.inr (.inl (1, []))))] ev_hmm 39 env) sp_paint = true := by
  have t0 := ev_bi_top (σ 0)
  have t1 := ev_bi_top (σ 1)
  exact ⟨_, ev_sat_cons.mpr ⟨⟨by show _ ≤ ev_bi (σ 0); omega, by show ev_bi (σ 0) ≤ _; omega⟩, ev_sat_cons.mpr ⟨⟨by show _ ≤ ev_bi (σ 1); omega, by show ev_bi (σ 1) ≤ _; omega⟩, ev_sat_nil⟩⟩, ex_mm_paint_0⟩
theorem pb_xx_image (σ : Nat → Int32) (h0 : σ 0 = 0 ∨ σ 0 = 1) : ∃ env, ev_sat σ env ∧ ev_all (ev_met ev_pg 7 126 [.inr (.inl 1), .inr (.inr (.inr (.inl (0, []))))] ev_hxx 50 env) sp_image = true := by
  have t0 := ev_bi_top (σ 0)
  have z0 : 2147483648 ≤ ev_bi (σ 0) ∧ ev_bi (σ 0) ≤ 2147483649 := by
    rcases h0 with h | h <;> rw [h] <;> decide +kernel
  exact ⟨_, ev_sat_cons.mpr ⟨⟨by show _ ≤ ev_bi (σ 0); omega, by show ev_bi (σ 0) ≤ _; omega⟩, ev_sat_nil⟩, ex_xx_image_0⟩
theorem pb_mm_image (σ : Nat → Int32) (h0 : σ 0 = 0 ∨ σ 0 = 1) : ∃ env, ev_sat σ env ∧ ev_all (ev_met ev_pg 7 128 [.inr (.inl 1), .inr (.inr (.inr (.inl (0, []))))] ev_hmm 39 env) sp_image = true := by
  have t0 := ev_bi_top (σ 0)
  have z0 : 2147483648 ≤ ev_bi (σ 0) ∧ ev_bi (σ 0) ≤ 2147483649 := by
    rcases h0 with h | h <;> rw [h] <;> decide +kernel
  exact ⟨_, ev_sat_cons.mpr ⟨⟨by show _ ≤ ev_bi (σ 0); omega, by show ev_bi (σ 0) ≤ _; omega⟩, ev_sat_nil⟩, ex_mm_image_0⟩
theorem pb_xx_look (σ : Nat → Int32) : ∃ env, ev_sat σ env ∧ ev_all (ev_met ev_pg 7 130 [.inr (.inl 1), .inr (.inr (.inr (.inl (0, []))))] ev_hxx 50 env) sp_look = true := by
  have t0 := ev_bi_top (σ 0)
  exact ⟨_, ev_sat_cons.mpr ⟨⟨by show _ ≤ ev_bi (σ 0); omega, by show ev_bi (σ 0) ≤ _; omega⟩, ev_sat_nil⟩, ex_xx_look_0⟩
theorem pb_mm_look (σ : Nat → Int32) : ∃ env, ev_sat σ env ∧ ev_all (ev_met ev_pg 7 135 [.inr (.inl 1), .inr (.inr (.inr (.inl (0, []))))] ev_hmm 39 env) sp_look = true := by
  have t0 := ev_bi_top (σ 0)
  exact ⟨_, ev_sat_cons.mpr ⟨⟨by show _ ≤ ev_bi (σ 0); omega, by show ev_bi (σ 0) ≤ _; omega⟩, ev_sat_nil⟩, ex_mm_look_0⟩
/-! ===== worlds side by side ===== -/
theorem ev_ap2 {A : Nat → Prop} {w0 w1 : va_W} (hD : va_D A (w0 ++ w1)) : (va_D A w0 ∧ va_D A w1) ∧ ∀ (i j : Nat) (p q : Nat × va_E), w0[i]? = some p → w1[j]? = some q → p.1 ≠ q.1 := by
  have l0 : ∀ (i : Nat) (p : Nat × va_E), w0[i]? = some p → (w0 ++ w1)[i]? = some p := fun i p h => by
    rw [List.getElem?_append_left (List.getElem?_eq_some_iff.mp h).1]; exact h
  have l1 : ∀ (i : Nat) (p : Nat × va_E), w1[i]? = some p → (w0 ++ w1)[w0.length + i]? = some p := fun i p h => by
    rw [List.getElem?_append_right (by omega), Nat.add_sub_cancel_left]; exact h
  refine ⟨⟨⟨fun i j p q hi hj e => hD.1 i j p q (l0 i p hi) (l0 j q hj) e, fun k q hk => hD.2 k q (l0 k q hk)⟩, ⟨fun i j p q hi hj e => ?_, fun k q hk => hD.2 _ q (l1 k q hk)⟩⟩, fun i j p q hi hj e => ?_⟩
  · have := hD.1 _ _ p q (l1 i p hi) (l1 j q hj) e
    omega
  · have h1 := hD.1 _ _ p q (l0 i p hi) (l1 j q hj) e
    have h2 := (List.getElem?_eq_some_iff.mp hi).1
    omega
theorem ev_Pl {D : va_G} {cl : List vw_C} {w0 w1 : va_W} {H : Heap} (hP : va_P D cl (w0 ++ w1) H) : va_P D cl w0 H ∧ va_P D cl w1 H := by
  refine ⟨fun k q h => hP k q ?_, fun k q h => hP (w0.length + k) q ?_⟩
  · rw [List.getElem?_append_left (List.getElem?_eq_some_iff.mp h).1]; exact h
  · rw [List.getElem?_append_right (by omega), Nat.add_sub_cancel_left]; exact h
/-- what lies apart from a callee's cells stays -/
theorem ev_stay {D : va_G} {cl : List vw_C} {wr wc : va_W} {H H1 : Heap} (hP : va_P D cl wr H) (hap : ∀ (i j : Nat) (p q : Nat × va_E), wr[i]? = some p → wc[j]? = some q → p.1 ≠ q.1) (hk : ∀ q : Nat, q < H.size → ¬ va_A wc H.size q → H1[q]? = H[q]?) : va_P D cl wr H1 ∧ ∀ (i : Nat) (p : Nat × va_E), wr[i]? = some p → ¬ va_A wc H.size p.1 := by
  have key : ∀ (i : Nat) (p : Nat × va_E), wr[i]? = some p → p.1 < H.size ∧ ¬ va_A wc H.size p.1 := by
    intro i p hp
    have hl := (hP i p hp).lt
    refine ⟨hl, ?_⟩
    rintro (⟨j, ee, hj⟩ | hj)
    · exact hap i j p (p.1, ee) hp hj rfl
    · omega
  exact ⟨fun i p hp => (hP i p hp).kept (hk p.1 (key i p hp).1 (key i p hp).2), fun i p hp => (key i p hp).2⟩
section LWC
variable {p : Program} {l : Launch} {e : Env} {R : Room} {s : State} {mm : MethodId} {args : Array Value} {below : List Frame} {meth : Method} {c : Code} {H : Heap} {locs : List Loc} {cells slots : Nat} {Q : State → Prop}
variable {dC : Nat → ClassId} {dI : Nat → Nat → Nat} {ca : Nat → ClassId} {cl : List vw_C} {A : Nat → Prop} {σ : Nat → Int32} {ρ : Nat → Nat} {pc : Nat} {la : Array Slot} {cc : ByteArray}
theorem ev_callP {os' : List ev_O} {n1 mc ms : Nat} {A1 : Nat → Prop} {free : Addr → Prop} {av : Array Value} {rest st0 : List Value} (hr : va_Run p l e R s mm args below meth c H locs cells slots mc ms (F0 mm pc la st0) rest (ev_Po dC dI ca cl σ ρ n1 os' A1 av) free) (hS : va_S A s.heap H locs) (hA : ∀ q, A1 q → A q) (hf : ∀ q, free q → A q)
    (kk : ∀ o ∈ os', ∀ (ρ' : Nat → Nat) (H1 : Heap) (locs1 : List Loc), (n1 ≤ o.2.2.1 ∧ o.2.2.1 ≤ 128 ∧ (∀ i, i < n1 → ρ' i = ρ i) ∧ (o.2.2.1 = n1 → ρ' = ρ)) → ev_sat σ o.2.2.2 → va_P (dC, dI) cl (ev_wl σ ρ' ca o.2.1 o.2.2.1) H1 → va_D A1 (ev_wl σ ρ' ca o.2.1 o.2.2.1) → (∀ q : Nat, q < H.size → ¬ A1 q → H1[q]? = H[q]?) → va_S A s.heap H1 locs1 → W p l e R s mm args below meth c H1 locs1 (cells + mc) (slots + ms) Q (F0 mm (pc + 3) la ((ev_ro σ ρ' o.1).toList ++ rest))) : W p l e R s mm args below meth c H locs cells slots Q (F0 mm pc la st0) := by
  intro T hT X
  obtain ⟨v, st₀, t, T', L, h0, X', hL, e1, e2, ⟨⟨o, ho, ρ', h1, h2, hv, h3, h4⟩, hz, hkp⟩, stp⟩ := hr T hT X
  cases hv
  rw [h0] at hz hkp
  rw [← e1] at h3
  obtain ⟨t2, a1, b1⟩ := kk o ho ρ' T'.heap (locs ++ L) h1 h2 h3 h4 (fun q k1 k2 => by rw [e1]; exact hkp q k1 k2)
    ⟨Nat.le_trans hS.1 (by rw [e1]; exact hz), fun q k1 k2 => by rw [e1, hkp q (Nat.lt_of_lt_of_le k1 hS.1) (fun z => k2 (hA q z))]; exact hS.2.1 q k1 k2, fun q hq => by
      rcases List.mem_append.mp hq with k | k
      · exact hS.2.2 q k
      · exact hf _ (hL q k)⟩ T' rfl X'
  exact ⟨t2, stp t2 a1, b1⟩
theorem lw_good {m1 : ev_M} (h : ev_mok ev_cl ev_pg ev_gw ev_nw m1) : GoodIn lw_tbl (ev_ws ev_gw m1) := by
  intro w hw
  have h1 : w ∈ ev_gw := by
    rcases List.mem_cons.mp hw with rfl | hw
    · exact h.2.2.2.1
    · exact hw
  exact ⟨(List.mem_filter.mp h1).1, ev_gw_ok w h1⟩
theorem lw_nw (hts : ∀ w ∈ lw_tbl, w.before args s = true) : ∀ w ∈ ev_nw, va_Nw w s := fun w hw => va_Nw.of (ev_nok_on ev_nw_ok hw) (hts w (List.mem_filter.mp hw).1)
theorem lw_fr {wc : va_W} (hD : va_D A wc) (hS : va_S A s.heap H locs) (hA : ∀ q, s.heap.size ≤ q → A q) : ∀ q, va_A wc H.size q → A q := by
  rintro q (⟨j, ee, hj⟩ | hj)
  · exact hD.2 j _ hj
  · exact hA q (Nat.le_trans hS.1 hj)
theorem lw_room {m1 : ev_M} (h : m1.2.2.2.2.1 ≤ 21) : (ev_rm 7 m1).frames + 1 ≤ room_1.frames ∧ 8 + (m1.2.2.2.2.1 + 11) + (ev_rm 7 m1).locals ≤ room_1.locals := by
  refine ⟨Nat.le_of_ble_eq_true rfl, ?_⟩
  show 8 + (m1.2.2.2.2.1 + 11) + 280 ≤ 486
  omega
/-- a call of the law's: an answer by a list of boxes -/
theorem lw_pub {own : String} {nL idx x n ci : Nat} {m1 : ev_M} {as' fs : List ev_V} {hh : ev_H} {env : ev_E} {L : List (ev_E × Nat)} {wr : va_W} {rest : List Value} (hm1 : ev_pg[x]? = some m1) (hall : ev_all (ev_met ev_pg 7 x (.inr (.inl 1) :: as') hh n env) L = true) (hsat : ev_sat σ env) (hn : n ≤ 128) (h0n : 0 < n) (hc0 : ev_tg 7 hh 0 = .inl (ci, fs)) (hci : (ev_kd ev_cl ci).1 = m1.2.2.2.2.2.1.cls) (hcs : (ev_cl[ci]?).isSome = true)
    (hx : p.tables.exec = Jvm.exec) (hb : c.code = cc) (hml : c.maxLocals = nL) (hown : s.vm.findClass own = some mm.cls) (hts : ∀ w ∈ lw_tbl, w.before args s = true) (hK : va_K (dC, dI) ev_cl (ev_ty ca) s) (hA : ∀ q, s.heap.size ≤ q → A q)
    (hP : va_P (dC, dI) ev_cl (ev_wl σ ρ ca hh n ++ wr) H) (hD : va_D A (ev_wl σ ρ ca hh n ++ wr)) (hS : va_S A s.heap H locs)
    (hw : Jvm.Cond.methodLink own idx m1.2.2.2.2.2.1 ∈ lw_tbl ∧ Jvm.Cond.instanceMethod m1.2.2.2.2.2.1 ∈ lw_tbl ∧ Jvm.Cond.selects m1.2.2.2.2.2.1.cls m1.2.2.2.2.2.1 m1.2.2.2.2.2.1 ∈ lw_tbl ∧ Jvm.Cond.initialized m1.2.2.2.2.2.1.cls ∈ lw_tbl)
    (hd0 : m1.2.2.2.2.2.1.cls ≠ "java/lang/invoke/MethodHandle" ∧ m1.2.2.2.2.2.1.cls ≠ "java/lang/invoke/VarHandle" ∧ (parseMethodDescriptor m1.2.2.2.2.2.1.desc).map (fun d => d.parameters.length) = some as'.length)
    (hsz : la.size = nL) (hcat : (rest.map fun v => v.category).sum ≤ 8) (hd : decode cc pc = .ok (.invokevirtual idx, 3)) (hf : cells + m1.2.2.1 ≤ room_1.cells ∧ slots + m1.2.2.2.1 ≤ room_1.slots)
    (kk : ∀ (H1 : Heap) (locs1 : List Loc), va_P (dC, dI) ev_cl wr H1 → va_D A wr → va_S A s.heap H1 locs1 → W p l e room_1 s mm args below meth c H1 locs1 (cells + m1.2.2.1) (slots + m1.2.2.2.1) Q (F0 mm (pc + 3) la (.int (ev_spc L σ) :: rest))) : W p l e room_1 s mm args below meth c H locs cells slots Q (F0 mm pc la ((as'.map (ev_cv σ ρ)).reverse ++ .ref (ρ 0) :: rest)) := by
  obtain ⟨os, ho, hos⟩ := ev_all_ok hall
  obtain ⟨m2, hm2, hCt⟩ := ev_sound ev_sys 7 x _ _ _ _ _ ho
  cases hm1.symm.trans hm2
  have hmok := ev_sys.2.2.2 m1 (List.mem_of_getElem? hm1)
  have hM := hCt l dC dI ca σ ρ H.size hsat hn
  obtain ⟨⟨hDc, hDr⟩, hap⟩ := ev_ap2 hD
  obtain ⟨hPc, hPr⟩ := ev_Pl hP
  have hfr := lw_fr hDc hS hA
  have he : (ev_wl σ ρ ca hh n)[0]? = some (ρ 0, .inr (ci, fs.map (ev_cv σ ρ))) := by
    rw [ev_wl_get h0n, hc0]
    rfl
  have hrec := va_recv hK hPc (ev_kd_some hcs) he
  rw [hci] at hrec
  have hN := lw_nw hts
  have hcb : CallB room_1 s args own idx m1.2.2.2.2.2.1 m1.2.2.2.2.2.2.1 m1.2.2.2.2.1 m1.2.2.2.2.2.2.2 (ev_ws ev_gw m1) (ev_rm 7 m1) m1.2.2.1 m1.2.2.2.1 as'.length := callB_of as'.length hts (lw_good hmok) rfl rfl rfl (hts _ hw.2.2.2) (hts _ hw.1) hd0 (lw_room hmok.2.2.2.2)
  have hrun := va_runV (e := e) (locs := locs) (cells := cells) (slots := slots) (below := below) (meth := meth) (g := F0 mm pc la ((as'.map (ev_cv σ ρ)).reverse ++ .ref (ρ 0) :: rest)) (As := as'.map (ev_cv σ ρ)) (b := ρ 0) (C := m1.2.2.2.2.2.1.cls) ⟨hx, hb, hml, hown, hts⟩ hM ⟨hcb, hts _ hw.2.1, hts _ hw.2.2.1⟩ ⟨ev_Pr_blind ev_nw_ok, hrec, fun U hU hW => ⟨rfl, by rw [hU], by rw [hU]; exact hPc, va_K.moved hW.alike hK, hDc.weaken (fun _ _ _ _ => trivial), ev_nok_warm ev_nw_ok hW hN⟩⟩ rfl (by rw [List.length_map]) hsz rfl (lv_room hcat) hd hf
  refine ev_callP hrun hS hfr hfr ?_
  intro o hoo ρ' H1 locs1 k1 k2 k3 k4 k5 k6
  rw [hos o hoo σ ρ' k2]
  exact kk H1 locs1 (ev_stay hPr (fun i j p q hi hj z => hap j i q p hj hi z.symm) k5).1 hDr k6
/-- a new object of the law's -/
theorem lw_new {own : String} {nL idx x q ci n' : Nat} {m1 : ev_M} {fs : List ev_V} {hh : ev_H} {hh' : ev_H} {w0 : va_W} {rest : List Value} (hm1 : ev_pg[x]? = some m1) (hone : ∃ o, ev_met ev_pg 7 x [.inr (.inl 1)] hh 1 [] = some [o] ∧ o.2.1 = hh' ∧ o.2.2.1 = n') (hro : m1.2.2.2.2.2.2.2 = none) (hnu : ∀ o, ev_met ev_pg 7 x [.inr (.inl 1)] hh 1 [] = some [o] → o.1 = ev_U) (hc0 : ev_tg 7 hh 0 = .inl (ci, fs))
    (hx : p.tables.exec = Jvm.exec) (hb : c.code = cc) (hml : c.maxLocals = nL) (hown : s.vm.findClass own = some mm.cls) (hts : ∀ w ∈ lw_tbl, w.before args s = true) (hK : va_K (dC, dI) ev_cl (ev_ty ca) s) (hA : ∀ q, s.heap.size ≤ q → A q)
    (hP : va_P (dC, dI) ev_cl (w0 ++ [(q, .inr (ci, fs.map (ev_cv σ (fun _ => q))))]) H) (hD : va_D A (w0 ++ [(q, .inr (ci, fs.map (ev_cv σ (fun _ => q))))])) (hS : va_S A s.heap H locs)
    (hw : Jvm.Cond.methodLink own idx m1.2.2.2.2.2.1 ∈ lw_tbl ∧ Jvm.Cond.instanceMethod m1.2.2.2.2.2.1 ∈ lw_tbl ∧ Jvm.Cond.initialized m1.2.2.2.2.2.1.cls ∈ lw_tbl) (hin : m1.2.2.2.2.2.1.name = "<init>")
    (hd0 : m1.2.2.2.2.2.1.cls ≠ "java/lang/invoke/MethodHandle" ∧ m1.2.2.2.2.2.1.cls ≠ "java/lang/invoke/VarHandle" ∧ (parseMethodDescriptor m1.2.2.2.2.2.1.desc).map (fun d => d.parameters.length) = some 0)
    (hsz : la.size = nL) (hcat : (rest.map fun v => v.category).sum ≤ 8) (hd : decode cc pc = .ok (.invokespecial idx, 3)) (hf : cells + m1.2.2.1 ≤ room_1.cells ∧ slots + m1.2.2.2.1 ≤ room_1.slots)
    (kk : ∀ (ρ' : Nat → Nat) (H1 : Heap) (locs1 : List Loc), ρ' 0 = q → va_P (dC, dI) ev_cl (w0 ++ ev_wl σ ρ' ca hh' n') H1 → va_D A (w0 ++ ev_wl σ ρ' ca hh' n') → va_S A s.heap H1 locs1 → W p l e room_1 s mm args below meth c H1 locs1 (cells + m1.2.2.1) (slots + m1.2.2.2.1) Q (F0 mm (pc + 3) la rest)) : W p l e room_1 s mm args below meth c H locs cells slots Q (F0 mm pc la (.ref q :: rest)) := by
  obtain ⟨o, ho, ho1, ho2⟩ := hone
  obtain ⟨m2, hm2, hCt⟩ := ev_sound ev_sys 7 x _ _ _ _ _ ho
  cases hm1.symm.trans hm2
  have hmok := ev_sys.2.2.2 m1 (List.mem_of_getElem? hm1)
  have hM := hCt l dC dI ca σ (fun _ => q) H.size ev_sat_nil (by decide)
  have ew : ev_wl σ (fun _ => q) ca hh 1 = [(q, .inr (ci, fs.map (ev_cv σ (fun _ => q))))] := by
    show [(q, ev_ce σ (fun _ => q) ca (ev_tg 7 hh 0))] = _
    rw [hc0]
    rfl
  rw [← ew] at hP hD
  obtain ⟨⟨hDr, hDc⟩, hap⟩ := ev_ap2 hD
  obtain ⟨hPr, hPc⟩ := ev_Pl hP
  have hfr := lw_fr hDc hS hA
  have hN := lw_nw hts
  have hcb : CallB room_1 s args own idx m1.2.2.2.2.2.1 m1.2.2.2.2.2.2.1 m1.2.2.2.2.1 none (ev_ws ev_gw m1) (ev_rm 7 m1) m1.2.2.1 m1.2.2.2.1 0 := callB_of 0 hts (lw_good hmok) (by unfold ev_ws ev_cw; rw [hro]) rfl rfl (hts _ hw.2.2) (hts _ hw.1) hd0 (lw_room hmok.2.2.2.2)
  have hrun := va_runI (e := e) (locs := locs) (cells := cells) (slots := slots) (below := below) (meth := meth) (g := F0 mm pc la (.ref q :: rest)) (rest := rest) (As := []) (b := q) ⟨hx, hb, hml, hown, hts⟩ hM ⟨hcb, hin, hts _ hw.2.1⟩ ⟨ev_Pr_blind ev_nw_ok, fun U hU hW => ⟨rfl, by rw [hU], by rw [hU]; exact hPc, va_K.moved hW.alike hK, hDc.weaken (fun _ _ _ _ => trivial), ev_nok_warm ev_nw_ok hW hN⟩⟩ rfl rfl hsz rfl (lv_room hcat) hd hf
  refine ev_callP hrun hS hfr hfr ?_
  intro o2 hoo ρ' H1 locs1 k1 k2 k3 k4 k5 k6
  cases List.mem_singleton.mp hoo
  rw [hnu o ho]
  rw [ho1, ho2] at k3 k4
  obtain ⟨r1, r2⟩ := ev_stay hPr hap k5
  exact kk ρ' H1 locs1 (k1.2.2.1 0 (by decide)) (r1.app k3) (va_D.app hDr (k4.weaken (fun _ z _ hz => hfr z.1 hz)) (fun i j p z hp hz ee => r2 i p hp (by rw [ee]; exact k4.2 j z hz))) k6
end LWC
end
section
/-! THE CLAIM OUT OF ONE WALK OF THE LAW'S BODY. Your part is whole_start (and what it stands on); all else here is the same for every law, but numbers. -/
def R_law : String := "RegisterColoursLaw"
def lw_P (b : Addr) (xs : List Int32) (args : Array Value) (s : State) : Prop := args = #[.ref b] ∧ s.IntsAt b xs ∧ xs.length ≤ 6 ∧ (Jvm.Cond.and given_1 narrow_1).before args s = true
def lw_Q (_ : Array Value) (s : State) (o : Outcome) (t : State) : Prop := o = .returned (some (.int 1)) ∧ Framed s o t [] 600000 7302250
def lw_Z (below : List Frame) (a : Array Value) (s : State) : State → Prop := fun t => ∃ o, t.status = .running ∧ Ended t below o ∧ lw_Q a s o t
/-- the law's own end, with 1 on the stack, nothing written that was there before, its room as the claim has it -/
theorem lw_ret {p : Program} {l : Launch} {e : Env} {s : State} {m : MethodId} {below : List Frame} {meth : Method} {c : Code} {b : Nat} (hx : p.tables.exec = Jvm.exec) (hb : c.code = code) (hr : meth.sig.returnType = ret) (hlocks : meth.locks = false) {pc : Nat} {H : Heap} {ls : Array Slot} (hdg : decode code pc = .ok (.ireturn, 1)) : W p l e room_1 s m #[Value.ref b] below meth c H [] 600000 7302250 (lw_Z below #[Value.ref b] s) (F0 m pc ls [.int 1]) := by
  intro T hT X
  obtain ⟨fs, hret, hrun, hended, hW, hframe⟩ := X.leave (v := some (.int 1)) (hlocks := hlocks) (fun h => by rw [hr] at h; cases h)
  have hmeth' : T.vm.method? m = some meth := X.method'
  refine ⟨T.setFrames fs, ?_, .returned (some (.int 1)), hrun, hended, rfl, ⟨_, rfl⟩, hW, hframe⟩
  jvm_step X.here [X.here.top, hx, hb, hdg, hmeth', hr, ret, narrow_b1]
  (try refine ⟨rfl, ?_⟩); (try refine ⟨rfl, ?_⟩)
  first | (intro acts; rw [hret _ acts rfl rfl rfl]) | rw [hret _ _ rfl rfl rfl]
  exact Steps.refl _
/-- what holds at the law's entry: the machine, the code, the tables' words (any of lw_tbl by 'hts w (by decide +kernel)'), the script of L ints xs at the cell b, what the Statement gives of the start (any of its parts by flat_of_before) -/
def lw_At (p : Program) (s : State) (m : MethodId) (meth : Method) (c : Code) (b L : Nat) (xs : Nat → Int32) : Prop :=
  p.tables.exec = Jvm.exec ∧ c.code = code ∧ meth.sig.returnType = ret ∧ c.maxLocals = 4 ∧ s.vm.findClass R_law = some m.cls ∧ (∀ w ∈ lw_tbl, w.before #[Value.ref b] s = true) ∧ va_X b L xs s s.heap ∧ b < s.heap.size ∧ meth.locks = false ∧ (Jvm.Cond.and given_1 narrow_1).before #[Value.ref b] s = true
/-- the arguments of the one call, by the law's switch -/
def lw_z (x : Int32) : Int32 := if x = 0 then 0 else 1
theorem lw_z01 (x : Int32) : lw_z x = 0 ∨ lw_z x = 1 := by
  unfold lw_z
  split
  · exact Or.inl rfl
  · exact Or.inr rfl
def lw_sg (xs : Nat → Int32) : Nat → Int32 := match (xs 0 &&& 31).toNatClampNeg with
  | 5 => fun k => match k with
    | 0 => xs 1
    | 1 => lw_z (xs 2)
    | _ => 0
  | 7 => fun k => match k with
    | 0 => xs 1
    | 1 => lw_z (xs 2)
    | 2 => xs 3
    | _ => 0
  | 17 => fun k => match k with
    | 0 => lw_z (xs 1)
    | _ => 0
  | _ => fun k => xs (k + 1)
section LAWS
variable {p : Program} {l : Launch} {e : Env} {s : State} {m : MethodId} {below : List Frame} {meth : Method} {c : Code} {b : Nat} {xs : Nat → Int32} {H : Heap} {locs : List Loc} {cells slots pc : Nat} {ls : Array Slot} {rest : List Value} {qx qm : Nat} {Q : State → Prop}
/-- script[i + k], i being 0 -/
theorem lw_arg (C0 : lw_At p s m meth c b 6 xs) (hS : va_S (fun q : Nat => s.heap.size ≤ q) s.heap H locs) (hl : lv_has ls 4 [(0, .ref b), (1, .ref qx), (2, .ref qm), (3, .int 0)]) {k : Nat} (hk : k < 6) (d0 : decode code pc = .ok (.aload_n 0, 1)) (d1 : decode code (pc + 1) = .ok (.iload_n 3, 1)) (d2 : decode code (pc + 2) = .ok (.iconst (k : Int), 1)) (d3 : decode code (pc + 3) = .ok (.iadd, 1)) (d4 : decode code (pc + 4) = .ok (.iaload, 1)) (kk : W p l e room_1 s m #[Value.ref b] below meth c H locs cells slots Q (F0 m (pc + 5) ls (.int (xs k) :: rest))) : W p l e room_1 s m #[Value.ref b] below meth c H locs cells slots Q (F0 m pc ls rest) := by
  obtain ⟨hx, hb, hr, hml, hown, hts, hX, hbl, hlocks, hgv⟩ := C0
  refine lv_aload_n hx hb d0 rfl (lv_at hl 0 rfl) ?_
  refine lv_iload_n hx hb d1 rfl (lv_at hl 3 rfl) ?_
  refine lv_iconst (v := Int32.ofNat k) hx hb d2 rfl ?_
  refine lv_iadd hx hb d3 ?_
  have e0 : (0 : Int32) + Int32.ofNat k = Int32.ofNat k := by
    have : (0 : Int32) = Int32.ofNat 0 := rfl
    rw [this, ev_add, Nat.zero_add]
  rw [e0]
  refine va_sld hx hb hX hbl (Nat.not_le.mpr hbl) hS (ev_in hk (by omega)) d4 ?_
  rw [ev_clamp (by omega)]
  exact kk
theorem lw_argb (C0 : lw_At p s m meth c b 6 xs) (hS : va_S (fun q : Nat => s.heap.size ≤ q) s.heap H locs) (hl : lv_has ls 4 [(0, .ref b), (1, .ref qx), (2, .ref qm), (3, .int 0)]) {k : Nat} (hk : k < 6) (d0 : decode code pc = .ok (.aload_n 0, 1)) (d1 : decode code (pc + 1) = .ok (.iload_n 3, 1)) (d2 : decode code (pc + 2) = .ok (.iconst (k : Int), 1)) (d3 : decode code (pc + 3) = .ok (.iadd, 1)) (d4 : decode code (pc + 4) = .ok (.iaload, 1)) (d5 : decode code (pc + 5) = .ok (.ifCond .eq 7, 3)) (d6 : decode code (pc + 8) = .ok (.iconst 1, 1)) (d7 : decode code (pc + 9) = .ok (.goto 4, 3)) (d8 : decode code (pc + 12) = .ok (.iconst 0, 1)) (kk : W p l e room_1 s m #[Value.ref b] below meth c H locs cells slots Q (F0 m (pc + 13) ls (.int (lw_z (xs k)) :: rest))) : W p l e room_1 s m #[Value.ref b] below meth c H locs cells slots Q (F0 m pc ls rest) := by
  refine lw_arg C0 hS hl hk d0 d1 d2 d3 d4 ?_
  obtain ⟨hx, hb, -⟩ := C0
  refine lv_if_eq (tgt := pc + 12) hx hb d5 (by omega) (fun h => ?_) (fun h => ?_)
  · refine lv_iconst (v := 0) hx hb d8 rfl ?_
    rw [show lw_z (xs k) = 0 from if_pos h] at kk
    exact kk
  · refine lv_iconst (v := 1) hx hb d6 rfl ?_
    refine lv_goto (tgt := pc + 13) hx hb d7 (by omega) ?_
    rw [show lw_z (xs k) = 1 from if_neg h] at kk
    exact kk
/-- the end: 1 -/
theorem lw_end {L : Nat} (C0 : lw_At p s m meth c b L xs) (hS : va_S (fun q : Nat => s.heap.size ≤ q) s.heap H locs) (h1 : cells ≤ 600000) (h2 : slots ≤ 7302250) : W p l e room_1 s m #[Value.ref b] below meth c H locs cells slots (lw_Z below #[Value.ref b] s) (F0 m 725 ls []) := by
  obtain ⟨hx, hb, hr, hml, hown, hts, hX, hbl, hlocks, hgv⟩ := C0
  refine lv_iconst (v := 1) hx hb dl_725 (by decide) ?_
  refine va_forget (fun q hq => hS.2.2 q hq) ?_
  exact W.widen h1 h2 (lw_ret hx hb hr hlocks dl_726)
/-- behind the one call -/
theorem lw_back (C0 : lw_At p s m meth c b 6 xs) (hS : va_S (fun q : Nat => s.heap.size ≤ q) s.heap H locs) (hl : lv_has ls 4 [(0, .ref b), (1, .ref qx), (2, .ref qm), (3, .int 0)]) (h1 : cells ≤ 600000) (h2 : slots ≤ 7302250) : W p l e room_1 s m #[Value.ref b] below meth c H locs cells slots (lw_Z below #[Value.ref b] s) (F0 m 719 ls []) := by
  have C1 := C0
  obtain ⟨hx, hb, hr, hml, hown, hts, hX, hbl, hlocks, hgv⟩ := C0
  refine lv_iinc (v := 6) (lv' := [(3, .int 6), (0, .ref b), (1, .ref qx), (2, .ref qm)]) hx hb dl_719 hl (k := 3) rfl (by decide) (by decide) rfl (fun ls hl => ?_)
  refine lv_goto (tgt := 18) hx hb dl_722 (by decide) ?_
  refine lv_iload_n hx hb dl_18 rfl (lv_at hl 0 rfl) ?_
  refine lv_aload_n hx hb dl_19 rfl (lv_at hl 1 rfl) ?_
  refine va_slen hx hb hX hbl (Nat.not_le.mpr hbl) hS dl_20 ?_
  refine lv_bipush (v := 6) hx hb dl_21 (by decide) ?_
  refine lv_isub hx hb dl_23 ?_
  refine lv_icmp_gt (tgt := 725) hx hb dl_24 (by decide) (fun _ => lw_end C1 hS h1 h2) (fun h => absurd (by decide +kernel) h)
end LAWS
def ev_is (v : ev_C) (ci : Nat) : Bool := match v with
  | .inl o => Nat.beq o.1 ci
  | _ => false
theorem ev_is_ok {v : ev_C} {ci : Nat} (h : ev_is v ci = true) : ∃ fs, v = .inl (ci, fs) := by
  match v, h with
  | .inl o, h => exact ⟨o.2, by rw [← ev_beq.mp h]⟩
theorem ev_hxx_0 : ∃ fs, ev_tg 7 ev_hxx 0 = .inl (0, fs) := ev_is_ok (by decide +kernel)
theorem ev_hmm_0 : ∃ fs, ev_tg 7 ev_hmm 0 = .inl (11, fs) := ev_is_ok (by decide +kernel)
set_option maxHeartbeats 4000000 in
theorem lw_c0 {p : Program} {l : Launch} {e : Env} {s : State} {m : MethodId} {below : List Frame} {meth : Method} {c : Code} {b : Nat} {xs : Nat → Int32} {H : Heap} {locs : List Loc} {ls : Array Slot} {dC : Nat → ClassId} {dI : Nat → Nat → Nat} {ca : Nat → ClassId} {ρx ρm : Nat → Nat} {cells slots : Nat} (C0 : lw_At p s m meth c b 6 xs) (hK : va_K (dC, dI) ev_cl (ev_ty ca) s) (hcl : cells ≤ 1000) (hsl : slots ≤ 1000000) (hj : (xs 0 &&& 31).toNatClampNeg = 0) (hP : va_P (dC, dI) ev_cl (ev_wl (lw_sg xs) ρx ca ev_hxx 50 ++ ev_wl (lw_sg xs) ρm ca ev_hmm 39) H) (hD : va_D (fun q : Nat => s.heap.size ≤ q) (ev_wl (lw_sg xs) ρx ca ev_hxx 50 ++ ev_wl (lw_sg xs) ρm ca ev_hmm 39)) (hS : va_S (fun q : Nat => s.heap.size ≤ q) s.heap H locs) (hl : lv_has ls 4 [(0, .ref b), (1, .ref (ρx 0)), (2, .ref (ρm 0)), (3, .int 0)]) : W p l e room_1 s m #[Value.ref b] below meth c H locs cells slots (lw_Z below #[Value.ref b] s) (F0 m 124 ls []) := by
  have C1 := C0
  obtain ⟨hx, hb, hr, hml, hown, hts, hX, hbl, hlocks, hgv⟩ := C0
  have hA : ∀ q : Nat, s.heap.size ≤ q → (fun q : Nat => s.heap.size ≤ q) q := fun _ h => h
  have sg0 : lw_sg xs 0 = xs 1 := by unfold lw_sg; rw [hj] <;> rfl
  have sg1 : lw_sg xs 1 = xs 2 := by unfold lw_sg; rw [hj] <;> rfl
  obtain ⟨fx, hfx⟩ := ev_hxx_0
  obtain ⟨fm, hfm⟩ := ev_hmm_0
  obtain ⟨env0, hsat0, hall0⟩ := pb_xx_set (lw_sg xs)
  refine lv_aload_n hx hb dl_124 rfl (lv_at hl 1 rfl) ?_
  refine lw_arg C1 hS hl (k := 1) (by decide) dl_125 dl_126 dl_127 dl_128 dl_129 ?_
  refine lw_arg C1 hS hl (k := 2) (by decide) dl_130 dl_131 dl_132 dl_133 dl_134 ?_
  have K0 : ∀ g, g = F0 m 135 ls (.int (xs 2) :: .int (xs 1) :: .ref (ρx 0) :: []) → W p l e room_1 s m #[Value.ref b] below meth c H locs cells slots (lw_Z below #[Value.ref b] s) (F0 m 135 ls ((([.inr (.inr (.inr (.inl (0, [])))), .inr (.inr (.inr (.inl (1, []))))] : List ev_V).map (ev_cv (lw_sg xs) ρx)).reverse ++ .ref (ρx 0) :: [])) → W p l e room_1 s m #[Value.ref b] below meth c H locs cells slots (lw_Z below #[Value.ref b] s) g := by
    intro g hg h
    subst hg
    have es : (([.inr (.inr (.inr (.inl (0, [])))), .inr (.inr (.inr (.inl (1, []))))] : List ev_V).map (ev_cv (lw_sg xs) ρx)).reverse = [.int (xs 2), .int (xs 1)] := by
      rw [show xs 1 = lw_sg xs 0 from sg0.symm, show xs 2 = lw_sg xs 1 from sg1.symm]
      rfl
    rw [es] at h
    exact h
  refine K0 _ rfl ?_
  refine lw_pub (x := 60) (m1 := mt_60) (as' := [.inr (.inr (.inr (.inl (0, [])))), .inr (.inr (.inr (.inl (1, []))))]) (wr := ev_wl (lw_sg xs) ρm ca ev_hmm 39) (fs := fx) (ci := 0) rfl hall0 hsat0 (by decide) (by decide) hfx (by decide +kernel) (by decide +kernel) hx hb hml hown hts hK hA hP hD hS ⟨ev_tb_in 2 (List.mem_of_getElem? (i := 212) (by decide +kernel)), ev_tb_in 2 (List.mem_of_getElem? (i := 213) (by decide +kernel)), ev_tb_in 2 (List.mem_of_getElem? (i := 214) (by decide +kernel)), ev_tb_in 1 (List.mem_of_getElem? (i := 1) (by decide +kernel))⟩ ⟨by decide +kernel, by decide +kernel, by decide +kernel⟩ hl.1 (by simp) dl_135 ⟨by show cells + 0 ≤ 600000; omega, by show slots + 0 ≤ 7302250; omega⟩ (fun H locs hP hD hS => ?_)
  obtain ⟨env1, hsat1, hall1⟩ := pb_mm_set (lw_sg xs)
  refine lv_aload_n hx hb dl_138 rfl (lv_at hl 2 rfl) ?_
  refine lw_arg C1 hS hl (k := 1) (by decide) dl_139 dl_140 dl_141 dl_142 dl_143 ?_
  refine lw_arg C1 hS hl (k := 2) (by decide) dl_144 dl_145 dl_146 dl_147 dl_148 ?_
  have K1 : ∀ g, g = F0 m 149 ls (.int (xs 2) :: .int (xs 1) :: .ref (ρm 0) :: [.int (ev_spc sp_set (lw_sg xs))]) → W p l e room_1 s m #[Value.ref b] below meth c H locs (cells + 0) (slots + 0) (lw_Z below #[Value.ref b] s) (F0 m 149 ls ((([.inr (.inr (.inr (.inl (0, [])))), .inr (.inr (.inr (.inl (1, []))))] : List ev_V).map (ev_cv (lw_sg xs) ρm)).reverse ++ .ref (ρm 0) :: [.int (ev_spc sp_set (lw_sg xs))])) → W p l e room_1 s m #[Value.ref b] below meth c H locs (cells + 0) (slots + 0) (lw_Z below #[Value.ref b] s) g := by
    intro g hg h
    subst hg
    have es : (([.inr (.inr (.inr (.inl (0, [])))), .inr (.inr (.inr (.inl (1, []))))] : List ev_V).map (ev_cv (lw_sg xs) ρm)).reverse = [.int (xs 2), .int (xs 1)] := by
      rw [show xs 1 = lw_sg xs 0 from sg0.symm, show xs 2 = lw_sg xs 1 from sg1.symm]
      rfl
    rw [es] at h
    exact h
  refine K1 _ rfl ?_
  refine lw_pub (x := 61) (m1 := mt_61) (as' := [.inr (.inr (.inr (.inl (0, [])))), .inr (.inr (.inr (.inl (1, []))))]) (wr := []) (fs := fm) (ci := 11) rfl hall1 hsat1 (by decide) (by decide) hfm (by decide +kernel) (by decide +kernel) hx hb hml hown hts hK hA (by rw [List.append_nil]; exact hP) (by rw [List.append_nil]; exact hD) hS ⟨ev_tb_in 7 (List.mem_of_getElem? (i := 92) (by decide +kernel)), ev_tb_in 7 (List.mem_of_getElem? (i := 93) (by decide +kernel)), ev_tb_in 7 (List.mem_of_getElem? (i := 94) (by decide +kernel)), ev_tb_in 1 (List.mem_of_getElem? (i := 9) (by decide +kernel))⟩ ⟨by decide +kernel, by decide +kernel, by decide +kernel⟩ hl.1 (by simp [Value.category]) dl_149 ⟨by show cells + 0 + 0 ≤ 600000; omega, by show slots + 0 + 0 ≤ 7302250; omega⟩ (fun H locs hP hD hS => ?_)
  exact lv_icmp_eq (tgt := 719) hx hb dl_152 (by decide) (fun _ => lw_back C1 hS hl (by show cells + 0 + 0 ≤ 600000; omega) (by show slots + 0 + 0 ≤ 7302250; omega)) (fun h => absurd rfl h)
set_option maxHeartbeats 4000000 in
theorem lw_c1 {p : Program} {l : Launch} {e : Env} {s : State} {m : MethodId} {below : List Frame} {meth : Method} {c : Code} {b : Nat} {xs : Nat → Int32} {H : Heap} {locs : List Loc} {ls : Array Slot} {dC : Nat → ClassId} {dI : Nat → Nat → Nat} {ca : Nat → ClassId} {ρx ρm : Nat → Nat} {cells slots : Nat} (C0 : lw_At p s m meth c b 6 xs) (hK : va_K (dC, dI) ev_cl (ev_ty ca) s) (hcl : cells ≤ 1000) (hsl : slots ≤ 1000000) (hj : (xs 0 &&& 31).toNatClampNeg = 1) (hP : va_P (dC, dI) ev_cl (ev_wl (lw_sg xs) ρx ca ev_hxx 50 ++ ev_wl (lw_sg xs) ρm ca ev_hmm 39) H) (hD : va_D (fun q : Nat => s.heap.size ≤ q) (ev_wl (lw_sg xs) ρx ca ev_hxx 50 ++ ev_wl (lw_sg xs) ρm ca ev_hmm 39)) (hS : va_S (fun q : Nat => s.heap.size ≤ q) s.heap H locs) (hl : lv_has ls 4 [(0, .ref b), (1, .ref (ρx 0)), (2, .ref (ρm 0)), (3, .int 0)]) : W p l e room_1 s m #[Value.ref b] below meth c H locs cells slots (lw_Z below #[Value.ref b] s) (F0 m 157 ls []) := by
  have C1 := C0
  obtain ⟨hx, hb, hr, hml, hown, hts, hX, hbl, hlocks, hgv⟩ := C0
  have hA : ∀ q : Nat, s.heap.size ≤ q → (fun q : Nat => s.heap.size ≤ q) q := fun _ h => h
  have sg0 : lw_sg xs 0 = xs 1 := by unfold lw_sg; rw [hj] <;> rfl
  have sg1 : lw_sg xs 1 = xs 2 := by unfold lw_sg; rw [hj] <;> rfl
  have sg2 : lw_sg xs 2 = xs 3 := by unfold lw_sg; rw [hj] <;> rfl
  have sg3 : lw_sg xs 3 = xs 4 := by unfold lw_sg; rw [hj] <;> rfl
  have sg4 : lw_sg xs 4 = xs 5 := by unfold lw_sg; rw [hj] <;> rfl
  obtain ⟨fx, hfx⟩ := ev_hxx_0
  obtain ⟨fm, hfm⟩ := ev_hmm_0
  obtain ⟨env0, hsat0, hall0⟩ := pb_xx_feed (lw_sg xs)
  refine lv_aload_n hx hb dl_157 rfl (lv_at hl 1 rfl) ?_
  refine lw_arg C1 hS hl (k := 1) (by decide) dl_158 dl_159 dl_160 dl_161 dl_162 ?_
  refine lw_arg C1 hS hl (k := 2) (by decide) dl_163 dl_164 dl_165 dl_166 dl_167 ?_
  refine lw_arg C1 hS hl (k := 3) (by decide) dl_168 dl_169 dl_170 dl_171 dl_172 ?_
  refine lw_arg C1 hS hl (k := 4) (by decide) dl_173 dl_174 dl_175 dl_176 dl_177 ?_
  refine lw_arg C1 hS hl (k := 5) (by decide) dl_178 dl_179 dl_180 dl_181 dl_182 ?_
  have K0 : ∀ g, g = F0 m 183 ls (.int (xs 5) :: .int (xs 4) :: .int (xs 3) :: .int (xs 2) :: .int (xs 1) :: .ref (ρx 0) :: []) → W p l e room_1 s m #[Value.ref b] below meth c H locs cells slots (lw_Z below #[Value.ref b] s) (F0 m 183 ls ((([.inr (.inr (.inr (.inl (0, [])))), .inr (.inr (.inr (.inl (1, [])))), .inr (.inr (.inr (.inl (2, [])))), .inr (.inr (.inr (.inl (3, [])))), .inr (.inr (.inr (.inl (4, []))))] : List ev_V).map (ev_cv (lw_sg xs) ρx)).reverse ++ .ref (ρx 0) :: [])) → W p l e room_1 s m #[Value.ref b] below meth c H locs cells slots (lw_Z below #[Value.ref b] s) g := by
    intro g hg h
    subst hg
    have es : (([.inr (.inr (.inr (.inl (0, [])))), .inr (.inr (.inr (.inl (1, [])))), .inr (.inr (.inr (.inl (2, [])))), .inr (.inr (.inr (.inl (3, [])))), .inr (.inr (.inr (.inl (4, []))))] : List ev_V).map (ev_cv (lw_sg xs) ρx)).reverse = [.int (xs 5), .int (xs 4), .int (xs 3), .int (xs 2), .int (xs 1)] := by
      rw [show xs 1 = lw_sg xs 0 from sg0.symm, show xs 2 = lw_sg xs 1 from sg1.symm, show xs 3 = lw_sg xs 2 from sg2.symm, show xs 4 = lw_sg xs 3 from sg3.symm, show xs 5 = lw_sg xs 4 from sg4.symm]
      rfl
    rw [es] at h
    exact h
  refine K0 _ rfl ?_
  refine lw_pub (x := 63) (m1 := mt_63) (as' := [.inr (.inr (.inr (.inl (0, [])))), .inr (.inr (.inr (.inl (1, [])))), .inr (.inr (.inr (.inl (2, [])))), .inr (.inr (.inr (.inl (3, [])))), .inr (.inr (.inr (.inl (4, []))))]) (wr := ev_wl (lw_sg xs) ρm ca ev_hmm 39) (fs := fx) (ci := 0) rfl hall0 hsat0 (by decide) (by decide) hfx (by decide +kernel) (by decide +kernel) hx hb hml hown hts hK hA hP hD hS ⟨ev_tb_in 2 (List.mem_of_getElem? (i := 223) (by decide +kernel)), ev_tb_in 2 (List.mem_of_getElem? (i := 224) (by decide +kernel)), ev_tb_in 2 (List.mem_of_getElem? (i := 225) (by decide +kernel)), ev_tb_in 1 (List.mem_of_getElem? (i := 1) (by decide +kernel))⟩ ⟨by decide +kernel, by decide +kernel, by decide +kernel⟩ hl.1 (by simp) dl_183 ⟨by show cells + 0 ≤ 600000; omega, by show slots + 0 ≤ 7302250; omega⟩ (fun H locs hP hD hS => ?_)
  obtain ⟨env1, hsat1, hall1⟩ := pb_mm_feed (lw_sg xs)
  refine lv_aload_n hx hb dl_186 rfl (lv_at hl 2 rfl) ?_
  refine lw_arg C1 hS hl (k := 1) (by decide) dl_187 dl_188 dl_189 dl_190 dl_191 ?_
  refine lw_arg C1 hS hl (k := 2) (by decide) dl_192 dl_193 dl_194 dl_195 dl_196 ?_
  refine lw_arg C1 hS hl (k := 3) (by decide) dl_197 dl_198 dl_199 dl_200 dl_201 ?_
  refine lw_arg C1 hS hl (k := 4) (by decide) dl_202 dl_203 dl_204 dl_205 dl_206 ?_
  refine lw_arg C1 hS hl (k := 5) (by decide) dl_207 dl_208 dl_209 dl_210 dl_211 ?_
  have K1 : ∀ g, g = F0 m 212 ls (.int (xs 5) :: .int (xs 4) :: .int (xs 3) :: .int (xs 2) :: .int (xs 1) :: .ref (ρm 0) :: [.int (ev_spc sp_feed (lw_sg xs))]) → W p l e room_1 s m #[Value.ref b] below meth c H locs (cells + 0) (slots + 0) (lw_Z below #[Value.ref b] s) (F0 m 212 ls ((([.inr (.inr (.inr (.inl (0, [])))), .inr (.inr (.inr (.inl (1, [])))), .inr (.inr (.inr (.inl (2, [])))), .inr (.inr (.inr (.inl (3, [])))), .inr (.inr (.inr (.inl (4, []))))] : List ev_V).map (ev_cv (lw_sg xs) ρm)).reverse ++ .ref (ρm 0) :: [.int (ev_spc sp_feed (lw_sg xs))])) → W p l e room_1 s m #[Value.ref b] below meth c H locs (cells + 0) (slots + 0) (lw_Z below #[Value.ref b] s) g := by
    intro g hg h
    subst hg
    have es : (([.inr (.inr (.inr (.inl (0, [])))), .inr (.inr (.inr (.inl (1, [])))), .inr (.inr (.inr (.inl (2, [])))), .inr (.inr (.inr (.inl (3, [])))), .inr (.inr (.inr (.inl (4, []))))] : List ev_V).map (ev_cv (lw_sg xs) ρm)).reverse = [.int (xs 5), .int (xs 4), .int (xs 3), .int (xs 2), .int (xs 1)] := by
      rw [show xs 1 = lw_sg xs 0 from sg0.symm, show xs 2 = lw_sg xs 1 from sg1.symm, show xs 3 = lw_sg xs 2 from sg2.symm, show xs 4 = lw_sg xs 3 from sg3.symm, show xs 5 = lw_sg xs 4 from sg4.symm]
      rfl
    rw [es] at h
    exact h
  refine K1 _ rfl ?_
  refine lw_pub (x := 64) (m1 := mt_64) (as' := [.inr (.inr (.inr (.inl (0, [])))), .inr (.inr (.inr (.inl (1, [])))), .inr (.inr (.inr (.inl (2, [])))), .inr (.inr (.inr (.inl (3, [])))), .inr (.inr (.inr (.inl (4, []))))]) (wr := []) (fs := fm) (ci := 11) rfl hall1 hsat1 (by decide) (by decide) hfm (by decide +kernel) (by decide +kernel) hx hb hml hown hts hK hA (by rw [List.append_nil]; exact hP) (by rw [List.append_nil]; exact hD) hS ⟨ev_tb_in 8 (List.mem_of_getElem? (i := 93) (by decide +kernel)), ev_tb_in 8 (List.mem_of_getElem? (i := 94) (by decide +kernel)), ev_tb_in 8 (List.mem_of_getElem? (i := 95) (by decide +kernel)), ev_tb_in 1 (List.mem_of_getElem? (i := 9) (by decide +kernel))⟩ ⟨by decide +kernel, by decide +kernel, by decide +kernel⟩ hl.1 (by simp [Value.category]) dl_212 ⟨by show cells + 0 + 0 ≤ 600000; omega, by show slots + 0 + 0 ≤ 7302250; omega⟩ (fun H locs hP hD hS => ?_)
  exact lv_icmp_eq (tgt := 719) hx hb dl_215 (by decide) (fun _ => lw_back C1 hS hl (by show cells + 0 + 0 ≤ 600000; omega) (by show slots + 0 + 0 ≤ 7302250; omega)) (fun h => absurd rfl h)
set_option maxHeartbeats 4000000 in
theorem lw_c2 {p : Program} {l : Launch} {e : Env} {s : State} {m : MethodId} {below : List Frame} {meth : Method} {c : Code} {b : Nat} {xs : Nat → Int32} {H : Heap} {locs : List Loc} {ls : Array Slot} {dC : Nat → ClassId} {dI : Nat → Nat → Nat} {ca : Nat → ClassId} {ρx ρm : Nat → Nat} {cells slots : Nat} (C0 : lw_At p s m meth c b 6 xs) (hK : va_K (dC, dI) ev_cl (ev_ty ca) s) (hcl : cells ≤ 1000) (hsl : slots ≤ 1000000) (hj : (xs 0 &&& 31).toNatClampNeg = 2) (hP : va_P (dC, dI) ev_cl (ev_wl (lw_sg xs) ρx ca ev_hxx 50 ++ ev_wl (lw_sg xs) ρm ca ev_hmm 39) H) (hD : va_D (fun q : Nat => s.heap.size ≤ q) (ev_wl (lw_sg xs) ρx ca ev_hxx 50 ++ ev_wl (lw_sg xs) ρm ca ev_hmm 39)) (hS : va_S (fun q : Nat => s.heap.size ≤ q) s.heap H locs) (hl : lv_has ls 4 [(0, .ref b), (1, .ref (ρx 0)), (2, .ref (ρm 0)), (3, .int 0)]) : W p l e room_1 s m #[Value.ref b] below meth c H locs cells slots (lw_Z below #[Value.ref b] s) (F0 m 220 ls []) := by
  have C1 := C0
  obtain ⟨hx, hb, hr, hml, hown, hts, hX, hbl, hlocks, hgv⟩ := C0
  have hA : ∀ q : Nat, s.heap.size ≤ q → (fun q : Nat => s.heap.size ≤ q) q := fun _ h => h
  have sg0 : lw_sg xs 0 = xs 1 := by unfold lw_sg; rw [hj] <;> rfl
  obtain ⟨fx, hfx⟩ := ev_hxx_0
  obtain ⟨fm, hfm⟩ := ev_hmm_0
  obtain ⟨env0, hsat0, hall0⟩ := pb_xx_end (lw_sg xs)
  refine lv_aload_n hx hb dl_220 rfl (lv_at hl 1 rfl) ?_
  refine lw_arg C1 hS hl (k := 1) (by decide) dl_221 dl_222 dl_223 dl_224 dl_225 ?_
  have K0 : ∀ g, g = F0 m 226 ls (.int (xs 1) :: .ref (ρx 0) :: []) → W p l e room_1 s m #[Value.ref b] below meth c H locs cells slots (lw_Z below #[Value.ref b] s) (F0 m 226 ls ((([.inr (.inr (.inr (.inl (0, []))))] : List ev_V).map (ev_cv (lw_sg xs) ρx)).reverse ++ .ref (ρx 0) :: [])) → W p l e room_1 s m #[Value.ref b] below meth c H locs cells slots (lw_Z below #[Value.ref b] s) g := by
    intro g hg h
    subst hg
    have es : (([.inr (.inr (.inr (.inl (0, []))))] : List ev_V).map (ev_cv (lw_sg xs) ρx)).reverse = [.int (xs 1)] := by
      rw [show xs 1 = lw_sg xs 0 from sg0.symm]
      rfl
    rw [es] at h
    exact h
  refine K0 _ rfl ?_
  refine lw_pub (x := 65) (m1 := mt_65) (as' := [.inr (.inr (.inr (.inl (0, []))))]) (wr := ev_wl (lw_sg xs) ρm ca ev_hmm 39) (fs := fx) (ci := 0) rfl hall0 hsat0 (by decide) (by decide) hfx (by decide +kernel) (by decide +kernel) hx hb hml hown hts hK hA hP hD hS ⟨ev_tb_in 2 (List.mem_of_getElem? (i := 231) (by decide +kernel)), ev_tb_in 2 (List.mem_of_getElem? (i := 232) (by decide +kernel)), ev_tb_in 2 (List.mem_of_getElem? (i := 233) (by decide +kernel)), ev_tb_in 1 (List.mem_of_getElem? (i := 1) (by decide +kernel))⟩ ⟨by decide +kernel, by decide +kernel, by decide +kernel⟩ hl.1 (by simp) dl_226 ⟨by show cells + 0 ≤ 600000; omega, by show slots + 0 ≤ 7302250; omega⟩ (fun H locs hP hD hS => ?_)
  obtain ⟨env1, hsat1, hall1⟩ := pb_mm_end (lw_sg xs)
  refine lv_aload_n hx hb dl_229 rfl (lv_at hl 2 rfl) ?_
  refine lw_arg C1 hS hl (k := 1) (by decide) dl_230 dl_231 dl_232 dl_233 dl_234 ?_
  have K1 : ∀ g, g = F0 m 235 ls (.int (xs 1) :: .ref (ρm 0) :: [.int (ev_spc sp_end (lw_sg xs))]) → W p l e room_1 s m #[Value.ref b] below meth c H locs (cells + 0) (slots + 0) (lw_Z below #[Value.ref b] s) (F0 m 235 ls ((([.inr (.inr (.inr (.inl (0, []))))] : List ev_V).map (ev_cv (lw_sg xs) ρm)).reverse ++ .ref (ρm 0) :: [.int (ev_spc sp_end (lw_sg xs))])) → W p l e room_1 s m #[Value.ref b] below meth c H locs (cells + 0) (slots + 0) (lw_Z below #[Value.ref b] s) g := by
    intro g hg h
    subst hg
    have es : (([.inr (.inr (.inr (.inl (0, []))))] : List ev_V).map (ev_cv (lw_sg xs) ρm)).reverse = [.int (xs 1)] := by
      rw [show xs 1 = lw_sg xs 0 from sg0.symm]
      rfl
    rw [es] at h
    exact h
  refine K1 _ rfl ?_
  refine lw_pub (x := 66) (m1 := mt_66) (as' := [.inr (.inr (.inr (.inl (0, []))))]) (wr := []) (fs := fm) (ci := 11) rfl hall1 hsat1 (by decide) (by decide) hfm (by decide +kernel) (by decide +kernel) hx hb hml hown hts hK hA (by rw [List.append_nil]; exact hP) (by rw [List.append_nil]; exact hD) hS ⟨ev_tb_in 8 (List.mem_of_getElem? (i := 101) (by decide +kernel)), ev_tb_in 8 (List.mem_of_getElem? (i := 102) (by decide +kernel)), ev_tb_in 8 (List.mem_of_getElem? (i := 103) (by decide +kernel)), ev_tb_in 1 (List.mem_of_getElem? (i := 9) (by decide +kernel))⟩ ⟨by decide +kernel, by decide +kernel, by decide +kernel⟩ hl.1 (by simp [Value.category]) dl_235 ⟨by show cells + 0 + 0 ≤ 600000; omega, by show slots + 0 + 0 ≤ 7302250; omega⟩ (fun H locs hP hD hS => ?_)
  exact lv_icmp_eq (tgt := 719) hx hb dl_238 (by decide) (fun _ => lw_back C1 hS hl (by show cells + 0 + 0 ≤ 600000; omega) (by show slots + 0 + 0 ≤ 7302250; omega)) (fun h => absurd rfl h)
set_option maxHeartbeats 4000000 in
theorem lw_c3 {p : Program} {l : Launch} {e : Env} {s : State} {m : MethodId} {below : List Frame} {meth : Method} {c : Code} {b : Nat} {xs : Nat → Int32} {H : Heap} {locs : List Loc} {ls : Array Slot} {dC : Nat → ClassId} {dI : Nat → Nat → Nat} {ca : Nat → ClassId} {ρx ρm : Nat → Nat} {cells slots : Nat} (C0 : lw_At p s m meth c b 6 xs) (hK : va_K (dC, dI) ev_cl (ev_ty ca) s) (hcl : cells ≤ 1000) (hsl : slots ≤ 1000000) (hj : (xs 0 &&& 31).toNatClampNeg = 3) (hP : va_P (dC, dI) ev_cl (ev_wl (lw_sg xs) ρx ca ev_hxx 50 ++ ev_wl (lw_sg xs) ρm ca ev_hmm 39) H) (hD : va_D (fun q : Nat => s.heap.size ≤ q) (ev_wl (lw_sg xs) ρx ca ev_hxx 50 ++ ev_wl (lw_sg xs) ρm ca ev_hmm 39)) (hS : va_S (fun q : Nat => s.heap.size ≤ q) s.heap H locs) (hl : lv_has ls 4 [(0, .ref b), (1, .ref (ρx 0)), (2, .ref (ρm 0)), (3, .int 0)]) : W p l e room_1 s m #[Value.ref b] below meth c H locs cells slots (lw_Z below #[Value.ref b] s) (F0 m 243 ls []) := by
  have C1 := C0
  obtain ⟨hx, hb, hr, hml, hown, hts, hX, hbl, hlocks, hgv⟩ := C0
  have hA : ∀ q : Nat, s.heap.size ≤ q → (fun q : Nat => s.heap.size ≤ q) q := fun _ h => h
  obtain ⟨fx, hfx⟩ := ev_hxx_0
  obtain ⟨fm, hfm⟩ := ev_hmm_0
  obtain ⟨env0, hsat0, hall0⟩ := pb_xx_code (lw_sg xs)
  refine lv_aload_n hx hb dl_243 rfl (lv_at hl 1 rfl) ?_
  have K0 : ∀ g, g = F0 m 244 ls (.ref (ρx 0) :: []) → W p l e room_1 s m #[Value.ref b] below meth c H locs cells slots (lw_Z below #[Value.ref b] s) (F0 m 244 ls ((([] : List ev_V).map (ev_cv (lw_sg xs) ρx)).reverse ++ .ref (ρx 0) :: [])) → W p l e room_1 s m #[Value.ref b] below meth c H locs cells slots (lw_Z below #[Value.ref b] s) g := by
    intro g hg h
    subst hg
    have es : (([] : List ev_V).map (ev_cv (lw_sg xs) ρx)).reverse = [] := by
      rfl
    rw [es] at h
    exact h
  refine K0 _ rfl ?_
  refine lw_pub (x := 67) (m1 := mt_67) (as' := []) (wr := ev_wl (lw_sg xs) ρm ca ev_hmm 39) (fs := fx) (ci := 0) rfl hall0 hsat0 (by decide) (by decide) hfx (by decide +kernel) (by decide +kernel) hx hb hml hown hts hK hA hP hD hS ⟨ev_tb_in 2 (List.mem_of_getElem? (i := 235) (by decide +kernel)), ev_tb_in 2 (List.mem_of_getElem? (i := 236) (by decide +kernel)), ev_tb_in 2 (List.mem_of_getElem? (i := 237) (by decide +kernel)), ev_tb_in 1 (List.mem_of_getElem? (i := 1) (by decide +kernel))⟩ ⟨by decide +kernel, by decide +kernel, by decide +kernel⟩ hl.1 (by simp) dl_244 ⟨by show cells + 0 ≤ 600000; omega, by show slots + 0 ≤ 7302250; omega⟩ (fun H locs hP hD hS => ?_)
  obtain ⟨env1, hsat1, hall1⟩ := pb_mm_code (lw_sg xs)
  refine lv_aload_n hx hb dl_247 rfl (lv_at hl 2 rfl) ?_
  have K1 : ∀ g, g = F0 m 248 ls (.ref (ρm 0) :: [.int (ev_spc sp_code (lw_sg xs))]) → W p l e room_1 s m #[Value.ref b] below meth c H locs (cells + 0) (slots + 0) (lw_Z below #[Value.ref b] s) (F0 m 248 ls ((([] : List ev_V).map (ev_cv (lw_sg xs) ρm)).reverse ++ .ref (ρm 0) :: [.int (ev_spc sp_code (lw_sg xs))])) → W p l e room_1 s m #[Value.ref b] below meth c H locs (cells + 0) (slots + 0) (lw_Z below #[Value.ref b] s) g := by
    intro g hg h
    subst hg
    have es : (([] : List ev_V).map (ev_cv (lw_sg xs) ρm)).reverse = [] := by
      rfl
    rw [es] at h
    exact h
  refine K1 _ rfl ?_
  refine lw_pub (x := 71) (m1 := mt_71) (as' := []) (wr := []) (fs := fm) (ci := 11) rfl hall1 hsat1 (by decide) (by decide) hfm (by decide +kernel) (by decide +kernel) hx hb hml hown hts hK hA (by rw [List.append_nil]; exact hP) (by rw [List.append_nil]; exact hD) hS ⟨ev_tb_in 8 (List.mem_of_getElem? (i := 105) (by decide +kernel)), ev_tb_in 8 (List.mem_of_getElem? (i := 106) (by decide +kernel)), ev_tb_in 8 (List.mem_of_getElem? (i := 107) (by decide +kernel)), ev_tb_in 1 (List.mem_of_getElem? (i := 9) (by decide +kernel))⟩ ⟨by decide +kernel, by decide +kernel, by decide +kernel⟩ hl.1 (by simp [Value.category]) dl_248 ⟨by show cells + 0 + 0 ≤ 600000; omega, by show slots + 0 + 0 ≤ 7302250; omega⟩ (fun H locs hP hD hS => ?_)
  exact lv_icmp_eq (tgt := 719) hx hb dl_251 (by decide) (fun _ => lw_back C1 hS hl (by show cells + 0 + 0 ≤ 600000; omega) (by show slots + 0 + 0 ≤ 7302250; omega)) (fun h => absurd rfl h)
set_option maxHeartbeats 4000000 in
theorem lw_c4 {p : Program} {l : Launch} {e : Env} {s : State} {m : MethodId} {below : List Frame} {meth : Method} {c : Code} {b : Nat} {xs : Nat → Int32} {H : Heap} {locs : List Loc} {ls : Array Slot} {dC : Nat → ClassId} {dI : Nat → Nat → Nat} {ca : Nat → ClassId} {ρx ρm : Nat → Nat} {cells slots : Nat} (C0 : lw_At p s m meth c b 6 xs) (hK : va_K (dC, dI) ev_cl (ev_ty ca) s) (hcl : cells ≤ 1000) (hsl : slots ≤ 1000000) (hj : (xs 0 &&& 31).toNatClampNeg = 4) (hP : va_P (dC, dI) ev_cl (ev_wl (lw_sg xs) ρx ca ev_hxx 50 ++ ev_wl (lw_sg xs) ρm ca ev_hmm 39) H) (hD : va_D (fun q : Nat => s.heap.size ≤ q) (ev_wl (lw_sg xs) ρx ca ev_hxx 50 ++ ev_wl (lw_sg xs) ρm ca ev_hmm 39)) (hS : va_S (fun q : Nat => s.heap.size ≤ q) s.heap H locs) (hl : lv_has ls 4 [(0, .ref b), (1, .ref (ρx 0)), (2, .ref (ρm 0)), (3, .int 0)]) : W p l e room_1 s m #[Value.ref b] below meth c H locs cells slots (lw_Z below #[Value.ref b] s) (F0 m 256 ls []) := by
  have C1 := C0
  obtain ⟨hx, hb, hr, hml, hown, hts, hX, hbl, hlocks, hgv⟩ := C0
  have hA : ∀ q : Nat, s.heap.size ≤ q → (fun q : Nat => s.heap.size ≤ q) q := fun _ h => h
  have sg0 : lw_sg xs 0 = xs 1 := by unfold lw_sg; rw [hj] <;> rfl
  obtain ⟨fx, hfx⟩ := ev_hxx_0
  obtain ⟨fm, hfm⟩ := ev_hmm_0
  obtain ⟨env0, hsat0, hall0⟩ := pb_xx_fault (lw_sg xs)
  refine lv_aload_n hx hb dl_256 rfl (lv_at hl 1 rfl) ?_
  refine lw_arg C1 hS hl (k := 1) (by decide) dl_257 dl_258 dl_259 dl_260 dl_261 ?_
  have K0 : ∀ g, g = F0 m 262 ls (.int (xs 1) :: .ref (ρx 0) :: []) → W p l e room_1 s m #[Value.ref b] below meth c H locs cells slots (lw_Z below #[Value.ref b] s) (F0 m 262 ls ((([.inr (.inr (.inr (.inl (0, []))))] : List ev_V).map (ev_cv (lw_sg xs) ρx)).reverse ++ .ref (ρx 0) :: [])) → W p l e room_1 s m #[Value.ref b] below meth c H locs cells slots (lw_Z below #[Value.ref b] s) g := by
    intro g hg h
    subst hg
    have es : (([.inr (.inr (.inr (.inl (0, []))))] : List ev_V).map (ev_cv (lw_sg xs) ρx)).reverse = [.int (xs 1)] := by
      rw [show xs 1 = lw_sg xs 0 from sg0.symm]
      rfl
    rw [es] at h
    exact h
  refine K0 _ rfl ?_
  refine lw_pub (x := 75) (m1 := mt_75) (as' := [.inr (.inr (.inr (.inl (0, []))))]) (wr := ev_wl (lw_sg xs) ρm ca ev_hmm 39) (fs := fx) (ci := 0) rfl hall0 hsat0 (by decide) (by decide) hfx (by decide +kernel) (by decide +kernel) hx hb hml hown hts hK hA hP hD hS ⟨ev_tb_in 3 (List.mem_of_getElem? (i := 169) (by decide +kernel)), ev_tb_in 3 (List.mem_of_getElem? (i := 170) (by decide +kernel)), ev_tb_in 3 (List.mem_of_getElem? (i := 171) (by decide +kernel)), ev_tb_in 1 (List.mem_of_getElem? (i := 1) (by decide +kernel))⟩ ⟨by decide +kernel, by decide +kernel, by decide +kernel⟩ hl.1 (by simp) dl_262 ⟨by show cells + 0 ≤ 600000; omega, by show slots + 0 ≤ 7302250; omega⟩ (fun H locs hP hD hS => ?_)
  obtain ⟨env1, hsat1, hall1⟩ := pb_mm_fault (lw_sg xs)
  refine lv_aload_n hx hb dl_265 rfl (lv_at hl 2 rfl) ?_
  refine lw_arg C1 hS hl (k := 1) (by decide) dl_266 dl_267 dl_268 dl_269 dl_270 ?_
  have K1 : ∀ g, g = F0 m 271 ls (.int (xs 1) :: .ref (ρm 0) :: [.int (ev_spc sp_fault (lw_sg xs))]) → W p l e room_1 s m #[Value.ref b] below meth c H locs (cells + 0) (slots + 0) (lw_Z below #[Value.ref b] s) (F0 m 271 ls ((([.inr (.inr (.inr (.inl (0, []))))] : List ev_V).map (ev_cv (lw_sg xs) ρm)).reverse ++ .ref (ρm 0) :: [.int (ev_spc sp_fault (lw_sg xs))])) → W p l e room_1 s m #[Value.ref b] below meth c H locs (cells + 0) (slots + 0) (lw_Z below #[Value.ref b] s) g := by
    intro g hg h
    subst hg
    have es : (([.inr (.inr (.inr (.inl (0, []))))] : List ev_V).map (ev_cv (lw_sg xs) ρm)).reverse = [.int (xs 1)] := by
      rw [show xs 1 = lw_sg xs 0 from sg0.symm]
      rfl
    rw [es] at h
    exact h
  refine K1 _ rfl ?_
  refine lw_pub (x := 76) (m1 := mt_76) (as' := [.inr (.inr (.inr (.inl (0, []))))]) (wr := []) (fs := fm) (ci := 11) rfl hall1 hsat1 (by decide) (by decide) hfm (by decide +kernel) (by decide +kernel) hx hb hml hown hts hK hA (by rw [List.append_nil]; exact hP) (by rw [List.append_nil]; exact hD) hS ⟨ev_tb_in 8 (List.mem_of_getElem? (i := 189) (by decide +kernel)), ev_tb_in 8 (List.mem_of_getElem? (i := 190) (by decide +kernel)), ev_tb_in 8 (List.mem_of_getElem? (i := 191) (by decide +kernel)), ev_tb_in 1 (List.mem_of_getElem? (i := 9) (by decide +kernel))⟩ ⟨by decide +kernel, by decide +kernel, by decide +kernel⟩ hl.1 (by simp [Value.category]) dl_271 ⟨by show cells + 0 + 0 ≤ 600000; omega, by show slots + 0 + 0 ≤ 7302250; omega⟩ (fun H locs hP hD hS => ?_)
  exact lv_icmp_eq (tgt := 719) hx hb dl_274 (by decide) (fun _ => lw_back C1 hS hl (by show cells + 0 + 0 ≤ 600000; omega) (by show slots + 0 + 0 ≤ 7302250; omega)) (fun h => absurd rfl h)
set_option maxHeartbeats 4000000 in
theorem lw_c5 {p : Program} {l : Launch} {e : Env} {s : State} {m : MethodId} {below : List Frame} {meth : Method} {c : Code} {b : Nat} {xs : Nat → Int32} {H : Heap} {locs : List Loc} {ls : Array Slot} {dC : Nat → ClassId} {dI : Nat → Nat → Nat} {ca : Nat → ClassId} {ρx ρm : Nat → Nat} {cells slots : Nat} (C0 : lw_At p s m meth c b 6 xs) (hK : va_K (dC, dI) ev_cl (ev_ty ca) s) (hcl : cells ≤ 1000) (hsl : slots ≤ 1000000) (hj : (xs 0 &&& 31).toNatClampNeg = 5) (hP : va_P (dC, dI) ev_cl (ev_wl (lw_sg xs) ρx ca ev_hxx 50 ++ ev_wl (lw_sg xs) ρm ca ev_hmm 39) H) (hD : va_D (fun q : Nat => s.heap.size ≤ q) (ev_wl (lw_sg xs) ρx ca ev_hxx 50 ++ ev_wl (lw_sg xs) ρm ca ev_hmm 39)) (hS : va_S (fun q : Nat => s.heap.size ≤ q) s.heap H locs) (hl : lv_has ls 4 [(0, .ref b), (1, .ref (ρx 0)), (2, .ref (ρm 0)), (3, .int 0)]) : W p l e room_1 s m #[Value.ref b] below meth c H locs cells slots (lw_Z below #[Value.ref b] s) (F0 m 279 ls []) := by
  have C1 := C0
  obtain ⟨hx, hb, hr, hml, hown, hts, hX, hbl, hlocks, hgv⟩ := C0
  have hA : ∀ q : Nat, s.heap.size ≤ q → (fun q : Nat => s.heap.size ≤ q) q := fun _ h => h
  have sg0 : lw_sg xs 0 = xs 1 := by unfold lw_sg; rw [hj] <;> rfl
  have sg1 : lw_sg xs 1 = lw_z (xs 2) := by unfold lw_sg; rw [hj] <;> rfl
  obtain ⟨fx, hfx⟩ := ev_hxx_0
  obtain ⟨fm, hfm⟩ := ev_hmm_0
  obtain ⟨env0, hsat0, hall0⟩ := pb_xx_input (lw_sg xs) (by rw [sg1]; exact lw_z01 _)
  refine lv_aload_n hx hb dl_279 rfl (lv_at hl 1 rfl) ?_
  refine lw_arg C1 hS hl (k := 1) (by decide) dl_280 dl_281 dl_282 dl_283 dl_284 ?_
  refine lw_argb C1 hS hl (k := 2) (by decide) dl_285 dl_286 dl_287 dl_288 dl_289 dl_290 dl_293 dl_294 dl_297 ?_
  have K0 : ∀ g, g = F0 m 298 ls (.int (lw_z (xs 2)) :: .int (xs 1) :: .ref (ρx 0) :: []) → W p l e room_1 s m #[Value.ref b] below meth c H locs cells slots (lw_Z below #[Value.ref b] s) (F0 m 298 ls ((([.inr (.inr (.inr (.inl (0, [])))), .inr (.inr (.inr (.inl (1, []))))] : List ev_V).map (ev_cv (lw_sg xs) ρx)).reverse ++ .ref (ρx 0) :: [])) → W p l e room_1 s m #[Value.ref b] below meth c H locs cells slots (lw_Z below #[Value.ref b] s) g := by
    intro g hg h
    subst hg
    have es : (([.inr (.inr (.inr (.inl (0, [])))), .inr (.inr (.inr (.inl (1, []))))] : List ev_V).map (ev_cv (lw_sg xs) ρx)).reverse = [.int (lw_z (xs 2)), .int (xs 1)] := by
      rw [show xs 1 = lw_sg xs 0 from sg0.symm, show lw_z (xs 2) = lw_sg xs 1 from sg1.symm]
      rfl
    rw [es] at h
    exact h
  refine K0 _ rfl ?_
  refine lw_pub (x := 77) (m1 := mt_77) (as' := [.inr (.inr (.inr (.inl (0, [])))), .inr (.inr (.inr (.inl (1, []))))]) (wr := ev_wl (lw_sg xs) ρm ca ev_hmm 39) (fs := fx) (ci := 0) rfl hall0 hsat0 (by decide) (by decide) hfx (by decide +kernel) (by decide +kernel) hx hb hml hown hts hK hA hP hD hS ⟨ev_tb_in 3 (List.mem_of_getElem? (i := 173) (by decide +kernel)), ev_tb_in 3 (List.mem_of_getElem? (i := 174) (by decide +kernel)), ev_tb_in 3 (List.mem_of_getElem? (i := 175) (by decide +kernel)), ev_tb_in 1 (List.mem_of_getElem? (i := 1) (by decide +kernel))⟩ ⟨by decide +kernel, by decide +kernel, by decide +kernel⟩ hl.1 (by simp) dl_298 ⟨by show cells + 0 ≤ 600000; omega, by show slots + 0 ≤ 7302250; omega⟩ (fun H locs hP hD hS => ?_)
  obtain ⟨env1, hsat1, hall1⟩ := pb_mm_input (lw_sg xs) (by rw [sg1]; exact lw_z01 _)
  refine lv_aload_n hx hb dl_301 rfl (lv_at hl 2 rfl) ?_
  refine lw_arg C1 hS hl (k := 1) (by decide) dl_302 dl_303 dl_304 dl_305 dl_306 ?_
  refine lw_argb C1 hS hl (k := 2) (by decide) dl_307 dl_308 dl_309 dl_310 dl_311 dl_312 dl_315 dl_316 dl_319 ?_
  have K1 : ∀ g, g = F0 m 320 ls (.int (lw_z (xs 2)) :: .int (xs 1) :: .ref (ρm 0) :: [.int (ev_spc sp_input (lw_sg xs))]) → W p l e room_1 s m #[Value.ref b] below meth c H locs (cells + 0) (slots + 0) (lw_Z below #[Value.ref b] s) (F0 m 320 ls ((([.inr (.inr (.inr (.inl (0, [])))), .inr (.inr (.inr (.inl (1, []))))] : List ev_V).map (ev_cv (lw_sg xs) ρm)).reverse ++ .ref (ρm 0) :: [.int (ev_spc sp_input (lw_sg xs))])) → W p l e room_1 s m #[Value.ref b] below meth c H locs (cells + 0) (slots + 0) (lw_Z below #[Value.ref b] s) g := by
    intro g hg h
    subst hg
    have es : (([.inr (.inr (.inr (.inl (0, [])))), .inr (.inr (.inr (.inl (1, []))))] : List ev_V).map (ev_cv (lw_sg xs) ρm)).reverse = [.int (lw_z (xs 2)), .int (xs 1)] := by
      rw [show xs 1 = lw_sg xs 0 from sg0.symm, show lw_z (xs 2) = lw_sg xs 1 from sg1.symm]
      rfl
    rw [es] at h
    exact h
  refine K1 _ rfl ?_
  refine lw_pub (x := 78) (m1 := mt_78) (as' := [.inr (.inr (.inr (.inl (0, [])))), .inr (.inr (.inr (.inl (1, []))))]) (wr := []) (fs := fm) (ci := 11) rfl hall1 hsat1 (by decide) (by decide) hfm (by decide +kernel) (by decide +kernel) hx hb hml hown hts hK hA (by rw [List.append_nil]; exact hP) (by rw [List.append_nil]; exact hD) hS ⟨ev_tb_in 8 (List.mem_of_getElem? (i := 193) (by decide +kernel)), ev_tb_in 8 (List.mem_of_getElem? (i := 194) (by decide +kernel)), ev_tb_in 8 (List.mem_of_getElem? (i := 195) (by decide +kernel)), ev_tb_in 1 (List.mem_of_getElem? (i := 9) (by decide +kernel))⟩ ⟨by decide +kernel, by decide +kernel, by decide +kernel⟩ hl.1 (by simp [Value.category]) dl_320 ⟨by show cells + 0 + 0 ≤ 600000; omega, by show slots + 0 + 0 ≤ 7302250; omega⟩ (fun H locs hP hD hS => ?_)
  exact lv_icmp_eq (tgt := 719) hx hb dl_323 (by decide) (fun _ => lw_back C1 hS hl (by show cells + 0 + 0 ≤ 600000; omega) (by show slots + 0 + 0 ≤ 7302250; omega)) (fun h => absurd rfl h)
set_option maxHeartbeats 4000000 in
theorem lw_c6 {p : Program} {l : Launch} {e : Env} {s : State} {m : MethodId} {below : List Frame} {meth : Method} {c : Code} {b : Nat} {xs : Nat → Int32} {H : Heap} {locs : List Loc} {ls : Array Slot} {dC : Nat → ClassId} {dI : Nat → Nat → Nat} {ca : Nat → ClassId} {ρx ρm : Nat → Nat} {cells slots : Nat} (C0 : lw_At p s m meth c b 6 xs) (hK : va_K (dC, dI) ev_cl (ev_ty ca) s) (hcl : cells ≤ 1000) (hsl : slots ≤ 1000000) (hj : (xs 0 &&& 31).toNatClampNeg = 6) (hP : va_P (dC, dI) ev_cl (ev_wl (lw_sg xs) ρx ca ev_hxx 50 ++ ev_wl (lw_sg xs) ρm ca ev_hmm 39) H) (hD : va_D (fun q : Nat => s.heap.size ≤ q) (ev_wl (lw_sg xs) ρx ca ev_hxx 50 ++ ev_wl (lw_sg xs) ρm ca ev_hmm 39)) (hS : va_S (fun q : Nat => s.heap.size ≤ q) s.heap H locs) (hl : lv_has ls 4 [(0, .ref b), (1, .ref (ρx 0)), (2, .ref (ρm 0)), (3, .int 0)]) : W p l e room_1 s m #[Value.ref b] below meth c H locs cells slots (lw_Z below #[Value.ref b] s) (F0 m 328 ls []) := by
  have C1 := C0
  obtain ⟨hx, hb, hr, hml, hown, hts, hX, hbl, hlocks, hgv⟩ := C0
  have hA : ∀ q : Nat, s.heap.size ≤ q → (fun q : Nat => s.heap.size ≤ q) q := fun _ h => h
  obtain ⟨fx, hfx⟩ := ev_hxx_0
  obtain ⟨fm, hfm⟩ := ev_hmm_0
  obtain ⟨env0, hsat0, hall0⟩ := pb_xx_allocate (lw_sg xs)
  refine lv_aload_n hx hb dl_328 rfl (lv_at hl 1 rfl) ?_
  have K0 : ∀ g, g = F0 m 329 ls (.ref (ρx 0) :: []) → W p l e room_1 s m #[Value.ref b] below meth c H locs cells slots (lw_Z below #[Value.ref b] s) (F0 m 329 ls ((([] : List ev_V).map (ev_cv (lw_sg xs) ρx)).reverse ++ .ref (ρx 0) :: [])) → W p l e room_1 s m #[Value.ref b] below meth c H locs cells slots (lw_Z below #[Value.ref b] s) g := by
    intro g hg h
    subst hg
    have es : (([] : List ev_V).map (ev_cv (lw_sg xs) ρx)).reverse = [] := by
      rfl
    rw [es] at h
    exact h
  refine K0 _ rfl ?_
  refine lw_pub (x := 79) (m1 := mt_79) (as' := []) (wr := ev_wl (lw_sg xs) ρm ca ev_hmm 39) (fs := fx) (ci := 0) rfl hall0 hsat0 (by decide) (by decide) hfx (by decide +kernel) (by decide +kernel) hx hb hml hown hts hK hA hP hD hS ⟨ev_tb_in 3 (List.mem_of_getElem? (i := 177) (by decide +kernel)), ev_tb_in 3 (List.mem_of_getElem? (i := 178) (by decide +kernel)), ev_tb_in 3 (List.mem_of_getElem? (i := 179) (by decide +kernel)), ev_tb_in 1 (List.mem_of_getElem? (i := 1) (by decide +kernel))⟩ ⟨by decide +kernel, by decide +kernel, by decide +kernel⟩ hl.1 (by simp) dl_329 ⟨by show cells + 43 ≤ 600000; omega, by show slots + 10700 ≤ 7302250; omega⟩ (fun H locs hP hD hS => ?_)
  obtain ⟨env1, hsat1, hall1⟩ := pb_mm_allocate (lw_sg xs)
  refine lv_aload_n hx hb dl_332 rfl (lv_at hl 2 rfl) ?_
  have K1 : ∀ g, g = F0 m 333 ls (.ref (ρm 0) :: [.int (ev_spc sp_allocate (lw_sg xs))]) → W p l e room_1 s m #[Value.ref b] below meth c H locs (cells + 43) (slots + 10700) (lw_Z below #[Value.ref b] s) (F0 m 333 ls ((([] : List ev_V).map (ev_cv (lw_sg xs) ρm)).reverse ++ .ref (ρm 0) :: [.int (ev_spc sp_allocate (lw_sg xs))])) → W p l e room_1 s m #[Value.ref b] below meth c H locs (cells + 43) (slots + 10700) (lw_Z below #[Value.ref b] s) g := by
    intro g hg h
    subst hg
    have es : (([] : List ev_V).map (ev_cv (lw_sg xs) ρm)).reverse = [] := by
      rfl
    rw [es] at h
    exact h
  refine K1 _ rfl ?_
  refine lw_pub (x := 94) (m1 := mt_94) (as' := []) (wr := []) (fs := fm) (ci := 11) rfl hall1 hsat1 (by decide) (by decide) hfm (by decide +kernel) (by decide +kernel) hx hb hml hown hts hK hA (by rw [List.append_nil]; exact hP) (by rw [List.append_nil]; exact hD) hS ⟨ev_tb_in 7 (List.mem_of_getElem? (i := 108) (by decide +kernel)), ev_tb_in 7 (List.mem_of_getElem? (i := 109) (by decide +kernel)), ev_tb_in 7 (List.mem_of_getElem? (i := 110) (by decide +kernel)), ev_tb_in 1 (List.mem_of_getElem? (i := 9) (by decide +kernel))⟩ ⟨by decide +kernel, by decide +kernel, by decide +kernel⟩ hl.1 (by simp [Value.category]) dl_333 ⟨by show cells + 43 + 0 ≤ 600000; omega, by show slots + 10700 + 0 ≤ 7302250; omega⟩ (fun H locs hP hD hS => ?_)
  exact lv_icmp_eq (tgt := 719) hx hb dl_336 (by decide) (fun _ => lw_back C1 hS hl (by show cells + 43 + 0 ≤ 600000; omega) (by show slots + 10700 + 0 ≤ 7302250; omega)) (fun h => absurd rfl h)
set_option maxHeartbeats 4000000 in
theorem lw_c7 {p : Program} {l : Launch} {e : Env} {s : State} {m : MethodId} {below : List Frame} {meth : Method} {c : Code} {b : Nat} {xs : Nat → Int32} {H : Heap} {locs : List Loc} {ls : Array Slot} {dC : Nat → ClassId} {dI : Nat → Nat → Nat} {ca : Nat → ClassId} {ρx ρm : Nat → Nat} {cells slots : Nat} (C0 : lw_At p s m meth c b 6 xs) (hK : va_K (dC, dI) ev_cl (ev_ty ca) s) (hcl : cells ≤ 1000) (hsl : slots ≤ 1000000) (hj : (xs 0 &&& 31).toNatClampNeg = 7) (hP : va_P (dC, dI) ev_cl (ev_wl (lw_sg xs) ρx ca ev_hxx 50 ++ ev_wl (lw_sg xs) ρm ca ev_hmm 39) H) (hD : va_D (fun q : Nat => s.heap.size ≤ q) (ev_wl (lw_sg xs) ρx ca ev_hxx 50 ++ ev_wl (lw_sg xs) ρm ca ev_hmm 39)) (hS : va_S (fun q : Nat => s.heap.size ≤ q) s.heap H locs) (hl : lv_has ls 4 [(0, .ref b), (1, .ref (ρx 0)), (2, .ref (ρm 0)), (3, .int 0)]) : W p l e room_1 s m #[Value.ref b] below meth c H locs cells slots (lw_Z below #[Value.ref b] s) (F0 m 341 ls []) := by
  have C1 := C0
  obtain ⟨hx, hb, hr, hml, hown, hts, hX, hbl, hlocks, hgv⟩ := C0
  have hA : ∀ q : Nat, s.heap.size ≤ q → (fun q : Nat => s.heap.size ≤ q) q := fun _ h => h
  have sg0 : lw_sg xs 0 = xs 1 := by unfold lw_sg; rw [hj] <;> rfl
  have sg1 : lw_sg xs 1 = lw_z (xs 2) := by unfold lw_sg; rw [hj] <;> rfl
  have sg2 : lw_sg xs 2 = xs 3 := by unfold lw_sg; rw [hj] <;> rfl
  obtain ⟨fx, hfx⟩ := ev_hxx_0
  obtain ⟨fm, hfm⟩ := ev_hmm_0
  obtain ⟨env0, hsat0, hall0⟩ := pb_xx_step (lw_sg xs) (by rw [sg1]; exact lw_z01 _)
  refine lv_aload_n hx hb dl_341 rfl (lv_at hl 1 rfl) ?_
  refine lw_arg C1 hS hl (k := 1) (by decide) dl_342 dl_343 dl_344 dl_345 dl_346 ?_
  refine lw_argb C1 hS hl (k := 2) (by decide) dl_347 dl_348 dl_349 dl_350 dl_351 dl_352 dl_355 dl_356 dl_359 ?_
  refine lw_arg C1 hS hl (k := 3) (by decide) dl_360 dl_361 dl_362 dl_363 dl_364 ?_
  have K0 : ∀ g, g = F0 m 365 ls (.int (xs 3) :: .int (lw_z (xs 2)) :: .int (xs 1) :: .ref (ρx 0) :: []) → W p l e room_1 s m #[Value.ref b] below meth c H locs cells slots (lw_Z below #[Value.ref b] s) (F0 m 365 ls ((([.inr (.inr (.inr (.inl (0, [])))), .inr (.inr (.inr (.inl (1, [])))), .inr (.inr (.inr (.inl (2, []))))] : List ev_V).map (ev_cv (lw_sg xs) ρx)).reverse ++ .ref (ρx 0) :: [])) → W p l e room_1 s m #[Value.ref b] below meth c H locs cells slots (lw_Z below #[Value.ref b] s) g := by
    intro g hg h
    subst hg
    have es : (([.inr (.inr (.inr (.inl (0, [])))), .inr (.inr (.inr (.inl (1, [])))), .inr (.inr (.inr (.inl (2, []))))] : List ev_V).map (ev_cv (lw_sg xs) ρx)).reverse = [.int (xs 3), .int (lw_z (xs 2)), .int (xs 1)] := by
      rw [show xs 1 = lw_sg xs 0 from sg0.symm, show lw_z (xs 2) = lw_sg xs 1 from sg1.symm, show xs 3 = lw_sg xs 2 from sg2.symm]
      rfl
    rw [es] at h
    exact h
  refine K0 _ rfl ?_
  refine lw_pub (x := 101) (m1 := mt_101) (as' := [.inr (.inr (.inr (.inl (0, [])))), .inr (.inr (.inr (.inl (1, [])))), .inr (.inr (.inr (.inl (2, []))))]) (wr := ev_wl (lw_sg xs) ρm ca ev_hmm 39) (fs := fx) (ci := 0) rfl hall0 hsat0 (by decide) (by decide) hfx (by decide +kernel) (by decide +kernel) hx hb hml hown hts hK hA hP hD hS ⟨ev_tb_in 5 (List.mem_of_getElem? (i := 85) (by decide +kernel)), ev_tb_in 5 (List.mem_of_getElem? (i := 86) (by decide +kernel)), ev_tb_in 5 (List.mem_of_getElem? (i := 87) (by decide +kernel)), ev_tb_in 1 (List.mem_of_getElem? (i := 1) (by decide +kernel))⟩ ⟨by decide +kernel, by decide +kernel, by decide +kernel⟩ hl.1 (by simp) dl_365 ⟨by show cells + 0 ≤ 600000; omega, by show slots + 0 ≤ 7302250; omega⟩ (fun H locs hP hD hS => ?_)
  obtain ⟨env1, hsat1, hall1⟩ := pb_mm_step (lw_sg xs) (by rw [sg1]; exact lw_z01 _)
  refine lv_aload_n hx hb dl_368 rfl (lv_at hl 2 rfl) ?_
  refine lw_arg C1 hS hl (k := 1) (by decide) dl_369 dl_370 dl_371 dl_372 dl_373 ?_
  refine lw_argb C1 hS hl (k := 2) (by decide) dl_374 dl_375 dl_376 dl_377 dl_378 dl_379 dl_382 dl_383 dl_386 ?_
  refine lw_arg C1 hS hl (k := 3) (by decide) dl_387 dl_388 dl_389 dl_390 dl_391 ?_
  have K1 : ∀ g, g = F0 m 392 ls (.int (xs 3) :: .int (lw_z (xs 2)) :: .int (xs 1) :: .ref (ρm 0) :: [.int (ev_spc sp_step (lw_sg xs))]) → W p l e room_1 s m #[Value.ref b] below meth c H locs (cells + 0) (slots + 0) (lw_Z below #[Value.ref b] s) (F0 m 392 ls ((([.inr (.inr (.inr (.inl (0, [])))), .inr (.inr (.inr (.inl (1, [])))), .inr (.inr (.inr (.inl (2, []))))] : List ev_V).map (ev_cv (lw_sg xs) ρm)).reverse ++ .ref (ρm 0) :: [.int (ev_spc sp_step (lw_sg xs))])) → W p l e room_1 s m #[Value.ref b] below meth c H locs (cells + 0) (slots + 0) (lw_Z below #[Value.ref b] s) g := by
    intro g hg h
    subst hg
    have es : (([.inr (.inr (.inr (.inl (0, [])))), .inr (.inr (.inr (.inl (1, [])))), .inr (.inr (.inr (.inl (2, []))))] : List ev_V).map (ev_cv (lw_sg xs) ρm)).reverse = [.int (xs 3), .int (lw_z (xs 2)), .int (xs 1)] := by
      rw [show xs 1 = lw_sg xs 0 from sg0.symm, show lw_z (xs 2) = lw_sg xs 1 from sg1.symm, show xs 3 = lw_sg xs 2 from sg2.symm]
      rfl
    rw [es] at h
    exact h
  refine K1 _ rfl ?_
  refine lw_pub (x := 102) (m1 := mt_102) (as' := [.inr (.inr (.inr (.inl (0, [])))), .inr (.inr (.inr (.inl (1, [])))), .inr (.inr (.inr (.inl (2, []))))]) (wr := []) (fs := fm) (ci := 11) rfl hall1 hsat1 (by decide) (by decide) hfm (by decide +kernel) (by decide +kernel) hx hb hml hown hts hK hA (by rw [List.append_nil]; exact hP) (by rw [List.append_nil]; exact hD) hS ⟨ev_tb_in 9 (List.mem_of_getElem? (i := 16) (by decide +kernel)), ev_tb_in 9 (List.mem_of_getElem? (i := 17) (by decide +kernel)), ev_tb_in 9 (List.mem_of_getElem? (i := 18) (by decide +kernel)), ev_tb_in 1 (List.mem_of_getElem? (i := 9) (by decide +kernel))⟩ ⟨by decide +kernel, by decide +kernel, by decide +kernel⟩ hl.1 (by simp [Value.category]) dl_392 ⟨by show cells + 0 + 0 ≤ 600000; omega, by show slots + 0 + 0 ≤ 7302250; omega⟩ (fun H locs hP hD hS => ?_)
  exact lv_icmp_eq (tgt := 719) hx hb dl_395 (by decide) (fun _ => lw_back C1 hS hl (by show cells + 0 + 0 ≤ 600000; omega) (by show slots + 0 + 0 ≤ 7302250; omega)) (fun h => absurd rfl h)
set_option maxHeartbeats 4000000 in
theorem lw_c8 {p : Program} {l : Launch} {e : Env} {s : State} {m : MethodId} {below : List Frame} {meth : Method} {c : Code} {b : Nat} {xs : Nat → Int32} {H : Heap} {locs : List Loc} {ls : Array Slot} {dC : Nat → ClassId} {dI : Nat → Nat → Nat} {ca : Nat → ClassId} {ρx ρm : Nat → Nat} {cells slots : Nat} (C0 : lw_At p s m meth c b 6 xs) (hK : va_K (dC, dI) ev_cl (ev_ty ca) s) (hcl : cells ≤ 1000) (hsl : slots ≤ 1000000) (hj : (xs 0 &&& 31).toNatClampNeg = 8) (hP : va_P (dC, dI) ev_cl (ev_wl (lw_sg xs) ρx ca ev_hxx 50 ++ ev_wl (lw_sg xs) ρm ca ev_hmm 39) H) (hD : va_D (fun q : Nat => s.heap.size ≤ q) (ev_wl (lw_sg xs) ρx ca ev_hxx 50 ++ ev_wl (lw_sg xs) ρm ca ev_hmm 39)) (hS : va_S (fun q : Nat => s.heap.size ≤ q) s.heap H locs) (hl : lv_has ls 4 [(0, .ref b), (1, .ref (ρx 0)), (2, .ref (ρm 0)), (3, .int 0)]) : W p l e room_1 s m #[Value.ref b] below meth c H locs cells slots (lw_Z below #[Value.ref b] s) (F0 m 400 ls []) := by
  have C1 := C0
  obtain ⟨hx, hb, hr, hml, hown, hts, hX, hbl, hlocks, hgv⟩ := C0
  have hA : ∀ q : Nat, s.heap.size ≤ q → (fun q : Nat => s.heap.size ≤ q) q := fun _ h => h
  have sg0 : lw_sg xs 0 = xs 1 := by unfold lw_sg; rw [hj] <;> rfl
  have sg1 : lw_sg xs 1 = xs 2 := by unfold lw_sg; rw [hj] <;> rfl
  obtain ⟨fx, hfx⟩ := ev_hxx_0
  obtain ⟨fm, hfm⟩ := ev_hmm_0
  obtain ⟨env0, hsat0, hall0⟩ := pb_xx_live (lw_sg xs)
  refine lv_aload_n hx hb dl_400 rfl (lv_at hl 1 rfl) ?_
  refine lw_arg C1 hS hl (k := 1) (by decide) dl_401 dl_402 dl_403 dl_404 dl_405 ?_
  refine lw_arg C1 hS hl (k := 2) (by decide) dl_406 dl_407 dl_408 dl_409 dl_410 ?_
  have K0 : ∀ g, g = F0 m 411 ls (.int (xs 2) :: .int (xs 1) :: .ref (ρx 0) :: []) → W p l e room_1 s m #[Value.ref b] below meth c H locs cells slots (lw_Z below #[Value.ref b] s) (F0 m 411 ls ((([.inr (.inr (.inr (.inl (0, [])))), .inr (.inr (.inr (.inl (1, []))))] : List ev_V).map (ev_cv (lw_sg xs) ρx)).reverse ++ .ref (ρx 0) :: [])) → W p l e room_1 s m #[Value.ref b] below meth c H locs cells slots (lw_Z below #[Value.ref b] s) g := by
    intro g hg h
    subst hg
    have es : (([.inr (.inr (.inr (.inl (0, [])))), .inr (.inr (.inr (.inl (1, []))))] : List ev_V).map (ev_cv (lw_sg xs) ρx)).reverse = [.int (xs 2), .int (xs 1)] := by
      rw [show xs 1 = lw_sg xs 0 from sg0.symm, show xs 2 = lw_sg xs 1 from sg1.symm]
      rfl
    rw [es] at h
    exact h
  refine K0 _ rfl ?_
  refine lw_pub (x := 103) (m1 := mt_103) (as' := [.inr (.inr (.inr (.inl (0, [])))), .inr (.inr (.inr (.inl (1, []))))]) (wr := ev_wl (lw_sg xs) ρm ca ev_hmm 39) (fs := fx) (ci := 0) rfl hall0 hsat0 (by decide) (by decide) hfx (by decide +kernel) (by decide +kernel) hx hb hml hown hts hK hA hP hD hS ⟨ev_tb_in 5 (List.mem_of_getElem? (i := 98) (by decide +kernel)), ev_tb_in 5 (List.mem_of_getElem? (i := 99) (by decide +kernel)), ev_tb_in 5 (List.mem_of_getElem? (i := 100) (by decide +kernel)), ev_tb_in 1 (List.mem_of_getElem? (i := 1) (by decide +kernel))⟩ ⟨by decide +kernel, by decide +kernel, by decide +kernel⟩ hl.1 (by simp) dl_411 ⟨by show cells + 0 ≤ 600000; omega, by show slots + 0 ≤ 7302250; omega⟩ (fun H locs hP hD hS => ?_)
  obtain ⟨env1, hsat1, hall1⟩ := pb_mm_live (lw_sg xs)
  refine lv_aload_n hx hb dl_414 rfl (lv_at hl 2 rfl) ?_
  refine lw_arg C1 hS hl (k := 1) (by decide) dl_415 dl_416 dl_417 dl_418 dl_419 ?_
  refine lw_arg C1 hS hl (k := 2) (by decide) dl_420 dl_421 dl_422 dl_423 dl_424 ?_
  have K1 : ∀ g, g = F0 m 425 ls (.int (xs 2) :: .int (xs 1) :: .ref (ρm 0) :: [.int (ev_spc sp_live (lw_sg xs))]) → W p l e room_1 s m #[Value.ref b] below meth c H locs (cells + 0) (slots + 0) (lw_Z below #[Value.ref b] s) (F0 m 425 ls ((([.inr (.inr (.inr (.inl (0, [])))), .inr (.inr (.inr (.inl (1, []))))] : List ev_V).map (ev_cv (lw_sg xs) ρm)).reverse ++ .ref (ρm 0) :: [.int (ev_spc sp_live (lw_sg xs))])) → W p l e room_1 s m #[Value.ref b] below meth c H locs (cells + 0) (slots + 0) (lw_Z below #[Value.ref b] s) g := by
    intro g hg h
    subst hg
    have es : (([.inr (.inr (.inr (.inl (0, [])))), .inr (.inr (.inr (.inl (1, []))))] : List ev_V).map (ev_cv (lw_sg xs) ρm)).reverse = [.int (xs 2), .int (xs 1)] := by
      rw [show xs 1 = lw_sg xs 0 from sg0.symm, show xs 2 = lw_sg xs 1 from sg1.symm]
      rfl
    rw [es] at h
    exact h
  refine K1 _ rfl ?_
  refine lw_pub (x := 104) (m1 := mt_104) (as' := [.inr (.inr (.inr (.inl (0, [])))), .inr (.inr (.inr (.inl (1, []))))]) (wr := []) (fs := fm) (ci := 11) rfl hall1 hsat1 (by decide) (by decide) hfm (by decide +kernel) (by decide +kernel) hx hb hml hown hts hK hA (by rw [List.append_nil]; exact hP) (by rw [List.append_nil]; exact hD) hS ⟨ev_tb_in 9 (List.mem_of_getElem? (i := 20) (by decide +kernel)), ev_tb_in 9 (List.mem_of_getElem? (i := 21) (by decide +kernel)), ev_tb_in 9 (List.mem_of_getElem? (i := 22) (by decide +kernel)), ev_tb_in 1 (List.mem_of_getElem? (i := 9) (by decide +kernel))⟩ ⟨by decide +kernel, by decide +kernel, by decide +kernel⟩ hl.1 (by simp [Value.category]) dl_425 ⟨by show cells + 0 + 0 ≤ 600000; omega, by show slots + 0 + 0 ≤ 7302250; omega⟩ (fun H locs hP hD hS => ?_)
  exact lv_icmp_eq (tgt := 719) hx hb dl_428 (by decide) (fun _ => lw_back C1 hS hl (by show cells + 0 + 0 ≤ 600000; omega) (by show slots + 0 + 0 ≤ 7302250; omega)) (fun h => absurd rfl h)
set_option maxHeartbeats 4000000 in
theorem lw_c9 {p : Program} {l : Launch} {e : Env} {s : State} {m : MethodId} {below : List Frame} {meth : Method} {c : Code} {b : Nat} {xs : Nat → Int32} {H : Heap} {locs : List Loc} {ls : Array Slot} {dC : Nat → ClassId} {dI : Nat → Nat → Nat} {ca : Nat → ClassId} {ρx ρm : Nat → Nat} {cells slots : Nat} (C0 : lw_At p s m meth c b 6 xs) (hK : va_K (dC, dI) ev_cl (ev_ty ca) s) (hcl : cells ≤ 1000) (hsl : slots ≤ 1000000) (hj : (xs 0 &&& 31).toNatClampNeg = 9) (hP : va_P (dC, dI) ev_cl (ev_wl (lw_sg xs) ρx ca ev_hxx 50 ++ ev_wl (lw_sg xs) ρm ca ev_hmm 39) H) (hD : va_D (fun q : Nat => s.heap.size ≤ q) (ev_wl (lw_sg xs) ρx ca ev_hxx 50 ++ ev_wl (lw_sg xs) ρm ca ev_hmm 39)) (hS : va_S (fun q : Nat => s.heap.size ≤ q) s.heap H locs) (hl : lv_has ls 4 [(0, .ref b), (1, .ref (ρx 0)), (2, .ref (ρm 0)), (3, .int 0)]) : W p l e room_1 s m #[Value.ref b] below meth c H locs cells slots (lw_Z below #[Value.ref b] s) (F0 m 433 ls []) := by
  have C1 := C0
  obtain ⟨hx, hb, hr, hml, hown, hts, hX, hbl, hlocks, hgv⟩ := C0
  have hA : ∀ q : Nat, s.heap.size ≤ q → (fun q : Nat => s.heap.size ≤ q) q := fun _ h => h
  have sg0 : lw_sg xs 0 = xs 1 := by unfold lw_sg; rw [hj] <;> rfl
  have sg1 : lw_sg xs 1 = xs 2 := by unfold lw_sg; rw [hj] <;> rfl
  obtain ⟨fx, hfx⟩ := ev_hxx_0
  obtain ⟨fm, hfm⟩ := ev_hmm_0
  obtain ⟨env0, hsat0, hall0⟩ := pb_xx_value (lw_sg xs)
  refine lv_aload_n hx hb dl_433 rfl (lv_at hl 1 rfl) ?_
  refine lw_arg C1 hS hl (k := 1) (by decide) dl_434 dl_435 dl_436 dl_437 dl_438 ?_
  refine lw_arg C1 hS hl (k := 2) (by decide) dl_439 dl_440 dl_441 dl_442 dl_443 ?_
  have K0 : ∀ g, g = F0 m 444 ls (.int (xs 2) :: .int (xs 1) :: .ref (ρx 0) :: []) → W p l e room_1 s m #[Value.ref b] below meth c H locs cells slots (lw_Z below #[Value.ref b] s) (F0 m 444 ls ((([.inr (.inr (.inr (.inl (0, [])))), .inr (.inr (.inr (.inl (1, []))))] : List ev_V).map (ev_cv (lw_sg xs) ρx)).reverse ++ .ref (ρx 0) :: [])) → W p l e room_1 s m #[Value.ref b] below meth c H locs cells slots (lw_Z below #[Value.ref b] s) g := by
    intro g hg h
    subst hg
    have es : (([.inr (.inr (.inr (.inl (0, [])))), .inr (.inr (.inr (.inl (1, []))))] : List ev_V).map (ev_cv (lw_sg xs) ρx)).reverse = [.int (xs 2), .int (xs 1)] := by
      rw [show xs 1 = lw_sg xs 0 from sg0.symm, show xs 2 = lw_sg xs 1 from sg1.symm]
      rfl
    rw [es] at h
    exact h
  refine K0 _ rfl ?_
  refine lw_pub (x := 105) (m1 := mt_105) (as' := [.inr (.inr (.inr (.inl (0, [])))), .inr (.inr (.inr (.inl (1, []))))]) (wr := ev_wl (lw_sg xs) ρm ca ev_hmm 39) (fs := fx) (ci := 0) rfl hall0 hsat0 (by decide) (by decide) hfx (by decide +kernel) (by decide +kernel) hx hb hml hown hts hK hA hP hD hS ⟨ev_tb_in 5 (List.mem_of_getElem? (i := 113) (by decide +kernel)), ev_tb_in 5 (List.mem_of_getElem? (i := 114) (by decide +kernel)), ev_tb_in 5 (List.mem_of_getElem? (i := 115) (by decide +kernel)), ev_tb_in 1 (List.mem_of_getElem? (i := 1) (by decide +kernel))⟩ ⟨by decide +kernel, by decide +kernel, by decide +kernel⟩ hl.1 (by simp) dl_444 ⟨by show cells + 0 ≤ 600000; omega, by show slots + 0 ≤ 7302250; omega⟩ (fun H locs hP hD hS => ?_)
  obtain ⟨env1, hsat1, hall1⟩ := pb_mm_value (lw_sg xs)
  refine lv_aload_n hx hb dl_447 rfl (lv_at hl 2 rfl) ?_
  refine lw_arg C1 hS hl (k := 1) (by decide) dl_448 dl_449 dl_450 dl_451 dl_452 ?_
  refine lw_arg C1 hS hl (k := 2) (by decide) dl_453 dl_454 dl_455 dl_456 dl_457 ?_
  have K1 : ∀ g, g = F0 m 458 ls (.int (xs 2) :: .int (xs 1) :: .ref (ρm 0) :: [.int (ev_spc sp_value (lw_sg xs))]) → W p l e room_1 s m #[Value.ref b] below meth c H locs (cells + 0) (slots + 0) (lw_Z below #[Value.ref b] s) (F0 m 458 ls ((([.inr (.inr (.inr (.inl (0, [])))), .inr (.inr (.inr (.inl (1, []))))] : List ev_V).map (ev_cv (lw_sg xs) ρm)).reverse ++ .ref (ρm 0) :: [.int (ev_spc sp_value (lw_sg xs))])) → W p l e room_1 s m #[Value.ref b] below meth c H locs (cells + 0) (slots + 0) (lw_Z below #[Value.ref b] s) g := by
    intro g hg h
    subst hg
    have es : (([.inr (.inr (.inr (.inl (0, [])))), .inr (.inr (.inr (.inl (1, []))))] : List ev_V).map (ev_cv (lw_sg xs) ρm)).reverse = [.int (xs 2), .int (xs 1)] := by
      rw [show xs 1 = lw_sg xs 0 from sg0.symm, show xs 2 = lw_sg xs 1 from sg1.symm]
      rfl
    rw [es] at h
    exact h
  refine K1 _ rfl ?_
  refine lw_pub (x := 106) (m1 := mt_106) (as' := [.inr (.inr (.inr (.inl (0, [])))), .inr (.inr (.inr (.inl (1, []))))]) (wr := []) (fs := fm) (ci := 11) rfl hall1 hsat1 (by decide) (by decide) hfm (by decide +kernel) (by decide +kernel) hx hb hml hown hts hK hA (by rw [List.append_nil]; exact hP) (by rw [List.append_nil]; exact hD) hS ⟨ev_tb_in 9 (List.mem_of_getElem? (i := 28) (by decide +kernel)), ev_tb_in 9 (List.mem_of_getElem? (i := 29) (by decide +kernel)), ev_tb_in 9 (List.mem_of_getElem? (i := 30) (by decide +kernel)), ev_tb_in 1 (List.mem_of_getElem? (i := 9) (by decide +kernel))⟩ ⟨by decide +kernel, by decide +kernel, by decide +kernel⟩ hl.1 (by simp [Value.category]) dl_458 ⟨by show cells + 0 + 0 ≤ 600000; omega, by show slots + 0 + 0 ≤ 7302250; omega⟩ (fun H locs hP hD hS => ?_)
  exact lv_icmp_eq (tgt := 719) hx hb dl_461 (by decide) (fun _ => lw_back C1 hS hl (by show cells + 0 + 0 ≤ 600000; omega) (by show slots + 0 + 0 ≤ 7302250; omega)) (fun h => absurd rfl h)
set_option maxHeartbeats 4000000 in
theorem lw_c10 {p : Program} {l : Launch} {e : Env} {s : State} {m : MethodId} {below : List Frame} {meth : Method} {c : Code} {b : Nat} {xs : Nat → Int32} {H : Heap} {locs : List Loc} {ls : Array Slot} {dC : Nat → ClassId} {dI : Nat → Nat → Nat} {ca : Nat → ClassId} {ρx ρm : Nat → Nat} {cells slots : Nat} (C0 : lw_At p s m meth c b 6 xs) (hK : va_K (dC, dI) ev_cl (ev_ty ca) s) (hcl : cells ≤ 1000) (hsl : slots ≤ 1000000) (hj : (xs 0 &&& 31).toNatClampNeg = 10) (hP : va_P (dC, dI) ev_cl (ev_wl (lw_sg xs) ρx ca ev_hxx 50 ++ ev_wl (lw_sg xs) ρm ca ev_hmm 39) H) (hD : va_D (fun q : Nat => s.heap.size ≤ q) (ev_wl (lw_sg xs) ρx ca ev_hxx 50 ++ ev_wl (lw_sg xs) ρm ca ev_hmm 39)) (hS : va_S (fun q : Nat => s.heap.size ≤ q) s.heap H locs) (hl : lv_has ls 4 [(0, .ref b), (1, .ref (ρx 0)), (2, .ref (ρm 0)), (3, .int 0)]) : W p l e room_1 s m #[Value.ref b] below meth c H locs cells slots (lw_Z below #[Value.ref b] s) (F0 m 466 ls []) := by
  have C1 := C0
  obtain ⟨hx, hb, hr, hml, hown, hts, hX, hbl, hlocks, hgv⟩ := C0
  have hA : ∀ q : Nat, s.heap.size ≤ q → (fun q : Nat => s.heap.size ≤ q) q := fun _ h => h
  have sg0 : lw_sg xs 0 = xs 1 := by unfold lw_sg; rw [hj] <;> rfl
  have sg1 : lw_sg xs 1 = xs 2 := by unfold lw_sg; rw [hj] <;> rfl
  obtain ⟨fx, hfx⟩ := ev_hxx_0
  obtain ⟨fm, hfm⟩ := ev_hmm_0
  obtain ⟨env0, hsat0, hall0⟩ := pb_xx_edge (lw_sg xs)
  refine lv_aload_n hx hb dl_466 rfl (lv_at hl 1 rfl) ?_
  refine lw_arg C1 hS hl (k := 1) (by decide) dl_467 dl_468 dl_469 dl_470 dl_471 ?_
  refine lw_arg C1 hS hl (k := 2) (by decide) dl_472 dl_473 dl_474 dl_475 dl_476 ?_
  have K0 : ∀ g, g = F0 m 477 ls (.int (xs 2) :: .int (xs 1) :: .ref (ρx 0) :: []) → W p l e room_1 s m #[Value.ref b] below meth c H locs cells slots (lw_Z below #[Value.ref b] s) (F0 m 477 ls ((([.inr (.inr (.inr (.inl (0, [])))), .inr (.inr (.inr (.inl (1, []))))] : List ev_V).map (ev_cv (lw_sg xs) ρx)).reverse ++ .ref (ρx 0) :: [])) → W p l e room_1 s m #[Value.ref b] below meth c H locs cells slots (lw_Z below #[Value.ref b] s) g := by
    intro g hg h
    subst hg
    have es : (([.inr (.inr (.inr (.inl (0, [])))), .inr (.inr (.inr (.inl (1, []))))] : List ev_V).map (ev_cv (lw_sg xs) ρx)).reverse = [.int (xs 2), .int (xs 1)] := by
      rw [show xs 1 = lw_sg xs 0 from sg0.symm, show xs 2 = lw_sg xs 1 from sg1.symm]
      rfl
    rw [es] at h
    exact h
  refine K0 _ rfl ?_
  refine lw_pub (x := 107) (m1 := mt_107) (as' := [.inr (.inr (.inr (.inl (0, [])))), .inr (.inr (.inr (.inl (1, []))))]) (wr := ev_wl (lw_sg xs) ρm ca ev_hmm 39) (fs := fx) (ci := 0) rfl hall0 hsat0 (by decide) (by decide) hfx (by decide +kernel) (by decide +kernel) hx hb hml hown hts hK hA hP hD hS ⟨ev_tb_in 5 (List.mem_of_getElem? (i := 121) (by decide +kernel)), ev_tb_in 5 (List.mem_of_getElem? (i := 122) (by decide +kernel)), ev_tb_in 5 (List.mem_of_getElem? (i := 123) (by decide +kernel)), ev_tb_in 1 (List.mem_of_getElem? (i := 1) (by decide +kernel))⟩ ⟨by decide +kernel, by decide +kernel, by decide +kernel⟩ hl.1 (by simp) dl_477 ⟨by show cells + 0 ≤ 600000; omega, by show slots + 0 ≤ 7302250; omega⟩ (fun H locs hP hD hS => ?_)
  obtain ⟨env1, hsat1, hall1⟩ := pb_mm_edge (lw_sg xs)
  refine lv_aload_n hx hb dl_480 rfl (lv_at hl 2 rfl) ?_
  refine lw_arg C1 hS hl (k := 1) (by decide) dl_481 dl_482 dl_483 dl_484 dl_485 ?_
  refine lw_arg C1 hS hl (k := 2) (by decide) dl_486 dl_487 dl_488 dl_489 dl_490 ?_
  have K1 : ∀ g, g = F0 m 491 ls (.int (xs 2) :: .int (xs 1) :: .ref (ρm 0) :: [.int (ev_spc sp_edge (lw_sg xs))]) → W p l e room_1 s m #[Value.ref b] below meth c H locs (cells + 0) (slots + 0) (lw_Z below #[Value.ref b] s) (F0 m 491 ls ((([.inr (.inr (.inr (.inl (0, [])))), .inr (.inr (.inr (.inl (1, []))))] : List ev_V).map (ev_cv (lw_sg xs) ρm)).reverse ++ .ref (ρm 0) :: [.int (ev_spc sp_edge (lw_sg xs))])) → W p l e room_1 s m #[Value.ref b] below meth c H locs (cells + 0) (slots + 0) (lw_Z below #[Value.ref b] s) g := by
    intro g hg h
    subst hg
    have es : (([.inr (.inr (.inr (.inl (0, [])))), .inr (.inr (.inr (.inl (1, []))))] : List ev_V).map (ev_cv (lw_sg xs) ρm)).reverse = [.int (xs 2), .int (xs 1)] := by
      rw [show xs 1 = lw_sg xs 0 from sg0.symm, show xs 2 = lw_sg xs 1 from sg1.symm]
      rfl
    rw [es] at h
    exact h
  refine K1 _ rfl ?_
  refine lw_pub (x := 108) (m1 := mt_108) (as' := [.inr (.inr (.inr (.inl (0, [])))), .inr (.inr (.inr (.inl (1, []))))]) (wr := []) (fs := fm) (ci := 11) rfl hall1 hsat1 (by decide) (by decide) hfm (by decide +kernel) (by decide +kernel) hx hb hml hown hts hK hA (by rw [List.append_nil]; exact hP) (by rw [List.append_nil]; exact hD) hS ⟨ev_tb_in 9 (List.mem_of_getElem? (i := 32) (by decide +kernel)), ev_tb_in 9 (List.mem_of_getElem? (i := 33) (by decide +kernel)), ev_tb_in 9 (List.mem_of_getElem? (i := 34) (by decide +kernel)), ev_tb_in 1 (List.mem_of_getElem? (i := 9) (by decide +kernel))⟩ ⟨by decide +kernel, by decide +kernel, by decide +kernel⟩ hl.1 (by simp [Value.category]) dl_491 ⟨by show cells + 0 + 0 ≤ 600000; omega, by show slots + 0 + 0 ≤ 7302250; omega⟩ (fun H locs hP hD hS => ?_)
  exact lv_icmp_eq (tgt := 719) hx hb dl_494 (by decide) (fun _ => lw_back C1 hS hl (by show cells + 0 + 0 ≤ 600000; omega) (by show slots + 0 + 0 ≤ 7302250; omega)) (fun h => absurd rfl h)
set_option maxHeartbeats 4000000 in
theorem lw_c11 {p : Program} {l : Launch} {e : Env} {s : State} {m : MethodId} {below : List Frame} {meth : Method} {c : Code} {b : Nat} {xs : Nat → Int32} {H : Heap} {locs : List Loc} {ls : Array Slot} {dC : Nat → ClassId} {dI : Nat → Nat → Nat} {ca : Nat → ClassId} {ρx ρm : Nat → Nat} {cells slots : Nat} (C0 : lw_At p s m meth c b 6 xs) (hK : va_K (dC, dI) ev_cl (ev_ty ca) s) (hcl : cells ≤ 1000) (hsl : slots ≤ 1000000) (hj : (xs 0 &&& 31).toNatClampNeg = 11) (hP : va_P (dC, dI) ev_cl (ev_wl (lw_sg xs) ρx ca ev_hxx 50 ++ ev_wl (lw_sg xs) ρm ca ev_hmm 39) H) (hD : va_D (fun q : Nat => s.heap.size ≤ q) (ev_wl (lw_sg xs) ρx ca ev_hxx 50 ++ ev_wl (lw_sg xs) ρm ca ev_hmm 39)) (hS : va_S (fun q : Nat => s.heap.size ≤ q) s.heap H locs) (hl : lv_has ls 4 [(0, .ref b), (1, .ref (ρx 0)), (2, .ref (ρm 0)), (3, .int 0)]) : W p l e room_1 s m #[Value.ref b] below meth c H locs cells slots (lw_Z below #[Value.ref b] s) (F0 m 499 ls []) := by
  have C1 := C0
  obtain ⟨hx, hb, hr, hml, hown, hts, hX, hbl, hlocks, hgv⟩ := C0
  have hA : ∀ q : Nat, s.heap.size ≤ q → (fun q : Nat => s.heap.size ≤ q) q := fun _ h => h
  have sg0 : lw_sg xs 0 = xs 1 := by unfold lw_sg; rw [hj] <;> rfl
  have sg1 : lw_sg xs 1 = xs 2 := by unfold lw_sg; rw [hj] <;> rfl
  obtain ⟨fx, hfx⟩ := ev_hxx_0
  obtain ⟨fm, hfm⟩ := ev_hmm_0
  obtain ⟨env0, hsat0, hall0⟩ := pb_xx_colour (lw_sg xs)
  refine lv_aload_n hx hb dl_499 rfl (lv_at hl 1 rfl) ?_
  refine lw_arg C1 hS hl (k := 1) (by decide) dl_500 dl_501 dl_502 dl_503 dl_504 ?_
  refine lw_arg C1 hS hl (k := 2) (by decide) dl_505 dl_506 dl_507 dl_508 dl_509 ?_
  have K0 : ∀ g, g = F0 m 510 ls (.int (xs 2) :: .int (xs 1) :: .ref (ρx 0) :: []) → W p l e room_1 s m #[Value.ref b] below meth c H locs cells slots (lw_Z below #[Value.ref b] s) (F0 m 510 ls ((([.inr (.inr (.inr (.inl (0, [])))), .inr (.inr (.inr (.inl (1, []))))] : List ev_V).map (ev_cv (lw_sg xs) ρx)).reverse ++ .ref (ρx 0) :: [])) → W p l e room_1 s m #[Value.ref b] below meth c H locs cells slots (lw_Z below #[Value.ref b] s) g := by
    intro g hg h
    subst hg
    have es : (([.inr (.inr (.inr (.inl (0, [])))), .inr (.inr (.inr (.inl (1, []))))] : List ev_V).map (ev_cv (lw_sg xs) ρx)).reverse = [.int (xs 2), .int (xs 1)] := by
      rw [show xs 1 = lw_sg xs 0 from sg0.symm, show xs 2 = lw_sg xs 1 from sg1.symm]
      rfl
    rw [es] at h
    exact h
  refine K0 _ rfl ?_
  refine lw_pub (x := 109) (m1 := mt_109) (as' := [.inr (.inr (.inr (.inl (0, [])))), .inr (.inr (.inr (.inl (1, []))))]) (wr := ev_wl (lw_sg xs) ρm ca ev_hmm 39) (fs := fx) (ci := 0) rfl hall0 hsat0 (by decide) (by decide) hfx (by decide +kernel) (by decide +kernel) hx hb hml hown hts hK hA hP hD hS ⟨ev_tb_in 5 (List.mem_of_getElem? (i := 126) (by decide +kernel)), ev_tb_in 5 (List.mem_of_getElem? (i := 127) (by decide +kernel)), ev_tb_in 5 (List.mem_of_getElem? (i := 128) (by decide +kernel)), ev_tb_in 1 (List.mem_of_getElem? (i := 1) (by decide +kernel))⟩ ⟨by decide +kernel, by decide +kernel, by decide +kernel⟩ hl.1 (by simp) dl_510 ⟨by show cells + 0 ≤ 600000; omega, by show slots + 0 ≤ 7302250; omega⟩ (fun H locs hP hD hS => ?_)
  obtain ⟨env1, hsat1, hall1⟩ := pb_mm_colour (lw_sg xs)
  refine lv_aload_n hx hb dl_513 rfl (lv_at hl 2 rfl) ?_
  refine lw_arg C1 hS hl (k := 1) (by decide) dl_514 dl_515 dl_516 dl_517 dl_518 ?_
  refine lw_arg C1 hS hl (k := 2) (by decide) dl_519 dl_520 dl_521 dl_522 dl_523 ?_
  have K1 : ∀ g, g = F0 m 524 ls (.int (xs 2) :: .int (xs 1) :: .ref (ρm 0) :: [.int (ev_spc sp_colour (lw_sg xs))]) → W p l e room_1 s m #[Value.ref b] below meth c H locs (cells + 0) (slots + 0) (lw_Z below #[Value.ref b] s) (F0 m 524 ls ((([.inr (.inr (.inr (.inl (0, [])))), .inr (.inr (.inr (.inl (1, []))))] : List ev_V).map (ev_cv (lw_sg xs) ρm)).reverse ++ .ref (ρm 0) :: [.int (ev_spc sp_colour (lw_sg xs))])) → W p l e room_1 s m #[Value.ref b] below meth c H locs (cells + 0) (slots + 0) (lw_Z below #[Value.ref b] s) g := by
    intro g hg h
    subst hg
    have es : (([.inr (.inr (.inr (.inl (0, [])))), .inr (.inr (.inr (.inl (1, []))))] : List ev_V).map (ev_cv (lw_sg xs) ρm)).reverse = [.int (xs 2), .int (xs 1)] := by
      rw [show xs 1 = lw_sg xs 0 from sg0.symm, show xs 2 = lw_sg xs 1 from sg1.symm]
      rfl
    rw [es] at h
    exact h
  refine K1 _ rfl ?_
  refine lw_pub (x := 110) (m1 := mt_110) (as' := [.inr (.inr (.inr (.inl (0, [])))), .inr (.inr (.inr (.inl (1, []))))]) (wr := []) (fs := fm) (ci := 11) rfl hall1 hsat1 (by decide) (by decide) hfm (by decide +kernel) (by decide +kernel) hx hb hml hown hts hK hA (by rw [List.append_nil]; exact hP) (by rw [List.append_nil]; exact hD) hS ⟨ev_tb_in 8 (List.mem_of_getElem? (i := 85) (by decide +kernel)), ev_tb_in 8 (List.mem_of_getElem? (i := 86) (by decide +kernel)), ev_tb_in 8 (List.mem_of_getElem? (i := 87) (by decide +kernel)), ev_tb_in 1 (List.mem_of_getElem? (i := 9) (by decide +kernel))⟩ ⟨by decide +kernel, by decide +kernel, by decide +kernel⟩ hl.1 (by simp [Value.category]) dl_524 ⟨by show cells + 0 + 0 ≤ 600000; omega, by show slots + 0 + 0 ≤ 7302250; omega⟩ (fun H locs hP hD hS => ?_)
  exact lv_icmp_eq (tgt := 719) hx hb dl_527 (by decide) (fun _ => lw_back C1 hS hl (by show cells + 0 + 0 ≤ 600000; omega) (by show slots + 0 + 0 ≤ 7302250; omega)) (fun h => absurd rfl h)
set_option maxHeartbeats 4000000 in
theorem lw_c12 {p : Program} {l : Launch} {e : Env} {s : State} {m : MethodId} {below : List Frame} {meth : Method} {c : Code} {b : Nat} {xs : Nat → Int32} {H : Heap} {locs : List Loc} {ls : Array Slot} {dC : Nat → ClassId} {dI : Nat → Nat → Nat} {ca : Nat → ClassId} {ρx ρm : Nat → Nat} {cells slots : Nat} (C0 : lw_At p s m meth c b 6 xs) (hK : va_K (dC, dI) ev_cl (ev_ty ca) s) (hcl : cells ≤ 1000) (hsl : slots ≤ 1000000) (hj : (xs 0 &&& 31).toNatClampNeg = 12) (hP : va_P (dC, dI) ev_cl (ev_wl (lw_sg xs) ρx ca ev_hxx 50 ++ ev_wl (lw_sg xs) ρm ca ev_hmm 39) H) (hD : va_D (fun q : Nat => s.heap.size ≤ q) (ev_wl (lw_sg xs) ρx ca ev_hxx 50 ++ ev_wl (lw_sg xs) ρm ca ev_hmm 39)) (hS : va_S (fun q : Nat => s.heap.size ≤ q) s.heap H locs) (hl : lv_has ls 4 [(0, .ref b), (1, .ref (ρx 0)), (2, .ref (ρm 0)), (3, .int 0)]) : W p l e room_1 s m #[Value.ref b] below meth c H locs cells slots (lw_Z below #[Value.ref b] s) (F0 m 532 ls []) := by
  have C1 := C0
  obtain ⟨hx, hb, hr, hml, hown, hts, hX, hbl, hlocks, hgv⟩ := C0
  have hA : ∀ q : Nat, s.heap.size ≤ q → (fun q : Nat => s.heap.size ≤ q) q := fun _ h => h
  have sg0 : lw_sg xs 0 = xs 1 := by unfold lw_sg; rw [hj] <;> rfl
  obtain ⟨fx, hfx⟩ := ev_hxx_0
  obtain ⟨fm, hfm⟩ := ev_hmm_0
  obtain ⟨env0, hsat0, hall0⟩ := pb_xx_left (lw_sg xs)
  refine lv_aload_n hx hb dl_532 rfl (lv_at hl 1 rfl) ?_
  refine lw_arg C1 hS hl (k := 1) (by decide) dl_533 dl_534 dl_535 dl_536 dl_537 ?_
  have K0 : ∀ g, g = F0 m 538 ls (.int (xs 1) :: .ref (ρx 0) :: []) → W p l e room_1 s m #[Value.ref b] below meth c H locs cells slots (lw_Z below #[Value.ref b] s) (F0 m 538 ls ((([.inr (.inr (.inr (.inl (0, []))))] : List ev_V).map (ev_cv (lw_sg xs) ρx)).reverse ++ .ref (ρx 0) :: [])) → W p l e room_1 s m #[Value.ref b] below meth c H locs cells slots (lw_Z below #[Value.ref b] s) g := by
    intro g hg h
    subst hg
    have es : (([.inr (.inr (.inr (.inl (0, []))))] : List ev_V).map (ev_cv (lw_sg xs) ρx)).reverse = [.int (xs 1)] := by
      rw [show xs 1 = lw_sg xs 0 from sg0.symm]
      rfl
    rw [es] at h
    exact h
  refine K0 _ rfl ?_
  refine lw_pub (x := 111) (m1 := mt_111) (as' := [.inr (.inr (.inr (.inl (0, []))))]) (wr := ev_wl (lw_sg xs) ρm ca ev_hmm 39) (fs := fx) (ci := 0) rfl hall0 hsat0 (by decide) (by decide) hfx (by decide +kernel) (by decide +kernel) hx hb hml hown hts hK hA hP hD hS ⟨ev_tb_in 5 (List.mem_of_getElem? (i := 130) (by decide +kernel)), ev_tb_in 5 (List.mem_of_getElem? (i := 131) (by decide +kernel)), ev_tb_in 5 (List.mem_of_getElem? (i := 132) (by decide +kernel)), ev_tb_in 1 (List.mem_of_getElem? (i := 1) (by decide +kernel))⟩ ⟨by decide +kernel, by decide +kernel, by decide +kernel⟩ hl.1 (by simp) dl_538 ⟨by show cells + 0 ≤ 600000; omega, by show slots + 0 ≤ 7302250; omega⟩ (fun H locs hP hD hS => ?_)
  obtain ⟨env1, hsat1, hall1⟩ := pb_mm_left (lw_sg xs)
  refine lv_aload_n hx hb dl_541 rfl (lv_at hl 2 rfl) ?_
  refine lw_arg C1 hS hl (k := 1) (by decide) dl_542 dl_543 dl_544 dl_545 dl_546 ?_
  have K1 : ∀ g, g = F0 m 547 ls (.int (xs 1) :: .ref (ρm 0) :: [.int (ev_spc sp_left (lw_sg xs))]) → W p l e room_1 s m #[Value.ref b] below meth c H locs (cells + 0) (slots + 0) (lw_Z below #[Value.ref b] s) (F0 m 547 ls ((([.inr (.inr (.inr (.inl (0, []))))] : List ev_V).map (ev_cv (lw_sg xs) ρm)).reverse ++ .ref (ρm 0) :: [.int (ev_spc sp_left (lw_sg xs))])) → W p l e room_1 s m #[Value.ref b] below meth c H locs (cells + 0) (slots + 0) (lw_Z below #[Value.ref b] s) g := by
    intro g hg h
    subst hg
    have es : (([.inr (.inr (.inr (.inl (0, []))))] : List ev_V).map (ev_cv (lw_sg xs) ρm)).reverse = [.int (xs 1)] := by
      rw [show xs 1 = lw_sg xs 0 from sg0.symm]
      rfl
    rw [es] at h
    exact h
  refine K1 _ rfl ?_
  refine lw_pub (x := 112) (m1 := mt_112) (as' := [.inr (.inr (.inr (.inl (0, []))))]) (wr := []) (fs := fm) (ci := 11) rfl hall1 hsat1 (by decide) (by decide) hfm (by decide +kernel) (by decide +kernel) hx hb hml hown hts hK hA (by rw [List.append_nil]; exact hP) (by rw [List.append_nil]; exact hD) hS ⟨ev_tb_in 8 (List.mem_of_getElem? (i := 89) (by decide +kernel)), ev_tb_in 8 (List.mem_of_getElem? (i := 90) (by decide +kernel)), ev_tb_in 8 (List.mem_of_getElem? (i := 91) (by decide +kernel)), ev_tb_in 1 (List.mem_of_getElem? (i := 9) (by decide +kernel))⟩ ⟨by decide +kernel, by decide +kernel, by decide +kernel⟩ hl.1 (by simp [Value.category]) dl_547 ⟨by show cells + 0 + 0 ≤ 600000; omega, by show slots + 0 + 0 ≤ 7302250; omega⟩ (fun H locs hP hD hS => ?_)
  exact lv_icmp_eq (tgt := 719) hx hb dl_550 (by decide) (fun _ => lw_back C1 hS hl (by show cells + 0 + 0 ≤ 600000; omega) (by show slots + 0 + 0 ≤ 7302250; omega)) (fun h => absurd rfl h)
set_option maxHeartbeats 4000000 in
theorem lw_c13 {p : Program} {l : Launch} {e : Env} {s : State} {m : MethodId} {below : List Frame} {meth : Method} {c : Code} {b : Nat} {xs : Nat → Int32} {H : Heap} {locs : List Loc} {ls : Array Slot} {dC : Nat → ClassId} {dI : Nat → Nat → Nat} {ca : Nat → ClassId} {ρx ρm : Nat → Nat} {cells slots : Nat} (C0 : lw_At p s m meth c b 6 xs) (hK : va_K (dC, dI) ev_cl (ev_ty ca) s) (hcl : cells ≤ 1000) (hsl : slots ≤ 1000000) (hj : (xs 0 &&& 31).toNatClampNeg = 13) (hP : va_P (dC, dI) ev_cl (ev_wl (lw_sg xs) ρx ca ev_hxx 50 ++ ev_wl (lw_sg xs) ρm ca ev_hmm 39) H) (hD : va_D (fun q : Nat => s.heap.size ≤ q) (ev_wl (lw_sg xs) ρx ca ev_hxx 50 ++ ev_wl (lw_sg xs) ρm ca ev_hmm 39)) (hS : va_S (fun q : Nat => s.heap.size ≤ q) s.heap H locs) (hl : lv_has ls 4 [(0, .ref b), (1, .ref (ρx 0)), (2, .ref (ρm 0)), (3, .int 0)]) : W p l e room_1 s m #[Value.ref b] below meth c H locs cells slots (lw_Z below #[Value.ref b] s) (F0 m 555 ls []) := by
  have C1 := C0
  obtain ⟨hx, hb, hr, hml, hown, hts, hX, hbl, hlocks, hgv⟩ := C0
  have hA : ∀ q : Nat, s.heap.size ≤ q → (fun q : Nat => s.heap.size ≤ q) q := fun _ h => h
  have sg0 : lw_sg xs 0 = xs 1 := by unfold lw_sg; rw [hj] <;> rfl
  have sg1 : lw_sg xs 1 = xs 2 := by unfold lw_sg; rw [hj] <;> rfl
  obtain ⟨fx, hfx⟩ := ev_hxx_0
  obtain ⟨fm, hfm⟩ := ev_hmm_0
  obtain ⟨env0, hsat0, hall0⟩ := pb_xx_run (lw_sg xs)
  refine lv_aload_n hx hb dl_555 rfl (lv_at hl 1 rfl) ?_
  refine lw_arg C1 hS hl (k := 1) (by decide) dl_556 dl_557 dl_558 dl_559 dl_560 ?_
  refine lw_arg C1 hS hl (k := 2) (by decide) dl_561 dl_562 dl_563 dl_564 dl_565 ?_
  have K0 : ∀ g, g = F0 m 566 ls (.int (xs 2) :: .int (xs 1) :: .ref (ρx 0) :: []) → W p l e room_1 s m #[Value.ref b] below meth c H locs cells slots (lw_Z below #[Value.ref b] s) (F0 m 566 ls ((([.inr (.inr (.inr (.inl (0, [])))), .inr (.inr (.inr (.inl (1, []))))] : List ev_V).map (ev_cv (lw_sg xs) ρx)).reverse ++ .ref (ρx 0) :: [])) → W p l e room_1 s m #[Value.ref b] below meth c H locs cells slots (lw_Z below #[Value.ref b] s) g := by
    intro g hg h
    subst hg
    have es : (([.inr (.inr (.inr (.inl (0, [])))), .inr (.inr (.inr (.inl (1, []))))] : List ev_V).map (ev_cv (lw_sg xs) ρx)).reverse = [.int (xs 2), .int (xs 1)] := by
      rw [show xs 1 = lw_sg xs 0 from sg0.symm, show xs 2 = lw_sg xs 1 from sg1.symm]
      rfl
    rw [es] at h
    exact h
  refine K0 _ rfl ?_
  refine lw_pub (x := 113) (m1 := mt_113) (as' := [.inr (.inr (.inr (.inl (0, [])))), .inr (.inr (.inr (.inl (1, []))))]) (wr := ev_wl (lw_sg xs) ρm ca ev_hmm 39) (fs := fx) (ci := 0) rfl hall0 hsat0 (by decide) (by decide) hfx (by decide +kernel) (by decide +kernel) hx hb hml hown hts hK hA hP hD hS ⟨ev_tb_in 5 (List.mem_of_getElem? (i := 160) (by decide +kernel)), ev_tb_in 5 (List.mem_of_getElem? (i := 161) (by decide +kernel)), ev_tb_in 5 (List.mem_of_getElem? (i := 162) (by decide +kernel)), ev_tb_in 1 (List.mem_of_getElem? (i := 1) (by decide +kernel))⟩ ⟨by decide +kernel, by decide +kernel, by decide +kernel⟩ hl.1 (by simp) dl_566 ⟨by show cells + 0 ≤ 600000; omega, by show slots + 0 ≤ 7302250; omega⟩ (fun H locs hP hD hS => ?_)
  obtain ⟨env1, hsat1, hall1⟩ := pb_mm_run (lw_sg xs)
  refine lv_aload_n hx hb dl_569 rfl (lv_at hl 2 rfl) ?_
  refine lw_arg C1 hS hl (k := 1) (by decide) dl_570 dl_571 dl_572 dl_573 dl_574 ?_
  refine lw_arg C1 hS hl (k := 2) (by decide) dl_575 dl_576 dl_577 dl_578 dl_579 ?_
  have K1 : ∀ g, g = F0 m 580 ls (.int (xs 2) :: .int (xs 1) :: .ref (ρm 0) :: [.int (ev_spc sp_run (lw_sg xs))]) → W p l e room_1 s m #[Value.ref b] below meth c H locs (cells + 0) (slots + 0) (lw_Z below #[Value.ref b] s) (F0 m 580 ls ((([.inr (.inr (.inr (.inl (0, [])))), .inr (.inr (.inr (.inl (1, []))))] : List ev_V).map (ev_cv (lw_sg xs) ρm)).reverse ++ .ref (ρm 0) :: [.int (ev_spc sp_run (lw_sg xs))])) → W p l e room_1 s m #[Value.ref b] below meth c H locs (cells + 0) (slots + 0) (lw_Z below #[Value.ref b] s) g := by
    intro g hg h
    subst hg
    have es : (([.inr (.inr (.inr (.inl (0, [])))), .inr (.inr (.inr (.inl (1, []))))] : List ev_V).map (ev_cv (lw_sg xs) ρm)).reverse = [.int (xs 2), .int (xs 1)] := by
      rw [show xs 1 = lw_sg xs 0 from sg0.symm, show xs 2 = lw_sg xs 1 from sg1.symm]
      rfl
    rw [es] at h
    exact h
  refine K1 _ rfl ?_
  refine lw_pub (x := 115) (m1 := mt_115) (as' := [.inr (.inr (.inr (.inl (0, [])))), .inr (.inr (.inr (.inl (1, []))))]) (wr := []) (fs := fm) (ci := 11) rfl hall1 hsat1 (by decide) (by decide) hfm (by decide +kernel) (by decide +kernel) hx hb hml hown hts hK hA (by rw [List.append_nil]; exact hP) (by rw [List.append_nil]; exact hD) hS ⟨ev_tb_in 8 (List.mem_of_getElem? (i := 197) (by decide +kernel)), ev_tb_in 8 (List.mem_of_getElem? (i := 198) (by decide +kernel)), ev_tb_in 8 (List.mem_of_getElem? (i := 199) (by decide +kernel)), ev_tb_in 1 (List.mem_of_getElem? (i := 9) (by decide +kernel))⟩ ⟨by decide +kernel, by decide +kernel, by decide +kernel⟩ hl.1 (by simp [Value.category]) dl_580 ⟨by show cells + 0 + 0 ≤ 600000; omega, by show slots + 0 + 0 ≤ 7302250; omega⟩ (fun H locs hP hD hS => ?_)
  exact lv_icmp_eq (tgt := 719) hx hb dl_583 (by decide) (fun _ => lw_back C1 hS hl (by show cells + 0 + 0 ≤ 600000; omega) (by show slots + 0 + 0 ≤ 7302250; omega)) (fun h => absurd rfl h)
set_option maxHeartbeats 4000000 in
theorem lw_c14 {p : Program} {l : Launch} {e : Env} {s : State} {m : MethodId} {below : List Frame} {meth : Method} {c : Code} {b : Nat} {xs : Nat → Int32} {H : Heap} {locs : List Loc} {ls : Array Slot} {dC : Nat → ClassId} {dI : Nat → Nat → Nat} {ca : Nat → ClassId} {ρx ρm : Nat → Nat} {cells slots : Nat} (C0 : lw_At p s m meth c b 6 xs) (hK : va_K (dC, dI) ev_cl (ev_ty ca) s) (hcl : cells ≤ 1000) (hsl : slots ≤ 1000000) (hj : (xs 0 &&& 31).toNatClampNeg = 14) (hP : va_P (dC, dI) ev_cl (ev_wl (lw_sg xs) ρx ca ev_hxx 50 ++ ev_wl (lw_sg xs) ρm ca ev_hmm 39) H) (hD : va_D (fun q : Nat => s.heap.size ≤ q) (ev_wl (lw_sg xs) ρx ca ev_hxx 50 ++ ev_wl (lw_sg xs) ρm ca ev_hmm 39)) (hS : va_S (fun q : Nat => s.heap.size ≤ q) s.heap H locs) (hl : lv_has ls 4 [(0, .ref b), (1, .ref (ρx 0)), (2, .ref (ρm 0)), (3, .int 0)]) : W p l e room_1 s m #[Value.ref b] below meth c H locs cells slots (lw_Z below #[Value.ref b] s) (F0 m 588 ls []) := by
  have C1 := C0
  obtain ⟨hx, hb, hr, hml, hown, hts, hX, hbl, hlocks, hgv⟩ := C0
  have hA : ∀ q : Nat, s.heap.size ≤ q → (fun q : Nat => s.heap.size ≤ q) q := fun _ h => h
  obtain ⟨fx, hfx⟩ := ev_hxx_0
  obtain ⟨fm, hfm⟩ := ev_hmm_0
  obtain ⟨env0, hsat0, hall0⟩ := pb_xx_proved (lw_sg xs)
  refine lv_aload_n hx hb dl_588 rfl (lv_at hl 1 rfl) ?_
  have K0 : ∀ g, g = F0 m 589 ls (.ref (ρx 0) :: []) → W p l e room_1 s m #[Value.ref b] below meth c H locs cells slots (lw_Z below #[Value.ref b] s) (F0 m 589 ls ((([] : List ev_V).map (ev_cv (lw_sg xs) ρx)).reverse ++ .ref (ρx 0) :: [])) → W p l e room_1 s m #[Value.ref b] below meth c H locs cells slots (lw_Z below #[Value.ref b] s) g := by
    intro g hg h
    subst hg
    have es : (([] : List ev_V).map (ev_cv (lw_sg xs) ρx)).reverse = [] := by
      rfl
    rw [es] at h
    exact h
  refine K0 _ rfl ?_
  refine lw_pub (x := 116) (m1 := mt_116) (as' := []) (wr := ev_wl (lw_sg xs) ρm ca ev_hmm 39) (fs := fx) (ci := 0) rfl hall0 hsat0 (by decide) (by decide) hfx (by decide +kernel) (by decide +kernel) hx hb hml hown hts hK hA hP hD hS ⟨ev_tb_in 5 (List.mem_of_getElem? (i := 202) (by decide +kernel)), ev_tb_in 5 (List.mem_of_getElem? (i := 203) (by decide +kernel)), ev_tb_in 5 (List.mem_of_getElem? (i := 204) (by decide +kernel)), ev_tb_in 1 (List.mem_of_getElem? (i := 1) (by decide +kernel))⟩ ⟨by decide +kernel, by decide +kernel, by decide +kernel⟩ hl.1 (by simp) dl_589 ⟨by show cells + 0 ≤ 600000; omega, by show slots + 0 ≤ 7302250; omega⟩ (fun H locs hP hD hS => ?_)
  obtain ⟨env1, hsat1, hall1⟩ := pb_mm_proved (lw_sg xs)
  refine lv_aload_n hx hb dl_592 rfl (lv_at hl 2 rfl) ?_
  have K1 : ∀ g, g = F0 m 593 ls (.ref (ρm 0) :: [.int (ev_spc sp_proved (lw_sg xs))]) → W p l e room_1 s m #[Value.ref b] below meth c H locs (cells + 0) (slots + 0) (lw_Z below #[Value.ref b] s) (F0 m 593 ls ((([] : List ev_V).map (ev_cv (lw_sg xs) ρm)).reverse ++ .ref (ρm 0) :: [.int (ev_spc sp_proved (lw_sg xs))])) → W p l e room_1 s m #[Value.ref b] below meth c H locs (cells + 0) (slots + 0) (lw_Z below #[Value.ref b] s) g := by
    intro g hg h
    subst hg
    have es : (([] : List ev_V).map (ev_cv (lw_sg xs) ρm)).reverse = [] := by
      rfl
    rw [es] at h
    exact h
  refine K1 _ rfl ?_
  refine lw_pub (x := 117) (m1 := mt_117) (as' := []) (wr := []) (fs := fm) (ci := 11) rfl hall1 hsat1 (by decide) (by decide) hfm (by decide +kernel) (by decide +kernel) hx hb hml hown hts hK hA (by rw [List.append_nil]; exact hP) (by rw [List.append_nil]; exact hD) hS ⟨ev_tb_in 8 (List.mem_of_getElem? (i := 224) (by decide +kernel)), ev_tb_in 8 (List.mem_of_getElem? (i := 225) (by decide +kernel)), ev_tb_in 8 (List.mem_of_getElem? (i := 226) (by decide +kernel)), ev_tb_in 1 (List.mem_of_getElem? (i := 9) (by decide +kernel))⟩ ⟨by decide +kernel, by decide +kernel, by decide +kernel⟩ hl.1 (by simp [Value.category]) dl_593 ⟨by show cells + 0 + 0 ≤ 600000; omega, by show slots + 0 + 0 ≤ 7302250; omega⟩ (fun H locs hP hD hS => ?_)
  exact lv_icmp_eq (tgt := 719) hx hb dl_596 (by decide) (fun _ => lw_back C1 hS hl (by show cells + 0 + 0 ≤ 600000; omega) (by show slots + 0 + 0 ≤ 7302250; omega)) (fun h => absurd rfl h)
set_option maxHeartbeats 4000000 in
theorem lw_c15 {p : Program} {l : Launch} {e : Env} {s : State} {m : MethodId} {below : List Frame} {meth : Method} {c : Code} {b : Nat} {xs : Nat → Int32} {H : Heap} {locs : List Loc} {ls : Array Slot} {dC : Nat → ClassId} {dI : Nat → Nat → Nat} {ca : Nat → ClassId} {ρx ρm : Nat → Nat} {cells slots : Nat} (C0 : lw_At p s m meth c b 6 xs) (hK : va_K (dC, dI) ev_cl (ev_ty ca) s) (hcl : cells ≤ 1000) (hsl : slots ≤ 1000000) (hj : (xs 0 &&& 31).toNatClampNeg = 15) (hP : va_P (dC, dI) ev_cl (ev_wl (lw_sg xs) ρx ca ev_hxx 50 ++ ev_wl (lw_sg xs) ρm ca ev_hmm 39) H) (hD : va_D (fun q : Nat => s.heap.size ≤ q) (ev_wl (lw_sg xs) ρx ca ev_hxx 50 ++ ev_wl (lw_sg xs) ρm ca ev_hmm 39)) (hS : va_S (fun q : Nat => s.heap.size ≤ q) s.heap H locs) (hl : lv_has ls 4 [(0, .ref b), (1, .ref (ρx 0)), (2, .ref (ρm 0)), (3, .int 0)]) : W p l e room_1 s m #[Value.ref b] below meth c H locs cells slots (lw_Z below #[Value.ref b] s) (F0 m 601 ls []) := by
  have C1 := C0
  obtain ⟨hx, hb, hr, hml, hown, hts, hX, hbl, hlocks, hgv⟩ := C0
  have hA : ∀ q : Nat, s.heap.size ≤ q → (fun q : Nat => s.heap.size ≤ q) q := fun _ h => h
  have sg0 : lw_sg xs 0 = xs 1 := by unfold lw_sg; rw [hj] <;> rfl
  obtain ⟨fx, hfx⟩ := ev_hxx_0
  obtain ⟨fm, hfm⟩ := ev_hmm_0
  obtain ⟨env0, hsat0, hall0⟩ := pb_xx_graph (lw_sg xs)
  refine lv_aload_n hx hb dl_601 rfl (lv_at hl 1 rfl) ?_
  refine lw_arg C1 hS hl (k := 1) (by decide) dl_602 dl_603 dl_604 dl_605 dl_606 ?_
  have K0 : ∀ g, g = F0 m 607 ls (.int (xs 1) :: .ref (ρx 0) :: []) → W p l e room_1 s m #[Value.ref b] below meth c H locs cells slots (lw_Z below #[Value.ref b] s) (F0 m 607 ls ((([.inr (.inr (.inr (.inl (0, []))))] : List ev_V).map (ev_cv (lw_sg xs) ρx)).reverse ++ .ref (ρx 0) :: [])) → W p l e room_1 s m #[Value.ref b] below meth c H locs cells slots (lw_Z below #[Value.ref b] s) g := by
    intro g hg h
    subst hg
    have es : (([.inr (.inr (.inr (.inl (0, []))))] : List ev_V).map (ev_cv (lw_sg xs) ρx)).reverse = [.int (xs 1)] := by
      rw [show xs 1 = lw_sg xs 0 from sg0.symm]
      rfl
    rw [es] at h
    exact h
  refine K0 _ rfl ?_
  refine lw_pub (x := 118) (m1 := mt_118) (as' := [.inr (.inr (.inr (.inl (0, []))))]) (wr := ev_wl (lw_sg xs) ρm ca ev_hmm 39) (fs := fx) (ci := 0) rfl hall0 hsat0 (by decide) (by decide) hfx (by decide +kernel) (by decide +kernel) hx hb hml hown hts hK hA hP hD hS ⟨ev_tb_in 6 (List.mem_of_getElem? (i := 35) (by decide +kernel)), ev_tb_in 6 (List.mem_of_getElem? (i := 36) (by decide +kernel)), ev_tb_in 6 (List.mem_of_getElem? (i := 37) (by decide +kernel)), ev_tb_in 1 (List.mem_of_getElem? (i := 1) (by decide +kernel))⟩ ⟨by decide +kernel, by decide +kernel, by decide +kernel⟩ hl.1 (by simp) dl_607 ⟨by show cells + 0 ≤ 600000; omega, by show slots + 0 ≤ 7302250; omega⟩ (fun H locs hP hD hS => ?_)
  obtain ⟨env1, hsat1, hall1⟩ := pb_mm_graph (lw_sg xs)
  refine lv_aload_n hx hb dl_610 rfl (lv_at hl 2 rfl) ?_
  refine lw_arg C1 hS hl (k := 1) (by decide) dl_611 dl_612 dl_613 dl_614 dl_615 ?_
  have K1 : ∀ g, g = F0 m 616 ls (.int (xs 1) :: .ref (ρm 0) :: [.int (ev_spc sp_graph (lw_sg xs))]) → W p l e room_1 s m #[Value.ref b] below meth c H locs (cells + 0) (slots + 0) (lw_Z below #[Value.ref b] s) (F0 m 616 ls ((([.inr (.inr (.inr (.inl (0, []))))] : List ev_V).map (ev_cv (lw_sg xs) ρm)).reverse ++ .ref (ρm 0) :: [.int (ev_spc sp_graph (lw_sg xs))])) → W p l e room_1 s m #[Value.ref b] below meth c H locs (cells + 0) (slots + 0) (lw_Z below #[Value.ref b] s) g := by
    intro g hg h
    subst hg
    have es : (([.inr (.inr (.inr (.inl (0, []))))] : List ev_V).map (ev_cv (lw_sg xs) ρm)).reverse = [.int (xs 1)] := by
      rw [show xs 1 = lw_sg xs 0 from sg0.symm]
      rfl
    rw [es] at h
    exact h
  refine K1 _ rfl ?_
  refine lw_pub (x := 121) (m1 := mt_121) (as' := [.inr (.inr (.inr (.inl (0, []))))]) (wr := []) (fs := fm) (ci := 11) rfl hall1 hsat1 (by decide) (by decide) hfm (by decide +kernel) (by decide +kernel) hx hb hml hown hts hK hA (by rw [List.append_nil]; exact hP) (by rw [List.append_nil]; exact hD) hS ⟨ev_tb_in 9 (List.mem_of_getElem? (i := 36) (by decide +kernel)), ev_tb_in 9 (List.mem_of_getElem? (i := 37) (by decide +kernel)), ev_tb_in 9 (List.mem_of_getElem? (i := 38) (by decide +kernel)), ev_tb_in 1 (List.mem_of_getElem? (i := 9) (by decide +kernel))⟩ ⟨by decide +kernel, by decide +kernel, by decide +kernel⟩ hl.1 (by simp [Value.category]) dl_616 ⟨by show cells + 0 + 0 ≤ 600000; omega, by show slots + 0 + 0 ≤ 7302250; omega⟩ (fun H locs hP hD hS => ?_)
  exact lv_icmp_eq (tgt := 719) hx hb dl_619 (by decide) (fun _ => lw_back C1 hS hl (by show cells + 0 + 0 ≤ 600000; omega) (by show slots + 0 + 0 ≤ 7302250; omega)) (fun h => absurd rfl h)
set_option maxHeartbeats 4000000 in
theorem lw_c16 {p : Program} {l : Launch} {e : Env} {s : State} {m : MethodId} {below : List Frame} {meth : Method} {c : Code} {b : Nat} {xs : Nat → Int32} {H : Heap} {locs : List Loc} {ls : Array Slot} {dC : Nat → ClassId} {dI : Nat → Nat → Nat} {ca : Nat → ClassId} {ρx ρm : Nat → Nat} {cells slots : Nat} (C0 : lw_At p s m meth c b 6 xs) (hK : va_K (dC, dI) ev_cl (ev_ty ca) s) (hcl : cells ≤ 1000) (hsl : slots ≤ 1000000) (hj : (xs 0 &&& 31).toNatClampNeg = 16) (hP : va_P (dC, dI) ev_cl (ev_wl (lw_sg xs) ρx ca ev_hxx 50 ++ ev_wl (lw_sg xs) ρm ca ev_hmm 39) H) (hD : va_D (fun q : Nat => s.heap.size ≤ q) (ev_wl (lw_sg xs) ρx ca ev_hxx 50 ++ ev_wl (lw_sg xs) ρm ca ev_hmm 39)) (hS : va_S (fun q : Nat => s.heap.size ≤ q) s.heap H locs) (hl : lv_has ls 4 [(0, .ref b), (1, .ref (ρx 0)), (2, .ref (ρm 0)), (3, .int 0)]) : W p l e room_1 s m #[Value.ref b] below meth c H locs cells slots (lw_Z below #[Value.ref b] s) (F0 m 624 ls []) := by
  have C1 := C0
  obtain ⟨hx, hb, hr, hml, hown, hts, hX, hbl, hlocks, hgv⟩ := C0
  have hA : ∀ q : Nat, s.heap.size ≤ q → (fun q : Nat => s.heap.size ≤ q) q := fun _ h => h
  have sg0 : lw_sg xs 0 = xs 1 := by unfold lw_sg; rw [hj] <;> rfl
  have sg1 : lw_sg xs 1 = xs 2 := by unfold lw_sg; rw [hj] <;> rfl
  obtain ⟨fx, hfx⟩ := ev_hxx_0
  obtain ⟨fm, hfm⟩ := ev_hmm_0
  obtain ⟨env0, hsat0, hall0⟩ := pb_xx_paint (lw_sg xs)
  refine lv_aload_n hx hb dl_624 rfl (lv_at hl 1 rfl) ?_
  refine lw_arg C1 hS hl (k := 1) (by decide) dl_625 dl_626 dl_627 dl_628 dl_629 ?_
  refine lw_arg C1 hS hl (k := 2) (by decide) dl_630 dl_631 dl_632 dl_633 dl_634 ?_
  have K0 : ∀ g, g = F0 m 635 ls (.int (xs 2) :: .int (xs 1) :: .ref (ρx 0) :: []) → W p l e room_1 s m #[Value.ref b] below meth c H locs cells slots (lw_Z below #[Value.ref b] s) (F0 m 635 ls ((([.inr (.inr (.inr (.inl (0, [])))), .inr (.inr (.inr (.inl (1, []))))] : List ev_V).map (ev_cv (lw_sg xs) ρx)).reverse ++ .ref (ρx 0) :: [])) → W p l e room_1 s m #[Value.ref b] below meth c H locs cells slots (lw_Z below #[Value.ref b] s) g := by
    intro g hg h
    subst hg
    have es : (([.inr (.inr (.inr (.inl (0, [])))), .inr (.inr (.inr (.inl (1, []))))] : List ev_V).map (ev_cv (lw_sg xs) ρx)).reverse = [.int (xs 2), .int (xs 1)] := by
      rw [show xs 1 = lw_sg xs 0 from sg0.symm, show xs 2 = lw_sg xs 1 from sg1.symm]
      rfl
    rw [es] at h
    exact h
  refine K0 _ rfl ?_
  refine lw_pub (x := 124) (m1 := mt_124) (as' := [.inr (.inr (.inr (.inl (0, [])))), .inr (.inr (.inr (.inl (1, []))))]) (wr := ev_wl (lw_sg xs) ρm ca ev_hmm 39) (fs := fx) (ci := 0) rfl hall0 hsat0 (by decide) (by decide) hfx (by decide +kernel) (by decide +kernel) hx hb hml hown hts hK hA hP hD hS ⟨ev_tb_in 6 (List.mem_of_getElem? (i := 72) (by decide +kernel)), ev_tb_in 6 (List.mem_of_getElem? (i := 73) (by decide +kernel)), ev_tb_in 6 (List.mem_of_getElem? (i := 74) (by decide +kernel)), ev_tb_in 1 (List.mem_of_getElem? (i := 1) (by decide +kernel))⟩ ⟨by decide +kernel, by decide +kernel, by decide +kernel⟩ hl.1 (by simp) dl_635 ⟨by show cells + 0 ≤ 600000; omega, by show slots + 0 ≤ 7302250; omega⟩ (fun H locs hP hD hS => ?_)
  obtain ⟨env1, hsat1, hall1⟩ := pb_mm_paint (lw_sg xs)
  refine lv_aload_n hx hb dl_638 rfl (lv_at hl 2 rfl) ?_
  refine lw_arg C1 hS hl (k := 1) (by decide) dl_639 dl_640 dl_641 dl_642 dl_643 ?_
  refine lw_arg C1 hS hl (k := 2) (by decide) dl_644 dl_645 dl_646 dl_647 dl_648 ?_
  have K1 : ∀ g, g = F0 m 649 ls (.int (xs 2) :: .int (xs 1) :: .ref (ρm 0) :: [.int (ev_spc sp_paint (lw_sg xs))]) → W p l e room_1 s m #[Value.ref b] below meth c H locs (cells + 0) (slots + 0) (lw_Z below #[Value.ref b] s) (F0 m 649 ls ((([.inr (.inr (.inr (.inl (0, [])))), .inr (.inr (.inr (.inl (1, []))))] : List ev_V).map (ev_cv (lw_sg xs) ρm)).reverse ++ .ref (ρm 0) :: [.int (ev_spc sp_paint (lw_sg xs))])) → W p l e room_1 s m #[Value.ref b] below meth c H locs (cells + 0) (slots + 0) (lw_Z below #[Value.ref b] s) g := by
    intro g hg h
    subst hg
    have es : (([.inr (.inr (.inr (.inl (0, [])))), .inr (.inr (.inr (.inl (1, []))))] : List ev_V).map (ev_cv (lw_sg xs) ρm)).reverse = [.int (xs 2), .int (xs 1)] := by
      rw [show xs 1 = lw_sg xs 0 from sg0.symm, show xs 2 = lw_sg xs 1 from sg1.symm]
      rfl
    rw [es] at h
    exact h
  refine K1 _ rfl ?_
  refine lw_pub (x := 125) (m1 := mt_125) (as' := [.inr (.inr (.inr (.inl (0, [])))), .inr (.inr (.inr (.inl (1, []))))]) (wr := []) (fs := fm) (ci := 11) rfl hall1 hsat1 (by decide) (by decide) hfm (by decide +kernel) (by decide +kernel) hx hb hml hown hts hK hA (by rw [List.append_nil]; exact hP) (by rw [List.append_nil]; exact hD) hS ⟨ev_tb_in 9 (List.mem_of_getElem? (i := 64) (by decide +kernel)), ev_tb_in 9 (List.mem_of_getElem? (i := 65) (by decide +kernel)), ev_tb_in 9 (List.mem_of_getElem? (i := 66) (by decide +kernel)), ev_tb_in 1 (List.mem_of_getElem? (i := 9) (by decide +kernel))⟩ ⟨by decide +kernel, by decide +kernel, by decide +kernel⟩ hl.1 (by simp [Value.category]) dl_649 ⟨by show cells + 0 + 0 ≤ 600000; omega, by show slots + 0 + 0 ≤ 7302250; omega⟩ (fun H locs hP hD hS => ?_)
  exact lv_icmp_eq (tgt := 719) hx hb dl_652 (by decide) (fun _ => lw_back C1 hS hl (by show cells + 0 + 0 ≤ 600000; omega) (by show slots + 0 + 0 ≤ 7302250; omega)) (fun h => absurd rfl h)
set_option maxHeartbeats 4000000 in
theorem lw_c17 {p : Program} {l : Launch} {e : Env} {s : State} {m : MethodId} {below : List Frame} {meth : Method} {c : Code} {b : Nat} {xs : Nat → Int32} {H : Heap} {locs : List Loc} {ls : Array Slot} {dC : Nat → ClassId} {dI : Nat → Nat → Nat} {ca : Nat → ClassId} {ρx ρm : Nat → Nat} {cells slots : Nat} (C0 : lw_At p s m meth c b 6 xs) (hK : va_K (dC, dI) ev_cl (ev_ty ca) s) (hcl : cells ≤ 1000) (hsl : slots ≤ 1000000) (hj : (xs 0 &&& 31).toNatClampNeg = 17) (hP : va_P (dC, dI) ev_cl (ev_wl (lw_sg xs) ρx ca ev_hxx 50 ++ ev_wl (lw_sg xs) ρm ca ev_hmm 39) H) (hD : va_D (fun q : Nat => s.heap.size ≤ q) (ev_wl (lw_sg xs) ρx ca ev_hxx 50 ++ ev_wl (lw_sg xs) ρm ca ev_hmm 39)) (hS : va_S (fun q : Nat => s.heap.size ≤ q) s.heap H locs) (hl : lv_has ls 4 [(0, .ref b), (1, .ref (ρx 0)), (2, .ref (ρm 0)), (3, .int 0)]) : W p l e room_1 s m #[Value.ref b] below meth c H locs cells slots (lw_Z below #[Value.ref b] s) (F0 m 657 ls []) := by
  have C1 := C0
  obtain ⟨hx, hb, hr, hml, hown, hts, hX, hbl, hlocks, hgv⟩ := C0
  have hA : ∀ q : Nat, s.heap.size ≤ q → (fun q : Nat => s.heap.size ≤ q) q := fun _ h => h
  have sg0 : lw_sg xs 0 = lw_z (xs 1) := by unfold lw_sg; rw [hj] <;> rfl
  obtain ⟨fx, hfx⟩ := ev_hxx_0
  obtain ⟨fm, hfm⟩ := ev_hmm_0
  obtain ⟨env0, hsat0, hall0⟩ := pb_xx_image (lw_sg xs) (by rw [sg0]; exact lw_z01 _)
  refine lv_aload_n hx hb dl_657 rfl (lv_at hl 1 rfl) ?_
  refine lw_argb C1 hS hl (k := 1) (by decide) dl_658 dl_659 dl_660 dl_661 dl_662 dl_663 dl_666 dl_667 dl_670 ?_
  have K0 : ∀ g, g = F0 m 671 ls (.int (lw_z (xs 1)) :: .ref (ρx 0) :: []) → W p l e room_1 s m #[Value.ref b] below meth c H locs cells slots (lw_Z below #[Value.ref b] s) (F0 m 671 ls ((([.inr (.inr (.inr (.inl (0, []))))] : List ev_V).map (ev_cv (lw_sg xs) ρx)).reverse ++ .ref (ρx 0) :: [])) → W p l e room_1 s m #[Value.ref b] below meth c H locs cells slots (lw_Z below #[Value.ref b] s) g := by
    intro g hg h
    subst hg
    have es : (([.inr (.inr (.inr (.inl (0, []))))] : List ev_V).map (ev_cv (lw_sg xs) ρx)).reverse = [.int (lw_z (xs 1))] := by
      rw [show lw_z (xs 1) = lw_sg xs 0 from sg0.symm]
      rfl
    rw [es] at h
    exact h
  refine K0 _ rfl ?_
  refine lw_pub (x := 126) (m1 := mt_126) (as' := [.inr (.inr (.inr (.inl (0, []))))]) (wr := ev_wl (lw_sg xs) ρm ca ev_hmm 39) (fs := fx) (ci := 0) rfl hall0 hsat0 (by decide) (by decide) hfx (by decide +kernel) (by decide +kernel) hx hb hml hown hts hK hA hP hD hS ⟨ev_tb_in 6 (List.mem_of_getElem? (i := 76) (by decide +kernel)), ev_tb_in 6 (List.mem_of_getElem? (i := 77) (by decide +kernel)), ev_tb_in 6 (List.mem_of_getElem? (i := 78) (by decide +kernel)), ev_tb_in 1 (List.mem_of_getElem? (i := 1) (by decide +kernel))⟩ ⟨by decide +kernel, by decide +kernel, by decide +kernel⟩ hl.1 (by simp) dl_671 ⟨by show cells + 20 ≤ 600000; omega, by show slots + 4875 ≤ 7302250; omega⟩ (fun H locs hP hD hS => ?_)
  obtain ⟨env1, hsat1, hall1⟩ := pb_mm_image (lw_sg xs) (by rw [sg0]; exact lw_z01 _)
  refine lv_aload_n hx hb dl_674 rfl (lv_at hl 2 rfl) ?_
  refine lw_argb C1 hS hl (k := 1) (by decide) dl_675 dl_676 dl_677 dl_678 dl_679 dl_680 dl_683 dl_684 dl_687 ?_
  have K1 : ∀ g, g = F0 m 688 ls (.int (lw_z (xs 1)) :: .ref (ρm 0) :: [.int (ev_spc sp_image (lw_sg xs))]) → W p l e room_1 s m #[Value.ref b] below meth c H locs (cells + 20) (slots + 4875) (lw_Z below #[Value.ref b] s) (F0 m 688 ls ((([.inr (.inr (.inr (.inl (0, []))))] : List ev_V).map (ev_cv (lw_sg xs) ρm)).reverse ++ .ref (ρm 0) :: [.int (ev_spc sp_image (lw_sg xs))])) → W p l e room_1 s m #[Value.ref b] below meth c H locs (cells + 20) (slots + 4875) (lw_Z below #[Value.ref b] s) g := by
    intro g hg h
    subst hg
    have es : (([.inr (.inr (.inr (.inl (0, []))))] : List ev_V).map (ev_cv (lw_sg xs) ρm)).reverse = [.int (lw_z (xs 1))] := by
      rw [show lw_z (xs 1) = lw_sg xs 0 from sg0.symm]
      rfl
    rw [es] at h
    exact h
  refine K1 _ rfl ?_
  refine lw_pub (x := 128) (m1 := mt_128) (as' := [.inr (.inr (.inr (.inl (0, []))))]) (wr := []) (fs := fm) (ci := 11) rfl hall1 hsat1 (by decide) (by decide) hfm (by decide +kernel) (by decide +kernel) hx hb hml hown hts hK hA (by rw [List.append_nil]; exact hP) (by rw [List.append_nil]; exact hD) hS ⟨ev_tb_in 9 (List.mem_of_getElem? (i := 89) (by decide +kernel)), ev_tb_in 9 (List.mem_of_getElem? (i := 90) (by decide +kernel)), ev_tb_in 9 (List.mem_of_getElem? (i := 91) (by decide +kernel)), ev_tb_in 1 (List.mem_of_getElem? (i := 9) (by decide +kernel))⟩ ⟨by decide +kernel, by decide +kernel, by decide +kernel⟩ hl.1 (by simp [Value.category]) dl_688 ⟨by show cells + 20 + 0 ≤ 600000; omega, by show slots + 4875 + 0 ≤ 7302250; omega⟩ (fun H locs hP hD hS => ?_)
  exact lv_icmp_eq (tgt := 719) hx hb dl_691 (by decide) (fun _ => lw_back C1 hS hl (by show cells + 20 + 0 ≤ 600000; omega) (by show slots + 4875 + 0 ≤ 7302250; omega)) (fun h => absurd rfl h)
set_option maxHeartbeats 4000000 in
theorem lw_c18 {p : Program} {l : Launch} {e : Env} {s : State} {m : MethodId} {below : List Frame} {meth : Method} {c : Code} {b : Nat} {xs : Nat → Int32} {H : Heap} {locs : List Loc} {ls : Array Slot} {dC : Nat → ClassId} {dI : Nat → Nat → Nat} {ca : Nat → ClassId} {ρx ρm : Nat → Nat} {cells slots : Nat} (C0 : lw_At p s m meth c b 6 xs) (hK : va_K (dC, dI) ev_cl (ev_ty ca) s) (hcl : cells ≤ 1000) (hsl : slots ≤ 1000000) (hj : (xs 0 &&& 31).toNatClampNeg = 18) (hP : va_P (dC, dI) ev_cl (ev_wl (lw_sg xs) ρx ca ev_hxx 50 ++ ev_wl (lw_sg xs) ρm ca ev_hmm 39) H) (hD : va_D (fun q : Nat => s.heap.size ≤ q) (ev_wl (lw_sg xs) ρx ca ev_hxx 50 ++ ev_wl (lw_sg xs) ρm ca ev_hmm 39)) (hS : va_S (fun q : Nat => s.heap.size ≤ q) s.heap H locs) (hl : lv_has ls 4 [(0, .ref b), (1, .ref (ρx 0)), (2, .ref (ρm 0)), (3, .int 0)]) : W p l e room_1 s m #[Value.ref b] below meth c H locs cells slots (lw_Z below #[Value.ref b] s) (F0 m 696 ls []) := by
  have C1 := C0
  obtain ⟨hx, hb, hr, hml, hown, hts, hX, hbl, hlocks, hgv⟩ := C0
  have hA : ∀ q : Nat, s.heap.size ≤ q → (fun q : Nat => s.heap.size ≤ q) q := fun _ h => h
  have sg0 : lw_sg xs 0 = xs 1 := by unfold lw_sg; rw [hj] <;> rfl
  obtain ⟨fx, hfx⟩ := ev_hxx_0
  obtain ⟨fm, hfm⟩ := ev_hmm_0
  obtain ⟨env0, hsat0, hall0⟩ := pb_xx_look (lw_sg xs)
  refine lv_aload_n hx hb dl_696 rfl (lv_at hl 1 rfl) ?_
  refine lw_arg C1 hS hl (k := 1) (by decide) dl_697 dl_698 dl_699 dl_700 dl_701 ?_
  have K0 : ∀ g, g = F0 m 702 ls (.int (xs 1) :: .ref (ρx 0) :: []) → W p l e room_1 s m #[Value.ref b] below meth c H locs cells slots (lw_Z below #[Value.ref b] s) (F0 m 702 ls ((([.inr (.inr (.inr (.inl (0, []))))] : List ev_V).map (ev_cv (lw_sg xs) ρx)).reverse ++ .ref (ρx 0) :: [])) → W p l e room_1 s m #[Value.ref b] below meth c H locs cells slots (lw_Z below #[Value.ref b] s) g := by
    intro g hg h
    subst hg
    have es : (([.inr (.inr (.inr (.inl (0, []))))] : List ev_V).map (ev_cv (lw_sg xs) ρx)).reverse = [.int (xs 1)] := by
      rw [show xs 1 = lw_sg xs 0 from sg0.symm]
      rfl
    rw [es] at h
    exact h
  refine K0 _ rfl ?_
  refine lw_pub (x := 130) (m1 := mt_130) (as' := [.inr (.inr (.inr (.inl (0, []))))]) (wr := ev_wl (lw_sg xs) ρm ca ev_hmm 39) (fs := fx) (ci := 0) rfl hall0 hsat0 (by decide) (by decide) hfx (by decide +kernel) (by decide +kernel) hx hb hml hown hts hK hA hP hD hS ⟨ev_tb_in 6 (List.mem_of_getElem? (i := 87) (by decide +kernel)), ev_tb_in 6 (List.mem_of_getElem? (i := 88) (by decide +kernel)), ev_tb_in 6 (List.mem_of_getElem? (i := 89) (by decide +kernel)), ev_tb_in 1 (List.mem_of_getElem? (i := 1) (by decide +kernel))⟩ ⟨by decide +kernel, by decide +kernel, by decide +kernel⟩ hl.1 (by simp) dl_702 ⟨by show cells + 0 ≤ 600000; omega, by show slots + 0 ≤ 7302250; omega⟩ (fun H locs hP hD hS => ?_)
  obtain ⟨env1, hsat1, hall1⟩ := pb_mm_look (lw_sg xs)
  refine lv_aload_n hx hb dl_705 rfl (lv_at hl 2 rfl) ?_
  refine lw_arg C1 hS hl (k := 1) (by decide) dl_706 dl_707 dl_708 dl_709 dl_710 ?_
  have K1 : ∀ g, g = F0 m 711 ls (.int (xs 1) :: .ref (ρm 0) :: [.int (ev_spc sp_look (lw_sg xs))]) → W p l e room_1 s m #[Value.ref b] below meth c H locs (cells + 0) (slots + 0) (lw_Z below #[Value.ref b] s) (F0 m 711 ls ((([.inr (.inr (.inr (.inl (0, []))))] : List ev_V).map (ev_cv (lw_sg xs) ρm)).reverse ++ .ref (ρm 0) :: [.int (ev_spc sp_look (lw_sg xs))])) → W p l e room_1 s m #[Value.ref b] below meth c H locs (cells + 0) (slots + 0) (lw_Z below #[Value.ref b] s) g := by
    intro g hg h
    subst hg
    have es : (([.inr (.inr (.inr (.inl (0, []))))] : List ev_V).map (ev_cv (lw_sg xs) ρm)).reverse = [.int (xs 1)] := by
      rw [show xs 1 = lw_sg xs 0 from sg0.symm]
      rfl
    rw [es] at h
    exact h
  refine K1 _ rfl ?_
  refine lw_pub (x := 135) (m1 := mt_135) (as' := [.inr (.inr (.inr (.inl (0, []))))]) (wr := []) (fs := fm) (ci := 11) rfl hall1 hsat1 (by decide) (by decide) hfm (by decide +kernel) (by decide +kernel) hx hb hml hown hts hK hA (by rw [List.append_nil]; exact hP) (by rw [List.append_nil]; exact hD) hS ⟨ev_tb_in 9 (List.mem_of_getElem? (i := 68) (by decide +kernel)), ev_tb_in 9 (List.mem_of_getElem? (i := 69) (by decide +kernel)), ev_tb_in 9 (List.mem_of_getElem? (i := 70) (by decide +kernel)), ev_tb_in 1 (List.mem_of_getElem? (i := 9) (by decide +kernel))⟩ ⟨by decide +kernel, by decide +kernel, by decide +kernel⟩ hl.1 (by simp [Value.category]) dl_711 ⟨by show cells + 0 + 0 ≤ 600000; omega, by show slots + 0 + 0 ≤ 7302250; omega⟩ (fun H locs hP hD hS => ?_)
  exact lv_icmp_eq (tgt := 719) hx hb dl_714 (by decide) (fun _ => lw_back C1 hS hl (by show cells + 0 + 0 ≤ 600000; omega) (by show slots + 0 + 0 ≤ 7302250; omega)) (fun h => absurd rfl h)
end
section
theorem lw_inst : ∀ (k : Nat) (q : vw_C), ev_cl[k]? = some q → Jvm.Cond.instantiable q.1 q.2.2 ∈ lw_tbl := by
  intro k q h
  match k, h with
  | 0, h => cases h; exact ev_tb_in 1 (List.mem_of_getElem? (i := 24) (by decide +kernel))
  | 1, h => cases h; exact ev_tb_in 3 (List.mem_of_getElem? (i := 182) (by decide +kernel))
  | 2, h => cases h; exact ev_tb_in 3 (List.mem_of_getElem? (i := 219) (by decide +kernel))
  | 3, h => cases h; exact ev_tb_in 2 (List.mem_of_getElem? (i := 43) (by decide +kernel))
  | 4, h => cases h; exact ev_tb_in 1 (List.mem_of_getElem? (i := 149) (by decide +kernel))
  | 5, h => cases h; exact ev_tb_in 3 (List.mem_of_getElem? (i := 192) (by decide +kernel))
  | 6, h => cases h; exact ev_tb_in 1 (List.mem_of_getElem? (i := 32) (by decide +kernel))
  | 7, h => cases h; exact ev_tb_in 2 (List.mem_of_getElem? (i := 120) (by decide +kernel))
  | 8, h => cases h; exact ev_tb_in 4 (List.mem_of_getElem? (i := 20) (by decide +kernel))
  | 9, h => cases h; exact ev_tb_in 1 (List.mem_of_getElem? (i := 38) (by decide +kernel))
  | 10, h => cases h; exact ev_tb_in 1 (List.mem_of_getElem? (i := 141) (by decide +kernel))
  | 11, h => cases h; exact ev_tb_in 6 (List.mem_of_getElem? (i := 106) (by decide +kernel))
  | _ + 12, h => simp [ev_cl] at h
theorem lw_known {s : State} {args : Array Value} (hts : ∀ w ∈ lw_tbl, w.before args s = true) : ∃ (dC : Nat → ClassId) (dI : Nat → Nat → Nat) (ca : Nat → ClassId), va_K (dC, dI) ev_cl (ev_ty ca) s := by
  have h : ∀ k : Nat, ∃ (cC : ClassId) (iS : Nat → Nat), ∀ q : vw_C, ev_cl[k]? = some q → u_Kn s q.1 q.2.1 q.2.2 cC iS := by
    intro k
    cases hq : ev_cl[k]? with
    | none => exact ⟨0, fun _ => 0, fun q h => by cases h⟩
    | some q =>
      obtain ⟨cC, iS, hk⟩ := u_known (C := q.1) (T := q.2.1) (N := q.2.2) (n := q.2.2) hts (fun w hw => (List.mem_filter.mp ((ev_sys.1 k q hq).1 w hw)).1) (hts _ (lw_inst k q hq))
      exact ⟨cC, iS, fun q' h => by cases h; exact hk⟩
  have ha : ∀ ty : FieldType, Jvm.Cond.arrayClass ty ∈ lw_tbl → (∀ C, ty ≠ .object C) → ∃ cA : ClassId, ArrOfT s cA ty ∧ va_RA s cA ty := by
    intro ty hw hne
    obtain ⟨cA, kA, comp, h1, h2, h3⟩ := Cond.arrayClass_spec (hts _ hw)
    refine ⟨cA, fun n z => ⟨fun k h => (by cases h), kA, h2, comp, h3⟩, ?_⟩
    cases ty with
    | object C => exact absurd rfl (hne C)
    | _ => exact h1
  obtain ⟨c0, k0⟩ := ha .int (ev_tb_in 1 (List.mem_of_getElem? (i := 101) (by decide +kernel))) (fun _ h => by cases h)
  obtain ⟨c1, k1⟩ := ha .long (ev_tb_in 2 (List.mem_of_getElem? (i := 117) (by decide +kernel))) (fun _ h => by cases h)
  obtain ⟨c2, k2⟩ := ha .boolean (ev_tb_in 2 (List.mem_of_getElem? (i := 118) (by decide +kernel))) (fun _ h => by cases h)
  obtain ⟨c3, k3⟩ := ha .byte (ev_tb_in 1 (List.mem_of_getElem? (i := 100) (by decide +kernel))) (fun _ h => by cases h)
  refine ⟨fun k => (h k).choose, fun k => (h k).choose_spec.choose, fun k => match k with
    | 0 => c0
    | 1 => c1
    | 2 => c2
    | _ => c3, fun k q hq => (h k).choose_spec.choose_spec q hq, fun k q hq => ?_⟩
  match k, hq with
  | 0, hq => cases hq; exact k0
  | 1, hq => cases hq; exact k1
  | 2, hq => cases hq; exact k2
  | 3, hq => cases hq; exact k3
  | _ + 4, hq => simp [ev_ty] at hq
theorem lw_dflt {q : vw_C} {fs : List ev_V} {ty0 : Nat → FieldType} (hs : ev_snw q fs = true) (hty : ∀ k, k < q.2.2 → parseFieldDescriptor (q.2.1 k).2.2.1 = some (ty0 k)) (σ : Nat → Int32) (ρ : Nat → Nat) : ∀ j, j < q.2.2 → defaultValue (ty0 j) = vp_V (fs.map (ev_cv σ ρ)) j := by
  obtain ⟨-, hs2⟩ := ev_band (show Bool.and _ _ = true from hs)
  intro j hj
  have h1 := List.all_eq_true.mp hs2 j (List.mem_range.mpr hj)
  rw [hty j hj] at h1
  have h1 : ev_dvt (ty0 j) fs[j]? = true := h1
  unfold vp_V
  rw [List.getD_eq_getElem?_getD, List.getElem?_map]
  match ty0 j, fs[j]?, h1 with
  | .long, some (.inr (.inr (.inl 0))), _ => rfl
  | .object _, some (.inr (.inl 0)), _ => rfl
  | .array _, some (.inr (.inl 0)), _ => rfl
  | .int, some (.inl 0), _ => rfl
  | .boolean, some (.inl 0), _ => rfl
  | .byte, some (.inl 0), _ => rfl
noncomputable def ev_isu (r : ev_R) : Bool := match r with
  | some [o] => Bool.not (ev_nu o.1)
  | _ => false
theorem ev_isu_ok {r : ev_R} (h : ev_isu r = true) : ∀ o, r = some [o] → o.1 = ev_U := by
  intro o ho
  subst ho
  have h : Bool.not (ev_nu o.1) = true := h
  match hv : o.1 with
  | .inl _ => rw [hv] at h; cases h
  | .inr (.inl _) => rw [hv] at h; cases h
  | .inr (.inr (.inl _)) => rw [hv] at h; cases h
  | .inr (.inr (.inr (.inl _))) => rw [hv] at h; cases h
  | .inr (.inr (.inr (.inr ()))) => rfl
theorem ev_uxx : ev_isu ev_oxx = true := by decide +kernel
theorem ev_umm : ev_isu ev_omm = true := by decide +kernel
theorem ev_oxx_ok2 : ∃ o, ev_met ev_pg 7 56 [.inr (.inl 1)] ev_nxx 1 [] = some [o] ∧ o.2.1 = ev_hxx ∧ o.2.2.1 = 50 := by
  have h := ev_oxx_ok
  unfold ev_oxx at h
  exact h
theorem ev_omm_ok2 : ∃ o, ev_met ev_pg 7 59 [.inr (.inl 1)] ev_nmm 1 [] = some [o] ∧ o.2.1 = ev_hmm ∧ o.2.2.1 = 39 := by
  have h := ev_omm_ok
  unfold ev_omm at h
  exact h
theorem ev_uxx2 : ∀ o, ev_met ev_pg 7 56 [.inr (.inl 1)] ev_nxx 1 [] = some [o] → o.1 = ev_U := by
  have h := ev_isu_ok ev_uxx
  unfold ev_oxx at h
  exact h
theorem ev_umm2 : ∀ o, ev_met ev_pg 7 59 [.inr (.inl 1)] ev_nmm 1 [] = some [o] → o.1 = ev_U := by
  have h := ev_isu_ok ev_umm
  unfold ev_omm at h
  exact h
theorem ev_nxx_0 : ev_tg 7 ev_nxx 0 = .inl (0, ev_fxx) := (ev_tg_ts _ 7 ev_h0 0 0 (by decide) (by decide)).trans (if_pos rfl)
theorem ev_nmm_0 : ev_tg 7 ev_nmm 0 = .inl (11, ev_fmm) := (ev_tg_ts _ 7 ev_h0 0 0 (by decide) (by decide)).trans (if_pos rfl)
end
section
set_option maxHeartbeats 4000000 in
theorem lw_turn {p : Program} {l : Launch} {e : Env} {s : State} {m : MethodId} {below : List Frame} {meth : Method} {c : Code} {b : Nat} {xs : Nat → Int32} {H : Heap} {locs : List Loc} {ls : Array Slot} {dC : Nat → ClassId} {dI : Nat → Nat → Nat} {ca : Nat → ClassId} {ρx ρm : Nat → Nat} {cells slots : Nat} (C0 : lw_At p s m meth c b 6 xs) (hK : va_K (dC, dI) ev_cl (ev_ty ca) s) (hcl : cells ≤ 1000) (hsl : slots ≤ 1000000) (hP : va_P (dC, dI) ev_cl (ev_wl (lw_sg xs) ρx ca ev_hxx 50 ++ ev_wl (lw_sg xs) ρm ca ev_hmm 39) H) (hD : va_D (fun q : Nat => s.heap.size ≤ q) (ev_wl (lw_sg xs) ρx ca ev_hxx 50 ++ ev_wl (lw_sg xs) ρm ca ev_hmm 39)) (hS : va_S (fun q : Nat => s.heap.size ≤ q) s.heap H locs) (hl : lv_has ls 4 [(0, .ref b), (1, .ref (ρx 0)), (2, .ref (ρm 0)), (3, .int 0)]) : W p l e room_1 s m #[Value.ref b] below meth c H locs cells slots (lw_Z below #[Value.ref b] s) (F0 m 27 ls []) := by
  have C1 := C0
  obtain ⟨hx, hb, hr, hml, hown, hts, hX, hbl, hlocks, hgv⟩ := C0
  refine lv_aload_n hx hb dl_27 rfl (lv_at hl 0 rfl) ?_
  refine lv_iload_n hx hb dl_28 rfl (lv_at hl 3 rfl) ?_
  refine va_sld (i := 0) hx hb hX hbl (Nat.not_le.mpr hbl) hS (ev_in (j := 0) (by decide) (by decide)) dl_29 ?_
  refine lv_bipush (v := 31) hx hb dl_30 (by decide) ?_
  refine lv_iand hx hb dl_32 ?_
  have e0 : (0 : Int32).toNatClampNeg = 0 := by decide +kernel
  rw [e0]
  obtain ⟨j, hj, ej⟩ := pk_andE (xs 0) (m := 31) 5 (by decide +kernel)
  have hjj : (xs 0 &&& 31).toNatClampNeg = j := by rw [ej]; exact nI_clamp (by omega)
  rw [ej]
  match j, hj, hjj with
  | 0, _, hjj => exact lv_tableIn (off := 91) (tgt := 124) hx hb dl_33 (by decide +kernel) (by decide +kernel) (by decide +kernel) (by decide) (lw_c0 C1 hK hcl hsl hjj hP hD hS hl)
  | 1, _, hjj => exact lv_tableIn (off := 124) (tgt := 157) hx hb dl_33 (by decide +kernel) (by decide +kernel) (by decide +kernel) (by decide) (lw_c1 C1 hK hcl hsl hjj hP hD hS hl)
  | 2, _, hjj => exact lv_tableIn (off := 187) (tgt := 220) hx hb dl_33 (by decide +kernel) (by decide +kernel) (by decide +kernel) (by decide) (lw_c2 C1 hK hcl hsl hjj hP hD hS hl)
  | 3, _, hjj => exact lv_tableIn (off := 210) (tgt := 243) hx hb dl_33 (by decide +kernel) (by decide +kernel) (by decide +kernel) (by decide) (lw_c3 C1 hK hcl hsl hjj hP hD hS hl)
  | 4, _, hjj => exact lv_tableIn (off := 223) (tgt := 256) hx hb dl_33 (by decide +kernel) (by decide +kernel) (by decide +kernel) (by decide) (lw_c4 C1 hK hcl hsl hjj hP hD hS hl)
  | 5, _, hjj => exact lv_tableIn (off := 246) (tgt := 279) hx hb dl_33 (by decide +kernel) (by decide +kernel) (by decide +kernel) (by decide) (lw_c5 C1 hK hcl hsl hjj hP hD hS hl)
  | 6, _, hjj => exact lv_tableIn (off := 295) (tgt := 328) hx hb dl_33 (by decide +kernel) (by decide +kernel) (by decide +kernel) (by decide) (lw_c6 C1 hK hcl hsl hjj hP hD hS hl)
  | 7, _, hjj => exact lv_tableIn (off := 308) (tgt := 341) hx hb dl_33 (by decide +kernel) (by decide +kernel) (by decide +kernel) (by decide) (lw_c7 C1 hK hcl hsl hjj hP hD hS hl)
  | 8, _, hjj => exact lv_tableIn (off := 367) (tgt := 400) hx hb dl_33 (by decide +kernel) (by decide +kernel) (by decide +kernel) (by decide) (lw_c8 C1 hK hcl hsl hjj hP hD hS hl)
  | 9, _, hjj => exact lv_tableIn (off := 400) (tgt := 433) hx hb dl_33 (by decide +kernel) (by decide +kernel) (by decide +kernel) (by decide) (lw_c9 C1 hK hcl hsl hjj hP hD hS hl)
  | 10, _, hjj => exact lv_tableIn (off := 433) (tgt := 466) hx hb dl_33 (by decide +kernel) (by decide +kernel) (by decide +kernel) (by decide) (lw_c10 C1 hK hcl hsl hjj hP hD hS hl)
  | 11, _, hjj => exact lv_tableIn (off := 466) (tgt := 499) hx hb dl_33 (by decide +kernel) (by decide +kernel) (by decide +kernel) (by decide) (lw_c11 C1 hK hcl hsl hjj hP hD hS hl)
  | 12, _, hjj => exact lv_tableIn (off := 499) (tgt := 532) hx hb dl_33 (by decide +kernel) (by decide +kernel) (by decide +kernel) (by decide) (lw_c12 C1 hK hcl hsl hjj hP hD hS hl)
  | 13, _, hjj => exact lv_tableIn (off := 522) (tgt := 555) hx hb dl_33 (by decide +kernel) (by decide +kernel) (by decide +kernel) (by decide) (lw_c13 C1 hK hcl hsl hjj hP hD hS hl)
  | 14, _, hjj => exact lv_tableIn (off := 555) (tgt := 588) hx hb dl_33 (by decide +kernel) (by decide +kernel) (by decide +kernel) (by decide) (lw_c14 C1 hK hcl hsl hjj hP hD hS hl)
  | 15, _, hjj => exact lv_tableIn (off := 568) (tgt := 601) hx hb dl_33 (by decide +kernel) (by decide +kernel) (by decide +kernel) (by decide) (lw_c15 C1 hK hcl hsl hjj hP hD hS hl)
  | 16, _, hjj => exact lv_tableIn (off := 591) (tgt := 624) hx hb dl_33 (by decide +kernel) (by decide +kernel) (by decide +kernel) (by decide) (lw_c16 C1 hK hcl hsl hjj hP hD hS hl)
  | 17, _, hjj => exact lv_tableIn (off := 624) (tgt := 657) hx hb dl_33 (by decide +kernel) (by decide +kernel) (by decide +kernel) (by decide) (lw_c17 C1 hK hcl hsl hjj hP hD hS hl)
  | 18, _, hjj => exact lv_tableIn (off := 663) (tgt := 696) hx hb dl_33 (by decide +kernel) (by decide +kernel) (by decide +kernel) (by decide) (lw_c18 C1 hK hcl hsl hjj hP hD hS hl)
  | 19, _, _ => exact lv_tableOut (tgt := 719) hx hb dl_33 (Or.inr (by decide +kernel)) (by decide) (lw_back C1 hS hl (by omega) (by omega))
  | 20, _, _ => exact lv_tableOut (tgt := 719) hx hb dl_33 (Or.inr (by decide +kernel)) (by decide) (lw_back C1 hS hl (by omega) (by omega))
  | 21, _, _ => exact lv_tableOut (tgt := 719) hx hb dl_33 (Or.inr (by decide +kernel)) (by decide) (lw_back C1 hS hl (by omega) (by omega))
  | 22, _, _ => exact lv_tableOut (tgt := 719) hx hb dl_33 (Or.inr (by decide +kernel)) (by decide) (lw_back C1 hS hl (by omega) (by omega))
  | 23, _, _ => exact lv_tableOut (tgt := 719) hx hb dl_33 (Or.inr (by decide +kernel)) (by decide) (lw_back C1 hS hl (by omega) (by omega))
  | 24, _, _ => exact lv_tableOut (tgt := 719) hx hb dl_33 (Or.inr (by decide +kernel)) (by decide) (lw_back C1 hS hl (by omega) (by omega))
  | 25, _, _ => exact lv_tableOut (tgt := 719) hx hb dl_33 (Or.inr (by decide +kernel)) (by decide) (lw_back C1 hS hl (by omega) (by omega))
  | 26, _, _ => exact lv_tableOut (tgt := 719) hx hb dl_33 (Or.inr (by decide +kernel)) (by decide) (lw_back C1 hS hl (by omega) (by omega))
  | 27, _, _ => exact lv_tableOut (tgt := 719) hx hb dl_33 (Or.inr (by decide +kernel)) (by decide) (lw_back C1 hS hl (by omega) (by omega))
  | 28, _, _ => exact lv_tableOut (tgt := 719) hx hb dl_33 (Or.inr (by decide +kernel)) (by decide) (lw_back C1 hS hl (by omega) (by omega))
  | 29, _, _ => exact lv_tableOut (tgt := 719) hx hb dl_33 (Or.inr (by decide +kernel)) (by decide) (lw_back C1 hS hl (by omega) (by omega))
  | 30, _, _ => exact lv_tableOut (tgt := 719) hx hb dl_33 (Or.inr (by decide +kernel)) (by decide) (lw_back C1 hS hl (by omega) (by omega))
  | 31, _, _ => exact lv_tableOut (tgt := 719) hx hb dl_33 (Or.inr (by decide +kernel)) (by decide) (lw_back C1 hS hl (by omega) (by omega))
  | n + 32, h, _ => exact absurd h (by show ¬ n + 32 < 32; omega)
end
section
set_option maxHeartbeats 4000000 in
theorem whole_start {p : Program} {e : Env} {s : State} {m : MethodId} {below : List Frame} {meth : Method} {c : Code} (l : Launch) (hflags : l.flags = flags0) {b L : Nat} {xs : Nat → Int32} (hL : L ≤ 6) (C0 : lw_At p s m meth c b L xs) : W p l e room_1 s m #[Value.ref b] below meth c s.heap [] 0 0 (lw_Z below #[Value.ref b] s) (entryFrame m ([Value.ref b] : List Value).toArray 4) := by
  have C1 := C0
  obtain ⟨hx, hb, hr, hml, hown, hts, hX, hbl, hlocks, hgv⟩ := C0
  have hA : ∀ q : Nat, s.heap.size ≤ q → (fun q : Nat => s.heap.size ≤ q) q := fun _ h => h
  obtain ⟨dC, dI, ca, hK⟩ := lw_known hts
  have hS : va_S (fun q : Nat => s.heap.size ≤ q) s.heap s.heap [] := va_S.rf
  have hP : va_P (dC, dI) ev_cl [] s.heap := fun k q h => by simp at h
  have hD : va_D (fun q : Nat => s.heap.size ≤ q) [] := ⟨fun i j p q h => by simp at h, fun k q h => by simp at h⟩
  have hl := lv_entry ([.ref b]) (n := 4) (Nat.le_of_ble_eq_true rfl)
  rw [lg_entry_eq]
  generalize (lg_sl ([.ref b]) ++ List.replicate (4 - (lg_sl ([.ref b])).length) Slot.unset).toArray = ls at hl ⊢
  have hl : lv_has ls 4 [(0, .ref b)] := hl
  have inX : ∀ {q : vw_C} {k : Nat}, ev_cl[k]? = some q → ∀ w ∈ u_ws q.1 q.2.1 q.2.2, w ∈ lw_tbl := fun hq w hw => (List.mem_filter.mp ((ev_sys.1 _ _ hq).1 w hw)).1
  obtain ⟨ty0, hty0, -⟩ := ck_k0.2
  refine va_new (ci := 0) (fs := ev_fxx.map (ev_cv (lw_sg xs) (fun _ => 0))) (C := "RegisterColours") (T := kd_0) (N := 12) hx hb hts (inX (k := 0) rfl) ty0 hty0 hown (hts _ (ev_tb_in 1 (List.mem_of_getElem? (i := 23) (by decide +kernel)))) (hts _ (lw_inst 0 _ rfl)) (hts _ (ev_tb_in 1 (List.mem_of_getElem? (i := 1) (by decide +kernel)))) hK hP hD hS hA rfl (lw_dflt (q := ("RegisterColours", kd_0, 12)) (fs := ev_fxx) (by decide +kernel) hty0 (lw_sg xs) (fun _ => 0)) (by show 0 + 1 ≤ 600000; omega) (by show 0 + 12 ≤ 7302250; omega) dl_0 (fun q0 H hP hD hS => ?_)
  rw [ev_cvs_cl (σ := lw_sg xs) (ρ := fun _ => q0) (ρ' := fun _ => 0) (n := 0) (fun i h => absurd h (Nat.not_lt_zero i)) (l := ev_fxx) (by decide +kernel)] at hP hD
  refine lv_dup hx hb dl_3 rfl ?_
  refine lw_new (σ := lw_sg xs) (x := 56) (m1 := mt_56) (fs := ev_fxx) (hh := ev_nxx) (hh' := ev_hxx) (n' := 50) (w0 := []) rfl ev_oxx_ok2 rfl ev_uxx2 ev_nxx_0 hx hb hml hown hts hK hA hP hD hS ⟨ev_tb_in 1 (List.mem_of_getElem? (i := 25) (by decide +kernel)), ev_tb_in 1 (List.mem_of_getElem? (i := 26) (by decide +kernel)), ev_tb_in 1 (List.mem_of_getElem? (i := 1) (by decide +kernel))⟩ rfl ⟨by decide +kernel, by decide +kernel, by decide +kernel⟩ hl.1 (by simp [Value.category]) dl_4 ⟨by show 0 + 1 + 49 ≤ 600000; omega, by show 0 + 12 + 12331 ≤ 7302250; omega⟩ (fun ρx H locs h00 hP hD hS => ?_)
  rw [← h00]
  refine lv_astore_n (lv' := [(1, .ref (ρx 0)), (0, .ref b)]) hx hb dl_7 rfl hl (by decide) rfl (fun ls hl => ?_)
  rw [List.nil_append] at hP hD
  obtain ⟨ty1, hty1, -⟩ := ck_k11.2
  refine va_new (ci := 11) (fs := ev_fmm.map (ev_cv (lw_sg xs) (fun _ => 0))) (C := "RegisterColoursModel") (T := kd_11) (N := 73) hx hb hts (inX (k := 11) rfl) ty1 hty1 hown (hts _ (ev_tb_in 6 (List.mem_of_getElem? (i := 105) (by decide +kernel)))) (hts _ (lw_inst 11 _ rfl)) (hts _ (ev_tb_in 1 (List.mem_of_getElem? (i := 9) (by decide +kernel)))) hK hP hD hS hA rfl (lw_dflt (q := ("RegisterColoursModel", kd_11, 73)) (fs := ev_fmm) (by decide +kernel) hty1 (lw_sg xs) (fun _ => 0)) (by show 0 + 1 + 49 + 1 ≤ 600000; omega) (by show 0 + 12 + 12331 + 73 ≤ 7302250; omega) dl_8 (fun q1 H hP hD hS => ?_)
  rw [ev_cvs_cl (σ := lw_sg xs) (ρ := fun _ => q1) (ρ' := fun _ => 0) (n := 0) (fun i h => absurd h (Nat.not_lt_zero i)) (l := ev_fmm) (by decide +kernel)] at hP hD
  refine lv_dup hx hb dl_11 rfl ?_
  refine lw_new (σ := lw_sg xs) (x := 59) (m1 := mt_59) (fs := ev_fmm) (hh := ev_nmm) (hh' := ev_hmm) (n' := 39) (w0 := ev_wl (lw_sg xs) ρx ca ev_hxx 50) rfl ev_omm_ok2 rfl ev_umm2 ev_nmm_0 hx hb hml hown hts hK hA hP hD hS ⟨ev_tb_in 6 (List.mem_of_getElem? (i := 107) (by decide +kernel)), ev_tb_in 6 (List.mem_of_getElem? (i := 108) (by decide +kernel)), ev_tb_in 1 (List.mem_of_getElem? (i := 9) (by decide +kernel))⟩ rfl ⟨by decide +kernel, by decide +kernel, by decide +kernel⟩ hl.1 (by simp [Value.category]) dl_12 ⟨by show 0 + 1 + 49 + 1 + 38 ≤ 600000; omega, by show 0 + 12 + 12331 + 73 + 55975 ≤ 7302250; omega⟩ (fun ρm H locs h01 hP hD hS => ?_)
  rw [← h01]
  refine W.widen (k := 1000) (n := 1000000) (by decide +kernel) (by decide +kernel) ?_
  refine lv_astore_n (lv' := [(2, .ref (ρm 0)), (1, .ref (ρx 0)), (0, .ref b)]) hx hb dl_15 rfl hl (by decide) rfl (fun ls hl => ?_)
  refine lv_iconst (v := 0) hx hb dl_16 (by decide) ?_
  refine lv_istore_n (lv' := [(3, .int 0), (2, .ref (ρm 0)), (1, .ref (ρx 0)), (0, .ref b)]) hx hb dl_17 rfl hl (by decide) rfl (fun ls hl => ?_)
  refine lv_iload_n hx hb dl_18 rfl (lv_at hl 0 rfl) ?_
  refine lv_aload_n hx hb dl_19 rfl (lv_at hl 3 rfl) ?_
  refine va_slen hx hb hX hbl (Nat.not_le.mpr hbl) hS dl_20 ?_
  refine lv_bipush (v := 6) hx hb dl_21 (by decide) ?_
  refine lv_isub hx hb dl_23 ?_
  rcases (show L = 0 ∨ L = 1 ∨ L = 2 ∨ L = 3 ∨ L = 4 ∨ L = 5 ∨ L = 6 by omega) with rfl | rfl | rfl | rfl | rfl | rfl | rfl
  · exact lv_icmp_gt (tgt := 725) hx hb dl_24 (by decide) (fun _ => lw_end C1 hS (by decide) (by decide)) (fun h => absurd (by decide +kernel) h)
  · exact lv_icmp_gt (tgt := 725) hx hb dl_24 (by decide) (fun _ => lw_end C1 hS (by decide) (by decide)) (fun h => absurd (by decide +kernel) h)
  · exact lv_icmp_gt (tgt := 725) hx hb dl_24 (by decide) (fun _ => lw_end C1 hS (by decide) (by decide)) (fun h => absurd (by decide +kernel) h)
  · exact lv_icmp_gt (tgt := 725) hx hb dl_24 (by decide) (fun _ => lw_end C1 hS (by decide) (by decide)) (fun h => absurd (by decide +kernel) h)
  · exact lv_icmp_gt (tgt := 725) hx hb dl_24 (by decide) (fun _ => lw_end C1 hS (by decide) (by decide)) (fun h => absurd (by decide +kernel) h)
  · exact lv_icmp_gt (tgt := 725) hx hb dl_24 (by decide) (fun _ => lw_end C1 hS (by decide) (by decide)) (fun h => absurd (by decide +kernel) h)
  · exact lv_icmp_gt (tgt := 725) hx hb dl_24 (by decide) (fun h => absurd h (by decide +kernel)) (fun _ => lw_turn C1 hK (Nat.le_refl _) (Nat.le_refl _) hP hD hS (lv_sub hl [3, 2, 1, 0] rfl))
-- ===== YOUR PART ENDS =====
set_option maxHeartbeats 4000000 in
theorem lw_walk (l : Launch) (hflags : l.flags = flags0) (b : Addr) (xs : List Int32) : MetFree l x (headSpec (Jvm.Cond.code x code maxLocals ret :: tables_1) room_1) (lw_P b xs) (fun _ _ _ _ _ => True) lw_Q := by
  refine MetFree.of_bodyS (code := code) (maxLocals := maxLocals) (ret := ret) (by decide) ?_ ?_
  · intro args s m h hn
    obtain ⟨meth, c, h1, h2, h3, h4, h5, h6, -, -⟩ := Cond.code_spec hn (atoms_spec (ws := Jvm.Cond.code x code maxLocals ret :: tables_1) h _ List.mem_cons_self)
    exact ⟨meth, c, h1, h2, h3, h4, h5, h6⟩
  · intro p e s m args below meth c s₁ B hml0 hP _
    obtain ⟨rfl, hx, hbd, hgv⟩ := hP
    obtain ⟨scr, harrAt, hlist, hof, hsmall⟩ := hx
    obtain ⟨hcb, hkn, -, -⟩ := State.arrayAt?_spec harrAt
    have hown : s.vm.findClass R_law = some m.cls := findClass_of_methodNamed B.named
    have hts0 : ∀ c ∈ (Jvm.Cond.code x code maxLocals ret :: tables_1), c.before #[Value.ref b] s = true := atoms_spec (ws := Jvm.Cond.code x code maxLocals ret :: tables_1) B.pre
    have hts : ∀ w ∈ lw_tbl, w.before #[Value.ref b] s = true := k2_hts_sels lw_privs (fun w hw => hts0 w (List.mem_cons_of_mem _ hw)) lw_privs_ok
    have hml : c.maxLocals = 4 := B.maxLocals_eq (hts0 _ List.mem_cons_self)
    have X₀ : Stand p l e room_1 s m #[Value.ref b] below meth c s₁ [] 0 0 := Stand.of_body B
    have hh0 : s₁.heap = s.heap := by rw [B.state]; rfl
    have hsz : scr.slots.size = xs.length := by rw [← Array.length_toList, hlist, List.length_map]
    have hval : ∀ j : Nat, j < xs.length → scr.slots[j]? = some (.int (xs.getD j 0)) := fun j hj => by
      rw [← Array.getElem?_toList, hlist]
      simp [hj]
    have hbl : b < s.heap.size := (Array.getElem?_eq_some_iff.mp hcb).1
    have hX : va_X b xs.length (fun j => xs.getD j 0) s s.heap := ⟨scr, hcb, hof, hkn, hsz, hval⟩
    have K : W p l e room_1 s m #[Value.ref b] below meth c s₁.heap [] 0 0 (lw_Z below #[Value.ref b] s) (entryFrame m ([Value.ref b] : List Value).toArray 4) := by
      rw [hh0]
      exact whole_start l hflags hbd ⟨B.exec, B.bytes, B.returns, hml, hown, hts, hX, hbl, B.notSynchronized, hgv⟩
    obtain ⟨t, a1, o, b1, b2, b3⟩ := K s₁ rfl X₀
    exact ⟨t, o, a1, b1, b2, b3⟩
theorem lw_pre_spec {args : Array Value} {s : State} (h : (Jvm.Cond.and given_1 narrow_1).before args s = true) (hr : rest_1_c.before args s = true) : ∃ (b : Addr) (xs : List Int32), lw_P b xs args s := by
  have hs := flat_of_before _ h
  have hq := flat_of_before _ hr
  have hc : (Cond.count 1).before args s = true := hs _ (by decide +kernel)
  have harr : (Cond.arrayOf (.arg 0) .int).before args s = true := hs _ (by decide +kernel)
  have hle : (Cond.le (.length (.arg 0)) (.int 6)).before args s = true := hs _ (by decide +kernel)
  have hlen : (Cond.isInt (.length (.arg 0))).before args s = true := hq _ (by decide +kernel)
  have hall : (Cond.all (.arg 0) (.isInt (.elem (.arg 0) (.index 0)))).before args s = true := hq _ (by decide +kernel)
  obtain ⟨b, xs, hb, hx⟩ := State.ints_of_pre rfl harr hlen hall
  have hsm : xs.length < 2 ^ 31 := hx.choose_spec.2.2.2
  have hev : (Term.length (.arg 0)).eval args s none [] s = some (.int xs.length.toInt32) := hx.length_eval hb
  have hv := Cond.le_ints hev (show (Term.int 6).eval args s none [] s = some (.int 6) from rfl)
  have hd : xs.length.toInt32 ≤ 6 := by
    simpa [Cond.before, Cond.holds, hv] using hle
  have hN : xs.length ≤ 6 := (Int32.ofNat_le_ofNat hsm (by decide)).mp (show Int32.ofNat xs.length ≤ Int32.ofNat 6 from hd)
  exact ⟨b, xs, Cond.one_arg hc (show args[0]? = some (.ref b) from hb), hx, hN, h⟩
theorem lw_comes (l : Launch) (hflags : l.flags = flags0) : Comes l x (Jvm.Cond.code x code maxLocals ret :: tables_1) room_1 (fun tb e args s => Calls_1 tb e args s ∧ rest_1 tb e args s ∧ Pre_1 tb e args s)
    (fun _ _ args s o t => lw_Q args s o t) := by
  intro p e ha hc hk s m args below hf hfit hheap happ hpre
  obtain ⟨b, xs, hP⟩ := lw_pre_spec hpre.2.2 hpre.2.1
  obtain ⟨k, o, h1, h2, h3, hQ⟩ := lw_walk l hflags b xs p e ha hc hk s m args below hf ((Spec.applies_iff_loose hf).mp happ).1 hP trivial
  exact ⟨k, o, h1, h2, h3, hQ⟩
theorem lw_frame {s t : State} {o : Outcome} {args : Array Value} (h : Framed s o t [] 600000 7302250) :
    Framed s o t (fieldLocs frame_1_writes args s ++ arrayLocs frame_1_arrays args s ++ staticLocs frame_1_statics s) 600000 7302250 := h
theorem lw_limb (L : Cond) (hL : ∀ (args : Array Value) (s t : State), L.after args s (.returned (some (.int 1))) t = true) :
    ArmFor flags0 classFile x code maxLocals ret World_1 tables_1 room_1 Calls_1 rest_1 Pre_1
      (fun tb e a s o t => postC L tb e a s o t ∧ Framed s o t (fieldLocs frame_1_writes a s ++ arrayLocs frame_1_arrays a s ++ staticLocs frame_1_statics s) 600000 7302250) := by
  intro l hflags _ _ p e ha hc hk s m args below hf hfit hheap happ hpre
  obtain ⟨k, o, h1, h2, h3, rfl, hF⟩ := lw_comes l hflags p e ha hc hk s m args below hf hfit hheap happ hpre
  exact ⟨k, _, h1, h2, h3, hL args s _, lw_frame hF⟩
theorem i_vc : Claimed_1_1 ∧ Claimed_1_2 := ⟨lw_limb limb_1_1 (fun args s t => by simp [limb_1_1, Cond.after, Cond.holds, Cond.value]), lw_limb limb_1_2 (fun args s t => Cond.after_iff.mpr (by
  first | (rw [show limb_1_2 = Cond.eq .result (.int 1) from rfl, Cond.eq_ints (x := 1) (y := 1) rfl rfl]; simp; done) | (simp [limb_1_2, Cond.value, Term.eval]; done)))⟩
end
