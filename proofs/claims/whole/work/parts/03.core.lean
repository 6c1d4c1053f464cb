/-! A SMALL MACHINE over the tables: what a method's bytecode does, said with numbers (Int) and a heap of objects by their numbers; 04 proves that the JVM does the same -/
abbrev AV : Type := Sum Int (Sum Nat (Sum Int (Sum UInt32 (Sum UInt64 (Sum Nat Unit)))))
abbrev AI (x : Int) : AV := .inl x
abbrev AR (k : Nat) : AV := .inr (.inl k)
abbrev AL (x : Int) : AV := .inr (.inr (.inl x))
abbrev AF (x : UInt32) : AV := .inr (.inr (.inr (.inl x)))
abbrev AD (x : UInt64) : AV := .inr (.inr (.inr (.inr (.inl x))))
abbrev AS (k : Nat) : AV := .inr (.inr (.inr (.inr (.inr (.inl k)))))
abbrev AU : AV := .inr (.inr (.inr (.inr (.inr (.inr ())))))
def am_code (m : Nat) : List AEnt := am_codes.getD m []
def am_ml (m : Nat) : Nat := am_mls.getD m 0
def am_rt (m : Nat) : Nat := am_rts.getD m 0
def am_na (m : Nat) : Nat := am_nas.getD m 0
def am_ci (m : Nat) : Nat := am_cis.getD m 99
def am_hn (m : Nat) : List (Nat × Int) := am_hns.getD m []
/-- kinds of the objects (class or array kind, length, references), what they hold, how many cells and slots were made, the script -/
abbrev AKd : Type := Nat × Nat × List Nat
abbrev Sg : Type := List AKd × (Nat → Nat → Int) × Nat × Nat × Nat × (Nat → Int)
def kd (σ : Sg) (k : Nat) : Option AKd := match k with
  | 0 => none
  | k + 1 => σ.1[k]?
def okd (σ : Sg) (k : Nat) : Nat := match kd σ k with
  | some (c, _, _) => c
  | none => 99
def oln (σ : Sg) (k : Nat) : Int := match kd σ k with
  | some (_, n, _) => (n : Int)
  | none => 0
def orf (σ : Sg) (k j : Nat) : Nat := match kd σ k with
  | some (_, _, rs) => rs.getD j 0
  | none => 0
def get (σ : Sg) (k j : Nat) : Int := σ.2.1 k j
def hput (h : Nat → Nat → Int) (k j : Nat) (v : Int) : Nat → Nat → Int := fun a b => if a = k ∧ b = j then v else h a b
def put (σ : Sg) (k j : Nat) (v : Int) : Sg := (σ.1, hput σ.2.1 k j v, σ.2.2)
def putr (σ : Sg) (k j r : Nat) : Sg := match k with
  | 0 => σ
  | k + 1 => (σ.1.modify k (fun q => (q.1, q.2.1, q.2.2.set j r)), σ.2)
/-- a block of words, copied or filled -/
def hcopy (h : Nat → Nat → Int) (a sp b dp n : Nat) : Nat → Nat → Int := fun x y => if x = b ∧ dp ≤ y ∧ y < dp + n then h a (sp + (y - dp)) else h x y
def copyw (σ : Sg) (a sp b dp n : Nat) : Sg := (σ.1, hcopy σ.2.1 a sp b dp n, σ.2.2)
/-- a new object or array: its number is the next one -/
def hnew (h : Nat → Nat → Int) (k : Nat) : Nat → Nat → Int := fun x y => if x = k then 0 else h x y
def mk (σ : Sg) (q : AKd) (n : Nat) : Sg := (σ.1 ++ [q], hnew σ.2.1 (σ.1.length + 1), σ.2.2.1 + 1, σ.2.2.2.1 + n, σ.2.2.2.2)
/-- many new int arrays of n words -/
def mks (σ : Sg) (n : Nat) : Nat → Sg
  | 0 => σ
  | j + 1 => mk (mks σ n j) (20, n, []) n
def bump (σ : Sg) : Sg := (σ.1, σ.2.1, σ.2.2.1 + 1, σ.2.2.2.1 + 6, σ.2.2.2.2)
def fresh (σ : Sg) : Bool := σ.1.length == σ.2.2.1
def wr (z : Int) : Int := (z + 2147483648) % 4294967296 - 2147483648
def inR (z : Int) : Prop := -2147483648 ≤ z ∧ z ≤ 2147483647
def cat1 : AV → Bool
  | .inr (.inr (.inl _)) => false
  | .inr (.inr (.inr (.inr (.inl _)))) => false
  | _ => true
def k2 (v : AV) : AV := if cat1 v then v else AU
def acat (v : AV) : Nat := if cat1 v then 1 else 2
def acats (l : List AV) : Nat := (l.map acat).sum
/-- a store into a place; what was half covered is gone -/
def sto (ls : List AV) (i : Nat) (v : AV) : List AV := match i with
  | 0 => ls.set 0 v
  | i + 1 => (ls.modify i k2).set (i + 1) v
def sto2 (ls : List AV) (i : Nat) (v : AV) : List AV := (sto ls i v).set (i + 1) AU
def icond (c : ClassFile.Cond) (x y : Int) : Bool := match c with
  | .eq => decide (x = y)
  | .ne => decide (x ≠ y)
  | .lt => decide (x < y)
  | .ge => decide (y ≤ x)
  | .gt => decide (y < x)
  | .le => decide (x ≤ y)
/-- one step: on; a call; an answer; a throw -/
abbrev ST : Type := Sum (Nat × List AV × List AV × Sg) (Sum (Nat × List AV × Nat × List AV × List AV × Sg) (Sum (AV × Sg) (Nat × Sg)))
def nx (pc : Nat) (ls st : List AV) (σ : Sg) : Option ST := some (.inl (pc, ls, st, σ))
def jmp (pc : Nat) (off : Int) (ls st : List AV) (σ : Sg) : Option ST := if 0 ≤ (pc : Int) + off then nx ((pc : Int) + off).toNat ls st σ else none
def cal (y : Nat) (as : List AV) (pc : Nat) (ls st : List AV) (σ : Sg) : Option ST := if acats st ≤ 8 ∧ as.all cat1 = true ∧ as.length ≤ am_ml y then some (.inr (.inl (y, as, pc, ls, st, σ))) else none
def retv (v : AV) (σ : Sg) : Option ST := some (.inr (.inr (.inl (v, σ))))
def thr (E : Nat) (σ : Sg) : Option ST := some (.inr (.inr (.inr (E, σ))))
def ldi (pc : Nat) (ls st : List AV) (σ : Sg) (i : Nat) : Option ST := match ls[i]? with
  | some (.inl x) => nx pc ls (AI x :: st) σ
  | _ => none
def lda (pc : Nat) (ls st : List AV) (σ : Sg) (i : Nat) : Option ST := match ls[i]? with
  | some (.inr (.inl (k + 1))) => nx pc ls (AR (k + 1) :: st) σ
  | some (.inr (.inr (.inr (.inr (.inr (.inl k)))))) => nx pc ls (AS k :: st) σ
  | _ => none
def ldd (pc : Nat) (ls st : List AV) (σ : Sg) (i : Nat) : Option ST := match ls[i]? with
  | some (.inr (.inr (.inr (.inr (.inl x))))) => nx pc ls (AD x :: st) σ
  | _ => none
def sti (pc : Nat) (ls st : List AV) (σ : Sg) (i : Nat) : Option ST := match st with
  | .inl x :: st => if i < ls.length then nx pc (sto ls i (AI x)) st σ else none
  | _ => none
def sta (pc : Nat) (ls st : List AV) (σ : Sg) (i : Nat) : Option ST := match st with
  | .inr (.inl (k + 1)) :: st => if i < ls.length then nx pc (sto ls i (AR (k + 1))) st σ else none
  | _ => none
def std (pc : Nat) (ls st : List AV) (σ : Sg) (i : Nat) : Option ST := match st with
  | .inr (.inr (.inr (.inr (.inl x)))) :: st => if i + 1 < ls.length then nx pc (sto2 ls i (AD x)) st σ else none
  | _ => none
def akind (t : ArrayType) : Nat := match t with
  | .int => 20
  | .boolean => 21
  | .long => 22
  | _ => 0
def text (k : Nat) : List Int := match k with
  | 0 => []
  | k + 1 => am_txt.getD k []
def stC (pc : Nat) (ls st : List AV) (σ : Sg) (a b c : Nat) : Option ST :=
  if c = 1 ∨ c = 4 then (if b ≤ st.length then cal a (st.take b).reverse (pc + 3) ls (st.drop b) σ else none)
  else if c = 0 ∨ c = 2 ∨ c = 3 then (match st.drop b with
    | .inr (.inl (t + 1)) :: rest => if okd σ (t + 1) = am_ci a then cal a (AR (t + 1) :: (st.take b).reverse) (pc + 3) ls rest σ else none
    | _ => none)
  else if c = 5 then (match st with
    | .inr (.inl (_ + 1)) :: rest => if acats rest ≤ 8 then nx (pc + 3) ls rest σ else none
    | _ => none)
  else if c = 6 then (match st with
    | .inl n :: .inl dp :: .inr (.inl y) :: .inl sp :: .inr (.inl x) :: rest =>
      if acats rest ≤ 8 ∧ okd σ x = 20 ∧ okd σ y = 20 ∧ 0 ≤ sp ∧ 0 ≤ dp ∧ 0 ≤ n ∧ sp + n ≤ oln σ x ∧ dp + n ≤ oln σ y then nx (pc + 3) ls rest (copyw σ x sp.toNat y dp.toNat n.toNat) else none
    | _ => none)
  else if c = 7 then (match st with
    | .inr (.inr (.inr (.inr (.inr (.inl (k + 1)))))) :: rest => if acats rest ≤ 8 ∧ k < am_txt.length then nx (pc + 3) ls (AI ((text (k + 1)).length) :: rest) σ else none
    | _ => none)
  else if c = 8 then (match st with
    | .inl i :: .inr (.inr (.inr (.inr (.inr (.inl (k + 1)))))) :: rest => if acats rest ≤ 8 ∧ k < am_txt.length ∧ 0 ≤ i ∧ i < (text (k + 1)).length then nx (pc + 3) ls (AI ((text (k + 1)).getD i.toNat 0) :: rest) σ else none
    | _ => none)
  else none
def stepI (m pc : Nat) (ls st : List AV) (σ : Sg) (ins : Instr) (a b c : Nat) : Option ST := match ins with
  | .iconst n => nx (pc + 1) ls (AI (wr n) :: st) σ
  | .bipush n => nx (pc + 2) ls (AI (Int8.ofInt n).toInt :: st) σ
  | .sipush n => nx (pc + 3) ls (AI (Int16.ofInt n).toInt :: st) σ
  | .lconst n => nx (pc + 1) ls (AL (n.val : Int) :: st) σ
  | .fconst n => if n.val = 1 then nx (pc + 1) ls (AF FP.fconst1 :: st) σ else none
  | .dconst n => if n.val = 0 then nx (pc + 1) ls (AD FP.dconst0 :: st) σ else none
  | .ldc _ => nx (pc + 2) ls (AS a :: st) σ
  | .ldc_w _ => nx (pc + 3) ls (AS a :: st) σ
  | .iload i => ldi (pc + 2) ls st σ i
  | .iload_n i => ldi (pc + 1) ls st σ i.val
  | .aload i => lda (pc + 2) ls st σ i
  | .aload_n i => lda (pc + 1) ls st σ i.val
  | .dload i => ldd (pc + 2) ls st σ i
  | .istore i => sti (pc + 2) ls st σ i
  | .istore_n i => sti (pc + 1) ls st σ i.val
  | .astore i => sta (pc + 2) ls st σ i
  | .astore_n i => sta (pc + 1) ls st σ i.val
  | .dstore i => std (pc + 2) ls st σ i
  | .iinc i d => (match ls[i]? with
    | some (.inl x) => nx (pc + 3) (sto ls i (AI (wr (x + d)))) st σ
    | _ => none)
  | .dup => (match st with
    | v :: rest => if cat1 v then nx (pc + 1) ls (v :: v :: rest) σ else none
    | _ => none)
  | .dup2 => (match st with
    | v :: w :: rest => if cat1 v && cat1 w then nx (pc + 1) ls (v :: w :: v :: w :: rest) σ else none
    | _ => none)
  | .pop => (match st with
    | v :: rest => if cat1 v then nx (pc + 1) ls rest σ else none
    | _ => none)
  | .iadd => (match st with
    | .inl y :: .inl x :: rest => nx (pc + 1) ls (AI (wr (x + y)) :: rest) σ
    | _ => none)
  | .isub => (match st with
    | .inl y :: .inl x :: rest => nx (pc + 1) ls (AI (wr (x - y)) :: rest) σ
    | _ => none)
  | .imul => (match st with
    | .inl y :: .inl x :: rest => nx (pc + 1) ls (AI (wr (x * y)) :: rest) σ
    | _ => none)
  | .idiv => (match st with
    | .inl y :: .inl x :: rest => if 0 ≤ x ∧ 0 < y then nx (pc + 1) ls (AI (x / y) :: rest) σ else none
    | _ => none)
  | .irem => (match st with
    | .inl y :: .inl x :: rest => if 0 ≤ x ∧ 0 < y then nx (pc + 1) ls (AI (x % y) :: rest) σ else none
    | _ => none)
  | .iand => (match st with
    | .inl y :: .inl x :: rest => if y = 63 ∨ y = 255 then nx (pc + 1) ls (AI (x % (y + 1)) :: rest) σ else none
    | _ => none)
  | .iushr => (match st with
    | .inl y :: .inl x :: rest => if y = 8 ∨ y = 16 ∨ y = 24 then nx (pc + 1) ls (AI ((x % 4294967296) / 2 ^ y.toNat) :: rest) σ else none
    | _ => none)
  | .ishr => (match st with
    | .inl y :: .inl x :: rest => if 0 ≤ y ∧ y ≤ 31 then nx (pc + 1) ls (AI (x / 2 ^ y.toNat) :: rest) σ else none
    | _ => none)
  | .i2l => (match st with
    | .inl x :: rest => nx (pc + 1) ls (AL x :: rest) σ
    | _ => none)
  | .lcmp => (match st with
    | .inr (.inr (.inl y)) :: .inr (.inr (.inl x)) :: rest => nx (pc + 1) ls (AI (if x < y then -1 else if x = y then 0 else 1) :: rest) σ
    | _ => none)
  | .i2f => (match st with
    | .inl x :: rest => nx (pc + 1) ls (AF (FP.i2f (Int32.ofInt x)) :: rest) σ
    | _ => none)
  | .i2d => (match st with
    | .inl x :: rest => nx (pc + 1) ls (AD (FP.i2d (Int32.ofInt x)) :: rest) σ
    | _ => none)
  | .f2d => (match st with
    | .inr (.inr (.inr (.inl x))) :: rest => if FP.f2d x &&& 0x7fffffffffffffff ≤ 0x7ff0000000000000 then nx (pc + 1) ls (AD (FP.f2d x) :: rest) σ else none
    | _ => none)
  | .fdiv => (match st with
    | .inr (.inr (.inr (.inl y))) :: .inr (.inr (.inr (.inl x))) :: rest => if FP.fdiv x y &&& 0x7fffffff ≤ 0x7f800000 then nx (pc + 1) ls (AF (FP.fdiv x y) :: rest) σ else none
    | _ => none)
  | .ddiv => (match st with
    | .inr (.inr (.inr (.inr (.inl y)))) :: .inr (.inr (.inr (.inr (.inl x)))) :: rest => if FP.ddiv x y &&& 0x7fffffffffffffff ≤ 0x7ff0000000000000 then nx (pc + 1) ls (AD (FP.ddiv x y) :: rest) σ else none
    | _ => none)
  | .dcmp op => (match st with
    | .inr (.inr (.inr (.inr (.inl y)))) :: .inr (.inr (.inr (.inr (.inl x)))) :: rest => nx (pc + 1) ls (AI (Op.cmpValue (FP.dcmp x y) op).toInt :: rest) σ
    | _ => none)
  | .goto off => jmp pc off ls st σ
  | .ifCond cd off => (match st with
    | .inl x :: rest => if icond cd x 0 then jmp pc off ls rest σ else nx (pc + 3) ls rest σ
    | _ => none)
  | .if_icmp cd off => (match st with
    | .inl y :: .inl x :: rest => if icond cd x y then jmp pc off ls rest σ else nx (pc + 3) ls rest σ
    | _ => none)
  | .tableswitch d lo hi offs => (match st with
    | .inl x :: rest => if x < lo ∨ hi < x then jmp pc d ls rest σ else (match offs[(x - lo).toNat]? with
      | some off => jmp pc off ls rest σ
      | none => none)
    | _ => none)
  | .lookupswitch d ps => (match st with
    | .inl x :: rest => if (ps.toList.zip (ps.toList.drop 1)).all (fun (a, next) => a.1 < next.1) = true then jmp pc (Op.lookupswitch.offset ps.toList d x) ls rest σ else none
    | _ => none)
  | .ireturn => (match st with
    | [.inl x] => if am_rt m = 1 ∨ (am_rt m = 2 ∧ (x = 0 ∨ x = 1)) then retv (AI x) σ else none
    | _ => none)
  | .freturn => (match st with
    | [.inr (.inr (.inr (.inl x)))] => if am_rt m = 3 then retv (AF x) σ else none
    | _ => none)
  | .dreturn => (match st with
    | [.inr (.inr (.inr (.inr (.inl x))))] => if am_rt m = 4 then retv (AD x) σ else none
    | _ => none)
  | .return_ => (match st with
    | [] => if am_rt m = 0 then retv AU σ else none
    | _ => none)
  | .getfield _ => (match st with
    | .inr (.inl k) :: rest => if okd σ k = a then (if c = 1 then (match orf σ k b with
      | 0 => none
      | j + 1 => nx (pc + 3) ls (AR (j + 1) :: rest) σ) else nx (pc + 3) ls (AI (get σ k b) :: rest) σ) else none
    | _ => none)
  | .putfield _ => (match st with
    | .inl x :: .inr (.inl k) :: rest => if okd σ k = a ∧ (c = 0 ∨ (c = 2 ∧ (x = 0 ∨ x = 1))) then nx (pc + 3) ls rest (put σ k b x) else none
    | .inr (.inl (j + 1)) :: .inr (.inl k) :: rest => if okd σ k = a ∧ c = 1 then nx (pc + 3) ls rest (putr σ k b (j + 1)) else none
    | _ => none)
  | .newarray t => (match st with
    | .inl n :: rest => if 0 ≤ n ∧ n ≤ 100000 ∧ fresh σ = true ∧ 20 ≤ akind t then nx (pc + 2) ls (AR (σ.1.length + 1) :: rest) (mk σ (akind t, n.toNat, []) n.toNat) else none
    | _ => none)
  | .anewarray _ => (match st with
    | .inl n :: rest => if 0 ≤ n ∧ n ≤ 100000 ∧ fresh σ = true then nx (pc + 3) ls (AR (σ.1.length + 1) :: rest) (mk σ (23, n.toNat, List.replicate n.toNat 0) n.toNat) else none
    | _ => none)
  | .multianewarray _ _ => (match st with
    | .inl k :: .inl n :: rest => if 0 ≤ n ∧ n ≤ 1000 ∧ 0 ≤ k ∧ k ≤ 1000 ∧ fresh σ = true then nx (pc + 4) ls (AR (σ.1.length + 1) :: rest) (mks (mk σ (24, n.toNat, (List.range n.toNat).map (fun i => σ.1.length + 2 + i)) n.toNat) k.toNat n.toNat) else none
    | _ => none)
  | .new _ => if c = 9 then (if acats st ≤ 8 then thr a (bump σ) else none) else if fresh σ = true then nx (pc + 3) ls (AR (σ.1.length + 1) :: st) (mk σ (a, b, List.replicate b 0) b) else none
  | .arraylength => (match st with
    | .inr (.inl k) :: rest => if okd σ k = 20 ∧ oln σ k ≤ 1000000 then nx (pc + 1) ls (AI (oln σ k) :: rest) σ else none
    | .inr (.inr (.inr (.inr (.inr (.inl 0))))) :: rest => nx (pc + 1) ls (AI (σ.2.2.2.2.1 : Int) :: rest) σ
    | _ => none)
  | .iaload => (match st with
    | .inl i :: .inr (.inl k) :: rest => if okd σ k = 20 ∧ 0 ≤ i ∧ i < oln σ k then nx (pc + 1) ls (AI (get σ k i.toNat) :: rest) σ else none
    | .inl i :: .inr (.inr (.inr (.inr (.inr (.inl 0))))) :: rest => if 0 ≤ i ∧ i < (σ.2.2.2.2.1 : Int) then nx (pc + 1) ls (AI (σ.2.2.2.2.2 i.toNat) :: rest) σ else none
    | _ => none)
  | .iastore => (match st with
    | .inl x :: .inl i :: .inr (.inl k) :: rest => if okd σ k = 20 ∧ 0 ≤ i ∧ i < oln σ k then nx (pc + 1) ls rest (put σ k i.toNat x) else none
    | _ => none)
  | .baload => (match st with
    | .inl i :: .inr (.inl k) :: rest => if okd σ k = 21 ∧ 0 ≤ i ∧ i < oln σ k then nx (pc + 1) ls (AI (get σ k i.toNat) :: rest) σ else none
    | _ => none)
  | .bastore => (match st with
    | .inl x :: .inl i :: .inr (.inl k) :: rest => if okd σ k = 21 ∧ 0 ≤ i ∧ i < oln σ k ∧ (x = 0 ∨ x = 1) then nx (pc + 1) ls rest (put σ k i.toNat x) else none
    | _ => none)
  | .laload => (match st with
    | .inl i :: .inr (.inl k) :: rest => if okd σ k = 22 ∧ 0 ≤ i ∧ i < oln σ k then nx (pc + 1) ls (AL (get σ k i.toNat) :: rest) σ else none
    | _ => none)
  | .lastore => (match st with
    | .inr (.inr (.inl x)) :: .inl i :: .inr (.inl k) :: rest => if okd σ k = 22 ∧ 0 ≤ i ∧ i < oln σ k then nx (pc + 1) ls rest (put σ k i.toNat x) else none
    | _ => none)
  | .aaload => (match st with
    | .inl i :: .inr (.inl k) :: rest => if (okd σ k = 23 ∨ okd σ k = 24) ∧ 0 ≤ i ∧ i < oln σ k then (match orf σ k i.toNat with
      | 0 => none
      | j + 1 => nx (pc + 1) ls (AR (j + 1) :: rest) σ) else none
    | _ => none)
  | .aastore => (match st with
    | .inr (.inl (j + 1)) :: .inl i :: .inr (.inl k) :: rest => if okd σ k = 23 ∧ okd σ (j + 1) = 9 ∧ 0 ≤ i ∧ i < oln σ k then nx (pc + 1) ls rest (putr σ k i.toNat (j + 1)) else none
    | _ => none)
  | .invokevirtual _ => stC pc ls st σ a b c
  | .invokespecial _ => stC pc ls st σ a b c
  | .invokestatic _ => stC pc ls st σ a b c
  | _ => none
def am_find (l : List AEnt) (pc : Nat) : Option AEnt := l.find? (fun e => e.1 == pc)
def step (m pc : Nat) (ls st : List AV) (σ : Sg) : Option ST := match am_find (am_code m) pc with
  | some (_, ins, _, a, b, c, _) => stepI m pc ls st σ ins a b c
  | none => none
abbrev Out : Type := Sum AV Nat × Sg
def entryL (y : Nat) (as : List AV) : List AV := as ++ List.replicate (am_ml y - as.length) AU
def pushV (y : Nat) (v : AV) (st : List AV) : List AV := if am_rt y = 0 then st else v :: st
def am_nt (y : Nat) : Bool := am_nts.getD y false
/-- y has thrown E into m: y is one that never throws: no run; caught by m; on to m's caller -/
def hnd (m y E : Nat) (σ : Sg) : Option Out := if am_nt y = true then none else if am_hn m = [] then some (.inr E, σ) else match (am_hn m).find? (fun q => q.1 == E) with
  | some q => some (.inl (AI q.2), σ)
  | none => none
def run : Nat → Nat → Nat → List AV → List AV → Sg → Option Out
  | 0, _, _, _, _, _ => none
  | n + 1, m, pc, ls, st, σ => match step m pc ls st σ with
    | none => none
    | some (.inl (pc1, ls1, st1, σ1)) => run n m pc1 ls1 st1 σ1
    | some (.inr (.inl (y, as, pc1, ls1, st1, σ1))) => (match run n y 0 (entryL y as) [] σ1 with
      | none => none
      | some (.inl v, σ2) => run n m pc1 ls1 (pushV y v st1) σ2
      | some (.inr E, σ2) => hnd m y E σ2)
    | some (.inr (.inr (.inl (v, σ1)))) => some (.inl v, σ1)
    | some (.inr (.inr (.inr (E, σ1)))) => some (.inr E, σ1)
theorem run_mono : ∀ (n m pc : Nat) (ls st : List AV) (σ : Sg) (o : Out), run n m pc ls st σ = some o → run (n + 1) m pc ls st σ = some o := by
  intro n
  induction n with
  | zero => intro m pc ls st σ o h; cases h
  | succ n ih =>
    intro m pc ls st σ o h
    rw [run] at h ⊢
    cases hs : step m pc ls st σ with
    | none => rw [hs] at h; cases h
    | some q =>
      rw [hs] at h
      rcases q with q | q | q | q
      · exact ih _ _ _ _ _ _ h
      · obtain ⟨y, as, pc1, ls1, st1, σ1⟩ := q
        dsimp only at h ⊢
        cases hc : run n y 0 (entryL y as) [] σ1 with
        | none => rw [hc] at h; cases h
        | some u =>
          rw [hc] at h
          rw [ih _ _ _ _ _ _ hc]
          obtain ⟨v | E, σ2⟩ := u
          · exact ih _ _ _ _ _ _ h
          · exact h
      · exact h
      · exact h
theorem run_le {n k m pc : Nat} {ls st : List AV} {σ : Sg} {o : Out} (h : run n m pc ls st σ = some o) (hk : n ≤ k) : run k m pc ls st σ = some o := by
  induction hk with
  | refl => exact h
  | step _ ih => exact run_mono _ _ _ _ _ _ _ ih
/-- what a run comes to, if it comes to an end -/
noncomputable def ev (m pc : Nat) (ls st : List AV) (σ : Sg) : Option Out := @dite _ (∃ o n, run n m pc ls st σ = some o) (Classical.propDecidable _) (fun h => some (Classical.choose h)) (fun _ => none)
theorem ev_iff {m pc : Nat} {ls st : List AV} {σ : Sg} {o : Out} : ev m pc ls st σ = some o ↔ ∃ n, run n m pc ls st σ = some o := by
  unfold ev
  constructor
  · intro h
    split at h
    · next h1 => cases h; exact Classical.choose_spec h1
    · cases h
  · rintro ⟨n, h⟩
    have h1 : ∃ o n, run n m pc ls st σ = some o := ⟨o, n, h⟩
    rw [dif_pos h1]
    obtain ⟨k, hk⟩ := Classical.choose_spec h1
    have e1 := run_le h (Nat.le_max_left n k)
    have e2 := run_le hk (Nat.le_max_right n k)
    rw [e1] at e2
    exact e2.symm
def bnd (m y : Nat) (o : Option Out) (f : AV → Sg → Option Out) : Option Out := match o with
  | none => none
  | some (.inl v, σ) => f v σ
  | some (.inr E, σ) => hnd m y E σ
theorem oext {a b : Option Out} (h : ∀ o, a = some o ↔ b = some o) : a = b := by
  cases a with
  | some x => exact ((h x).mp rfl).symm
  | none => cases b with
    | some y => exact absurd ((h y).mpr rfl) (by simp)
    | none => rfl
theorem ev_next {m pc : Nat} {ls st : List AV} {σ : Sg} {pc1 : Nat} {ls1 st1 : List AV} {σ1 : Sg} (h : step m pc ls st σ = nx pc1 ls1 st1 σ1) : ev m pc ls st σ = ev m pc1 ls1 st1 σ1 := by
  refine oext fun o => ?_
  rw [ev_iff, ev_iff]
  constructor
  · rintro ⟨n, hn⟩
    cases n with
    | zero => cases hn
    | succ n => rw [run, h] at hn; exact ⟨n, hn⟩
  · rintro ⟨n, hn⟩
    exact ⟨n + 1, by rw [run, h]; exact hn⟩
theorem ev_ret {m pc : Nat} {ls st : List AV} {σ : Sg} {v : AV} {σ1 : Sg} (h : step m pc ls st σ = retv v σ1) : ev m pc ls st σ = some (.inl v, σ1) := ev_iff.mpr ⟨1, by rw [run, h]; rfl⟩
theorem ev_thr {m pc : Nat} {ls st : List AV} {σ : Sg} {E : Nat} {σ1 : Sg} (h : step m pc ls st σ = thr E σ1) : ev m pc ls st σ = some (.inr E, σ1) := ev_iff.mpr ⟨1, by rw [run, h]; rfl⟩
theorem ev_none {m pc : Nat} {ls st : List AV} {σ : Sg} (h : step m pc ls st σ = none) : ev m pc ls st σ = none := by
  cases he : ev m pc ls st σ with
  | none => rfl
  | some o =>
    obtain ⟨n, hn⟩ := ev_iff.mp he
    cases n with
    | zero => cases hn
    | succ n => rw [run, h] at hn; cases hn
theorem ev_call {m pc : Nat} {ls st : List AV} {σ : Sg} {y pc1 : Nat} {as ls1 st1 : List AV} {σ1 : Sg} (h : step m pc ls st σ = some (.inr (.inl (y, as, pc1, ls1, st1, σ1)))) :
    ev m pc ls st σ = bnd m y (ev y 0 (entryL y as) [] σ1) (fun v σ2 => ev m pc1 ls1 (pushV y v st1) σ2) := by
  refine oext fun o => ?_
  rw [ev_iff]
  constructor
  · rintro ⟨n, hn⟩
    cases n with
    | zero => cases hn
    | succ n =>
      rw [run, h] at hn
      dsimp only at hn
      cases hc : run n y 0 (entryL y as) [] σ1 with
      | none => rw [hc] at hn; cases hn
      | some u =>
        rw [hc] at hn
        rw [ev_iff.mpr ⟨n, hc⟩]
        obtain ⟨v | E, σ2⟩ := u
        · exact ev_iff.mpr ⟨n, hn⟩
        · exact hn
  · intro hb
    cases hc : ev y 0 (entryL y as) [] σ1 with
    | none => rw [hc] at hb; cases hb
    | some u =>
      rw [hc] at hb
      obtain ⟨k, hk⟩ := ev_iff.mp hc
      obtain ⟨v | E, σ2⟩ := u
      · obtain ⟨n, hn⟩ := ev_iff.mp (show ev m pc1 ls1 (pushV y v st1) σ2 = some o from hb)
        refine ⟨max n k + 1, ?_⟩
        rw [run, h]
        dsimp only
        rw [run_le hk (Nat.le_max_right n k)]
        exact run_le hn (Nat.le_max_left n k)
      · refine ⟨k + 1, ?_⟩
        rw [run, h]
        dsimp only
        rw [hk]
        exact hb
