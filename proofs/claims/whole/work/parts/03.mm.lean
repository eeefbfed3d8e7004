/-! THE SMALL MACHINE: over decoded instructions, a fixed world of cells (an address is a number of a cell), ints and longs as they are; calls, own throws, catches. -/
abbrev mC : Type := (Nat × (Nat → Int32)) ⊕ ((Nat × (Nat → Int64)) ⊕ (Nat × List Value))
abbrev mH : Type := List mC
abbrev mL : Type := List (Nat × Value)
abbrev mS : Type := Nat × mL × List Value × mH
/-- a row of code: pc, instruction, length, two numbers (what its index stands for) -/
abbrev mI : Type := Nat × Instr × Nat × Nat × Nat
def m_lg (lv : mL) (i : Nat) : Option Value := (lv.find? (fun q => q.1 == i)).map (fun q => q.2)
/-- in the order of their numbers -/
def m_ins (f : mL) (i : Nat) (v : Value) : mL := f.takeWhile (fun q => decide (q.1 < i)) ++ (i, v) :: f.dropWhile (fun q => decide (q.1 < i))
def m_ls (lv : mL) (i : Nat) (v : Value) : mL := m_ins (lv.filter (fun q => !(q.1 == i) && !(q.1 + 1 == i && q.2.category == 2))) i v
def m_ls2 (lv : mL) (i : Nat) (v : Value) : mL := m_ins (lv.filter (fun q => !(q.1 == i) && (!(q.1 == i + 1) && !(q.1 + 1 == i && q.2.category == 2)))) i v
/-- a value of a field's type -/
def m_nf : FieldType → Value → Bool
  | .int, .int _ => true
  | .long, .long _ => true
  | .boolean, .int x => x == 0 || x == 1
  | .object _, .ref _ => true
  | .array _, .ref _ => true
  | _, _ => false
def m_ldi (lv : mL) (i : Nat) (k : Int32 → Option mS) : Option mS := match m_lg lv i with
  | some (.int x) => k x
  | _ => none
def m_ldl (lv : mL) (i : Nat) (k : Int64 → Option mS) : Option mS := match m_lg lv i with
  | some (.long x) => k x
  | _ => none
def m_ldr (lv : mL) (i : Nat) (k : Nat → Option mS) : Option mS := match m_lg lv i with
  | some (.ref x) => k x
  | _ => none
def m_i (st : List Value) (k : Int32 → List Value → Option mS) : Option mS := match st with
  | .int x :: r => k x r
  | _ => none
def m_l (st : List Value) (k : Int64 → List Value → Option mS) : Option mS := match st with
  | .long x :: r => k x r
  | _ => none
def m_r (st : List Value) (k : Nat → List Value → Option mS) : Option mS := match st with
  | .ref x :: r => k x r
  | _ => none
def m_ii (st : List Value) (k : Int32 → Int32 → List Value → Option mS) : Option mS := m_i st fun y r => m_i r fun x r => k x y r
def m_ll (st : List Value) (k : Int64 → Int64 → List Value → Option mS) : Option mS := m_l st fun y r => m_l r fun x r => k x y r
def m_obj (h : mH) (r : Nat) (k : Nat → List Value → Option mS) : Option mS := match h[r]? with
  | some (.inr (.inr (c, fs))) => k c fs
  | _ => none
def m_arr (h : mH) (r : Nat) (k : Nat → (Nat → Int32) → Option mS) : Option mS := match h[r]? with
  | some (.inl (n, f)) => k n f
  | _ => none
def m_arl (h : mH) (r : Nat) (k : Nat → (Nat → Int64) → Option mS) : Option mS := match h[r]? with
  | some (.inr (.inl (n, f))) => k n f
  | _ => none
def m_tg (pc : Nat) (off : Int) : Nat := ((pc : Int) + off).toNat
/-- the number that the script's cell bears; texts stand behind it -/
abbrev m_scr : Nat := 1000000
def m_opt {α β : Type} (o : Option α) (k : α → Option β) : Option β := match o with
  | some a => k a
  | none => none
/-- the type of a field -/
abbrev m_FT : Type := Nat → Nat → Option FieldType
def m_sw (off : Option Int) (dflt : Int) : Int := match off with
  | some o => o
  | none => dflt
def m_loc (ft : m_FT) (X : Nat × (Nat → Int32)) (ins : Instr) (a b pc : Nat) (lv : mL) (st : List Value) (h : mH) : Option mS :=
  match ins with
  | .aload_n k => m_ldr lv k fun x => some (pc + 1, lv, .ref x :: st, h)
  | .aload i => m_ldr lv i fun x => some (pc + 2, lv, .ref x :: st, h)
  | .iload_n k => m_ldi lv k fun x => some (pc + 1, lv, .int x :: st, h)
  | .iload i => m_ldi lv i fun x => some (pc + 2, lv, .int x :: st, h)
  | .lload_n k => m_ldl lv k fun x => some (pc + 1, lv, .long x :: st, h)
  | .istore_n k => m_i st fun x r => some (pc + 1, m_ls lv k (.int x), r, h)
  | .istore i => m_i st fun x r => some (pc + 2, m_ls lv i (.int x), r, h)
  | .lstore_n k => m_l st fun x r => some (pc + 1, m_ls2 lv k (.long x), r, h)
  | .iinc i n => m_ldi lv i fun x => some (pc + 3, m_ls lv i (.int (x + Int32.ofInt n)), st, h)
  | .iconst n => some (pc + 1, lv, .int (Int32.ofInt n) :: st, h)
  | .bipush n => some (pc + 2, lv, .int (Int8.ofInt n).toInt32 :: st, h)
  | .sipush n => some (pc + 3, lv, .int (Int16.ofInt n).toInt32 :: st, h)
  | .lconst n => some (pc + 1, lv, .long (Int64.ofNat n) :: st, h)
  | .ldc _ => if a = 0 then some (pc + 2, lv, .int (Int32.ofNat b) :: st, h) else some (pc + 2, lv, .ref (m_scr + 1 + b) :: st, h)
  | .ldc_w _ => some (pc + 3, lv, .int (Int32.ofNat b) :: st, h)
  | .ldc2_w _ => some (pc + 3, lv, .long (if a = 0 then Int64.ofNat b else -1) :: st, h)
  | .iadd => m_ii st fun x y r => some (pc + 1, lv, .int (x + y) :: r, h)
  | .isub => m_ii st fun x y r => some (pc + 1, lv, .int (x - y) :: r, h)
  | .imul => m_ii st fun x y r => some (pc + 1, lv, .int (x * y) :: r, h)
  | .idiv => m_ii st fun x y r => if y = 0 then none else some (pc + 1, lv, .int (x / y) :: r, h)
  | .irem => m_ii st fun x y r => if y = 0 then none else some (pc + 1, lv, .int (x - x / y * y) :: r, h)
  | .iand => m_ii st fun x y r => some (pc + 1, lv, .int (x &&& y) :: r, h)
  | .ishr => m_ii st fun x y r => some (pc + 1, lv, .int (x >>> (y &&& 31)) :: r, h)
  | .ineg => m_i st fun x r => some (pc + 1, lv, .int (-x) :: r, h)
  | .ladd => m_ll st fun x y r => some (pc + 1, lv, .long (x + y) :: r, h)
  | .lsub => m_ll st fun x y r => some (pc + 1, lv, .long (x - y) :: r, h)
  | .lmul => m_ll st fun x y r => some (pc + 1, lv, .long (x * y) :: r, h)
  | .lcmp => m_ll st fun x y r => some (pc + 1, lv, .int (lg_cmp x y) :: r, h)
  | .i2l => m_i st fun x r => some (pc + 1, lv, .long x.toInt64 :: r, h)
  | .l2i => m_l st fun x r => some (pc + 1, lv, .int x.toInt32 :: r, h)
  | .dup => match st with
    | v :: r => if v.category = 1 then some (pc + 1, lv, v :: v :: r, h) else none
    | _ => none
  | .dup2 => match st with
    | v :: w :: r => if v.category = 1 ∧ w.category = 1 then some (pc + 1, lv, v :: w :: v :: w :: r, h) else none
    | _ => none
  | .pop => match st with
    | v :: r => if v.category = 1 then some (pc + 1, lv, r, h) else none
    | _ => none
  | .goto off => if 0 ≤ (pc : Int) + off then some (m_tg pc off, lv, st, h) else none
  | .ifCond .eq off => m_i st fun x r => some (if x = 0 then m_tg pc off else pc + 3, lv, r, h)
  | .ifCond .ne off => m_i st fun x r => some (if ¬ x = 0 then m_tg pc off else pc + 3, lv, r, h)
  | .ifCond .lt off => m_i st fun x r => some (if x < 0 then m_tg pc off else pc + 3, lv, r, h)
  | .ifCond .ge off => m_i st fun x r => some (if 0 ≤ x then m_tg pc off else pc + 3, lv, r, h)
  | .ifCond .gt off => m_i st fun x r => some (if 0 < x then m_tg pc off else pc + 3, lv, r, h)
  | .ifCond .le off => m_i st fun x r => some (if x ≤ 0 then m_tg pc off else pc + 3, lv, r, h)
  | .if_icmp .eq off => m_ii st fun x y r => some (if x = y then m_tg pc off else pc + 3, lv, r, h)
  | .if_icmp .ne off => m_ii st fun x y r => some (if ¬ x = y then m_tg pc off else pc + 3, lv, r, h)
  | .if_icmp .lt off => m_ii st fun x y r => some (if x < y then m_tg pc off else pc + 3, lv, r, h)
  | .if_icmp .ge off => m_ii st fun x y r => some (if y ≤ x then m_tg pc off else pc + 3, lv, r, h)
  | .if_icmp .gt off => m_ii st fun x y r => some (if y < x then m_tg pc off else pc + 3, lv, r, h)
  | .if_icmp .le off => m_ii st fun x y r => some (if x ≤ y then m_tg pc off else pc + 3, lv, r, h)
  | .tableswitch dflt lo hi offs => m_i st fun x r => if x.toInt < lo ∨ hi < x.toInt then some (m_tg pc dflt, lv, r, h) else m_opt offs[(x.toInt - lo).toNat]? fun off => some (m_tg pc off, lv, r, h)
  | .lookupswitch dflt ps => m_i st fun x r => some (m_tg pc (Op.lookupswitch.offset ps.toList dflt x.toInt), lv, r, h)
  | .getfield _ => m_r st fun q r => m_obj h q fun c fs => if c = a then m_opt fs[b]? fun v => some (pc + 3, lv, v :: r, h) else none
  | .putfield _ => match st with
    | v :: .ref q :: r => m_obj h q fun c fs => if c = a ∧ b < fs.length then m_opt (ft a b) fun ty => if m_nf ty v = true then some (pc + 3, lv, r, h.set q (.inr (.inr (c, fs.set b v)))) else none else none
    | _ => none
  | .iaload => m_i st fun j r => m_r r fun q r => if q = m_scr then (if j < 0 ∨ X.1 ≤ j.toNatClampNeg then none else some (pc + 1, lv, .int (X.2 j.toNatClampNeg) :: r, h)) else m_arr h q fun n f => if j < 0 ∨ n ≤ j.toNatClampNeg then none else some (pc + 1, lv, .int (f j.toNatClampNeg) :: r, h)
  | .iastore => m_i st fun x r => m_i r fun j r => m_r r fun q r => m_arr h q fun n f => if j < 0 ∨ n ≤ j.toNatClampNeg then none else some (pc + 1, lv, r, h.set q (.inl (n, upd f j.toNatClampNeg x)))
  | .laload => m_i st fun j r => m_r r fun q r => m_arl h q fun n f => if j < 0 ∨ n ≤ j.toNatClampNeg then none else some (pc + 1, lv, .long (f j.toNatClampNeg) :: r, h)
  | .lastore => m_l st fun x r => m_i r fun j r => m_r r fun q r => m_arl h q fun n f => if j < 0 ∨ n ≤ j.toNatClampNeg then none else some (pc + 1, lv, r, h.set q (.inr (.inl (n, vp_updL f j.toNatClampNeg x))))
  | .arraylength => m_r st fun q r => if q = m_scr then some (pc + 1, lv, .int (Int32.ofNat X.1) :: r, h) else match h[q]? with
    | some (.inl (n, _)) => some (pc + 1, lv, .int (Int32.ofNat n) :: r, h)
    | some (.inr (.inl (n, _))) => some (pc + 1, lv, .int (Int32.ofNat n) :: r, h)
    | _ => none
  | _ => none
