/-! a pure machine for the methods that make nothing: cells by number, numbers in a store -/
abbrev Sg : Type := (Nat → Nat → Int32) × (Nat → Nat → Int64)
abbrev Lcl : Type := List (Nat × Value)
abbrev EN : Type := Instr × Nat × List Nat
abbrev MI : Type := MethodName × ByteArray × Nat × Option FieldType × List (Nat × EN)
def knd (q : Nat) : Option KD := (LAY[q]?).bind (fun c => KND[c.1]?)
def tg (q k : Nat) : Nat := ((LAY[q]?).getD (0, [])).2.getD k 0
def fV (σ : Sg) (q k ft : Nat) : Value := match ft with
  | 0 => .int (σ.1 q k)
  | 1 => .int (σ.1 q k)
  | 2 => .ref (tg q k)
  | _ => if σ.1 q k = 0 then .null else .ref (σ.1 q k).toNatClampNeg
def s1 (σ : Sg) (q k : Nat) (x : Int32) : Sg := (fun q' k' => if q' = q ∧ k' = k then x else σ.1 q' k', σ.2)
def s2 (σ : Sg) (q k : Nat) (x : Int64) : Sg := (σ.1, fun q' k' => if q' = q ∧ k' = k then x else σ.2 q' k')
def set1 (i : Nat) (v : Value) (ls : Lcl) : Lcl := (i, v) :: ls.filter (fun q => !(q.1 == i) && !(q.1 + 1 == i && q.2.category == 2))
def set2 (i : Nat) (v : Value) (ls : Lcl) : Lcl := (i, v) :: ls.filter (fun q => !(q.1 == i) && (!(q.1 == i + 1) && !(q.1 + 1 == i && q.2.category == 2)))
def bin1 (f : Int32 → Int32 → Int32) (ls : Lcl) (st : List Value) : Option (Lcl × List Value) := match st with
  | .int y :: .int x :: r => some (ls, .int (f x y) :: r)
  | _ => none
def bin0 (f : Int32 → Int32 → Int32) (ls : Lcl) (st : List Value) : Option (Lcl × List Value) := match st with
  | .int y :: .int x :: r => if y = 0 then none else some (ls, .int (f x y) :: r)
  | _ => none
def bin2 (f : Int64 → Int64 → Int64) (ls : Lcl) (st : List Value) : Option (Lcl × List Value) := match st with
  | .long y :: .long x :: r => some (ls, .long (f x y) :: r)
  | _ => none
def sh2 (f : Int64 → Int32 → Int64) (ls : Lcl) (st : List Value) : Option (Lcl × List Value) := match st with
  | .int y :: .long x :: r => some (ls, .long (f x y) :: r)
  | _ => none
def ldi (k : Nat) (ls : Lcl) (st : List Value) : Option (Lcl × List Value) := match ls.lookup k with
  | some (.int x) => some (ls, .int x :: st)
  | _ => none
def ldl (k : Nat) (ls : Lcl) (st : List Value) : Option (Lcl × List Value) := match ls.lookup k with
  | some (.long x) => some (ls, .long x :: st)
  | _ => none
def lda (k : Nat) (ls : Lcl) (st : List Value) : Option (Lcl × List Value) := match ls.lookup k with
  | some (.ref x) => some (ls, .ref x :: st)
  | _ => none
def sti (nL k : Nat) (ls : Lcl) (st : List Value) : Option (Lcl × List Value) := match st with
  | .int x :: r => if k < nL then some (set1 k (.int x) ls, r) else none
  | _ => none
def stl (nL k : Nat) (ls : Lcl) (st : List Value) : Option (Lcl × List Value) := match st with
  | .long x :: r => if k + 1 < nL then some (set2 k (.long x) ls, r) else none
  | _ => none
def sta (nL k : Nat) (ls : Lcl) (st : List Value) : Option (Lcl × List Value) := match st with
  | .ref x :: r => if k < nL then some (set1 k (.ref x) ls, r) else none
  | _ => none
def ush (x y : Int32) : Int32 := (x.toUInt32 >>> (y.toUInt32 &&& Int32.toUInt32 31)).toInt32
def ush2 (x : Int64) (y : Int32) : Int64 := (x.toUInt64 >>> (y.toInt64.toUInt64 &&& Int64.toUInt64 63)).toInt64
/-- instructions that touch no cell -/
def pureI (nL : Nat) (i : Instr) (ex : List Nat) (ls : Lcl) (st : List Value) : Option (Lcl × List Value) := match i with
  | .iconst n => some (ls, .int (Int32.ofInt n) :: st)
  | .bipush n => some (ls, .int (Int8.ofInt n).toInt32 :: st)
  | .sipush n => some (ls, .int (Int16.ofInt n).toInt32 :: st)
  | .lconst n => some (ls, .long (Int64.ofNat (n : Nat)) :: st)
  | .ldc _ => match ex with
    | v :: _ => some (ls, .int (Int32.ofNat v) :: st)
    | _ => none
  | .ldc_w _ => match ex with
    | v :: _ => some (ls, .int (Int32.ofNat v) :: st)
    | _ => none
  | .ldc2_w _ => match ex with
    | v :: _ => some (ls, .long (Int64.ofNat v) :: st)
    | _ => none
  | .aconst_null => some (ls, .null :: st)
  | .iload_n k => ldi (k : Nat) ls st
  | .iload k => ldi k ls st
  | .lload_n k => ldl (k : Nat) ls st
  | .lload k => ldl k ls st
  | .aload_n k => lda (k : Nat) ls st
  | .aload k => lda k ls st
  | .istore_n k => sti nL (k : Nat) ls st
  | .istore k => sti nL k ls st
  | .lstore_n k => stl nL (k : Nat) ls st
  | .lstore k => stl nL k ls st
  | .astore_n k => sta nL (k : Nat) ls st
  | .astore k => sta nL k ls st
  | .iinc k n => match ls.lookup k with
    | some (.int x) => if k < nL then some (set1 k (.int (x + Int32.ofInt n)) ls, st) else none
    | _ => none
  | .iadd => bin1 (fun x y => x + y) ls st
  | .isub => bin1 (fun x y => x - y) ls st
  | .imul => bin1 (fun x y => x * y) ls st
  | .iand => bin1 (fun x y => x &&& y) ls st
  | .ior => bin1 (fun x y => x ||| y) ls st
  | .ixor => bin1 (fun x y => x ^^^ y) ls st
  | .idiv => bin0 (fun x y => x / y) ls st
  | .irem => bin0 (fun x y => x - x / y * y) ls st
  | .ishl => bin1 (fun x y => x <<< (y &&& 31)) ls st
  | .ishr => bin1 (fun x y => x >>> (y &&& 31)) ls st
  | .iushr => bin1 ush ls st
  | .ladd => bin2 (fun x y => x + y) ls st
  | .lsub => bin2 (fun x y => x - y) ls st
  | .lmul => bin2 (fun x y => x * y) ls st
  | .land => bin2 (fun x y => x &&& y) ls st
  | .lor => bin2 (fun x y => x ||| y) ls st
  | .lshl => sh2 (fun x y => x <<< (y.toInt64 &&& 63)) ls st
  | .lushr => sh2 ush2 ls st
  | .ineg => match st with
    | .int x :: r => some (ls, .int (-x) :: r)
    | _ => none
  | .i2b => match st with
    | .int x :: r => some (ls, .int x.toInt8.toInt32 :: r)
    | _ => none
  | .i2l => match st with
    | .int x :: r => some (ls, .long x.toInt64 :: r)
    | _ => none
  | .l2i => match st with
    | .long x :: r => some (ls, .int x.toInt32 :: r)
    | _ => none
  | .lcmp => match st with
    | .long y :: .long x :: r => some (ls, .int (lg_cmp x y) :: r)
    | _ => none
  | .dup => match st with
    | v :: r => if v.category = 1 then some (ls, v :: v :: r) else none
    | _ => none
  | .pop => match st with
    | v :: r => if v.category = 1 then some (ls, r) else none
    | _ => none
  | .pop2 => match st with
    | v :: r => if v.category = 2 then some (ls, r) else none
    | _ => none
  | .dup2 => match st with
    | v :: w :: r => if v.category = 1 ∧ w.category = 1 then some (ls, v :: w :: v :: w :: r) else none
    | _ => none
  | _ => none
def un0 (f : Int32 → Bool) (off : Int) (st : List Value) : Option (Bool × Int × List Value) := match st with
  | .int x :: r => some (f x, off, r)
  | _ => none
def un2 (f : Int32 → Int32 → Bool) (off : Int) (st : List Value) : Option (Bool × Int × List Value) := match st with
  | .int y :: .int x :: r => some (f x y, off, r)
  | _ => none
def rfO : Value → Option (Option Nat)
  | .null => some none
  | .ref q => some (some q)
  | _ => none
/-- branches: taken or not, by how much, the stack behind -/
def brI (i : Instr) (st : List Value) : Option (Bool × Int × List Value) := match i with
  | .ifCond .eq off => un0 (fun x => decide (x = 0)) off st
  | .ifCond .ne off => un0 (fun x => decide (¬ x = 0)) off st
  | .ifCond .lt off => un0 (fun x => decide (x < 0)) off st
  | .ifCond .ge off => un0 (fun x => decide (0 ≤ x)) off st
  | .ifCond .gt off => un0 (fun x => decide (0 < x)) off st
  | .ifCond .le off => un0 (fun x => decide (x ≤ 0)) off st
  | .if_icmp .eq off => un2 (fun x y => decide (x = y)) off st
  | .if_icmp .ne off => un2 (fun x y => decide (¬ x = y)) off st
  | .if_icmp .lt off => un2 (fun x y => decide (x < y)) off st
  | .if_icmp .ge off => un2 (fun x y => decide (y ≤ x)) off st
  | .if_icmp .gt off => un2 (fun x y => decide (y < x)) off st
  | .if_icmp .le off => un2 (fun x y => decide (x ≤ y)) off st
  | .if_acmp .ne off => match st with
    | y :: x :: r => match rfO y, rfO x with
      | some b, some a => if (∀ q ∈ b, q < LAY.length) ∧ (∀ q ∈ a, q < LAY.length) then some (decide (¬ a = b), off, r) else none
      | _, _ => none
    | _ => none
  | .goto off => some (true, off, st)
  | .tableswitch dflt lo hi offs => match st with
    | .int x :: r => if x.toInt < lo ∨ hi < x.toInt then some (true, dflt, r) else (offs[(x.toInt - lo).toNat]?).map (fun o => (true, o, r))
    | _ => none
  | .lookupswitch dflt ps => match st with
    | .int x :: r => if (ps.toList.zip (ps.toList.drop 1)).all (fun (a, next) => a.1 < next.1) = true then some (true, Op.lookupswitch.offset ps.toList dflt x.toInt, r) else none
    | _ => none
  | _ => none
def inR (i : Int32) (n : Nat) : Bool := !(decide (i < 0) || decide (n ≤ i.toNatClampNeg))
def ldA (tag : Nat) (f : Nat → Nat → Value) (st : List Value) (σ : Sg) : Option (List Value × Sg) := match st with
  | .int i :: .ref q :: r => match knd q with
    | some (t, n, _) => if t = tag ∧ inR i n = true then some (f q i.toNatClampNeg :: r, σ) else none
    | _ => none
  | _ => none
def stA (tag : Nat) (g : Int32 → Int32) (st : List Value) (σ : Sg) : Option (List Value × Sg) := match st with
  | .int x :: .int i :: .ref q :: r => match knd q with
    | some (t, n, _) => if t = tag ∧ inR i n = true then some (r, s1 σ q i.toNatClampNeg (g x)) else none
    | _ => none
  | _ => none
def getF (ex : List Nat) (st : List Value) (σ : Sg) : Option (List Value × Sg) := match st, ex with
  | .ref q :: r, ci :: k :: _ => match knd q with
    | some (0, c, fs) => if c = ci then (fs[k]?).map (fun f => (fV σ q k f.1 :: r, σ)) else none
    | _ => none
  | _, _ => none
def putV (σ : Sg) (q k ft : Nat) (v : Value) : Option Sg := match ft, v with
  | 0, .int x => some (s1 σ q k x)
  | 1, .int x => if x = 0 ∨ x = 1 then some (s1 σ q k x) else none
  | 3, .null => some (s1 σ q k 0)
  | 3, .ref q' => if 0 < q' ∧ q' < 1000 then some (s1 σ q k (Int32.ofNat q')) else none
  | _, _ => none
def putF (ex : List Nat) (st : List Value) (σ : Sg) : Option (List Value × Sg) := match st, ex with
  | v :: .ref q :: r, ci :: k :: _ => match knd q with
    | some (0, c, fs) => if c = ci then (fs[k]?).bind (fun f => (putV σ q k f.1 v).map (fun σ' => (r, σ'))) else none
    | _ => none
  | _, _ => none
/-- instructions that read or write cells -/
def hpI (i : Instr) (ex : List Nat) (st : List Value) (σ : Sg) : Option (List Value × Sg) := match i with
  | .getfield _ => getF ex st σ
  | .putfield _ => putF ex st σ
  | .iaload => ldA 1 (fun q j => .int (σ.1 q j)) st σ
  | .baload => (ldA 2 (fun q j => .int (σ.1 q j)) st σ).or (ldA 3 (fun q j => .int (σ.1 q j)) st σ)
  | .laload => ldA 4 (fun q j => .long (σ.2 q j)) st σ
  | .aaload => ((ldA 5 (fun q j => .ref (tg q j)) st σ).or (ldA 6 (fun q j => .ref (tg q j)) st σ)).or (ldA 7 (fun q j => .ref (tg q j)) st σ)
  | .iastore => stA 1 (fun x => x) st σ
  | .bastore => (stA 2 (vp_nar .byte) st σ).or (stA 3 (vp_nar .boolean) st σ)
  | .lastore => match st with
    | .long x :: .int i :: .ref q :: r => match knd q with
      | some (4, n, _) => if inR i n = true then some (r, s2 σ q i.toNatClampNeg x) else none
      | _ => none
    | _ => none
  | .arraylength => match st with
    | .ref q :: r => match knd q with
      | some (t, n, _) => if 1 ≤ t ∧ t ≤ 7 then some (.int (Int32.ofNat n) :: r, σ) else none
      | _ => none
    | _ => none
  | _ => none
def retOK (ret : Option FieldType) (v : Option Value) : Bool := match ret, v with
  | some .int, some (.int _) => true
  | some .boolean, some (.int x) => decide (x = 0 ∨ x = 1)
  | some .long, some (.long _) => true
  | none, none => true
  | _, _ => false
/-- returns: the answer -/
def rtI (i : Instr) (ret : Option FieldType) (st : List Value) : Option (Option Value) := match i with
  | .ireturn => match st with
    | [.int x] => if retOK ret (some (.int x)) then some (some (.int x)) else none
    | _ => none
  | .lreturn => match st with
    | [.long x] => if retOK ret (some (.long x)) then some (some (.long x)) else none
    | _ => none
  | .return_ => match st with
    | [] => if retOK ret none then some none else none
    | _ => none
  | _ => none
/-- calls: the method, what is handed over, the stack below -/
def caI (i : Instr) (ex : List Nat) (st : List Value) : Option (Nat × List Value × List Value) := match i with
  | .invokevirtual _ => match ex with
    | mj :: n :: ci :: _ => match st.drop n with
      | .ref b :: rest => match knd b with
        | some (0, c, _) => if c = ci ∧ n ≤ st.length ∧ (rest.map fun v => v.category).sum ≤ 8 then some (mj, .ref b :: (st.take n).reverse, rest) else none
        | _ => none
      | _ => none
    | _ => none
  | .invokestatic _ => match ex with
    | mj :: n :: _ => if n ≤ st.length ∧ ((st.drop n).map fun v => v.category).sum ≤ 8 then some (mj, (st.take n).reverse, st.drop n) else none
    | _ => none
  | _ => none
abbrev StepR : Type := (Nat × Lcl × List Value × Sg) ⊕ (Option Value) ⊕ (Nat × List Value × List Value)
def stp (nL : Nat) (ret : Option FieldType) (pc : Nat) (en : EN) (ls : Lcl) (st : List Value) (σ : Sg) : Option StepR :=
  match pureI nL en.1 en.2.2 ls st with
  | some (ls', st') => some (.inl (pc + en.2.1, ls', st', σ))
  | none => match hpI en.1 en.2.2 st σ with
    | some (st', σ') => some (.inl (pc + en.2.1, ls, st', σ'))
    | none => match brI en.1 st with
      | some (b, off, st') => if 0 ≤ (pc : Int) + off then some (.inl (if b then ((pc : Int) + off).toNat else pc + 3, ls, st', σ)) else none
      | none => match caI en.1 en.2.2 st with
        | some (mj, av, rest) => some (.inr (.inr (mj, av, rest)))
        | none => match rtI en.1 ret st with
          | some v => some (.inr (.inl v))
          | none => none
/-- Math.max and Math.min -/
def mm (k : Nat) (av : List Value) : Option Value := match av with
  | [.int x, .int y] => if k = 1000 then some (.int (if x < y then y else x)) else if k = 1001 then some (.int (if y < x then y else x)) else none
  | _ => none
def run (P : List MI) : Nat → Nat → Nat → Nat → Lcl → List Value → Sg → Option (Option Value × Sg)
  | 0, _, _, _, _, _, _ => none
  | n + 1, d, mi, pc, ls, st, σ =>
    match P[mi]? with
    | none => none
    | some M => match M.2.2.2.2.lookup pc with
      | none => none
      | some en => match stp M.2.2.1 M.2.2.2.1 pc en ls st σ with
        | none => none
        | some (.inl r) => run P n d mi r.1 r.2.1 r.2.2.1 r.2.2.2
        | some (.inr (.inl v)) => some (v, σ)
        | some (.inr (.inr r)) => match d with
          | 0 => none
          | d' + 1 => match mm r.1 r.2.1 with
            | some v => run P n (d' + 1) mi (pc + 3) ls (v :: r.2.2) σ
            | none => match P[r.1]? with
              | none => none
              | some Mj => if (lg_sl r.2.1).length ≤ Mj.2.2.1 then match run P n d' r.1 0 (lv_args 0 r.2.1) [] σ with
                | none => none
                | some (v, σ') => run P n (d' + 1) mi (pc + 3) ls (v.toList ++ r.2.2) σ'
                else none
