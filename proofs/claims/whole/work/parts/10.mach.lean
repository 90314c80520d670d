/-! THE SMALL MACHINE: a method's rows as numbers and instructions, its heap a list of cells whose references are places of that list; what a run of rows leads to, as a predicate ('mStep', one row; 'mWP', the least that is closed under rows; 'mCall', a method) -/
abbrev mC : Type := (FieldType × vp_A) ⊕ (Nat × List Value)
abbrev mH : Type := List mC
/-- a row: does a walk stop ahead of it, the instruction, its length, numbers, a constant -/
abbrev mI : Type := Bool × Instr × Nat × List Nat × Value
abbrev mQ : Type := Option Value ⊕ Nat → mH → Nat → Nat → Prop
abbrev mK : Type := Nat → List Value → List Value → mH → Nat → Nat → Prop
abbrev mG : Type := Nat → List Value → mH → mQ → Prop
/-- handlers: from, to, which is taken, where it goes on, the local that takes it -/
abbrev mHd : Type := List (Nat × Nat × Nat × Nat × Nat)
/-- a method: its rows, how many locals, its handlers -/
abbrev mM : Type := (Nat → mI) × Nat × mHd
abbrev mU : Value := .retAddr 0
def mAt {α : Type} : List α → Nat → Option α
  | [], _ => none
  | a :: _, 0 => some a
  | _ :: l, n + 1 => mAt l n
def mPut {α : Type} : List α → Nat → α → List α
  | [], _, _ => []
  | _ :: l, 0, b => b :: l
  | a :: l, n + 1, b => a :: mPut l n b
theorem mAt_eq {α : Type} (l : List α) (n : Nat) : mAt l n = l[n]? := by
  induction l generalizing n with
  | nil => simp [mAt]
  | cons a l ih => cases n with
    | zero => simp [mAt]
    | succ n => simp [mAt, ih]
theorem mPut_eq {α : Type} (l : List α) (n : Nat) (b : α) : mPut l n b = l.set n b := by
  induction l generalizing n with
  | nil => simp [mPut]
  | cons a l ih => cases n with
    | zero => simp [mPut]
    | succ n => simp [mPut, ih]
/-- the place ahead of one that is written, if it held a wide one -/
def mKill : Value → Value
  | .long _ => mU
  | .double _ => mU
  | v => v
def mSt1 : List Value → Nat → Value → List Value
  | [], _, _ => []
  | _ :: l, 0, v => v :: l
  | a :: l, 1, v => mKill a :: mPut l 0 v
  | a :: l, n + 2, v => a :: mSt1 l (n + 1) v
def mSt2 : List Value → Nat → Value → List Value
  | [], _, _ => []
  | _ :: l, 0, v => v :: mPut l 0 mU
  | a :: l, 1, v => mKill a :: mPut (mPut l 0 v) 1 mU
  | a :: l, n + 2, v => a :: mSt2 l (n + 1) v
def mPad : Nat → List Value
  | 0 => []
  | n + 1 => mU :: mPad n
/-- the locals at a method's entry -/
def mEnt : List Value → Nat → List Value
  | [], n => mPad n
  | .long x :: vs, n => .long x :: mU :: mEnt vs (n - 2)
  | v :: vs, n => v :: mEnt vs (n - 1)
/-- a reference of the callee's, as the caller has it -/
def mRn (ρ : List Nat) : Value → Value
  | .ref i => .ref ((mAt ρ i).getD 0)
  | v => v
def mRnC (ρ : List Nat) : mC → mC
  | .inl a => .inl a
  | .inr (ci, fs) => .inr (ci, fs.map (mRn ρ))
def mOk (n : Nat) : Value → Bool
  | .ref i => Nat.blt i n
  | _ => true
def mOkC (n : Nat) : mC → Bool
  | .inl _ => true
  | .inr (_, fs) => fs.all (mOk n)
def mNin (j : Nat) : List Nat → Bool
  | [] => true
  | i :: l => !(Nat.beq i j) && mNin j l
def mNd : List Nat → Bool
  | [] => true
  | i :: l => mNin i l && mNd l
/-- the callee's cells back in the caller's heap; new ones come behind -/
def mBk (ρ' : List Nat) : mH → List Nat → mH → mH
  | h, [], S => h ++ S.map (mRnC ρ')
  | h, _ :: _, [] => h
  | h, j :: ρ, x :: S => mBk ρ' (mPut h j (mRnC ρ' x)) ρ S
def mFrom (n : Nat) : Nat → List Nat
  | 0 => []
  | k + 1 => n :: mFrom (n + 1) k
def mBack (h : mH) (ρ : List Nat) (S : mH) : mH := mBk (ρ ++ mFrom h.length (S.length - ρ.length)) h ρ S
/-- no handler speaks of this place -/
def mBare (pc : Nat) : mHd → Bool
  | [] => true
  | x :: l => !(Nat.ble x.1 pc && Nat.blt pc x.2.1) && mBare pc l
def mTake (pc e : Nat) : mHd → Option (Nat × Nat)
  | [] => none
  | x :: l => if (Nat.ble x.1 pc && Nat.blt pc x.2.1 && Nat.beq x.2.2.1 e) = true then some (x.2.2.2.1, x.2.2.2.2) else mTake pc e l
def mCat : List Value → Nat
  | [] => 0
  | v :: l => v.category + mCat l
def mAfter (hs : mHd) (pc : Nat) (lo rest : List Value) (h : mH) (c s : Nat) (K : mK) (Q : mQ) : Option Value ⊕ Nat → Prop
  | .inl none => K (pc + 3) lo rest h c s
  | .inl (some (.int x)) => K (pc + 3) lo (.int x :: rest) h c s
  | .inl (some (.long x)) => K (pc + 3) lo (.long x :: rest) h c s
  | .inl _ => False
  | .inr e => if mBare pc hs = true then Q (.inr e) h c s else match mTake pc e hs with
    | some (pc', j) => K pc' (mSt1 lo j mU) [] h c s
    | none => False
/-- a call: a part of the heap is the callee's, under its own numbers; the callee ends in one way -/
def mInv (G : mG) (hs : mHd) (y n : Nat) (rc : List Value → mH → Option Value ⊕ Nat → Prop) (pc : Nat) (lo st : List Value) (h : mH) (c s : Nat) (K : mK) (Q : mQ) : Prop :=
  ∃ (ρ : List Nat) (S : mH) (as rest : List Value) (r : Option Value ⊕ Nat) (S' : mH) (dc ds : Nat), st = (as.map (mRn ρ)).reverse ++ rest ∧ as.length = n ∧ mNd ρ = true ∧ ρ.map (fun j => mAt h j) = S.map (fun x => some (mRnC ρ x)) ∧
    (as.all (mOk ρ.length) && S.all (mOkC ρ.length)) = true ∧ mCat rest ≤ 8 ∧ rc as S r ∧
    G y as S (fun r1 S1 c1 s1 => r1 = r ∧ S1 = S' ∧ c1 = dc ∧ s1 = ds) ∧ ρ.length ≤ S'.length ∧ S'.all (mOkC S'.length) = true ∧ (S'.length = ρ.length ∨ (lo.all (mOk h.length) && rest.all (mOk h.length) && h.all (mOkC h.length)) = true) ∧
      mAfter hs pc lo rest (mBack h ρ S') (c + dc) (s + ds) K Q r
/-- the receiver is an object of that class -/
def mRc (ci : Nat) (as : List Value) (S : mH) (_ : Option Value ⊕ Nat) : Prop := ∃ (i : Nat) (as' fs : List Value), as = .ref i :: as' ∧ mAt S i = some (.inr (ci, fs))
/-- no throw comes out -/
def mRn0 (_ : List Value) (_ : mH) : Option Value ⊕ Nat → Prop
  | .inl _ => True
  | .inr _ => False
/-- .. out of a constructor, whose first argument is its object -/
def mRi (as : List Value) (S : mH) (r : Option Value ⊕ Nat) : Prop := mRn0 as S r ∧ ∃ (i : Nat) (as' : List Value), as = .ref i :: as'
def mSw (x : Int32) (f : Nat → Prop) : List Nat → Prop
  | v :: t :: l => (x = Int32.ofNat v → f t) ∧ (¬ x = Int32.ofNat v → mSw x f l)
  | [d] => f d
  | [] => False
def mFive (n : Nat) : Int64 := ([1, 5, 25, 125, 625, 3125, 15625, 78125, 390625, 1953125, 9765625, 48828125, 244140625, 1220703125, 6103515625, 30517578125] : List Int64).getD n 0
def mIf (p : Prop) (t : Nat) (pc : Nat) (f : Nat → Prop) : Prop := (p → f t) ∧ (¬ p → f (pc + 3))
/-- stored as the field's type has it: 0 int, 1 long, 2 a reference, 3 boolean -/
def mFit : Nat → Value → Prop
  | 0, .int _ => True
  | 1, .long _ => True
  | 2, .ref _ => True
  | 3, .int x => x = 0 ∨ x = 1
  | _, _ => False
def mDf : Nat → List Nat → List Value
  | _, [] => []
  | k, 0 :: l => .int 0 :: mDf k l
  | k, 1 :: l => .long 0 :: mDf k l
  | k, _ :: l => .null :: mDf k l
abbrev mX0 : Type := Nat × (Nat → Int32)
/-- what one row asks: d frames may come above; X is the script -/
def mStep (d : Nat) (X : mX0) (G : mG) (hs : mHd) (i : Instr) (len : Nat) (inf : List Nat) (cv : Value) (pc : Nat) (lo st : List Value) (h : mH) (c s : Nat) (K : mK) (Q : mQ) : Prop :=
  match i, inf, st with
  | .iload_n _, [j], st => match mAt lo j with
    | some (.int x) => K (pc + len) lo (.int x :: st) h c s
    | _ => False
  | .iload _, [j], st => match mAt lo j with
    | some (.int x) => K (pc + len) lo (.int x :: st) h c s
    | _ => False
  | .lload_n _, [j], st => match mAt lo j with
    | some (.long x) => K (pc + len) lo (.long x :: st) h c s
    | _ => False
  | .lload _, [j], st => match mAt lo j with
    | some (.long x) => K (pc + len) lo (.long x :: st) h c s
    | _ => False
  | .aload_n _, [j], st => match mAt lo j with
    | some (.ref x) => K (pc + len) lo (.ref x :: st) h c s
    | some (.float x) => K (pc + len) lo (.float x :: st) h c s
    | _ => False
  | .aload _, [j], st => match mAt lo j with
    | some (.ref x) => K (pc + len) lo (.ref x :: st) h c s
    | some (.float x) => K (pc + len) lo (.float x :: st) h c s
    | _ => False
  | .istore_n _, [j], .int x :: r => j < lo.length ∧ K (pc + len) (mSt1 lo j (.int x)) r h c s
  | .istore _, [j], .int x :: r => j < lo.length ∧ K (pc + len) (mSt1 lo j (.int x)) r h c s
  | .lstore_n _, [j], .long x :: r => j + 1 < lo.length ∧ K (pc + len) (mSt2 lo j (.long x)) r h c s
  | .lstore _, [j], .long x :: r => j + 1 < lo.length ∧ K (pc + len) (mSt2 lo j (.long x)) r h c s
  | .astore_n _, [j], .ref x :: r => j < lo.length ∧ K (pc + len) (mSt1 lo j (.ref x)) r h c s
  | .astore _, [j], .ref x :: r => j < lo.length ∧ K (pc + len) (mSt1 lo j (.ref x)) r h c s
  | .iinc _ _, [j], st => match mAt lo j, cv with
    | some (.int x), .int n => K (pc + len) (mSt1 lo j (.int (x + n))) st h c s
    | _, _ => False
  | .iconst _, [], st => K (pc + len) lo (cv :: st) h c s
  | .bipush _, [], st => K (pc + len) lo (cv :: st) h c s
  | .sipush _, [], st => K (pc + len) lo (cv :: st) h c s
  | .lconst _, [], st => K (pc + len) lo (cv :: st) h c s
  | .ldc _, [], st => K (pc + len) lo (cv :: st) h c s
  | .ldc_w _, [], st => K (pc + len) lo (cv :: st) h c s
  | .ldc2_w _, [], st => K (pc + len) lo (cv :: st) h c s
  | .getstatic _, [], st => K (pc + len) lo (cv :: st) h c s
  | .iadd, [], .int y :: .int x :: r => K (pc + len) lo (.int (x + y) :: r) h c s
  | .isub, [], .int y :: .int x :: r => K (pc + len) lo (.int (x - y) :: r) h c s
  | .imul, [], .int y :: .int x :: r => K (pc + len) lo (.int (x * y) :: r) h c s
  | .iand, [], .int y :: .int x :: r => K (pc + len) lo (.int (x &&& y) :: r) h c s
  | .ior, [], .int y :: .int x :: r => K (pc + len) lo (.int (x ||| y) :: r) h c s
  | .ixor, [], .int y :: .int x :: r => K (pc + len) lo (.int (x ^^^ y) :: r) h c s
  | .idiv, [], .int y :: .int x :: r => ¬ y = 0 ∧ K (pc + len) lo (.int (x / y) :: r) h c s
  | .irem, [], .int y :: .int x :: r => ¬ y = 0 ∧ K (pc + len) lo (.int (x - x / y * y) :: r) h c s
  | .ishl, [], .int y :: .int x :: r => K (pc + len) lo (.int (x <<< (y &&& 31)) :: r) h c s
  | .ishr, [], .int y :: .int x :: r => K (pc + len) lo (.int (x >>> (y &&& 31)) :: r) h c s
  | .iushr, [], .int y :: .int x :: r => K (pc + len) lo (.int (x.toUInt32 >>> (y.toUInt32 &&& Int32.toUInt32 31)).toInt32 :: r) h c s
  | .ladd, [], .long y :: .long x :: r => K (pc + len) lo (.long (x + y) :: r) h c s
  | .lsub, [], .long y :: .long x :: r => K (pc + len) lo (.long (x - y) :: r) h c s
  | .lmul, [], .long y :: .long x :: r => K (pc + len) lo (.long (x * y) :: r) h c s
  | .land, [], .long y :: .long x :: r => K (pc + len) lo (.long (x &&& y) :: r) h c s
  | .lor, [], .long y :: .long x :: r => K (pc + len) lo (.long (x ||| y) :: r) h c s
  | .lxor, [], .long y :: .long x :: r => K (pc + len) lo (.long (x ^^^ y) :: r) h c s
  | .ldiv, [], .long y :: .long x :: r => ¬ y = 0 ∧ K (pc + len) lo (.long (x / y) :: r) h c s
  | .lrem, [], .long y :: .long x :: r => ¬ y = 0 ∧ K (pc + len) lo (.long (x - x / y * y) :: r) h c s
  | .lneg, [], .long x :: r => K (pc + len) lo (.long (-x) :: r) h c s
  | .lshl, [], .int y :: .long x :: r => K (pc + len) lo (.long (x <<< (y.toInt64 &&& 63)) :: r) h c s
  | .lushr, [], .int y :: .long x :: r => K (pc + len) lo (.long (x.toUInt64 >>> (y.toInt64.toUInt64 &&& Int64.toUInt64 63)).toInt64 :: r) h c s
  | .lcmp, [], .long y :: .long x :: r => K (pc + len) lo (.int (lg_cmp x y) :: r) h c s
  | .i2l, [], .int x :: r => K (pc + len) lo (.long x.toInt64 :: r) h c s
  | .l2i, [], .long x :: r => K (pc + len) lo (.int x.toInt32 :: r) h c s
  | .i2b, [], .int x :: r => K (pc + len) lo (.int x.toInt8.toInt32 :: r) h c s
  | .dup, [], .int x :: r => K (pc + len) lo (.int x :: .int x :: r) h c s
  | .dup, [], .ref x :: r => K (pc + len) lo (.ref x :: .ref x :: r) h c s
  | .dup2, [], .int x :: .ref y :: r => K (pc + len) lo (.int x :: .ref y :: .int x :: .ref y :: r) h c s
  | .pop, [], .int x :: r => K (pc + len) lo r h c s
  | .ifCond .eq _, [t], .int x :: r => mIf (x = 0) t pc (fun q => K q lo r h c s)
  | .ifCond .ne _, [t], .int x :: r => mIf (¬ x = 0) t pc (fun q => K q lo r h c s)
  | .ifCond .lt _, [t], .int x :: r => mIf (x < 0) t pc (fun q => K q lo r h c s)
  | .ifCond .ge _, [t], .int x :: r => mIf (0 ≤ x) t pc (fun q => K q lo r h c s)
  | .ifCond .gt _, [t], .int x :: r => mIf (0 < x) t pc (fun q => K q lo r h c s)
  | .ifCond .le _, [t], .int x :: r => mIf (x ≤ 0) t pc (fun q => K q lo r h c s)
  | .if_icmp .eq _, [t], .int y :: .int x :: r => mIf (x = y) t pc (fun q => K q lo r h c s)
  | .if_icmp .ne _, [t], .int y :: .int x :: r => mIf (¬ x = y) t pc (fun q => K q lo r h c s)
  | .if_icmp .lt _, [t], .int y :: .int x :: r => mIf (x < y) t pc (fun q => K q lo r h c s)
  | .if_icmp .ge _, [t], .int y :: .int x :: r => mIf (y ≤ x) t pc (fun q => K q lo r h c s)
  | .if_icmp .gt _, [t], .int y :: .int x :: r => mIf (y < x) t pc (fun q => K q lo r h c s)
  | .if_icmp .le _, [t], .int y :: .int x :: r => mIf (x ≤ y) t pc (fun q => K q lo r h c s)
  | .goto _, [t], st => K t lo st h c s
  | .tableswitch _ _ _ _, inf, .int x :: r => mSw x (fun q => K q lo r h c s) inf
  | .lookupswitch _ _, inf, .int x :: r => mSw x (fun q => K q lo r h c s) inf
  | .getfield _, [ci, k], .ref a :: r => match mAt h a with
    | some (.inr (cj, fs)) => cj = ci ∧ (match mAt fs k with
      | some v => K (pc + len) lo (v :: r) h c s
      | none => False)
    | _ => False
  | .putfield _, [ci, k, b], v :: .ref a :: r => match mAt h a with
    | some (.inr (cj, fs)) => cj = ci ∧ k < fs.length ∧ mFit (b % 10) v ∧ K (pc + len) lo r (mPut h a (.inr (ci, mPut fs k v))) c s
    | _ => False
  | .iaload, [], .int j :: .ref a :: r => match mAt h a with
    | some (.inl (.int, n, .inl f)) => vp_in j n ∧ K (pc + len) lo (.int (f j.toNatClampNeg) :: r) h c s
    | _ => False
  | .iaload, [], .int j :: .float 0 :: r => vp_in j X.1 ∧ K (pc + len) lo (.int (X.2 j.toNatClampNeg) :: r) h c s
  | .baload, [], .int j :: .ref a :: r => match mAt h a with
    | some (.inl (.byte, n, .inl f)) => vp_in j n ∧ K (pc + len) lo (.int (f j.toNatClampNeg) :: r) h c s
    | _ => False
  | .laload, [], .int j :: .ref a :: r => match mAt h a with
    | some (.inl (.long, n, .inr (.inl f))) => vp_in j n ∧ K (pc + len) lo (.long (f j.toNatClampNeg) :: r) h c s
    | _ => False
  | .laload, [], .int j :: .float 1 :: r => vp_in j 16 ∧ K (pc + len) lo (.long (mFive j.toNatClampNeg) :: r) h c s
  | .iastore, [], .int x :: .int j :: .ref a :: r => match mAt h a with
    | some (.inl (.int, n, .inl f)) => vp_in j n ∧ K (pc + len) lo r (mPut h a (.inl (.int, n, .inl (upd f j.toNatClampNeg x)))) c s
    | _ => False
  | .bastore, [], .int x :: .int j :: .ref a :: r => match mAt h a with
    | some (.inl (.byte, n, .inl f)) => vp_in j n ∧ K (pc + len) lo r (mPut h a (.inl (.byte, n, .inl (upd f j.toNatClampNeg x.toInt8.toInt32)))) c s
    | _ => False
  | .lastore, [], .long x :: .int j :: .ref a :: r => match mAt h a with
    | some (.inl (.long, n, .inr (.inl f))) => vp_in j n ∧ K (pc + len) lo r (mPut h a (.inl (.long, n, .inr (.inl (vp_updL f j.toNatClampNeg x))))) c s
    | _ => False
  | .arraylength, [], .ref a :: r => match mAt h a with
    | some (.inl (.byte, n, _)) => K (pc + len) lo (.int (Int32.ofNat n) :: r) h c s
    | some (.inl (.int, n, _)) => K (pc + len) lo (.int (Int32.ofNat n) :: r) h c s
    | some (.inl (.long, n, _)) => K (pc + len) lo (.int (Int32.ofNat n) :: r) h c s
    | _ => False
  | .arraylength, [], .float 0 :: r => K (pc + len) lo (.int (Int32.ofNat X.1) :: r) h c s
  | .arraylength, [], .float 1 :: r => K (pc + len) lo (.int (Int32.ofNat 16) :: r) h c s
  | .newarray .byte, [], .int n :: r => ¬ n < 0 ∧ n.toNatClampNeg ≤ 65536 ∧ (lo.all (mOk h.length) && r.all (mOk h.length) && h.all (mOkC h.length)) = true ∧ K (pc + len) lo (.ref h.length :: r) (h ++ [.inl (.byte, n.toNatClampNeg, .inl (fun _ => 0))]) (c + 1) (s + n.toNatClampNeg)
  | .newarray .int, [], .int n :: r => ¬ n < 0 ∧ n.toNatClampNeg ≤ 65536 ∧ (lo.all (mOk h.length) && r.all (mOk h.length) && h.all (mOkC h.length)) = true ∧ K (pc + len) lo (.ref h.length :: r) (h ++ [.inl (.int, n.toNatClampNeg, .inl (fun _ => 0))]) (c + 1) (s + n.toNatClampNeg)
  | .newarray .long, [], .int n :: r => ¬ n < 0 ∧ n.toNatClampNeg ≤ 65536 ∧ (lo.all (mOk h.length) && r.all (mOk h.length) && h.all (mOkC h.length)) = true ∧ K (pc + len) lo (.ref h.length :: r) (h ++ [.inl (.long, n.toNatClampNeg, .inr (.inl (fun _ => 0)))]) (c + 1) (s + n.toNatClampNeg)
  | .new _, [e], st => 5 < d ∧ mCat st ≤ 8 ∧ mBare (pc + 9) hs = true ∧ Q (.inr e) h (c + 1) (s + 6)
  | .new _, ci :: t0 :: ts, st => (lo.all (mOk h.length) && st.all (mOk h.length) && h.all (mOkC h.length)) = true ∧ K (pc + len) lo (.ref h.length :: st) (h ++ [.inr (ci, mDf 0 (t0 :: ts))]) (c + 1) (s + (t0 :: ts).length)
  | .invokespecial _, [], .ref _ :: r => 0 < d ∧ mCat r ≤ 8 ∧ K (pc + len) lo r h c s
  | .invokespecial _, [y, n], st => mInv G hs y n mRi pc lo st h c s K Q
  | .invokestatic _, [_], .int y :: .int x :: r => 0 < d ∧ mCat r ≤ 8 ∧ (y < x → K (pc + len) lo (.int y :: r) h c s) ∧ (¬ y < x → K (pc + len) lo (.int x :: r) h c s)
  | .invokestatic _, [_, _, _, _], .int y :: .int x :: r => 0 < d ∧ mCat r ≤ 8 ∧ (x < y → K (pc + len) lo (.int y :: r) h c s) ∧ (¬ x < y → K (pc + len) lo (.int x :: r) h c s)
  | .invokestatic _, [_, _, _, _, _], .long x :: r => 0 < d ∧ mCat r ≤ 8 ∧ (0 < x → K (pc + len) lo (.long x :: r) h c s) ∧ (¬ 0 < x → K (pc + len) lo (.long (-x) :: r) h c s)
  | .invokestatic _, [y, n], st => mInv G hs y n (fun _ _ _ => True) pc lo st h c s K Q
  | .invokestatic _, [y, n, _], st => mInv G hs y n mRn0 pc lo st h c s K Q
  | .invokevirtual _, [y, n, ci], st => mInv G hs y n (mRc ci) pc lo st h c s K Q
  | .ireturn, [], [.int x] => Q (.inl (some (.int x))) h c s
  | .ireturn, [_], [.int x] => (x = 0 ∨ x = 1) ∧ Q (.inl (some (.int x))) h c s
  | .lreturn, [], [.long x] => Q (.inl (some (.long x))) h c s
  | .return_, [], [] => Q (.inl none) h c s
  | _, _, _ => False
