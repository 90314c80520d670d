/-- a method's name, code, locals, answer, table -/
abbrev mMt : Type := MethodName × ByteArray × Nat × Option FieldType × List (Nat × Nat × Nat × Nat)
def mWd (t : mMt) : Cond := match t.2.2.2.2 with
  | [] => .code t.1 t.2.1 t.2.2.1 t.2.2.2.1
  | x :: hh => .codeWith t.1 t.2.1 t.2.2.1 t.2.2.2.1 (x :: hh)
theorem mWd_nil {t : mMt} (h : t.2.2.2.2 = []) : mWd t = .code t.1 t.2.1 t.2.2.1 t.2.2.2.1 := by unfold mWd; rw [h]
theorem mWd_cons {t : mMt} {x : Nat × Nat × Nat × Nat} {hh : List (Nat × Nat × Nat × Nat)} (h : t.2.2.2.2 = x :: hh) : mWd t = .codeWith t.1 t.2.1 t.2.2.1 t.2.2.2.1 (x :: hh) := by unfold mWd; rw [h]
def mSup : List String := ["java/lang/RuntimeException", "java/lang/Exception"]
/-- what a row's numbers must be, for the row to be true of the real machine -/
def okI (own : String) (Ts : List Cond) (mt : Nat → mMt) (ini : Bool) (rt : Option FieldType) (cc : ByteArray) (pc : Nat) (i : Instr) (len : Nat) (inf : List Nat) (cv : Value) : Prop := match i, inf with
  | .iload_n k, [j] => len = 1 ∧ (k : Nat) = j
  | .iload k, [j] => len = 2 ∧ k = j
  | .lload_n k, [j] => len = 1 ∧ (k : Nat) = j
  | .lload k, [j] => len = 2 ∧ k = j
  | .aload_n k, [j] => len = 1 ∧ (k : Nat) = j
  | .aload k, [j] => len = 2 ∧ k = j
  | .istore_n k, [j] => len = 1 ∧ (k : Nat) = j
  | .istore k, [j] => len = 2 ∧ k = j
  | .lstore_n k, [j] => len = 1 ∧ (k : Nat) = j
  | .lstore k, [j] => len = 2 ∧ k = j
  | .astore_n k, [j] => len = 1 ∧ (k : Nat) = j
  | .astore k, [j] => len = 2 ∧ k = j
  | .iinc k n, [j] => len = 3 ∧ k = j ∧ cv = .int (Int32.ofInt n)
  | .iconst n, [] => len = 1 ∧ cv = .int (Int32.ofInt n)
  | .bipush n, [] => len = 2 ∧ cv = .int (Int8.ofInt n).toInt32
  | .sipush n, [] => len = 3 ∧ cv = .int (Int16.ofInt n).toInt32
  | .lconst n, [] => len = 1 ∧ cv = .long (Int64.ofNat (n : Nat))
  | .ldc n, [] => len = 2 ∧ ∃ v : Int32, cv = .int v ∧ Cond.constant own n v ∈ Ts
  | .ldc_w n, [] => len = 3 ∧ ∃ v : Int32, cv = .int v ∧ Cond.constant own n v ∈ Ts
  | .ldc2_w n, [] => len = 3 ∧ ∃ v : Int64, cv = .long v ∧ Cond.constantLong own n v ∈ Ts
  | .getstatic n, [] => len = 3 ∧ cv = .float 1 ∧ Cond.fieldLink own n "DoublePacks$Decimals" "FIVES" "[J" ∈ Ts
  | .iadd, [] => len = 1
  | .isub, [] => len = 1
  | .imul, [] => len = 1
  | .iand, [] => len = 1
  | .ior, [] => len = 1
  | .ixor, [] => len = 1
  | .idiv, [] => len = 1
  | .irem, [] => len = 1
  | .ishl, [] => len = 1
  | .ishr, [] => len = 1
  | .iushr, [] => len = 1
  | .ladd, [] => len = 1
  | .lsub, [] => len = 1
  | .lmul, [] => len = 1
  | .land, [] => len = 1
  | .lor, [] => len = 1
  | .lxor, [] => len = 1
  | .ldiv, [] => len = 1
  | .lrem, [] => len = 1
  | .lneg, [] => len = 1
  | .lshl, [] => len = 1
  | .lushr, [] => len = 1
  | .lcmp, [] => len = 1
  | .i2l, [] => len = 1
  | .l2i, [] => len = 1
  | .i2b, [] => len = 1
  | .dup, [] => len = 1
  | .dup2, [] => len = 1
  | .pop, [] => len = 1
  | .ifCond .eq off, [t] => len = 3 ∧ (pc : Int) + off = (t : Int)
  | .ifCond .ne off, [t] => len = 3 ∧ (pc : Int) + off = (t : Int)
  | .ifCond .lt off, [t] => len = 3 ∧ (pc : Int) + off = (t : Int)
  | .ifCond .ge off, [t] => len = 3 ∧ (pc : Int) + off = (t : Int)
  | .ifCond .gt off, [t] => len = 3 ∧ (pc : Int) + off = (t : Int)
  | .ifCond .le off, [t] => len = 3 ∧ (pc : Int) + off = (t : Int)
  | .if_icmp .eq off, [t] => len = 3 ∧ (pc : Int) + off = (t : Int)
  | .if_icmp .ne off, [t] => len = 3 ∧ (pc : Int) + off = (t : Int)
  | .if_icmp .lt off, [t] => len = 3 ∧ (pc : Int) + off = (t : Int)
  | .if_icmp .ge off, [t] => len = 3 ∧ (pc : Int) + off = (t : Int)
  | .if_icmp .gt off, [t] => len = 3 ∧ (pc : Int) + off = (t : Int)
  | .if_icmp .le off, [t] => len = 3 ∧ (pc : Int) + off = (t : Int)
  | .goto off, [t] => len = 3 ∧ (pc : Int) + off = (t : Int)
  | .tableswitch a1 a2 a3 a4, inf => ∀ (x : Int32) (f : Nat → Prop), mSw x f inf → ∃ tgt : Nat, f tgt ∧ (((x.toInt < a2 ∨ a3 < x.toInt) ∧ (pc : Int) + a1 = tgt) ∨ (¬ x.toInt < a2 ∧ ¬ a3 < x.toInt ∧ ∃ off, a4[(x.toInt - a2).toNat]? = some off ∧ (pc : Int) + off = tgt))
  | .lookupswitch a1 a4, inf => (a4.toList.zip (a4.toList.drop 1)).all (fun (a, next) => a.1 < next.1) = true ∧ ∀ (x : Int32) (f : Nat → Prop), mSw x f inf → ∃ tgt : Nat, f tgt ∧ (pc : Int) + Op.lookupswitch.offset a4.toList a1 x.toInt = tgt
  | .getfield n, [ci, k] => len = 3 ∧ ∃ (C : String) (T : u_T) (N : Nat), mCl[ci]? = some (C, T, N) ∧ k < N ∧ (∀ w ∈ u_ws C T N, w ∈ Ts) ∧ (Cond.fieldLink own n (T k).1 (T k).2.1 (T k).2.2.1 ∈ Ts ∨ (own, n, (T k).1, (T k).2.1, (T k).2.2.1) ∈ mNestF)
  | .putfield n, [ci, k, b] => len = 3 ∧ ∃ (C : String) (T : u_T) (N : Nat), mCl[ci]? = some (C, T, N) ∧ k < N ∧ (∀ w ∈ u_ws C T N, w ∈ Ts) ∧ (Cond.fieldLink own n (T k).1 (T k).2.1 (T k).2.2.1 ∈ Ts ∨ (own, n, (T k).1, (T k).2.1, (T k).2.2.1) ∈ mNestF) ∧ mTyOk (b % 10) (mTy ci k) ∧ (((T k).2.2.2 = false) ∨ ((T k).2.2.2 = true ∧ ini = true ∧ (T k).1 = own ∧ Cond.fieldLink own n (T k).1 (T k).2.1 (T k).2.2.1 ∈ Ts))
  | .iaload, [] => len = 1
  | .baload, [] => len = 1
  | .laload, [] => len = 1
  | .iastore, [] => len = 1
  | .bastore, [] => len = 1
  | .lastore, [] => len = 1
  | .arraylength, [] => len = 1
  | .newarray .byte, [] => len = 2 ∧ Cond.arrayClass .byte ∈ Ts
  | .newarray .int, [] => len = 2 ∧ Cond.arrayClass .int ∈ Ts
  | .newarray .long, [] => len = 2 ∧ Cond.arrayClass .long ∈ Ts
  | .new ik, [e0] => e0 < 4 ∧ ∃ (isx ic : Nat), isx ∈ mStrs ∧ own = RX8 ∧ decode cc (pc + 3) = .ok (.dup, 1) ∧ decode cc (pc + 4) = .ok (.ldc isx, 2) ∧ decode cc (pc + 6) = .ok (.invokespecial ic, 3) ∧ decode cc (pc + 9) = .ok (.athrow, 1) ∧ len = 3 ∧ Cond.classLink own ik (mEx e0) ∈ Ts ∧ Cond.initialized (mEx e0) ∈ Ts ∧ (∀ w ∈ (vx_atS own ic (mEx e0) mSup).filter goodWord, w ∈ Ts) ∧ (∀ w ∈ (vx_atS own ic (mEx e0) mSup).filter (fun w => !goodWord w), w ∈ Cond.castable (mEx e0) (mEx e0) :: mSupN.map (fun Y => Cond.declares (Bundle.initS Y))) ∧ (∀ w ∈ Cond.classLink own ik (mEx e0) :: Cond.initialized (mEx e0) :: vx_atS own ic (mEx e0) mSup, vx_ot w = true)
  | .new n, ci :: t0 :: ts => len = 3 ∧ ∃ (C : String) (T : u_T) (N : Nat), mCl[ci]? = some (C, T, N) ∧ (t0 :: ts).length = N ∧ (∀ j, j < N → defaultValue (mTy ci j) = vp_V (mDf 0 (t0 :: ts)) j) ∧ (∀ w ∈ u_ws C T N, w ∈ Ts) ∧ Cond.classLink own n C ∈ Ts ∧ Cond.instantiable C N ∈ Ts ∧ Cond.initialized C ∈ Ts
  | .invokespecial n, [] => len = 3 ∧ Cond.methodLink own n objectInit ∈ Ts ∧ Cond.instanceMethod objectInit ∈ Ts ∧ Cond.code objectInit ⟨#[0xb1]⟩ 1 none ∈ Ts
  | .invokespecial kk, [y, n] => len = 3 ∧ (mt y).2.2.2.2 = [] ∧ (mt y).2.2.2.1 = none ∧ (Cond.methodLink own kk (mt y).1 ∈ Ts ∨ (own, kk, (mt y).1) ∈ mNestM) ∧ Cond.instanceMethod (mt y).1 ∈ Ts ∧ Cond.initialized (mt y).1.cls ∈ Ts ∧ mWd (mt y) ∈ Ts ∧ (mt y).1.name = "<init>" ∧ (mt y).1.cls ≠ "java/lang/invoke/MethodHandle" ∧ (mt y).1.cls ≠ "java/lang/invoke/VarHandle" ∧ (∃ n0, n = n0 + 1 ∧ (parseMethodDescriptor (mt y).1.desc).map (fun d => d.parameters.length) = some n0) ∧ (mt y).2.2.1 ≤ 23
  | .invokestatic kk, [_] => len = 3 ∧ Cond.methodLink own kk Lib.Math.min.name ∈ Ts ∧ Cond.static Lib.Math.min.name ∈ Ts ∧ Cond.initialized "java/lang/Math" ∈ Ts ∧ Cond.code Lib.Math.min.name Lib.Math.min.code 2 (some .int) ∈ Ts
  | .invokestatic kk, [_, _, _, _] => len = 3 ∧ Cond.methodLink own kk Lib.Math.max.name ∈ Ts ∧ Cond.static Lib.Math.max.name ∈ Ts ∧ Cond.initialized "java/lang/Math" ∈ Ts ∧ Cond.code Lib.Math.max.name Lib.Math.max.code 2 (some .int) ∈ Ts
  | .invokestatic kk, [_, _, _, _, _] => len = 3 ∧ Cond.methodLink own kk Lib.MathLoose.abs_long.x ∈ Ts ∧ Cond.static Lib.MathLoose.abs_long.x ∈ Ts ∧ Cond.initialized "java/lang/Math" ∈ Ts ∧ Cond.code Lib.MathLoose.abs_long.x Lib.MathLoose.abs_long.code 2 (some .long) ∈ Ts
  | .invokestatic kk, [y, n] => len = 3 ∧ Cond.methodLink own kk (mt y).1 ∈ Ts ∧ Cond.static (mt y).1 ∈ Ts ∧ Cond.initialized (mt y).1.cls ∈ Ts ∧ mWd (mt y) ∈ Ts ∧ (mt y).1.cls ≠ "java/lang/invoke/MethodHandle" ∧ (mt y).1.cls ≠ "java/lang/invoke/VarHandle" ∧ (parseMethodDescriptor (mt y).1.desc).map (fun d => d.parameters.length) = some n ∧ (mt y).2.2.1 ≤ 23
  | .invokestatic kk, [y, n, _] => len = 3 ∧ (mt y).2.2.2.2 = [] ∧ (own, kk, (mt y).1) ∈ mNestM ∧ Cond.static (mt y).1 ∈ Ts ∧ Cond.initialized (mt y).1.cls ∈ Ts ∧ mWd (mt y) ∈ Ts ∧ (mt y).1.cls ≠ "java/lang/invoke/MethodHandle" ∧ (mt y).1.cls ≠ "java/lang/invoke/VarHandle" ∧ (parseMethodDescriptor (mt y).1.desc).map (fun d => d.parameters.length) = some n ∧ (mt y).2.2.1 ≤ 23
  | .invokevirtual kk, [y, n, ci] => len = 3 ∧ (mt y).2.2.2.2 = [] ∧ (∃ (T : u_T) (N : Nat), mCl[ci]? = some ((mt y).1.cls, T, N)) ∧ Cond.methodLink own kk (mt y).1 ∈ Ts ∧ Cond.instanceMethod (mt y).1 ∈ Ts ∧ Cond.selects (mt y).1.cls (mt y).1 (mt y).1 ∈ Ts ∧ Cond.initialized (mt y).1.cls ∈ Ts ∧ mWd (mt y) ∈ Ts ∧ (mt y).1.cls ≠ "java/lang/invoke/MethodHandle" ∧ (mt y).1.cls ≠ "java/lang/invoke/VarHandle" ∧ (∃ n0, n = n0 + 1 ∧ (parseMethodDescriptor (mt y).1.desc).map (fun d => d.parameters.length) = some n0) ∧ (mt y).2.2.1 ≤ 23
  | .ireturn, [] => len = 1 ∧ rt = some .int
  | .ireturn, [_] => len = 1 ∧ rt = some .boolean
  | .lreturn, [] => len = 1 ∧ rt = some .long
  | .return_, [] => len = 1 ∧ rt = none
  | _, _ => True
section
variable {p : Program} {l : Launch} {e : Env} {R : Room} {s : State} {m : MethodId} {args : Array Value} {below : List Frame} {meth : Method} {c : Code} {Qf : State → Prop} {D : va_G} {kA : FieldType → ClassId} {ro : Nat → Nat} {A : Nat → Prop} {nL n0 : Nat} {ad0 : Nat → Nat} {cc : ByteArray} {X : mX0} {own : String} {Ts : List Cond}
variable {hs : mHd} {Q : mQ} {d : Nat} {G : mG} {mt : Nat → mMt} {ini : Bool} {rt : Option FieldType}
/-- what the callees are known to do -/
abbrev mIH (l : Launch) (X : mX0) (Ts : List Cond) (mt : Nat → mMt) (d : Nat) (G : mG) : Prop := ∀ (y : Nat) (as : List Value) (S : mH) (r : Option Value ⊕ Nat) (S' : mH) (dc ds : Nat), G y as S (fun r1 S1 c1 s1 => r1 = r ∧ S1 = S' ∧ c1 = dc ∧ s1 = ds) → ∃ d', d = d' + 1 ∧ mCon l X (mt y).1 (mWd (mt y) :: Ts) d' as S r S' dc ds
set_option maxHeartbeats 4000000 in
theorem mStep_sound (F : mFx p R s m args c D kA ro A nL cc X own Ts d) (B : mHb p l e R s m args below meth c Qf D kA ro A nL n0 ad0 hs Q) (E : mEnd p l e R s m args below meth c Qf D kA ro A n0 ad0 cc rt Q) (hini : ini = true → meth.name = "<init>") (IH : mIH l X Ts mt d G)
    (hThr : ∀ (ik e0 len pc : Nat) (lo st : List Value) (h : mH) (cv : Value) {c1 s1 : Nat}, (decode cc pc = .ok (.new ik, len) ∧ okI own Ts mt ini rt cc pc (.new ik) len [e0] cv) → (5 < d ∧ mCat st ≤ 8 ∧ mBare (pc + 9) hs = true ∧ Q (.inr e0) h (c1 + 1) (s1 + 6)) → mZ p l e R s m args below meth c Qf D kA ro A nL n0 ad0 pc lo st h c1 s1)
    {i : Instr} {len : Nat} {inf : List Nat} {cv : Value} {pc : Nat} {lo st : List Value} {h : mH} {c1 s1 : Nat} (hok : decode cc pc = .ok (i, len) ∧ okI own Ts mt ini rt cc pc i len inf cv)
    (q : mStep d X G hs i len inf cv pc lo st h c1 s1 (mZ p l e R s m args below meth c Qf D kA ro A nL n0 ad0) Q) : mZ p l e R s m args below meth c Qf D kA ro A nL n0 ad0 pc lo st h c1 s1 := by
  have hInvS : ∀ (kk y n len : Nat) (cv : Value) {pc : Nat} {lo st : List Value} {h : mH} {c1 s1 : Nat}, (decode cc pc = .ok (.invokestatic kk, len) ∧ okI own Ts mt ini rt cc pc (.invokestatic kk) len [y, n] cv) → mInv G hs y n (fun _ _ _ => True) pc lo st h c1 s1 (mZ p l e R s m args below meth c Qf D kA ro A nL n0 ad0) Q → mZ p l e R s m args below meth c Qf D kA ro A nL n0 ad0 pc lo st h c1 s1 := by
    intro kk y n len cv pc lo st h c1 s1 hok q
    obtain ⟨h1, h2, w1, w2, w3, w4, n1, n2, hpar, hmx⟩ := hok
    subst h2
    obtain ⟨ρ, S, as, rest, r, S', dc, ds, g1, g2, g3, g4, g5, g6, g7, g8, g9⟩ := q
    obtain ⟨d', hd', hcon⟩ := IH _ _ _ _ _ _ _ g8
    subst hd'
    cases ht : (mt y).2.2.2.2 with
    | nil =>
      rw [mWd_nil ht] at w4 hcon
      exact z_cs F B h1 w1 w2 w3 w4 ⟨n1, n2, hpar⟩ hmx ⟨ρ, S, as, rest, r, S', dc, ds, g1, g2, g3, g4, g5, g6, g7, hcon, g9⟩
    | cons x hh =>
      rw [mWd_cons ht] at w4 hcon
      exact z_csw F B h1 w1 w2 w3 w4 ⟨n1, n2, hpar⟩ hmx ⟨ρ, S, as, rest, r, S', dc, ds, g1, g2, g3, g4, g5, g6, g7, hcon, g9⟩
  have hInvN : ∀ (kk y n z len : Nat) {cv : Value} {pc : Nat} {lo st : List Value} {h : mH} {c1 s1 : Nat}, (decode cc pc = .ok (.invokestatic kk, len) ∧ okI own Ts mt ini rt cc pc (.invokestatic kk) len [y, n, z] cv) → mInv G hs y n mRn0 pc lo st h c1 s1 (mZ p l e R s m args below meth c Qf D kA ro A nL n0 ad0) Q → mZ p l e R s m args below meth c Qf D kA ro A nL n0 ad0 pc lo st h c1 s1 := by
    intro kk y n z len cv pc lo st h c1 s1 hok q
    obtain ⟨h1, h2, ht, w1, w2, w3, w4, n1, n2, hpar, hmx⟩ := hok
    subst h2
    obtain ⟨ρ, S, as, rest, r, S', dc, ds, g1, g2, g3, g4, g5, g6, g7, g8, g9⟩ := q
    obtain ⟨d', hd', hcon⟩ := IH _ _ _ _ _ _ _ g8
    subst hd'
    rw [mWd_nil ht] at w4 hcon
    exact z_csn F B h1 w1 w2 w3 w4 ⟨n1, n2, hpar⟩ hmx ⟨ρ, S, as, rest, r, S', dc, ds, g1, g2, g3, g4, g5, g6, g7, hcon, g9⟩
  have hInvV : ∀ (kk y n ci len : Nat) (cv : Value) {pc : Nat} {lo st : List Value} {h : mH} {c1 s1 : Nat}, (decode cc pc = .ok (.invokevirtual kk, len) ∧ okI own Ts mt ini rt cc pc (.invokevirtual kk) len [y, n, ci] cv) → mInv G hs y n (mRc ci) pc lo st h c1 s1 (mZ p l e R s m args below meth c Qf D kA ro A nL n0 ad0) Q → mZ p l e R s m args below meth c Qf D kA ro A nL n0 ad0 pc lo st h c1 s1 := by
    intro kk y n ci len cv pc lo st h c1 s1 hok q
    obtain ⟨h1, h2, ht, ⟨T, N, hcl⟩, w1, w2, w5, w3, w4, n1, n2, ⟨n0, hn0, hpar⟩, hmx⟩ := hok
    subst h2
    subst hn0
    obtain ⟨ρ, S, as, rest, r, S', dc, ds, g1, g2, g3, g4, g5, g6, g7, g8, g9⟩ := q
    obtain ⟨d', hd', hcon⟩ := IH _ _ _ _ _ _ _ g8
    subst hd'
    rw [mWd_nil ht] at w4 hcon
    exact z_cv F B h1 hcl w1 w2 w5 w3 w4 ⟨n1, n2, hpar⟩ hmx ⟨ρ, S, as, rest, r, S', dc, ds, g1, g2, g3, g4, g5, g6, g7, hcon, g9⟩
  have hInvI : ∀ (kk y n len : Nat) (cv : Value) {pc : Nat} {lo st : List Value} {h : mH} {c1 s1 : Nat}, (decode cc pc = .ok (.invokespecial kk, len) ∧ okI own Ts mt ini rt cc pc (.invokespecial kk) len [y, n] cv) → mInv G hs y n mRi pc lo st h c1 s1 (mZ p l e R s m args below meth c Qf D kA ro A nL n0 ad0) Q → mZ p l e R s m args below meth c Qf D kA ro A nL n0 ad0 pc lo st h c1 s1 := by
    intro kk y n len cv pc lo st h c1 s1 hok q
    obtain ⟨h1, h2, ht, hrt, w1, w2, w3, w4, hnm, n1, n2, ⟨n0, hn0, hpar⟩, hmx⟩ := hok
    subst h2
    subst hn0
    obtain ⟨ρ, S, as, rest, r, S', dc, ds, g1, g2, g3, g4, g5, g6, g7, g8, g9⟩ := q
    obtain ⟨d', hd', hcon⟩ := IH _ _ _ _ _ _ _ g8
    subst hd'
    rw [mWd_nil ht, hrt] at w4 hcon
    exact z_ci F B h1 w1 w2 w3 w4 hnm ⟨n1, n2, hpar⟩ hmx ⟨ρ, S, as, rest, r, S', dc, ds, g1, g2, g3, g4, g5, g6, g7, hcon, g9⟩
  unfold mStep at q
  split at q
  · exact z_iload_n F.1.1 F.1.2.1 hok.1 hok.2.1 hok.2.2 q
  · exact z_iload F.1.1 F.1.2.1 hok.1 hok.2.1 hok.2.2 q
  · exact z_lload_n F.1.1 F.1.2.1 hok.1 hok.2.1 hok.2.2 q
  · exact z_lload F.1.1 F.1.2.1 hok.1 hok.2.1 hok.2.2 q
  · exact z_aload_n F.1.1 F.1.2.1 hok.1 hok.2.1 hok.2.2 q
  · exact z_aload F.1.1 F.1.2.1 hok.1 hok.2.1 hok.2.2 q
  · exact z_istore_n F.1.1 F.1.2.1 hok.1 hok.2.1 hok.2.2 q
  · exact z_istore F.1.1 F.1.2.1 hok.1 hok.2.1 hok.2.2 q
  · exact z_lstore_n F.1.1 F.1.2.1 hok.1 hok.2.1 hok.2.2 q
  · exact z_lstore F.1.1 F.1.2.1 hok.1 hok.2.1 hok.2.2 q
  · exact z_astore_n F.1.1 F.1.2.1 hok.1 hok.2.1 hok.2.2 q
  · exact z_astore F.1.1 F.1.2.1 hok.1 hok.2.1 hok.2.2 q
  · exact z_iinc F.1.1 F.1.2.1 hok.1 hok.2.1 hok.2.2.1 q hok.2.2.2
  · exact z_iconst F.1.1 F.1.2.1 hok.1 hok.2.1 hok.2.2 q
  · exact z_bipush F.1.1 F.1.2.1 hok.1 hok.2.1 hok.2.2 q
  · exact z_sipush F.1.1 F.1.2.1 hok.1 hok.2.1 hok.2.2 q
  · exact z_lconst F.1.1 F.1.2.1 hok.1 hok.2.1 hok.2.2 q
  · obtain ⟨h1, h2, v, h3, h4⟩ := hok; exact z_ldc F.1.1 F.1.2.1 F.1.2.2.2.1 F.1.2.2.2.2 h1 h2 h3 h4 q
  · obtain ⟨h1, h2, v, h3, h4⟩ := hok; exact z_ldc_w F.1.1 F.1.2.1 F.1.2.2.2.1 F.1.2.2.2.2 h1 h2 h3 h4 q
  · obtain ⟨h1, h2, v, h3, h4⟩ := hok; exact z_ldc2_w F.1.1 F.1.2.1 F.1.2.2.2.1 F.1.2.2.2.2 h1 h2 h3 h4 q
  · obtain ⟨h1, h2, h3, h4⟩ := hok; exact z_getstatic F.1.1 F.1.2.1 F.1.2.2.2.1 F.1.2.2.2.2 F.2.2.2.1 h1 h2 h3 h4 q
  · exact z_iadd F.1.1 F.1.2.1 hok.1 hok.2 q
  · exact z_isub F.1.1 F.1.2.1 hok.1 hok.2 q
  · exact z_imul F.1.1 F.1.2.1 hok.1 hok.2 q
  · exact z_iand F.1.1 F.1.2.1 hok.1 hok.2 q
  · exact z_ior F.1.1 F.1.2.1 hok.1 hok.2 q
  · exact z_ixor F.1.1 F.1.2.1 hok.1 hok.2 q
  · exact z_idiv F.1.1 F.1.2.1 hok.1 hok.2 q
  · exact z_irem F.1.1 F.1.2.1 hok.1 hok.2 q
  · exact z_ishl F.1.1 F.1.2.1 hok.1 hok.2 q
  · exact z_ishr F.1.1 F.1.2.1 hok.1 hok.2 q
  · exact z_iushr F.1.1 F.1.2.1 hok.1 hok.2 q
  · exact z_ladd F.1.1 F.1.2.1 hok.1 hok.2 q
  · exact z_lsub F.1.1 F.1.2.1 hok.1 hok.2 q
  · exact z_lmul F.1.1 F.1.2.1 hok.1 hok.2 q
  · exact z_land F.1.1 F.1.2.1 hok.1 hok.2 q
  · exact z_lor F.1.1 F.1.2.1 hok.1 hok.2 q
  · exact z_lxor F.1.1 F.1.2.1 hok.1 hok.2 q
  · exact z_ldiv F.1.1 F.1.2.1 hok.1 hok.2 q
  · exact z_lrem F.1.1 F.1.2.1 hok.1 hok.2 q
  · exact z_lneg F.1.1 F.1.2.1 hok.1 hok.2 q
  · exact z_lshl F.1.1 F.1.2.1 hok.1 hok.2 q
  · exact z_lushr F.1.1 F.1.2.1 hok.1 hok.2 q
  · exact z_lcmp F.1.1 F.1.2.1 hok.1 hok.2 q
  · exact z_i2l F.1.1 F.1.2.1 hok.1 hok.2 q
  · exact z_l2i F.1.1 F.1.2.1 hok.1 hok.2 q
  · exact z_i2b F.1.1 F.1.2.1 hok.1 hok.2 q
  · exact z_dup_i F.1.1 F.1.2.1 hok.1 hok.2 q
  · exact z_dup_r F.1.1 F.1.2.1 hok.1 hok.2 q
  · exact z_dup2 F.1.1 F.1.2.1 hok.1 hok.2 q
  · exact z_pop F.1.1 F.1.2.1 hok.1 hok.2 q
  · exact z_if_eq F.1.1 F.1.2.1 hok.1 hok.2.1 hok.2.2 q
  · exact z_if_ne F.1.1 F.1.2.1 hok.1 hok.2.1 hok.2.2 q
  · exact z_if_lt F.1.1 F.1.2.1 hok.1 hok.2.1 hok.2.2 q
  · exact z_if_ge F.1.1 F.1.2.1 hok.1 hok.2.1 hok.2.2 q
  · exact z_if_gt F.1.1 F.1.2.1 hok.1 hok.2.1 hok.2.2 q
  · exact z_if_le F.1.1 F.1.2.1 hok.1 hok.2.1 hok.2.2 q
  · exact z_icmp_eq F.1.1 F.1.2.1 hok.1 hok.2.1 hok.2.2 q
  · exact z_icmp_ne F.1.1 F.1.2.1 hok.1 hok.2.1 hok.2.2 q
  · exact z_icmp_lt F.1.1 F.1.2.1 hok.1 hok.2.1 hok.2.2 q
  · exact z_icmp_ge F.1.1 F.1.2.1 hok.1 hok.2.1 hok.2.2 q
  · exact z_icmp_gt F.1.1 F.1.2.1 hok.1 hok.2.1 hok.2.2 q
  · exact z_icmp_le F.1.1 F.1.2.1 hok.1 hok.2.1 hok.2.2 q
  · exact z_goto F.1.1 F.1.2.1 hok.1 hok.2.1 hok.2.2 q
  · exact z_tsw F.1.1 F.1.2.1 hok.1 hok.2 q
  · exact z_lsw F.1.1 F.1.2.1 hok.1 hok.2.1 hok.2.2 q
  · obtain ⟨h1, h2, C, T, N, h3, h4, h5, h6⟩ := hok; exact z_getfield F.1.1 F.1.2.1 F.1.2.2.2.1 F.1.2.2.2.2 F.2.1 h1 h2 h3 h4 h5 (h6.imp id (fun z => F.2.2.2.2.1.1 _ z)) q
  · obtain ⟨h1, h2, C, T, N, h3, h4, h5, h6, h7, h8⟩ := hok; exact z_putfield F.1.1 F.1.2.1 F.1.2.2.2.1 F.1.2.2.2.2 F.2.1 h1 h2 h3 h4 h5 (h6.imp id (fun z => F.2.2.2.2.1.1 _ z)) h7 (h8.imp id (fun z => ⟨z.1, hini z.2.1, z.2.2.1, z.2.2.2⟩)) q
  · exact z_iaload F.1.1 F.1.2.1 F.2.1 hok.1 hok.2 q
  · exact z_iaload0 F.1.1 F.1.2.1 F.2.2.2.1 hok.1 hok.2 q
  · exact z_baload F.1.1 F.1.2.1 F.2.1 hok.1 hok.2 q
  · exact z_laload F.1.1 F.1.2.1 F.2.1 hok.1 hok.2 q
  · exact z_laload1 F.1.1 F.1.2.1 F.2.2.2.1 hok.1 hok.2 q
  · exact z_iastore F.1.1 F.1.2.1 F.2.1 hok.1 hok.2 q
  · exact z_bastore F.1.1 F.1.2.1 F.2.1 hok.1 hok.2 q
  · exact z_lastore F.1.1 F.1.2.1 F.2.1 hok.1 hok.2 q
  · exact z_alen F.1.1 F.1.2.1 F.2.1 hok.1 hok.2 q
  · exact z_alen0 F.1.1 F.1.2.1 F.2.2.2.1 hok.1 hok.2 q
  · exact z_alen1 F.1.1 F.1.2.1 F.2.2.2.1 hok.1 hok.2 q
  · exact z_newa_byte F.1.1 F.1.2.1 F.1.2.2.2.2 F.2.1 F.2.2.1 hok.1 hok.2.1 hok.2.2 q
  · exact z_newa_int F.1.1 F.1.2.1 F.1.2.2.2.2 F.2.1 F.2.2.1 hok.1 hok.2.1 hok.2.2 q
  · exact z_newa_long F.1.1 F.1.2.1 F.1.2.2.2.2 F.2.1 F.2.2.1 hok.1 hok.2.1 hok.2.2 q
  · exact hThr _ _ _ _ _ _ _ _ hok q
  · obtain ⟨h1, h2, C, T, N, h3, h4, h5, h6, h7, h8, h9⟩ := hok; exact z_new F.1.1 F.1.2.1 F.1.2.2.2.1 F.1.2.2.2.2 F.2.1 F.2.2.1 h1 h2 h3 h4 h5 h6 h7 h8 h9 q
  · exact z_oinit F.1.1 F.1.2.1 F.1.2.2.1 F.1.2.2.2.1 F.1.2.2.2.2 F.2.2.2.2.2.1 F.2.2.2.2.2.2.1 hok.1 hok.2.1 hok.2.2.1 hok.2.2.2.1 hok.2.2.2.2 q
  · exact hInvI _ _ _ _ _ hok q
  · exact z_mmin F.1.1 F.1.2.1 F.1.2.2.1 F.1.2.2.2.1 F.1.2.2.2.2 F.2.2.2.2.2.1 F.2.2.2.2.2.2.1 hok.1 hok.2.1 hok.2.2.1 hok.2.2.2.1 hok.2.2.2.2.1 hok.2.2.2.2.2 q
  · exact z_mmax F.1.1 F.1.2.1 F.1.2.2.1 F.1.2.2.2.1 F.1.2.2.2.2 F.2.2.2.2.2.1 F.2.2.2.2.2.2.1 hok.1 hok.2.1 hok.2.2.1 hok.2.2.2.1 hok.2.2.2.2.1 hok.2.2.2.2.2 q
  · exact z_mabs F.1.1 F.1.2.1 F.1.2.2.1 F.1.2.2.2.1 F.1.2.2.2.2 F.2.2.2.2.2.1 F.2.2.2.2.2.2.1 hok.1 hok.2.1 hok.2.2.1 hok.2.2.2.1 hok.2.2.2.2.1 hok.2.2.2.2.2 q
  · exact hInvS _ _ _ _ _ hok q
  · exact hInvN _ _ _ _ _ hok q
  · exact hInvV _ _ _ _ _ _ hok q
  · exact z_ireturn B.1 E hok.1 hok.2.1 hok.2.2 q
  · exact z_zreturn B.1 E hok.1 hok.2.1 hok.2.2 q
  · exact z_lreturn B.1 E hok.1 hok.2.1 hok.2.2 q
  · exact z_return B.1 E hok.1 hok.2.1 hok.2.2 q
  · exact q.elim
end
