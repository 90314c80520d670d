section
variable {p : Program} {l : Launch} {e : Env} {R : Room} {s : State} {m : MethodId} {args : Array Value} {below : List Frame} {meth : Method} {c : Code} {Qf : State → Prop} {D : va_G} {kA : FieldType → ClassId} {ro : Nat → Nat} {A : Nat → Prop} {nL n0 : Nat} {ad0 : Nat → Nat} {cc : ByteArray} {X : mX0} {own : String} {Ts : List Cond}
variable {pc len c1 s1 : Nat} {lo st : List Value} {h : mH} {cv : Value} {hs : mHd} {Q : mQ} {d : Nat}
theorem mDf_mp (ad ro : Nat → Nat) (k : Nat) (l : List Nat) : (mDf k l).map (mp ad ro) = mDf k l := by
  induction l with
  | nil => rfl
  | cons t l ih =>
    match t with
    | 0 => simp [mDf, mp, ih]
    | 1 => simp [mDf, mp, ih]
    | t + 2 => simp [mDf, mp, ih]
theorem z_new {n ci t0 N : Nat} {ts : List Nat} {C : String} {T : u_T} (hx : p.tables.exec = Jvm.exec) (hb : c.code = cc) (hown : s.vm.findClass own = some m.cls) (hts : ∀ w ∈ Ts, w.before args s = true) (hK : va_K D mCl (mTys kA) s) (hA : ∀ q, s.heap.size ≤ q → A q)
    (hd : decode cc pc = .ok (.new n, len)) (hl : len = 3) (hc : mCl[ci]? = some (C, T, N)) (hN : (t0 :: ts).length = N) (hdf : ∀ j, j < N → defaultValue (mTy ci j) = vp_V (mDf 0 (t0 :: ts)) j) (hin : ∀ w ∈ u_ws C T N, w ∈ Ts) (w1 : Cond.classLink own n C ∈ Ts) (w2 : Cond.instantiable C N ∈ Ts) (w3 : Cond.initialized C ∈ Ts)
    (q : (lo.all (mOk h.length) && st.all (mOk h.length) && h.all (mOkC h.length)) = true ∧ mZ p l e R s m args below meth c Qf D kA ro A nL n0 ad0 (pc + len) lo (.ref h.length :: st) (h ++ [.inr (ci, mDf 0 (t0 :: ts))]) (c1 + 1) (s1 + (t0 :: ts).length)) : mZ p l e R s m args below meth c Qf D kA ro A nL n0 ad0 pc lo st h c1 s1 := by
  subst hl
  obtain ⟨q3, q4, q5, q6⟩ := q
  simp only [Bool.and_eq_true] at q3
  obtain ⟨⟨k1, k2⟩, k3⟩ := q3
  refine ⟨by omega, by omega, fun ad H locs ls hI hP hD hS hl => ?_⟩
  rw [hN] at q5 q6
  refine va_new (ci := ci) (fs := mDf 0 (t0 :: ts)) hx hb hts hin (mTy ci) (mCl_ok hc).1 hown (hts _ w1) (hts _ w2) (hts _ w3) hK hP hD hS hA hc hdf (by omega) (by omega) hd (fun x H1 g1 g2 g3 => ?_)
  have e2 : mWs kA (mUp ad h.length x) ro (h ++ [.inr (ci, mDf 0 (t0 :: ts))]) = mWs kA ad ro h ++ [(x, .inr (ci, mDf 0 (t0 :: ts)))] := by
    rw [mWs_push k3]
    show _ ++ [(x, (Sum.inr (ci, (mDf 0 (t0 :: ts)).map (mp (mUp ad h.length x) ro)) : va_E))] = _
    rw [mDf_mp]
  rw [← e2] at g1 g2
  have k9 := q6 (mUp ad h.length x) H1 locs ls (hI.push _ _) g1 g2 g3 (hl.up k1)
  have e3 : ((Value.ref h.length :: st).map (mp (mUp ad h.length x) ro)) = Value.ref x :: st.map (mp ad ro) := by
    rw [List.map_cons, mp_up_l k2]
    show Value.ref (mUp ad h.length x h.length) :: _ = _
    simp [mUp]
  rw [e3] at k9
  exact k9
theorem z_oinit {n a : Nat} (hx : p.tables.exec = Jvm.exec) (hb : c.code = cc) (hml : c.maxLocals = nL) (hown : s.vm.findClass own = some m.cls) (hts : ∀ w ∈ Ts, w.before args s = true) (hRf : R.frames = d) (hRl : R.locals = 42 * d) (hd : decode cc pc = .ok (.invokespecial n, len)) (hl : len = 3) (w1 : Cond.methodLink own n objectInit ∈ Ts) (w2 : Cond.instanceMethod objectInit ∈ Ts) (w3 : Cond.code objectInit ⟨#[0xb1]⟩ 1 none ∈ Ts)
    (q : 0 < d ∧ mCat st ≤ 8 ∧ mZ p l e R s m args below meth c Qf D kA ro A nL n0 ad0 (pc + len) lo st h c1 s1) : mZ p l e R s m args below meth c Qf D kA ro A nL n0 ad0 pc lo (.ref a :: st) h c1 s1 := by
  subst hl
  obtain ⟨q1, q2, q3, q4, q5⟩ := q
  refine ⟨q3, q4, fun ad H locs ls hI hP hD hS hl => ?_⟩
  have hsz : ls.size = c.maxLocals := by obtain ⟨l0, g1, -⟩ := hl; rw [hml]; exact g1.1
  refine W.objInit (g := F0 m pc ls ((Value.ref a :: st).map (mp ad ro))) (rest := st.map (mp ad ro)) hx hb hown (hts _ w1) (hts _ w2) (hts _ w3) rfl hsz rfl hd (by rw [hRf]; exact q1) (by rw [hRl, mCat_mp]; show 2 * 0 + mCat st + 12 ≤ 42 * d; omega) (q5 ad H locs ls hI hP hD hS hl)
theorem z_mmin {n : Nat} {x y : Int32} (hx : p.tables.exec = Jvm.exec) (hb : c.code = cc) (hml : c.maxLocals = nL) (hown : s.vm.findClass own = some m.cls) (hts : ∀ w ∈ Ts, w.before args s = true) (hRf : R.frames = d) (hRl : R.locals = 42 * d) (hd : decode cc pc = .ok (.invokestatic n, len)) (hl : len = 3) (w1 : Cond.methodLink own n Lib.Math.min.name ∈ Ts) (w2 : Cond.static Lib.Math.min.name ∈ Ts) (w3 : Cond.initialized "java/lang/Math" ∈ Ts) (w4 : Cond.code Lib.Math.min.name Lib.Math.min.code 2 (some .int) ∈ Ts)
    (q : 0 < d ∧ mCat st ≤ 8 ∧ (y < x → mZ p l e R s m args below meth c Qf D kA ro A nL n0 ad0 (pc + len) lo (.int y :: st) h c1 s1) ∧ (¬ y < x → mZ p l e R s m args below meth c Qf D kA ro A nL n0 ad0 (pc + len) lo (.int x :: st) h c1 s1)) : mZ p l e R s m args below meth c Qf D kA ro A nL n0 ad0 pc lo (.int y :: .int x :: st) h c1 s1 := by
  subst hl
  obtain ⟨q1, q2, q3, q4⟩ := q
  by_cases g : y < x
  · refine ⟨(q3 g).1, (q3 g).2.1, fun ad H locs ls hI hP hD hS hl => ?_⟩
    have hsz : c.maxLocals = ls.size := by obtain ⟨l0, g1, -⟩ := hl; rw [hml]; exact g1.1.symm
    refine va_mmin hx hb hsz hown (hts _ w1) (hts _ w2) (hts _ w3) (hts _ w4) (by rw [hRf]; exact q1) (by rw [hRl, mCat_mp]; omega) (q3 g).1 (q3 g).2.1 hd ?_
    rw [if_pos g]
    exact (q3 g).2.2 ad H locs ls hI hP hD hS hl
  · refine ⟨(q4 g).1, (q4 g).2.1, fun ad H locs ls hI hP hD hS hl => ?_⟩
    have hsz : c.maxLocals = ls.size := by obtain ⟨l0, g1, -⟩ := hl; rw [hml]; exact g1.1.symm
    refine va_mmin hx hb hsz hown (hts _ w1) (hts _ w2) (hts _ w3) (hts _ w4) (by rw [hRf]; exact q1) (by rw [hRl, mCat_mp]; omega) (q4 g).1 (q4 g).2.1 hd ?_
    rw [if_neg g]
    exact (q4 g).2.2 ad H locs ls hI hP hD hS hl
theorem z_mmax {n : Nat} {x y : Int32} (hx : p.tables.exec = Jvm.exec) (hb : c.code = cc) (hml : c.maxLocals = nL) (hown : s.vm.findClass own = some m.cls) (hts : ∀ w ∈ Ts, w.before args s = true) (hRf : R.frames = d) (hRl : R.locals = 42 * d) (hd : decode cc pc = .ok (.invokestatic n, len)) (hl : len = 3) (w1 : Cond.methodLink own n Lib.Math.max.name ∈ Ts) (w2 : Cond.static Lib.Math.max.name ∈ Ts) (w3 : Cond.initialized "java/lang/Math" ∈ Ts) (w4 : Cond.code Lib.Math.max.name Lib.Math.max.code 2 (some .int) ∈ Ts)
    (q : 0 < d ∧ mCat st ≤ 8 ∧ (x < y → mZ p l e R s m args below meth c Qf D kA ro A nL n0 ad0 (pc + len) lo (.int y :: st) h c1 s1) ∧ (¬ x < y → mZ p l e R s m args below meth c Qf D kA ro A nL n0 ad0 (pc + len) lo (.int x :: st) h c1 s1)) : mZ p l e R s m args below meth c Qf D kA ro A nL n0 ad0 pc lo (.int y :: .int x :: st) h c1 s1 := by
  subst hl
  obtain ⟨q1, q2, q3, q4⟩ := q
  by_cases g : x < y
  · refine ⟨(q3 g).1, (q3 g).2.1, fun ad H locs ls hI hP hD hS hl => ?_⟩
    have hsz : c.maxLocals = ls.size := by obtain ⟨l0, g1, -⟩ := hl; rw [hml]; exact g1.1.symm
    refine va_mmax hx hb hsz hown (hts _ w1) (hts _ w2) (hts _ w3) (hts _ w4) (by rw [hRf]; exact q1) (by rw [hRl, mCat_mp]; omega) (q3 g).1 (q3 g).2.1 hd ?_
    rw [if_pos g]
    exact (q3 g).2.2 ad H locs ls hI hP hD hS hl
  · refine ⟨(q4 g).1, (q4 g).2.1, fun ad H locs ls hI hP hD hS hl => ?_⟩
    have hsz : c.maxLocals = ls.size := by obtain ⟨l0, g1, -⟩ := hl; rw [hml]; exact g1.1.symm
    refine va_mmax hx hb hsz hown (hts _ w1) (hts _ w2) (hts _ w3) (hts _ w4) (by rw [hRf]; exact q1) (by rw [hRl, mCat_mp]; omega) (q4 g).1 (q4 g).2.1 hd ?_
    rw [if_neg g]
    exact (q4 g).2.2 ad H locs ls hI hP hD hS hl
theorem z_mabs {n : Nat} {x : Int64} (hx : p.tables.exec = Jvm.exec) (hb : c.code = cc) (hml : c.maxLocals = nL) (hown : s.vm.findClass own = some m.cls) (hts : ∀ w ∈ Ts, w.before args s = true) (hRf : R.frames = d) (hRl : R.locals = 42 * d) (hd : decode cc pc = .ok (.invokestatic n, len)) (hl : len = 3) (w1 : Cond.methodLink own n Lib.MathLoose.abs_long.x ∈ Ts) (w2 : Cond.static Lib.MathLoose.abs_long.x ∈ Ts) (w3 : Cond.initialized "java/lang/Math" ∈ Ts) (w4 : Cond.code Lib.MathLoose.abs_long.x Lib.MathLoose.abs_long.code 2 (some .long) ∈ Ts)
    (q : 0 < d ∧ mCat st ≤ 8 ∧ (0 < x → mZ p l e R s m args below meth c Qf D kA ro A nL n0 ad0 (pc + len) lo (.long x :: st) h c1 s1) ∧ (¬ 0 < x → mZ p l e R s m args below meth c Qf D kA ro A nL n0 ad0 (pc + len) lo (.long (-x) :: st) h c1 s1)) : mZ p l e R s m args below meth c Qf D kA ro A nL n0 ad0 pc lo (.long x :: st) h c1 s1 := by
  subst hl
  obtain ⟨q1, q2, q3, q4⟩ := q
  by_cases g : 0 < x
  · refine ⟨(q3 g).1, (q3 g).2.1, fun ad H locs ls hI hP hD hS hl => ?_⟩
    have hsz : c.maxLocals = ls.size := by obtain ⟨l0, g1, -⟩ := hl; rw [hml]; exact g1.1.symm
    refine va_mabs_long hx hb hsz hown (hts _ w1) (hts _ w2) (hts _ w3) (hts _ w4) (by rw [hRf]; exact q1) (by rw [hRl, mCat_mp]; omega) (q3 g).1 (q3 g).2.1 hd ?_
    rw [if_pos g]
    exact (q3 g).2.2 ad H locs ls hI hP hD hS hl
  · refine ⟨(q4 g).1, (q4 g).2.1, fun ad H locs ls hI hP hD hS hl => ?_⟩
    have hsz : c.maxLocals = ls.size := by obtain ⟨l0, g1, -⟩ := hl; rw [hml]; exact g1.1.symm
    refine va_mabs_long hx hb hsz hown (hts _ w1) (hts _ w2) (hts _ w3) (hts _ w4) (by rw [hRf]; exact q1) (by rw [hRl, mCat_mp]; omega) (q4 g).1 (q4 g).2.1 hd ?_
    rw [if_neg g]
    exact (q4 g).2.2 ad H locs ls hI hP hD hS hl
theorem z_tsw {a1 a2 a3 : Int} {a4 : Array Int} {inf : List Nat} {x : Int32} (hx : p.tables.exec = Jvm.exec) (hb : c.code = cc) (hd : decode cc pc = .ok (.tableswitch a1 a2 a3 a4, len))
    (hsw : ∀ (x : Int32) (f : Nat → Prop), mSw x f inf → ∃ tgt : Nat, f tgt ∧ (((x.toInt < a2 ∨ a3 < x.toInt) ∧ (pc : Int) + a1 = tgt) ∨ (¬ x.toInt < a2 ∧ ¬ a3 < x.toInt ∧ ∃ off, a4[(x.toInt - a2).toNat]? = some off ∧ (pc : Int) + off = tgt)))
    (q : mSw x (fun t => mZ p l e R s m args below meth c Qf D kA ro A nL n0 ad0 t lo st h c1 s1) inf) : mZ p l e R s m args below meth c Qf D kA ro A nL n0 ad0 pc lo (.int x :: st) h c1 s1 := by
  obtain ⟨tgt, k, g | ⟨g1, g2, off, g3, g4⟩⟩ := hsw x _ q
  · exact ⟨k.1, k.2.1, fun ad H locs ls hI hP hD hS hl => lv_tableOut hx hb hd g.1 g.2 (k.2.2 ad H locs ls hI hP hD hS hl)⟩
  · exact ⟨k.1, k.2.1, fun ad H locs ls hI hP hD hS hl => lv_tableIn hx hb hd g1 g2 g3 g4 (k.2.2 ad H locs ls hI hP hD hS hl)⟩
theorem z_lsw {a1 : Int} {a4 : Array (Int × Int)} {inf : List Nat} {x : Int32} (hx : p.tables.exec = Jvm.exec) (hb : c.code = cc) (hd : decode cc pc = .ok (.lookupswitch a1 a4, len)) (hs : (a4.toList.zip (a4.toList.drop 1)).all (fun (a, next) => a.1 < next.1) = true)
    (hsw : ∀ (x : Int32) (f : Nat → Prop), mSw x f inf → ∃ tgt : Nat, f tgt ∧ (pc : Int) + Op.lookupswitch.offset a4.toList a1 x.toInt = tgt)
    (q : mSw x (fun t => mZ p l e R s m args below meth c Qf D kA ro A nL n0 ad0 t lo st h c1 s1) inf) : mZ p l e R s m args below meth c Qf D kA ro A nL n0 ad0 pc lo (.int x :: st) h c1 s1 := by
  obtain ⟨tgt, k, g⟩ := hsw x _ q
  exact ⟨k.1, k.2.1, fun ad H locs ls hI hP hD hS hl => lv_lookup hx hb hd hs rfl g (k.2.2 ad H locs ls hI hP hD hS hl)⟩
/-- the ends of a method: what its last row leads to -/
def mEnd (p : Program) (l : Launch) (e : Env) (R : Room) (s : State) (m : MethodId) (args : Array Value) (below : List Frame) (meth : Method) (c : Code) (Qf : State → Prop) (D : va_G) (kA : FieldType → ClassId) (ro : Nat → Nat) (A : Nat → Prop) (n0 : Nat) (ad0 : Nat → Nat) (cc : ByteArray) (rt : Option FieldType) (Q : mQ) : Prop :=
  ∀ (v : Option Value) (h : mH) (c1 s1 : Nat), Q (.inl v) h c1 s1 → ∀ (ad : Nat → Nat) (H : Heap) (locs : List Loc), mI0 n0 ad0 h ad → va_P D mCl (mWs kA ad ro h) H → va_D A (mWs kA ad ro h) → va_S A s.heap H locs → ∀ (pc : Nat) (ls : Array Slot),
    (v = none → rt = none → decode cc pc = .ok (.return_, 1) → W p l e R s m args below meth c H locs c1 s1 Qf (F0 m pc ls [])) ∧
    (∀ x : Int32, v = some (.int x) → decode cc pc = .ok (.ireturn, 1) → (rt = some .int ∨ (rt = some .boolean ∧ (x = 0 ∨ x = 1))) → W p l e R s m args below meth c H locs c1 s1 Qf (F0 m pc ls [.int x])) ∧
    (∀ x : Int64, v = some (.long x) → rt = some .long → decode cc pc = .ok (.lreturn, 1) → W p l e R s m args below meth c H locs c1 s1 Qf (F0 m pc ls [.long x]))
theorem z_ireturn {rt : Option FieldType} {x : Int32} (B : ∀ r h c1 s1, Q r h c1 s1 → c1 ≤ R.cells ∧ s1 ≤ R.slots) (E : mEnd p l e R s m args below meth c Qf D kA ro A n0 ad0 cc rt Q) (hd : decode cc pc = .ok (.ireturn, len)) (hl : len = 1) (hr : rt = some .int) (q : Q (.inl (some (.int x))) h c1 s1) : mZ p l e R s m args below meth c Qf D kA ro A nL n0 ad0 pc lo [.int x] h c1 s1 := by
  subst hl
  exact ⟨(B _ _ _ _ q).1, (B _ _ _ _ q).2, fun ad H locs ls hI hP hD hS hl => (E _ _ _ _ q ad H locs hI hP hD hS pc ls).2.1 x rfl hd (Or.inl hr)⟩
theorem z_zreturn {rt : Option FieldType} {x : Int32} (B : ∀ r h c1 s1, Q r h c1 s1 → c1 ≤ R.cells ∧ s1 ≤ R.slots) (E : mEnd p l e R s m args below meth c Qf D kA ro A n0 ad0 cc rt Q) (hd : decode cc pc = .ok (.ireturn, len)) (hl : len = 1) (hr : rt = some .boolean) (q : (x = 0 ∨ x = 1) ∧ Q (.inl (some (.int x))) h c1 s1) : mZ p l e R s m args below meth c Qf D kA ro A nL n0 ad0 pc lo [.int x] h c1 s1 := by
  subst hl
  exact ⟨(B _ _ _ _ q.2).1, (B _ _ _ _ q.2).2, fun ad H locs ls hI hP hD hS hl => (E _ _ _ _ q.2 ad H locs hI hP hD hS pc ls).2.1 x rfl hd (Or.inr ⟨hr, q.1⟩)⟩
theorem z_lreturn {rt : Option FieldType} {x : Int64} (B : ∀ r h c1 s1, Q r h c1 s1 → c1 ≤ R.cells ∧ s1 ≤ R.slots) (E : mEnd p l e R s m args below meth c Qf D kA ro A n0 ad0 cc rt Q) (hd : decode cc pc = .ok (.lreturn, len)) (hl : len = 1) (hr : rt = some .long) (q : Q (.inl (some (.long x))) h c1 s1) : mZ p l e R s m args below meth c Qf D kA ro A nL n0 ad0 pc lo [.long x] h c1 s1 := by
  subst hl
  exact ⟨(B _ _ _ _ q).1, (B _ _ _ _ q).2, fun ad H locs ls hI hP hD hS hl => (E _ _ _ _ q ad H locs hI hP hD hS pc ls).2.2 x rfl hr hd⟩
theorem z_return {rt : Option FieldType} (B : ∀ r h c1 s1, Q r h c1 s1 → c1 ≤ R.cells ∧ s1 ≤ R.slots) (E : mEnd p l e R s m args below meth c Qf D kA ro A n0 ad0 cc rt Q) (hd : decode cc pc = .ok (.return_, len)) (hl : len = 1) (hr : rt = none) (q : Q (.inl none) h c1 s1) : mZ p l e R s m args below meth c Qf D kA ro A nL n0 ad0 pc lo [] h c1 s1 := by
  subst hl
  exact ⟨(B _ _ _ _ q).1, (B _ _ _ _ q).2, fun ad H locs ls hI hP hD hS hl => (E _ _ _ _ q ad H locs hI hP hD hS pc ls).1 rfl hr hd⟩
end
