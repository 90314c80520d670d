/-! each row of the small machine that is no call is true of the real one -/
def mCl : List vw_C := [(RX0, TX0, 2), (RX2, TX2, 2), (RX3, TX3, 5), (RX4, TX4, 6), (RX5, TX5, 8), (RX6, TX6, 5), (RX7, TX7, 2), (RX8, TX8, 5), (RX9, TX9, 25)]
def mTyf : List (Nat → FieldType) := [tyX0, tyX2, tyX3, tyX4, tyX5, tyX6, tyX7, tyX8, tyX9]
def mTy (ci : Nat) : Nat → FieldType := (mAt mTyf ci).getD (fun _ => .int)
theorem mCl_ok {ci : Nat} {C : String} {T : u_T} {N : Nat} (h : mCl[ci]? = some (C, T, N)) : (∀ k, k < N → parseFieldDescriptor (T k).2.2.1 = some (mTy ci k)) ∧ (∀ a, a < N → ∀ b, b < N → a ≠ b → (T a).2.1 ≠ (T b).2.1) := by
  match ci, h with
  | 0, h => cases h; exact ⟨tyX0_ok, nmX0⟩
  | 1, h => cases h; exact ⟨tyX2_ok, nmX2⟩
  | 2, h => cases h; exact ⟨tyX3_ok, nmX3⟩
  | 3, h => cases h; exact ⟨tyX4_ok, nmX4⟩
  | 4, h => cases h; exact ⟨tyX5_ok, nmX5⟩
  | 5, h => cases h; exact ⟨tyX6_ok, nmX6⟩
  | 6, h => cases h; exact ⟨tyX7_ok, nmX7⟩
  | 7, h => cases h; exact ⟨tyX8_ok, nmX8⟩
  | 8, h => cases h; exact ⟨tyX9_ok, nmX9⟩
  | n + 9, h => simp [mCl] at h
def mTys (kA : FieldType → ClassId) : List (ClassId × FieldType) := [(kA .byte, .byte), (kA .int, .int), (kA .long, .long)]
/-- what holds of the heap outside the cells that may change: the script, the row of fives, and what a throw reads -/
def mCx (X : mX0) (ro : Nat → Nat) (A : Nat → Prop) (U : State) (H : Heap) : Prop :=
  va_T .int (ro 0) X.1 (fun j => .int (X.2 j)) A U H ∧ va_T .long (ro 1) 16 (fun j => .long (mFive j)) A U H ∧ va_Z "DoublePacks$Decimals" "FIVES" "[J" (.ref (ro 1)) A U H ∧
    vx_Zq Bundle.tN "UNASSIGNED_STACK" Bundle.steD A U H ∧ vx_Zq Bundle.tN "SUPPRESSED_SENTINEL" Bundle.listD A U H
/-- the places that the method began with lie where they lay -/
def mI0 (n0 : Nat) (ad0 : Nat → Nat) (h : mH) (ad : Nat → Nat) : Prop := n0 ≤ h.length ∧ ∀ i, i < n0 → ad i = ad0 i
theorem mI0.put {n0 : Nat} {ad0 ad : Nat → Nat} {h : mH} (q : mI0 n0 ad0 h ad) (a : Nat) (x : mC) : mI0 n0 ad0 (mPut h a x) ad := ⟨by rw [mPut_eq, List.length_set]; exact q.1, q.2⟩
theorem mI0.push {n0 : Nat} {ad0 ad : Nat → Nat} {h : mH} (q : mI0 n0 ad0 h ad) (z : Nat) (x : mC) : mI0 n0 ad0 (h ++ [x]) (mUp ad h.length z) := ⟨by simp; have := q.1; omega, fun i hi => by
  have := q.1
  rw [← q.2 i hi, mUp, if_neg (by omega)]⟩
def mZ (p : Program) (l : Launch) (e : Env) (R : Room) (s : State) (m : MethodId) (args : Array Value) (below : List Frame) (meth : Method) (c : Code) (Qf : State → Prop) (D : va_G) (kA : FieldType → ClassId) (ro : Nat → Nat) (A : Nat → Prop) (nL n0 : Nat) (ad0 : Nat → Nat) : mK := fun pc lo st h c1 s1 =>
  c1 ≤ R.cells ∧ s1 ≤ R.slots ∧ ∀ (ad : Nat → Nat) (H : Heap) (locs : List Loc) (ls : Array Slot), mI0 n0 ad0 h ad → va_P D mCl (mWs kA ad ro h) H → va_D A (mWs kA ad ro h) → va_S A s.heap H locs → mL ad ro ls nL lo →
    W p l e R s m args below meth c H locs c1 s1 Qf (F0 m pc ls (st.map (mp ad ro)))
section
variable {p : Program} {l : Launch} {e : Env} {R : Room} {s : State} {m : MethodId} {args : Array Value} {below : List Frame} {meth : Method} {c : Code} {Qf : State → Prop} {D : va_G} {kA : FieldType → ClassId} {ro : Nat → Nat} {A : Nat → Prop} {nL n0 : Nat} {ad0 : Nat → Nat} {cc : ByteArray} {X : mX0} {own : String} {Ts : List Cond}
variable {pc len c1 s1 : Nat} {lo st : List Value} {h : mH} {cv : Value}

theorem z_iload_n {i : Fin 4} {j : Nat} (hx : p.tables.exec = Jvm.exec) (hb : c.code = cc) (hd : decode cc pc = .ok (.iload_n i, len)) (hl : len = 1) (hi : (i : Nat) = j) (k : match mAt lo j with | some (.int x) => mZ p l e R s m args below meth c Qf D kA ro A nL n0 ad0 (pc + len) lo (.int x :: st) h c1 s1 | _ => False) : mZ p l e R s m args below meth c Qf D kA ro A nL n0 ad0 pc lo st h c1 s1 := by
  subst hl
  
  split at k
  · rename_i x hj
    exact ⟨k.1, k.2.1, fun ad H locs ls hI hP hD hS hl => lv_iload_n hx hb hd hi (hl.at hj (by intro q; cases q)) (k.2.2 ad H locs ls hI hP hD hS hl)⟩
  · exact k.elim
theorem z_iload {i : Nat} {j : Nat} (hx : p.tables.exec = Jvm.exec) (hb : c.code = cc) (hd : decode cc pc = .ok (.iload i, len)) (hl : len = 2) (hi : i = j) (k : match mAt lo j with | some (.int x) => mZ p l e R s m args below meth c Qf D kA ro A nL n0 ad0 (pc + len) lo (.int x :: st) h c1 s1 | _ => False) : mZ p l e R s m args below meth c Qf D kA ro A nL n0 ad0 pc lo st h c1 s1 := by
  subst hl
  subst hi
  split at k
  · rename_i x hj
    exact ⟨k.1, k.2.1, fun ad H locs ls hI hP hD hS hl => lv_iload hx hb hd (hl.at hj (by intro q; cases q)) (k.2.2 ad H locs ls hI hP hD hS hl)⟩
  · exact k.elim
theorem z_lload_n {i : Fin 4} {j : Nat} (hx : p.tables.exec = Jvm.exec) (hb : c.code = cc) (hd : decode cc pc = .ok (.lload_n i, len)) (hl : len = 1) (hi : (i : Nat) = j) (k : match mAt lo j with | some (.long x) => mZ p l e R s m args below meth c Qf D kA ro A nL n0 ad0 (pc + len) lo (.long x :: st) h c1 s1 | _ => False) : mZ p l e R s m args below meth c Qf D kA ro A nL n0 ad0 pc lo st h c1 s1 := by
  subst hl
  
  split at k
  · rename_i x hj
    exact ⟨k.1, k.2.1, fun ad H locs ls hI hP hD hS hl => lv_lload_n hx hb hd hi (hl.at hj (by intro q; cases q)) (k.2.2 ad H locs ls hI hP hD hS hl)⟩
  · exact k.elim
theorem z_lload {i : Nat} {j : Nat} (hx : p.tables.exec = Jvm.exec) (hb : c.code = cc) (hd : decode cc pc = .ok (.lload i, len)) (hl : len = 2) (hi : i = j) (k : match mAt lo j with | some (.long x) => mZ p l e R s m args below meth c Qf D kA ro A nL n0 ad0 (pc + len) lo (.long x :: st) h c1 s1 | _ => False) : mZ p l e R s m args below meth c Qf D kA ro A nL n0 ad0 pc lo st h c1 s1 := by
  subst hl
  subst hi
  split at k
  · rename_i x hj
    exact ⟨k.1, k.2.1, fun ad H locs ls hI hP hD hS hl => lv_lload hx hb hd (hl.at hj (by intro q; cases q)) (k.2.2 ad H locs ls hI hP hD hS hl)⟩
  · exact k.elim
theorem z_aload_n {i : Fin 4} {j : Nat} (hx : p.tables.exec = Jvm.exec) (hb : c.code = cc) (hd : decode cc pc = .ok (.aload_n i, len)) (hl : len = 1) (hi : (i : Nat) = j) (k : match mAt lo j with | some (.ref x) => mZ p l e R s m args below meth c Qf D kA ro A nL n0 ad0 (pc + len) lo (.ref x :: st) h c1 s1 | some (.float x) => mZ p l e R s m args below meth c Qf D kA ro A nL n0 ad0 (pc + len) lo (.float x :: st) h c1 s1 | _ => False) : mZ p l e R s m args below meth c Qf D kA ro A nL n0 ad0 pc lo st h c1 s1 := by
  subst hl
  
  split at k
  · rename_i x hj
    exact ⟨k.1, k.2.1, fun ad H locs ls hI hP hD hS hl => lv_aload_n hx hb hd hi (hl.at hj (by intro q; cases q)) (k.2.2 ad H locs ls hI hP hD hS hl)⟩
  · rename_i x hj
    exact ⟨k.1, k.2.1, fun ad H locs ls hI hP hD hS hl => lv_aload_n hx hb hd hi (x := ro x.toNat) (hl.at hj (by intro q; cases q)) (k.2.2 ad H locs ls hI hP hD hS hl)⟩
  · exact k.elim
theorem z_aload {i : Nat} {j : Nat} (hx : p.tables.exec = Jvm.exec) (hb : c.code = cc) (hd : decode cc pc = .ok (.aload i, len)) (hl : len = 2) (hi : i = j) (k : match mAt lo j with | some (.ref x) => mZ p l e R s m args below meth c Qf D kA ro A nL n0 ad0 (pc + len) lo (.ref x :: st) h c1 s1 | some (.float x) => mZ p l e R s m args below meth c Qf D kA ro A nL n0 ad0 (pc + len) lo (.float x :: st) h c1 s1 | _ => False) : mZ p l e R s m args below meth c Qf D kA ro A nL n0 ad0 pc lo st h c1 s1 := by
  subst hl
  subst hi
  split at k
  · rename_i x hj
    exact ⟨k.1, k.2.1, fun ad H locs ls hI hP hD hS hl => lv_aload hx hb hd (hl.at hj (by intro q; cases q)) (k.2.2 ad H locs ls hI hP hD hS hl)⟩
  · rename_i x hj
    exact ⟨k.1, k.2.1, fun ad H locs ls hI hP hD hS hl => lv_aload hx hb hd (x := ro x.toNat) (hl.at hj (by intro q; cases q)) (k.2.2 ad H locs ls hI hP hD hS hl)⟩
  · exact k.elim
theorem z_istore_n {i : Fin 4} {j : Nat} {x : Int32} (hx : p.tables.exec = Jvm.exec) (hb : c.code = cc) (hd : decode cc pc = .ok (.istore_n i, len)) (hl : len = 1) (hi : (i : Nat) = j) (k : j < lo.length ∧ mZ p l e R s m args below meth c Qf D kA ro A nL n0 ad0 (pc + len) (mSt1 lo j (.int x)) st h c1 s1) : mZ p l e R s m args below meth c Qf D kA ro A nL n0 ad0 pc lo (.int x :: st) h c1 s1 := by
  subst hl
  
  refine ⟨k.2.1, k.2.2.1, fun ad H locs ls hI hP hD hS hl => ?_⟩
  obtain ⟨l0, h1, h0, h2⟩ := hl
  exact lv_istore_n hx hb hd hi h1 (Nat.lt_of_lt_of_le k.1 h0) rfl (fun ls' h' => k.2.2.2 ad H locs ls' hI hP hD hS (mL.st1 (v := .int x) h0 h2 h'))
theorem z_istore {i : Nat} {j : Nat} {x : Int32} (hx : p.tables.exec = Jvm.exec) (hb : c.code = cc) (hd : decode cc pc = .ok (.istore i, len)) (hl : len = 2) (hi : i = j) (k : j < lo.length ∧ mZ p l e R s m args below meth c Qf D kA ro A nL n0 ad0 (pc + len) (mSt1 lo j (.int x)) st h c1 s1) : mZ p l e R s m args below meth c Qf D kA ro A nL n0 ad0 pc lo (.int x :: st) h c1 s1 := by
  subst hl
  subst hi
  refine ⟨k.2.1, k.2.2.1, fun ad H locs ls hI hP hD hS hl => ?_⟩
  obtain ⟨l0, h1, h0, h2⟩ := hl
  exact lv_istore hx hb hd h1 (Nat.lt_of_lt_of_le k.1 h0) rfl (fun ls' h' => k.2.2.2 ad H locs ls' hI hP hD hS (mL.st1 (v := .int x) h0 h2 h'))
theorem z_lstore_n {i : Fin 4} {j : Nat} {x : Int64} (hx : p.tables.exec = Jvm.exec) (hb : c.code = cc) (hd : decode cc pc = .ok (.lstore_n i, len)) (hl : len = 1) (hi : (i : Nat) = j) (k : j + 1 < lo.length ∧ mZ p l e R s m args below meth c Qf D kA ro A nL n0 ad0 (pc + len) (mSt2 lo j (.long x)) st h c1 s1) : mZ p l e R s m args below meth c Qf D kA ro A nL n0 ad0 pc lo (.long x :: st) h c1 s1 := by
  subst hl
  
  refine ⟨k.2.1, k.2.2.1, fun ad H locs ls hI hP hD hS hl => ?_⟩
  obtain ⟨l0, h1, h0, h2⟩ := hl
  exact lv_lstore_n hx hb hd hi h1 (Nat.lt_of_lt_of_le k.1 h0) rfl (fun ls' h' => k.2.2.2 ad H locs ls' hI hP hD hS (mL.st2 (v := .long x) h0 h2 h'))
theorem z_lstore {i : Nat} {j : Nat} {x : Int64} (hx : p.tables.exec = Jvm.exec) (hb : c.code = cc) (hd : decode cc pc = .ok (.lstore i, len)) (hl : len = 2) (hi : i = j) (k : j + 1 < lo.length ∧ mZ p l e R s m args below meth c Qf D kA ro A nL n0 ad0 (pc + len) (mSt2 lo j (.long x)) st h c1 s1) : mZ p l e R s m args below meth c Qf D kA ro A nL n0 ad0 pc lo (.long x :: st) h c1 s1 := by
  subst hl
  subst hi
  refine ⟨k.2.1, k.2.2.1, fun ad H locs ls hI hP hD hS hl => ?_⟩
  obtain ⟨l0, h1, h0, h2⟩ := hl
  exact lv_lstore hx hb hd h1 (Nat.lt_of_lt_of_le k.1 h0) rfl (fun ls' h' => k.2.2.2 ad H locs ls' hI hP hD hS (mL.st2 (v := .long x) h0 h2 h'))
theorem z_astore_n {i : Fin 4} {j : Nat} {x : Nat} (hx : p.tables.exec = Jvm.exec) (hb : c.code = cc) (hd : decode cc pc = .ok (.astore_n i, len)) (hl : len = 1) (hi : (i : Nat) = j) (k : j < lo.length ∧ mZ p l e R s m args below meth c Qf D kA ro A nL n0 ad0 (pc + len) (mSt1 lo j (.ref x)) st h c1 s1) : mZ p l e R s m args below meth c Qf D kA ro A nL n0 ad0 pc lo (.ref x :: st) h c1 s1 := by
  subst hl
  
  refine ⟨k.2.1, k.2.2.1, fun ad H locs ls hI hP hD hS hl => ?_⟩
  obtain ⟨l0, h1, h0, h2⟩ := hl
  exact lv_astore_n hx hb hd hi h1 (Nat.lt_of_lt_of_le k.1 h0) rfl (fun ls' h' => k.2.2.2 ad H locs ls' hI hP hD hS (mL.st1 (v := .ref x) h0 h2 h'))
theorem z_astore {i : Nat} {j : Nat} {x : Nat} (hx : p.tables.exec = Jvm.exec) (hb : c.code = cc) (hd : decode cc pc = .ok (.astore i, len)) (hl : len = 2) (hi : i = j) (k : j < lo.length ∧ mZ p l e R s m args below meth c Qf D kA ro A nL n0 ad0 (pc + len) (mSt1 lo j (.ref x)) st h c1 s1) : mZ p l e R s m args below meth c Qf D kA ro A nL n0 ad0 pc lo (.ref x :: st) h c1 s1 := by
  subst hl
  subst hi
  refine ⟨k.2.1, k.2.2.1, fun ad H locs ls hI hP hD hS hl => ?_⟩
  obtain ⟨l0, h1, h0, h2⟩ := hl
  exact lv_astore hx hb hd h1 (Nat.lt_of_lt_of_le k.1 h0) rfl (fun ls' h' => k.2.2.2 ad H locs ls' hI hP hD hS (mL.st1 (v := .ref x) h0 h2 h'))
theorem z_iinc {i j : Nat} {n : Int} (hx : p.tables.exec = Jvm.exec) (hb : c.code = cc) (hd : decode cc pc = .ok (.iinc i n, len)) (hl : len = 3) (hi : i = j) (k : match mAt lo j, cv with | some (.int x), .int n => mZ p l e R s m args below meth c Qf D kA ro A nL n0 ad0 (pc + len) (mSt1 lo j (.int (x + n))) st h c1 s1 | _, _ => False) (hc : cv = .int (Int32.ofInt n)) : mZ p l e R s m args below meth c Qf D kA ro A nL n0 ad0 pc lo st h c1 s1 := by
  subst hl
  subst hi
  subst hc
  revert k
  cases hj : mAt lo i with
  | none => intro k; exact k.elim
  | some v =>
    cases v with
    | int x =>
      intro k
      refine ⟨k.1, k.2.1, fun ad H locs ls hI hP hD hS hl => ?_⟩
      obtain ⟨l0, h1, h0, h2⟩ := hl
      obtain ⟨q, hq⟩ := List.getElem?_of_mem (h2 i (.int x) hj (by intro q; cases q))
      have hlt : i < lo.length := by rw [mAt_eq] at hj; exact (List.getElem?_eq_some_iff.mp hj).1
      exact lv_iinc (k := q) hx hb hd h1 hq rfl (Nat.lt_of_lt_of_le hlt h0) rfl (fun ls' h' => k.2.2 ad H locs ls' hI hP hD hS (mL.st1 (v := .int (x + Int32.ofInt n)) h0 h2 h'))
    | _ => intro k; exact k.elim
theorem z_iconst {n : Int} (hx : p.tables.exec = Jvm.exec) (hb : c.code = cc) (hd : decode cc pc = .ok (.iconst n, len)) (hl : len = 1) (hc : cv = .int (Int32.ofInt n)) (k : mZ p l e R s m args below meth c Qf D kA ro A nL n0 ad0 (pc + len) lo (cv :: st) h c1 s1) : mZ p l e R s m args below meth c Qf D kA ro A nL n0 ad0 pc lo st h c1 s1 := by
  subst hl
  subst hc
  exact ⟨k.1, k.2.1, fun ad H locs ls hI hP hD hS hl => lv_iconst hx hb hd rfl (k.2.2 ad H locs ls hI hP hD hS hl)⟩
theorem z_bipush {n : Int} (hx : p.tables.exec = Jvm.exec) (hb : c.code = cc) (hd : decode cc pc = .ok (.bipush n, len)) (hl : len = 2) (hc : cv = .int (Int8.ofInt n).toInt32) (k : mZ p l e R s m args below meth c Qf D kA ro A nL n0 ad0 (pc + len) lo (cv :: st) h c1 s1) : mZ p l e R s m args below meth c Qf D kA ro A nL n0 ad0 pc lo st h c1 s1 := by
  subst hl
  subst hc
  exact ⟨k.1, k.2.1, fun ad H locs ls hI hP hD hS hl => lv_bipush hx hb hd rfl (k.2.2 ad H locs ls hI hP hD hS hl)⟩
theorem z_sipush {n : Int} (hx : p.tables.exec = Jvm.exec) (hb : c.code = cc) (hd : decode cc pc = .ok (.sipush n, len)) (hl : len = 3) (hc : cv = .int (Int16.ofInt n).toInt32) (k : mZ p l e R s m args below meth c Qf D kA ro A nL n0 ad0 (pc + len) lo (cv :: st) h c1 s1) : mZ p l e R s m args below meth c Qf D kA ro A nL n0 ad0 pc lo st h c1 s1 := by
  subst hl
  subst hc
  exact ⟨k.1, k.2.1, fun ad H locs ls hI hP hD hS hl => lv_sipush hx hb hd rfl (k.2.2 ad H locs ls hI hP hD hS hl)⟩
theorem z_lconst {n : Fin 2} (hx : p.tables.exec = Jvm.exec) (hb : c.code = cc) (hd : decode cc pc = .ok (.lconst n, len)) (hl : len = 1) (hc : cv = .long (Int64.ofNat (n : Nat))) (k : mZ p l e R s m args below meth c Qf D kA ro A nL n0 ad0 (pc + len) lo (cv :: st) h c1 s1) : mZ p l e R s m args below meth c Qf D kA ro A nL n0 ad0 pc lo st h c1 s1 := by
  subst hl
  subst hc
  exact ⟨k.1, k.2.1, fun ad H locs ls hI hP hD hS hl => lv_lconst hx hb hd rfl (k.2.2 ad H locs ls hI hP hD hS hl)⟩
theorem z_ldc {n : Nat} {v : Int32} (hx : p.tables.exec = Jvm.exec) (hb : c.code = cc) (hown : s.vm.findClass own = some m.cls) (hts : ∀ w ∈ Ts, w.before args s = true) (hd : decode cc pc = .ok (.ldc n, len)) (hl : len = 2) (hc : cv = .int v) (hw : Cond.constant own n v ∈ Ts) (k : mZ p l e R s m args below meth c Qf D kA ro A nL n0 ad0 (pc + len) lo (cv :: st) h c1 s1) : mZ p l e R s m args below meth c Qf D kA ro A nL n0 ad0 pc lo st h c1 s1 := by
  subst hl
  subst hc
  exact ⟨k.1, k.2.1, fun ad H locs ls hI hP hD hS hl => lv_ldc hx hb hown (hts _ hw) hd (k.2.2 ad H locs ls hI hP hD hS hl)⟩
theorem z_ldc_w {n : Nat} {v : Int32} (hx : p.tables.exec = Jvm.exec) (hb : c.code = cc) (hown : s.vm.findClass own = some m.cls) (hts : ∀ w ∈ Ts, w.before args s = true) (hd : decode cc pc = .ok (.ldc_w n, len)) (hl : len = 3) (hc : cv = .int v) (hw : Cond.constant own n v ∈ Ts) (k : mZ p l e R s m args below meth c Qf D kA ro A nL n0 ad0 (pc + len) lo (cv :: st) h c1 s1) : mZ p l e R s m args below meth c Qf D kA ro A nL n0 ad0 pc lo st h c1 s1 := by
  subst hl
  subst hc
  exact ⟨k.1, k.2.1, fun ad H locs ls hI hP hD hS hl => lv_ldcw hx hb hown (hts _ hw) hd (k.2.2 ad H locs ls hI hP hD hS hl)⟩
theorem z_ldc2_w {n : Nat} {v : Int64} (hx : p.tables.exec = Jvm.exec) (hb : c.code = cc) (hown : s.vm.findClass own = some m.cls) (hts : ∀ w ∈ Ts, w.before args s = true) (hd : decode cc pc = .ok (.ldc2_w n, len)) (hl : len = 3) (hc : cv = .long v) (hw : Cond.constantLong own n v ∈ Ts) (k : mZ p l e R s m args below meth c Qf D kA ro A nL n0 ad0 (pc + len) lo (cv :: st) h c1 s1) : mZ p l e R s m args below meth c Qf D kA ro A nL n0 ad0 pc lo st h c1 s1 := by
  subst hl
  subst hc
  exact ⟨k.1, k.2.1, fun ad H locs ls hI hP hD hS hl => lv_ldc2 hx hb hown (hts _ hw) hd (k.2.2 ad H locs ls hI hP hD hS hl)⟩
theorem z_getstatic {n : Nat} (hx : p.tables.exec = Jvm.exec) (hb : c.code = cc) (hown : s.vm.findClass own = some m.cls) (hts : ∀ w ∈ Ts, w.before args s = true) (hX : mCx X ro A s s.heap) (hd : decode cc pc = .ok (.getstatic n, len)) (hl : len = 3) (hc : cv = .float 1) (hw : Cond.fieldLink own n "DoublePacks$Decimals" "FIVES" "[J" ∈ Ts) (k : mZ p l e R s m args below meth c Qf D kA ro A nL n0 ad0 (pc + len) lo (cv :: st) h c1 s1) : mZ p l e R s m args below meth c Qf D kA ro A nL n0 ad0 pc lo st h c1 s1 := by
  subst hl
  subst hc
  exact ⟨k.1, k.2.1, fun ad H locs ls hI hP hD hS hl => va_gets hx hb hX.2.2.1 hS hown (hts _ hw) (fun _ h => h) hd (k.2.2 ad H locs ls hI hP hD hS hl)⟩
theorem z_iadd {x y : Int32} (hx : p.tables.exec = Jvm.exec) (hb : c.code = cc) (hd : decode cc pc = .ok (.iadd, len)) (hl : len = 1) (k : mZ p l e R s m args below meth c Qf D kA ro A nL n0 ad0 (pc + len) lo (.int (x + y) :: st) h c1 s1) : mZ p l e R s m args below meth c Qf D kA ro A nL n0 ad0 pc lo (.int y :: .int x :: st) h c1 s1 := by
  subst hl
  exact ⟨k.1, k.2.1, fun ad H locs ls hI hP hD hS hl => lv_iadd hx hb hd (k.2.2 ad H locs ls hI hP hD hS hl)⟩
theorem z_isub {x y : Int32} (hx : p.tables.exec = Jvm.exec) (hb : c.code = cc) (hd : decode cc pc = .ok (.isub, len)) (hl : len = 1) (k : mZ p l e R s m args below meth c Qf D kA ro A nL n0 ad0 (pc + len) lo (.int (x - y) :: st) h c1 s1) : mZ p l e R s m args below meth c Qf D kA ro A nL n0 ad0 pc lo (.int y :: .int x :: st) h c1 s1 := by
  subst hl
  exact ⟨k.1, k.2.1, fun ad H locs ls hI hP hD hS hl => lv_isub hx hb hd (k.2.2 ad H locs ls hI hP hD hS hl)⟩
theorem z_imul {x y : Int32} (hx : p.tables.exec = Jvm.exec) (hb : c.code = cc) (hd : decode cc pc = .ok (.imul, len)) (hl : len = 1) (k : mZ p l e R s m args below meth c Qf D kA ro A nL n0 ad0 (pc + len) lo (.int (x * y) :: st) h c1 s1) : mZ p l e R s m args below meth c Qf D kA ro A nL n0 ad0 pc lo (.int y :: .int x :: st) h c1 s1 := by
  subst hl
  exact ⟨k.1, k.2.1, fun ad H locs ls hI hP hD hS hl => lv_imul hx hb hd (k.2.2 ad H locs ls hI hP hD hS hl)⟩
theorem z_iand {x y : Int32} (hx : p.tables.exec = Jvm.exec) (hb : c.code = cc) (hd : decode cc pc = .ok (.iand, len)) (hl : len = 1) (k : mZ p l e R s m args below meth c Qf D kA ro A nL n0 ad0 (pc + len) lo (.int (x &&& y) :: st) h c1 s1) : mZ p l e R s m args below meth c Qf D kA ro A nL n0 ad0 pc lo (.int y :: .int x :: st) h c1 s1 := by
  subst hl
  exact ⟨k.1, k.2.1, fun ad H locs ls hI hP hD hS hl => lv_iand hx hb hd (k.2.2 ad H locs ls hI hP hD hS hl)⟩
theorem z_ior {x y : Int32} (hx : p.tables.exec = Jvm.exec) (hb : c.code = cc) (hd : decode cc pc = .ok (.ior, len)) (hl : len = 1) (k : mZ p l e R s m args below meth c Qf D kA ro A nL n0 ad0 (pc + len) lo (.int (x ||| y) :: st) h c1 s1) : mZ p l e R s m args below meth c Qf D kA ro A nL n0 ad0 pc lo (.int y :: .int x :: st) h c1 s1 := by
  subst hl
  exact ⟨k.1, k.2.1, fun ad H locs ls hI hP hD hS hl => lv_ior hx hb hd (k.2.2 ad H locs ls hI hP hD hS hl)⟩
theorem z_ixor {x y : Int32} (hx : p.tables.exec = Jvm.exec) (hb : c.code = cc) (hd : decode cc pc = .ok (.ixor, len)) (hl : len = 1) (k : mZ p l e R s m args below meth c Qf D kA ro A nL n0 ad0 (pc + len) lo (.int (x ^^^ y) :: st) h c1 s1) : mZ p l e R s m args below meth c Qf D kA ro A nL n0 ad0 pc lo (.int y :: .int x :: st) h c1 s1 := by
  subst hl
  exact ⟨k.1, k.2.1, fun ad H locs ls hI hP hD hS hl => lv_ixor hx hb hd (k.2.2 ad H locs ls hI hP hD hS hl)⟩
theorem z_ishl {x y : Int32} (hx : p.tables.exec = Jvm.exec) (hb : c.code = cc) (hd : decode cc pc = .ok (.ishl, len)) (hl : len = 1) (k : mZ p l e R s m args below meth c Qf D kA ro A nL n0 ad0 (pc + len) lo (.int (x <<< (y &&& 31)) :: st) h c1 s1) : mZ p l e R s m args below meth c Qf D kA ro A nL n0 ad0 pc lo (.int y :: .int x :: st) h c1 s1 := by
  subst hl
  exact ⟨k.1, k.2.1, fun ad H locs ls hI hP hD hS hl => lv_ishl hx hb hd (k.2.2 ad H locs ls hI hP hD hS hl)⟩
theorem z_ishr {x y : Int32} (hx : p.tables.exec = Jvm.exec) (hb : c.code = cc) (hd : decode cc pc = .ok (.ishr, len)) (hl : len = 1) (k : mZ p l e R s m args below meth c Qf D kA ro A nL n0 ad0 (pc + len) lo (.int (x >>> (y &&& 31)) :: st) h c1 s1) : mZ p l e R s m args below meth c Qf D kA ro A nL n0 ad0 pc lo (.int y :: .int x :: st) h c1 s1 := by
  subst hl
  exact ⟨k.1, k.2.1, fun ad H locs ls hI hP hD hS hl => lv_ishr hx hb hd (k.2.2 ad H locs ls hI hP hD hS hl)⟩
theorem z_iushr {x y : Int32} (hx : p.tables.exec = Jvm.exec) (hb : c.code = cc) (hd : decode cc pc = .ok (.iushr, len)) (hl : len = 1) (k : mZ p l e R s m args below meth c Qf D kA ro A nL n0 ad0 (pc + len) lo (.int (x.toUInt32 >>> (y.toUInt32 &&& Int32.toUInt32 31)).toInt32 :: st) h c1 s1) : mZ p l e R s m args below meth c Qf D kA ro A nL n0 ad0 pc lo (.int y :: .int x :: st) h c1 s1 := by
  subst hl
  exact ⟨k.1, k.2.1, fun ad H locs ls hI hP hD hS hl => lv_iushr hx hb hd rfl (k.2.2 ad H locs ls hI hP hD hS hl)⟩
theorem z_ladd {x y : Int64} (hx : p.tables.exec = Jvm.exec) (hb : c.code = cc) (hd : decode cc pc = .ok (.ladd, len)) (hl : len = 1) (k : mZ p l e R s m args below meth c Qf D kA ro A nL n0 ad0 (pc + len) lo (.long (x + y) :: st) h c1 s1) : mZ p l e R s m args below meth c Qf D kA ro A nL n0 ad0 pc lo (.long y :: .long x :: st) h c1 s1 := by
  subst hl
  exact ⟨k.1, k.2.1, fun ad H locs ls hI hP hD hS hl => lv_ladd hx hb hd (k.2.2 ad H locs ls hI hP hD hS hl)⟩
theorem z_lsub {x y : Int64} (hx : p.tables.exec = Jvm.exec) (hb : c.code = cc) (hd : decode cc pc = .ok (.lsub, len)) (hl : len = 1) (k : mZ p l e R s m args below meth c Qf D kA ro A nL n0 ad0 (pc + len) lo (.long (x - y) :: st) h c1 s1) : mZ p l e R s m args below meth c Qf D kA ro A nL n0 ad0 pc lo (.long y :: .long x :: st) h c1 s1 := by
  subst hl
  exact ⟨k.1, k.2.1, fun ad H locs ls hI hP hD hS hl => lv_lsub hx hb hd (k.2.2 ad H locs ls hI hP hD hS hl)⟩
theorem z_lmul {x y : Int64} (hx : p.tables.exec = Jvm.exec) (hb : c.code = cc) (hd : decode cc pc = .ok (.lmul, len)) (hl : len = 1) (k : mZ p l e R s m args below meth c Qf D kA ro A nL n0 ad0 (pc + len) lo (.long (x * y) :: st) h c1 s1) : mZ p l e R s m args below meth c Qf D kA ro A nL n0 ad0 pc lo (.long y :: .long x :: st) h c1 s1 := by
  subst hl
  exact ⟨k.1, k.2.1, fun ad H locs ls hI hP hD hS hl => lv_lmul hx hb hd (k.2.2 ad H locs ls hI hP hD hS hl)⟩
theorem z_land {x y : Int64} (hx : p.tables.exec = Jvm.exec) (hb : c.code = cc) (hd : decode cc pc = .ok (.land, len)) (hl : len = 1) (k : mZ p l e R s m args below meth c Qf D kA ro A nL n0 ad0 (pc + len) lo (.long (x &&& y) :: st) h c1 s1) : mZ p l e R s m args below meth c Qf D kA ro A nL n0 ad0 pc lo (.long y :: .long x :: st) h c1 s1 := by
  subst hl
  exact ⟨k.1, k.2.1, fun ad H locs ls hI hP hD hS hl => lv_land hx hb hd (k.2.2 ad H locs ls hI hP hD hS hl)⟩
theorem z_lor {x y : Int64} (hx : p.tables.exec = Jvm.exec) (hb : c.code = cc) (hd : decode cc pc = .ok (.lor, len)) (hl : len = 1) (k : mZ p l e R s m args below meth c Qf D kA ro A nL n0 ad0 (pc + len) lo (.long (x ||| y) :: st) h c1 s1) : mZ p l e R s m args below meth c Qf D kA ro A nL n0 ad0 pc lo (.long y :: .long x :: st) h c1 s1 := by
  subst hl
  exact ⟨k.1, k.2.1, fun ad H locs ls hI hP hD hS hl => lv_lor hx hb hd (k.2.2 ad H locs ls hI hP hD hS hl)⟩
theorem z_lxor {x y : Int64} (hx : p.tables.exec = Jvm.exec) (hb : c.code = cc) (hd : decode cc pc = .ok (.lxor, len)) (hl : len = 1) (k : mZ p l e R s m args below meth c Qf D kA ro A nL n0 ad0 (pc + len) lo (.long (x ^^^ y) :: st) h c1 s1) : mZ p l e R s m args below meth c Qf D kA ro A nL n0 ad0 pc lo (.long y :: .long x :: st) h c1 s1 := by
  subst hl
  exact ⟨k.1, k.2.1, fun ad H locs ls hI hP hD hS hl => lv_lxor hx hb hd (k.2.2 ad H locs ls hI hP hD hS hl)⟩
theorem z_lneg {x : Int64} (hx : p.tables.exec = Jvm.exec) (hb : c.code = cc) (hd : decode cc pc = .ok (.lneg, len)) (hl : len = 1) (k : mZ p l e R s m args below meth c Qf D kA ro A nL n0 ad0 (pc + len) lo (.long (-x) :: st) h c1 s1) : mZ p l e R s m args below meth c Qf D kA ro A nL n0 ad0 pc lo (.long x :: st) h c1 s1 := by
  subst hl
  exact ⟨k.1, k.2.1, fun ad H locs ls hI hP hD hS hl => lv_lneg hx hb hd (k.2.2 ad H locs ls hI hP hD hS hl)⟩
theorem z_lshl {x : Int64} {y : Int32} (hx : p.tables.exec = Jvm.exec) (hb : c.code = cc) (hd : decode cc pc = .ok (.lshl, len)) (hl : len = 1) (k : mZ p l e R s m args below meth c Qf D kA ro A nL n0 ad0 (pc + len) lo (.long (x <<< (y.toInt64 &&& 63)) :: st) h c1 s1) : mZ p l e R s m args below meth c Qf D kA ro A nL n0 ad0 pc lo (.int y :: .long x :: st) h c1 s1 := by
  subst hl
  exact ⟨k.1, k.2.1, fun ad H locs ls hI hP hD hS hl => lv_lshl hx hb hd rfl (k.2.2 ad H locs ls hI hP hD hS hl)⟩
theorem z_lushr {x : Int64} {y : Int32} (hx : p.tables.exec = Jvm.exec) (hb : c.code = cc) (hd : decode cc pc = .ok (.lushr, len)) (hl : len = 1) (k : mZ p l e R s m args below meth c Qf D kA ro A nL n0 ad0 (pc + len) lo (.long (x.toUInt64 >>> (y.toInt64.toUInt64 &&& Int64.toUInt64 63)).toInt64 :: st) h c1 s1) : mZ p l e R s m args below meth c Qf D kA ro A nL n0 ad0 pc lo (.int y :: .long x :: st) h c1 s1 := by
  subst hl
  exact ⟨k.1, k.2.1, fun ad H locs ls hI hP hD hS hl => lv_lushr hx hb hd rfl (k.2.2 ad H locs ls hI hP hD hS hl)⟩
theorem z_lcmp {x y : Int64} (hx : p.tables.exec = Jvm.exec) (hb : c.code = cc) (hd : decode cc pc = .ok (.lcmp, len)) (hl : len = 1) (k : mZ p l e R s m args below meth c Qf D kA ro A nL n0 ad0 (pc + len) lo (.int (lg_cmp x y) :: st) h c1 s1) : mZ p l e R s m args below meth c Qf D kA ro A nL n0 ad0 pc lo (.long y :: .long x :: st) h c1 s1 := by
  subst hl
  exact ⟨k.1, k.2.1, fun ad H locs ls hI hP hD hS hl => W.lcmp hx hb hd (k.2.2 ad H locs ls hI hP hD hS hl)⟩
theorem z_i2l {x : Int32} (hx : p.tables.exec = Jvm.exec) (hb : c.code = cc) (hd : decode cc pc = .ok (.i2l, len)) (hl : len = 1) (k : mZ p l e R s m args below meth c Qf D kA ro A nL n0 ad0 (pc + len) lo (.long x.toInt64 :: st) h c1 s1) : mZ p l e R s m args below meth c Qf D kA ro A nL n0 ad0 pc lo (.int x :: st) h c1 s1 := by
  subst hl
  exact ⟨k.1, k.2.1, fun ad H locs ls hI hP hD hS hl => lv_i2l hx hb hd rfl (k.2.2 ad H locs ls hI hP hD hS hl)⟩
theorem z_l2i {x : Int64} (hx : p.tables.exec = Jvm.exec) (hb : c.code = cc) (hd : decode cc pc = .ok (.l2i, len)) (hl : len = 1) (k : mZ p l e R s m args below meth c Qf D kA ro A nL n0 ad0 (pc + len) lo (.int x.toInt32 :: st) h c1 s1) : mZ p l e R s m args below meth c Qf D kA ro A nL n0 ad0 pc lo (.long x :: st) h c1 s1 := by
  subst hl
  exact ⟨k.1, k.2.1, fun ad H locs ls hI hP hD hS hl => lv_l2i hx hb hd rfl (k.2.2 ad H locs ls hI hP hD hS hl)⟩
theorem z_i2b {x : Int32} (hx : p.tables.exec = Jvm.exec) (hb : c.code = cc) (hd : decode cc pc = .ok (.i2b, len)) (hl : len = 1) (k : mZ p l e R s m args below meth c Qf D kA ro A nL n0 ad0 (pc + len) lo (.int x.toInt8.toInt32 :: st) h c1 s1) : mZ p l e R s m args below meth c Qf D kA ro A nL n0 ad0 pc lo (.int x :: st) h c1 s1 := by
  subst hl
  exact ⟨k.1, k.2.1, fun ad H locs ls hI hP hD hS hl => lv_i2b hx hb hd rfl (k.2.2 ad H locs ls hI hP hD hS hl)⟩
theorem z_dup_i {x : Int32} (hx : p.tables.exec = Jvm.exec) (hb : c.code = cc) (hd : decode cc pc = .ok (.dup, len)) (hl : len = 1) (k : mZ p l e R s m args below meth c Qf D kA ro A nL n0 ad0 (pc + len) lo (.int x :: .int x :: st) h c1 s1) : mZ p l e R s m args below meth c Qf D kA ro A nL n0 ad0 pc lo (.int x :: st) h c1 s1 := by
  subst hl
  exact ⟨k.1, k.2.1, fun ad H locs ls hI hP hD hS hl => lv_dup hx hb hd rfl (k.2.2 ad H locs ls hI hP hD hS hl)⟩
theorem z_dup_r {x : Nat} (hx : p.tables.exec = Jvm.exec) (hb : c.code = cc) (hd : decode cc pc = .ok (.dup, len)) (hl : len = 1) (k : mZ p l e R s m args below meth c Qf D kA ro A nL n0 ad0 (pc + len) lo (.ref x :: .ref x :: st) h c1 s1) : mZ p l e R s m args below meth c Qf D kA ro A nL n0 ad0 pc lo (.ref x :: st) h c1 s1 := by
  subst hl
  exact ⟨k.1, k.2.1, fun ad H locs ls hI hP hD hS hl => lv_dup hx hb hd rfl (k.2.2 ad H locs ls hI hP hD hS hl)⟩
theorem z_dup2 {x : Int32} {y : Nat} (hx : p.tables.exec = Jvm.exec) (hb : c.code = cc) (hd : decode cc pc = .ok (.dup2, len)) (hl : len = 1) (k : mZ p l e R s m args below meth c Qf D kA ro A nL n0 ad0 (pc + len) lo (.int x :: .ref y :: .int x :: .ref y :: st) h c1 s1) : mZ p l e R s m args below meth c Qf D kA ro A nL n0 ad0 pc lo (.int x :: .ref y :: st) h c1 s1 := by
  subst hl
  exact ⟨k.1, k.2.1, fun ad H locs ls hI hP hD hS hl => lv_dup2_11 hx hb hd rfl rfl (k.2.2 ad H locs ls hI hP hD hS hl)⟩
theorem z_pop {x : Int32} (hx : p.tables.exec = Jvm.exec) (hb : c.code = cc) (hd : decode cc pc = .ok (.pop, len)) (hl : len = 1) (k : mZ p l e R s m args below meth c Qf D kA ro A nL n0 ad0 (pc + len) lo (st) h c1 s1) : mZ p l e R s m args below meth c Qf D kA ro A nL n0 ad0 pc lo (.int x :: st) h c1 s1 := by
  subst hl
  exact ⟨k.1, k.2.1, fun ad H locs ls hI hP hD hS hl => lv_pop hx hb hd rfl (k.2.2 ad H locs ls hI hP hD hS hl)⟩
theorem z_idiv {x y : Int32} (hx : p.tables.exec = Jvm.exec) (hb : c.code = cc) (hd : decode cc pc = .ok (.idiv, len)) (hl : len = 1) (k : ¬ y = 0 ∧ mZ p l e R s m args below meth c Qf D kA ro A nL n0 ad0 (pc + len) lo (.int (x / y) :: st) h c1 s1) : mZ p l e R s m args below meth c Qf D kA ro A nL n0 ad0 pc lo (.int y :: .int x :: st) h c1 s1 := by
  subst hl
  exact ⟨k.2.1, k.2.2.1, fun ad H locs ls hI hP hD hS hl => lv_idiv hx hb hd k.1 (k.2.2.2 ad H locs ls hI hP hD hS hl)⟩
theorem z_irem {x y : Int32} (hx : p.tables.exec = Jvm.exec) (hb : c.code = cc) (hd : decode cc pc = .ok (.irem, len)) (hl : len = 1) (k : ¬ y = 0 ∧ mZ p l e R s m args below meth c Qf D kA ro A nL n0 ad0 (pc + len) lo (.int (x - x / y * y) :: st) h c1 s1) : mZ p l e R s m args below meth c Qf D kA ro A nL n0 ad0 pc lo (.int y :: .int x :: st) h c1 s1 := by
  subst hl
  exact ⟨k.2.1, k.2.2.1, fun ad H locs ls hI hP hD hS hl => lv_irem hx hb hd k.1 (k.2.2.2 ad H locs ls hI hP hD hS hl)⟩
theorem z_ldiv {x y : Int64} (hx : p.tables.exec = Jvm.exec) (hb : c.code = cc) (hd : decode cc pc = .ok (.ldiv, len)) (hl : len = 1) (k : ¬ y = 0 ∧ mZ p l e R s m args below meth c Qf D kA ro A nL n0 ad0 (pc + len) lo (.long (x / y) :: st) h c1 s1) : mZ p l e R s m args below meth c Qf D kA ro A nL n0 ad0 pc lo (.long y :: .long x :: st) h c1 s1 := by
  subst hl
  exact ⟨k.2.1, k.2.2.1, fun ad H locs ls hI hP hD hS hl => lv_ldiv hx hb hd k.1 (k.2.2.2 ad H locs ls hI hP hD hS hl)⟩
theorem z_lrem {x y : Int64} (hx : p.tables.exec = Jvm.exec) (hb : c.code = cc) (hd : decode cc pc = .ok (.lrem, len)) (hl : len = 1) (k : ¬ y = 0 ∧ mZ p l e R s m args below meth c Qf D kA ro A nL n0 ad0 (pc + len) lo (.long (x - x / y * y) :: st) h c1 s1) : mZ p l e R s m args below meth c Qf D kA ro A nL n0 ad0 pc lo (.long y :: .long x :: st) h c1 s1 := by
  subst hl
  exact ⟨k.2.1, k.2.2.1, fun ad H locs ls hI hP hD hS hl => lv_lrem hx hb hd k.1 (k.2.2.2 ad H locs ls hI hP hD hS hl)⟩
theorem z_if_eq {off : Int} {t : Nat} {x : Int32} (hx : p.tables.exec = Jvm.exec) (hb : c.code = cc) (hd : decode cc pc = .ok (.ifCond .eq off, len)) (hl : len = 3) (ht : (pc : Int) + off = (t : Int)) (k : mIf (x = 0) t pc (fun q => mZ p l e R s m args below meth c Qf D kA ro A nL n0 ad0 q lo st h c1 s1)) : mZ p l e R s m args below meth c Qf D kA ro A nL n0 ad0 pc lo (.int x :: st) h c1 s1 := by
  subst hl
  by_cases g : x = 0
  · exact ⟨(k.1 g).1, (k.1 g).2.1, fun ad H locs ls hI hP hD hS hl => lv_if_eq hx hb hd ht (fun _ => (k.1 g).2.2 ad H locs ls hI hP hD hS hl) (fun f => absurd g f)⟩
  · exact ⟨(k.2 g).1, (k.2 g).2.1, fun ad H locs ls hI hP hD hS hl => lv_if_eq hx hb hd ht (fun f => absurd f g) (fun _ => (k.2 g).2.2 ad H locs ls hI hP hD hS hl)⟩
theorem z_if_ne {off : Int} {t : Nat} {x : Int32} (hx : p.tables.exec = Jvm.exec) (hb : c.code = cc) (hd : decode cc pc = .ok (.ifCond .ne off, len)) (hl : len = 3) (ht : (pc : Int) + off = (t : Int)) (k : mIf (¬ x = 0) t pc (fun q => mZ p l e R s m args below meth c Qf D kA ro A nL n0 ad0 q lo st h c1 s1)) : mZ p l e R s m args below meth c Qf D kA ro A nL n0 ad0 pc lo (.int x :: st) h c1 s1 := by
  subst hl
  by_cases g : ¬ x = 0
  · exact ⟨(k.1 g).1, (k.1 g).2.1, fun ad H locs ls hI hP hD hS hl => lv_if_ne hx hb hd ht (fun _ => (k.1 g).2.2 ad H locs ls hI hP hD hS hl) (fun f => absurd f g)⟩
  · exact ⟨(k.2 g).1, (k.2 g).2.1, fun ad H locs ls hI hP hD hS hl => lv_if_ne hx hb hd ht (fun f => absurd f g) (fun _ => (k.2 g).2.2 ad H locs ls hI hP hD hS hl)⟩
theorem z_if_lt {off : Int} {t : Nat} {x : Int32} (hx : p.tables.exec = Jvm.exec) (hb : c.code = cc) (hd : decode cc pc = .ok (.ifCond .lt off, len)) (hl : len = 3) (ht : (pc : Int) + off = (t : Int)) (k : mIf (x < 0) t pc (fun q => mZ p l e R s m args below meth c Qf D kA ro A nL n0 ad0 q lo st h c1 s1)) : mZ p l e R s m args below meth c Qf D kA ro A nL n0 ad0 pc lo (.int x :: st) h c1 s1 := by
  subst hl
  by_cases g : x < 0
  · exact ⟨(k.1 g).1, (k.1 g).2.1, fun ad H locs ls hI hP hD hS hl => lv_if_lt hx hb hd ht (fun _ => (k.1 g).2.2 ad H locs ls hI hP hD hS hl) (fun f => absurd g f)⟩
  · exact ⟨(k.2 g).1, (k.2 g).2.1, fun ad H locs ls hI hP hD hS hl => lv_if_lt hx hb hd ht (fun f => absurd f g) (fun _ => (k.2 g).2.2 ad H locs ls hI hP hD hS hl)⟩
theorem z_if_ge {off : Int} {t : Nat} {x : Int32} (hx : p.tables.exec = Jvm.exec) (hb : c.code = cc) (hd : decode cc pc = .ok (.ifCond .ge off, len)) (hl : len = 3) (ht : (pc : Int) + off = (t : Int)) (k : mIf (0 ≤ x) t pc (fun q => mZ p l e R s m args below meth c Qf D kA ro A nL n0 ad0 q lo st h c1 s1)) : mZ p l e R s m args below meth c Qf D kA ro A nL n0 ad0 pc lo (.int x :: st) h c1 s1 := by
  subst hl
  by_cases g : 0 ≤ x
  · exact ⟨(k.1 g).1, (k.1 g).2.1, fun ad H locs ls hI hP hD hS hl => lv_if_ge hx hb hd ht (fun _ => (k.1 g).2.2 ad H locs ls hI hP hD hS hl) (fun f => absurd g f)⟩
  · exact ⟨(k.2 g).1, (k.2 g).2.1, fun ad H locs ls hI hP hD hS hl => lv_if_ge hx hb hd ht (fun f => absurd f g) (fun _ => (k.2 g).2.2 ad H locs ls hI hP hD hS hl)⟩
theorem z_if_gt {off : Int} {t : Nat} {x : Int32} (hx : p.tables.exec = Jvm.exec) (hb : c.code = cc) (hd : decode cc pc = .ok (.ifCond .gt off, len)) (hl : len = 3) (ht : (pc : Int) + off = (t : Int)) (k : mIf (0 < x) t pc (fun q => mZ p l e R s m args below meth c Qf D kA ro A nL n0 ad0 q lo st h c1 s1)) : mZ p l e R s m args below meth c Qf D kA ro A nL n0 ad0 pc lo (.int x :: st) h c1 s1 := by
  subst hl
  by_cases g : 0 < x
  · exact ⟨(k.1 g).1, (k.1 g).2.1, fun ad H locs ls hI hP hD hS hl => lv_if_gt hx hb hd ht (fun _ => (k.1 g).2.2 ad H locs ls hI hP hD hS hl) (fun f => absurd g f)⟩
  · exact ⟨(k.2 g).1, (k.2 g).2.1, fun ad H locs ls hI hP hD hS hl => lv_if_gt hx hb hd ht (fun f => absurd f g) (fun _ => (k.2 g).2.2 ad H locs ls hI hP hD hS hl)⟩
theorem z_if_le {off : Int} {t : Nat} {x : Int32} (hx : p.tables.exec = Jvm.exec) (hb : c.code = cc) (hd : decode cc pc = .ok (.ifCond .le off, len)) (hl : len = 3) (ht : (pc : Int) + off = (t : Int)) (k : mIf (x ≤ 0) t pc (fun q => mZ p l e R s m args below meth c Qf D kA ro A nL n0 ad0 q lo st h c1 s1)) : mZ p l e R s m args below meth c Qf D kA ro A nL n0 ad0 pc lo (.int x :: st) h c1 s1 := by
  subst hl
  by_cases g : x ≤ 0
  · exact ⟨(k.1 g).1, (k.1 g).2.1, fun ad H locs ls hI hP hD hS hl => lv_if_le hx hb hd ht (fun _ => (k.1 g).2.2 ad H locs ls hI hP hD hS hl) (fun f => absurd g f)⟩
  · exact ⟨(k.2 g).1, (k.2 g).2.1, fun ad H locs ls hI hP hD hS hl => lv_if_le hx hb hd ht (fun f => absurd f g) (fun _ => (k.2 g).2.2 ad H locs ls hI hP hD hS hl)⟩
theorem z_icmp_eq {off : Int} {t : Nat} {x y : Int32} (hx : p.tables.exec = Jvm.exec) (hb : c.code = cc) (hd : decode cc pc = .ok (.if_icmp .eq off, len)) (hl : len = 3) (ht : (pc : Int) + off = (t : Int)) (k : mIf (x = y) t pc (fun q => mZ p l e R s m args below meth c Qf D kA ro A nL n0 ad0 q lo st h c1 s1)) : mZ p l e R s m args below meth c Qf D kA ro A nL n0 ad0 pc lo (.int y :: .int x :: st) h c1 s1 := by
  subst hl
  by_cases g : x = y
  · exact ⟨(k.1 g).1, (k.1 g).2.1, fun ad H locs ls hI hP hD hS hl => lv_icmp_eq hx hb hd ht (fun _ => (k.1 g).2.2 ad H locs ls hI hP hD hS hl) (fun f => absurd g f)⟩
  · exact ⟨(k.2 g).1, (k.2 g).2.1, fun ad H locs ls hI hP hD hS hl => lv_icmp_eq hx hb hd ht (fun f => absurd f g) (fun _ => (k.2 g).2.2 ad H locs ls hI hP hD hS hl)⟩
theorem z_icmp_ne {off : Int} {t : Nat} {x y : Int32} (hx : p.tables.exec = Jvm.exec) (hb : c.code = cc) (hd : decode cc pc = .ok (.if_icmp .ne off, len)) (hl : len = 3) (ht : (pc : Int) + off = (t : Int)) (k : mIf (¬ x = y) t pc (fun q => mZ p l e R s m args below meth c Qf D kA ro A nL n0 ad0 q lo st h c1 s1)) : mZ p l e R s m args below meth c Qf D kA ro A nL n0 ad0 pc lo (.int y :: .int x :: st) h c1 s1 := by
  subst hl
  by_cases g : ¬ x = y
  · exact ⟨(k.1 g).1, (k.1 g).2.1, fun ad H locs ls hI hP hD hS hl => lv_icmp_ne hx hb hd ht (fun _ => (k.1 g).2.2 ad H locs ls hI hP hD hS hl) (fun f => absurd f g)⟩
  · exact ⟨(k.2 g).1, (k.2 g).2.1, fun ad H locs ls hI hP hD hS hl => lv_icmp_ne hx hb hd ht (fun f => absurd f g) (fun _ => (k.2 g).2.2 ad H locs ls hI hP hD hS hl)⟩
theorem z_icmp_lt {off : Int} {t : Nat} {x y : Int32} (hx : p.tables.exec = Jvm.exec) (hb : c.code = cc) (hd : decode cc pc = .ok (.if_icmp .lt off, len)) (hl : len = 3) (ht : (pc : Int) + off = (t : Int)) (k : mIf (x < y) t pc (fun q => mZ p l e R s m args below meth c Qf D kA ro A nL n0 ad0 q lo st h c1 s1)) : mZ p l e R s m args below meth c Qf D kA ro A nL n0 ad0 pc lo (.int y :: .int x :: st) h c1 s1 := by
  subst hl
  by_cases g : x < y
  · exact ⟨(k.1 g).1, (k.1 g).2.1, fun ad H locs ls hI hP hD hS hl => lv_icmp_lt hx hb hd ht (fun _ => (k.1 g).2.2 ad H locs ls hI hP hD hS hl) (fun f => absurd g f)⟩
  · exact ⟨(k.2 g).1, (k.2 g).2.1, fun ad H locs ls hI hP hD hS hl => lv_icmp_lt hx hb hd ht (fun f => absurd f g) (fun _ => (k.2 g).2.2 ad H locs ls hI hP hD hS hl)⟩
theorem z_icmp_ge {off : Int} {t : Nat} {x y : Int32} (hx : p.tables.exec = Jvm.exec) (hb : c.code = cc) (hd : decode cc pc = .ok (.if_icmp .ge off, len)) (hl : len = 3) (ht : (pc : Int) + off = (t : Int)) (k : mIf (y ≤ x) t pc (fun q => mZ p l e R s m args below meth c Qf D kA ro A nL n0 ad0 q lo st h c1 s1)) : mZ p l e R s m args below meth c Qf D kA ro A nL n0 ad0 pc lo (.int y :: .int x :: st) h c1 s1 := by
  subst hl
  by_cases g : y ≤ x
  · exact ⟨(k.1 g).1, (k.1 g).2.1, fun ad H locs ls hI hP hD hS hl => lv_icmp_ge hx hb hd ht (fun _ => (k.1 g).2.2 ad H locs ls hI hP hD hS hl) (fun f => absurd g f)⟩
  · exact ⟨(k.2 g).1, (k.2 g).2.1, fun ad H locs ls hI hP hD hS hl => lv_icmp_ge hx hb hd ht (fun f => absurd f g) (fun _ => (k.2 g).2.2 ad H locs ls hI hP hD hS hl)⟩
theorem z_icmp_gt {off : Int} {t : Nat} {x y : Int32} (hx : p.tables.exec = Jvm.exec) (hb : c.code = cc) (hd : decode cc pc = .ok (.if_icmp .gt off, len)) (hl : len = 3) (ht : (pc : Int) + off = (t : Int)) (k : mIf (y < x) t pc (fun q => mZ p l e R s m args below meth c Qf D kA ro A nL n0 ad0 q lo st h c1 s1)) : mZ p l e R s m args below meth c Qf D kA ro A nL n0 ad0 pc lo (.int y :: .int x :: st) h c1 s1 := by
  subst hl
  by_cases g : y < x
  · exact ⟨(k.1 g).1, (k.1 g).2.1, fun ad H locs ls hI hP hD hS hl => lv_icmp_gt hx hb hd ht (fun _ => (k.1 g).2.2 ad H locs ls hI hP hD hS hl) (fun f => absurd g f)⟩
  · exact ⟨(k.2 g).1, (k.2 g).2.1, fun ad H locs ls hI hP hD hS hl => lv_icmp_gt hx hb hd ht (fun f => absurd f g) (fun _ => (k.2 g).2.2 ad H locs ls hI hP hD hS hl)⟩
theorem z_icmp_le {off : Int} {t : Nat} {x y : Int32} (hx : p.tables.exec = Jvm.exec) (hb : c.code = cc) (hd : decode cc pc = .ok (.if_icmp .le off, len)) (hl : len = 3) (ht : (pc : Int) + off = (t : Int)) (k : mIf (x ≤ y) t pc (fun q => mZ p l e R s m args below meth c Qf D kA ro A nL n0 ad0 q lo st h c1 s1)) : mZ p l e R s m args below meth c Qf D kA ro A nL n0 ad0 pc lo (.int y :: .int x :: st) h c1 s1 := by
  subst hl
  by_cases g : x ≤ y
  · exact ⟨(k.1 g).1, (k.1 g).2.1, fun ad H locs ls hI hP hD hS hl => lv_icmp_le hx hb hd ht (fun _ => (k.1 g).2.2 ad H locs ls hI hP hD hS hl) (fun f => absurd g f)⟩
  · exact ⟨(k.2 g).1, (k.2 g).2.1, fun ad H locs ls hI hP hD hS hl => lv_icmp_le hx hb hd ht (fun f => absurd f g) (fun _ => (k.2 g).2.2 ad H locs ls hI hP hD hS hl)⟩
theorem z_goto {off : Int} {t : Nat} (hx : p.tables.exec = Jvm.exec) (hb : c.code = cc) (hd : decode cc pc = .ok (.goto off, len)) (hl : len = 3) (ht : (pc : Int) + off = (t : Int)) (k : mZ p l e R s m args below meth c Qf D kA ro A nL n0 ad0 t lo st h c1 s1) : mZ p l e R s m args below meth c Qf D kA ro A nL n0 ad0 pc lo st h c1 s1 := by
  subst hl
  exact ⟨k.1, k.2.1, fun ad H locs ls hI hP hD hS hl => lv_goto hx hb hd ht (k.2.2 ad H locs ls hI hP hD hS hl)⟩
end
