theorem va2vx {p : Program} {l : Launch} {e : Env} {R : Room} {s : State} {m : MethodId} {args : Array Value} {below : List Frame} {meth : Method} {c : Code} {H : Heap} {locs : List Loc} {cells slots mc ms : Nat} {g : JFrame} {rest : List Value} {Qa : State → Outcome → State → Prop} {XC : String → State → State → Prop} {free : Addr → Prop}
    (h : va_Run p l e R s m args below meth c H locs cells slots mc ms g rest Qa free) : vx_Run p l e R s m args below meth c H locs cells slots mc ms g rest Qa XC free := fun T hT X => Or.inl (h T hT X)
/-- every word of the list stays true along a walk -/
abbrev mGood (Ts : List Cond) : Prop := ∀ w ∈ Ts, (w.onTables && w.keeps) = true ∨ ∃ ty, w = .arrayClass ty
theorem mGood.inn {Ts ws : List Cond} (h : mGood Ts) (hw : ∀ w ∈ ws, w ∈ Ts) : GoodIn Ts ws := fun w q => ⟨hw w q, h w (hw w q)⟩
theorem mMem {α : Type} {P : α → Prop} {a : α} {l : List α} (h : P a) (t : ∀ x ∈ l, P x) : ∀ x ∈ a :: l, P x := fun x hx => (List.mem_cons.mp hx).elim (fun e => by rw [e]; exact h) (t x)
section
variable {p : Program} {l : Launch} {e : Env} {R : Room} {s : State} {m : MethodId} {args : Array Value} {below : List Frame} {meth : Method} {c : Code} {Qf : State → Prop} {D : va_G} {kA : FieldType → ClassId} {ro : Nat → Nat} {A : Nat → Prop} {nL n0 : Nat} {ad0 : Nat → Nat} {cc : ByteArray} {X : mX0} {own : String} {Ts : List Cond}
variable {pc len c1 s1 : Nat} {lo st : List Value} {h : mH} {cv : Value} {hs : mHd} {Q : mQ} {d kk n mx : Nat} {y : MethodName} {cd : ByteArray} {rt : Option FieldType}
theorem mCat_room {ad ro : Nat → Nat} {pc : Nat} {ls : Array Slot} {st rest : List Value} (h : mCat rest ≤ 8) : 2 * (F0 m pc ls st).monitorRoom + ((rest.map (mp ad ro)).map fun v => v.category).sum ≤ 8 := lv_room (by rw [mCat_mp]; exact h)
theorem mStk {ad ro : Nat → Nat} {ρ : List Nat} {as rest st : List Value} (h : st = (as.map (mRn ρ)).reverse ++ rest) : st.map (mp ad ro) = (as.map (mp (mAd ad ρ) ro)).reverse ++ rest.map (mp ad ro) := by
  rw [h, List.map_append, List.map_reverse, mp_rn_l]
/-- the hypotheses that every call has behind it -/
abbrev mHb (p : Program) (l : Launch) (e : Env) (R : Room) (s : State) (m : MethodId) (args : Array Value) (below : List Frame) (meth : Method) (c : Code) (Qf : State → Prop) (D : va_G) (kA : FieldType → ClassId) (ro : Nat → Nat) (A : Nat → Prop) (nL n0 : Nat) (ad0 : Nat → Nat) (hs : mHd) (Q : mQ) : Prop :=
    (∀ r h c1 s1, Q r h c1 s1 → c1 ≤ R.cells ∧ s1 ≤ R.slots) ∧
    (∀ (pc e0 : Nat) (h : mH) (c1 s1 : Nat), mBare pc hs = true → e0 < 4 → Q (.inr e0) h c1 s1 → ∀ (ad : Nat → Nat) (H : Heap) (locs : List Loc) (ls : Array Slot) (rest : List Value) (q : Addr) (ce : Cell), mI0 n0 ad0 h ad → va_P D mCl (mWs kA ad ro h) H → va_D A (mWs kA ad ro h) → va_S A s.heap H locs → H[q]? = some ce → ce.vm = .none → s.vm.findClass (mEx e0) = some ce.cls → vx_W p l e R s m args below meth c H locs c1 s1 Qf (F0 m pc ls rest) q) ∧
    (∀ (pc : Nat) (lo : List Value) (e0 pc' j : Nat), e0 < 4 → mTake pc e0 hs = some (pc', j) → ∀ (H : Heap) (locs : List Loc) (c1 s1 : Nat) (ad : Nat → Nat) (ls : Array Slot) (rest : List Value) (q : Addr) (ce : Cell), mL ad ro ls nL lo → H[q]? = some ce → ce.vm = .none → s.vm.findClass (mEx e0) = some ce.cls → (∀ ls', mL ad ro ls' nL (mSt1 lo j mU) → W p l e R s m args below meth c H locs c1 s1 Qf (F0 m pc' ls' [])) → vx_W p l e R s m args below meth c H locs c1 s1 Qf (F0 m pc ls rest) q)
/-- what the frame stands on -/
abbrev mFx (p : Program) (R : Room) (s : State) (m : MethodId) (args : Array Value) (c : Code) (D : va_G) (kA : FieldType → ClassId) (ro : Nat → Nat) (A : Nat → Prop) (nL : Nat) (cc : ByteArray) (X : mX0) (own : String) (Ts : List Cond) (d : Nat) : Prop :=
    CallFix p m c cc nL s args Ts own ∧ va_K D mCl (mTys kA) s ∧ (∀ q, s.heap.size ≤ q → A q) ∧ mCx X ro A s s.heap ∧ mTb s ∧ R.frames = d ∧ R.locals = 42 * d ∧ mGood Ts
theorem z_cs (F : mFx p R s m args c D kA ro A nL cc X own Ts (d + 1)) (B : mHb p l e R s m args below meth c Qf D kA ro A nL n0 ad0 hs Q) (hd : decode cc pc = .ok (.invokestatic kk, 3)) (w1 : Cond.methodLink own kk y ∈ Ts) (w2 : Cond.static y ∈ Ts) (w3 : Cond.initialized y.cls ∈ Ts) (w4 : Cond.code y cd mx rt ∈ Ts)
    (hy : y.cls ≠ "java/lang/invoke/MethodHandle" ∧ y.cls ≠ "java/lang/invoke/VarHandle" ∧ (parseMethodDescriptor y.desc).map (fun d => d.parameters.length) = some n) (hmx : mx ≤ 23)
    (q : ∃ (ρ : List Nat) (S : mH) (as rest : List Value) (r : Option Value ⊕ Nat) (S' : mH) (dc ds : Nat), st = (as.map (mRn ρ)).reverse ++ rest ∧ as.length = n ∧ mNd ρ = true ∧ ρ.map (fun j => mAt h j) = S.map (fun x => some (mRnC ρ x)) ∧ (as.all (mOk ρ.length) && S.all (mOkC ρ.length)) = true ∧ mCat rest ≤ 8 ∧ True ∧
      mCon l X y (Cond.code y cd mx rt :: Ts) d as S r S' dc ds ∧ ρ.length ≤ S'.length ∧ S'.all (mOkC S'.length) = true ∧ (S'.length = ρ.length ∨ (lo.all (mOk h.length) && rest.all (mOk h.length) && h.all (mOkC h.length)) = true) ∧ mAfter hs pc lo rest (mBack h ρ S') (c1 + dc) (s1 + ds) (mZ p l e R s m args below meth c Qf D kA ro A nL n0 ad0) Q r) :
    mZ p l e R s m args below meth c Qf D kA ro A nL n0 ad0 pc lo st h c1 s1 := by
  obtain ⟨C, hK, hA, hX, hT, hRf, hRl, hG⟩ := F
  obtain ⟨ρ, S, as, rest, r, S', dc, ds, hst, hn, hnd, hp, -, hcat, -, hcon, hle, hok', hg, k⟩ := q
  refine z_run (a0 := #[]) hA hnd hp (fun ad H locs ls hP hD hS hl b1 b2 => ?_) hle hok' hg B.1 (B.2.1 pc) (B.2.2 pc lo) k
  obtain ⟨l0, g1, -⟩ := hl
  exact vx_runS (As := as.map (mp (mAd ad ρ) ro)) (rest := rest.map (mp ad ro)) (n := n) C (hcon D kA ro (mAd ad ρ) H.size) (va_cwS n C.2.2.2.2 (hG.inn (mMem w1 (mMem w2 (mMem w3 (mMem w4 (fun _ z => z)))))) rfl rfl rfl hy ⟨by rw [hRf]; exact Nat.le_refl _, by rw [hRl]; show 8 + (mx + 11) + 42 * d ≤ 42 * (d + 1); omega⟩)
    ⟨mPre_blind, fun U hU hW => ⟨rfl, mPre_of hK hA hX hT hnd hp hP hD hS U hU hW⟩⟩ rfl (by rw [List.length_map]; exact hn) g1.1 (mStk hst) (mCat_room hcat) hd ⟨b1, b2⟩
theorem z_csn (F : mFx p R s m args c D kA ro A nL cc X own Ts (d + 1)) (B : mHb p l e R s m args below meth c Qf D kA ro A nL n0 ad0 hs Q) (hd : decode cc pc = .ok (.invokestatic kk, 3)) (w1 : (own, kk, y) ∈ mNestM) (w2 : Cond.static y ∈ Ts) (w3 : Cond.initialized y.cls ∈ Ts) (w4 : Cond.code y cd mx rt ∈ Ts)
    (hy : y.cls ≠ "java/lang/invoke/MethodHandle" ∧ y.cls ≠ "java/lang/invoke/VarHandle" ∧ (parseMethodDescriptor y.desc).map (fun d => d.parameters.length) = some n) (hmx : mx ≤ 23)
    (q : ∃ (ρ : List Nat) (S : mH) (as rest : List Value) (r : Option Value ⊕ Nat) (S' : mH) (dc ds : Nat), st = (as.map (mRn ρ)).reverse ++ rest ∧ as.length = n ∧ mNd ρ = true ∧ ρ.map (fun j => mAt h j) = S.map (fun x => some (mRnC ρ x)) ∧ (as.all (mOk ρ.length) && S.all (mOkC ρ.length)) = true ∧ mCat rest ≤ 8 ∧ mRn0 as S r ∧
      mCon l X y (Cond.code y cd mx rt :: Ts) d as S r S' dc ds ∧ ρ.length ≤ S'.length ∧ S'.all (mOkC S'.length) = true ∧ (S'.length = ρ.length ∨ (lo.all (mOk h.length) && rest.all (mOk h.length) && h.all (mOkC h.length)) = true) ∧ mAfter hs pc lo rest (mBack h ρ S') (c1 + dc) (s1 + ds) (mZ p l e R s m args below meth c Qf D kA ro A nL n0 ad0) Q r) :
    mZ p l e R s m args below meth c Qf D kA ro A nL n0 ad0 pc lo st h c1 s1 := by
  obtain ⟨C, hK, hA, hX, hT, hRf, hRl, hG⟩ := F
  obtain ⟨ρ, S, as, rest, r, S', dc, ds, hst, hn, hnd, hp, -, hcat, hr, hcon, hle, hok', hg, k⟩ := q
  refine z_run (a0 := #[]) hA hnd hp (fun ad H locs ls hP hD hS hl b1 b2 => ?_) hle hok' hg B.1 (B.2.1 pc) (B.2.2 pc lo) k
  obtain ⟨l0, g1, -⟩ := hl
  match r, hr, hcon with
  | .inl v, _, hcon =>
    have cn : va_CN R s args own kk y "DoublePacks" cd mx rt (Cond.code y cd mx rt :: Ts) ({ frames := d, cells := dc, slots := ds, locals := 42 * d }) dc ds n := va_cnB n C.2.2.2.2 (hG.inn (mMem w4 (fun _ z => z))) rfl rfl rfl (hT.2.1 _ w1) (C.2.2.2.2 _ w3) hy ⟨by rw [hRf]; exact Nat.le_refl _, by rw [hRl]; show 8 + (mx + 11) + 42 * d ≤ 42 * (d + 1); omega⟩
    exact va2vx (va_runSN (As := as.map (mp (mAd ad ρ) ro)) (rest := rest.map (mp ad ro)) (n := n) C (hcon.met D kA ro (mAd ad ρ) H.size) ⟨cn, C.2.2.2.2 _ w2, trivial⟩
      ⟨mPre_blind, fun U hU hW => ⟨rfl, mPre_of hK hA hX hT hnd hp hP hD hS U hU hW⟩⟩ rfl (by rw [List.length_map]; exact hn) g1.1 (mStk hst) (mCat_room hcat) hd ⟨b1, b2⟩)
theorem z_csw {hh : List (Nat × Nat × Nat × Nat)} (F : mFx p R s m args c D kA ro A nL cc X own Ts (d + 1)) (B : mHb p l e R s m args below meth c Qf D kA ro A nL n0 ad0 hs Q) (hd : decode cc pc = .ok (.invokestatic kk, 3)) (w1 : Cond.methodLink own kk y ∈ Ts) (w2 : Cond.static y ∈ Ts) (w3 : Cond.initialized y.cls ∈ Ts) (w4 : Cond.codeWith y cd mx rt hh ∈ Ts)
    (hy : y.cls ≠ "java/lang/invoke/MethodHandle" ∧ y.cls ≠ "java/lang/invoke/VarHandle" ∧ (parseMethodDescriptor y.desc).map (fun d => d.parameters.length) = some n) (hmx : mx ≤ 23)
    (q : ∃ (ρ : List Nat) (S : mH) (as rest : List Value) (r : Option Value ⊕ Nat) (S' : mH) (dc ds : Nat), st = (as.map (mRn ρ)).reverse ++ rest ∧ as.length = n ∧ mNd ρ = true ∧ ρ.map (fun j => mAt h j) = S.map (fun x => some (mRnC ρ x)) ∧ (as.all (mOk ρ.length) && S.all (mOkC ρ.length)) = true ∧ mCat rest ≤ 8 ∧ True ∧
      mCon l X y (Cond.codeWith y cd mx rt hh :: Ts) d as S r S' dc ds ∧ ρ.length ≤ S'.length ∧ S'.all (mOkC S'.length) = true ∧ (S'.length = ρ.length ∨ (lo.all (mOk h.length) && rest.all (mOk h.length) && h.all (mOkC h.length)) = true) ∧ mAfter hs pc lo rest (mBack h ρ S') (c1 + dc) (s1 + ds) (mZ p l e R s m args below meth c Qf D kA ro A nL n0 ad0) Q r) :
    mZ p l e R s m args below meth c Qf D kA ro A nL n0 ad0 pc lo st h c1 s1 := by
  obtain ⟨C, hK, hA, hX, hT, hRf, hRl, hG⟩ := F
  obtain ⟨ρ, S, as, rest, r, S', dc, ds, hst, hn, hnd, hp, -, hcat, -, hcon, hle, hok', hg, k⟩ := q
  refine z_run (a0 := #[]) hA hnd hp (fun ad H locs ls hP hD hS hl b1 b2 => ?_) hle hok' hg B.1 (B.2.1 pc) (B.2.2 pc lo) k
  obtain ⟨l0, g1, -⟩ := hl
  exact vx_runSX (hh := hh) (As := as.map (mp (mAd ad ρ) ro)) (rest := rest.map (mp ad ro)) (n := n) C (hcon D kA ro (mAd ad ρ) H.size) (vx_cwSW n C.2.2.2.2 (hG.inn (mMem w1 (mMem w2 (mMem w3 (mMem w4 (fun _ z => z)))))) rfl rfl rfl hy ⟨by rw [hRf]; exact Nat.le_refl _, by rw [hRl]; show 8 + (mx + 11) + 42 * d ≤ 42 * (d + 1); omega⟩)
    ⟨mPre_blind, fun U hU hW => ⟨rfl, mPre_of hK hA hX hT hnd hp hP hD hS U hU hW⟩⟩ rfl (by rw [List.length_map]; exact hn) g1.1 (mStk hst) (mCat_room hcat) hd ⟨b1, b2⟩
theorem z_cv {ci N : Nat} {T : u_T} (F : mFx p R s m args c D kA ro A nL cc X own Ts (d + 1)) (B : mHb p l e R s m args below meth c Qf D kA ro A nL n0 ad0 hs Q) (hd : decode cc pc = .ok (.invokevirtual kk, 3)) (hcl : mCl[ci]? = some (y.cls, T, N)) (w1 : Cond.methodLink own kk y ∈ Ts) (w2 : Cond.instanceMethod y ∈ Ts) (w5 : Cond.selects y.cls y y ∈ Ts) (w3 : Cond.initialized y.cls ∈ Ts) (w4 : Cond.code y cd mx rt ∈ Ts)
    (hy : y.cls ≠ "java/lang/invoke/MethodHandle" ∧ y.cls ≠ "java/lang/invoke/VarHandle" ∧ (parseMethodDescriptor y.desc).map (fun d => d.parameters.length) = some n) (hmx : mx ≤ 23)
    (q : ∃ (ρ : List Nat) (S : mH) (as rest : List Value) (r : Option Value ⊕ Nat) (S' : mH) (dc ds : Nat), st = (as.map (mRn ρ)).reverse ++ rest ∧ as.length = n + 1 ∧ mNd ρ = true ∧ ρ.map (fun j => mAt h j) = S.map (fun x => some (mRnC ρ x)) ∧ (as.all (mOk ρ.length) && S.all (mOkC ρ.length)) = true ∧ mCat rest ≤ 8 ∧ mRc ci as S r ∧
      mCon l X y (Cond.code y cd mx rt :: Ts) d as S r S' dc ds ∧ ρ.length ≤ S'.length ∧ S'.all (mOkC S'.length) = true ∧ (S'.length = ρ.length ∨ (lo.all (mOk h.length) && rest.all (mOk h.length) && h.all (mOkC h.length)) = true) ∧ mAfter hs pc lo rest (mBack h ρ S') (c1 + dc) (s1 + ds) (mZ p l e R s m args below meth c Qf D kA ro A nL n0 ad0) Q r) :
    mZ p l e R s m args below meth c Qf D kA ro A nL n0 ad0 pc lo st h c1 s1 := by
  obtain ⟨C, hK, hA, hX, hT, hRf, hRl, hG⟩ := F
  obtain ⟨ρ, S, as, rest, r, S', dc, ds, hst, hn, hnd, hp, -, hcat, ⟨i, as', fs, rfl, hri⟩, hcon, hle, hok', hg, k⟩ := q
  refine z_run (a0 := #[]) hA hnd hp (fun ad H locs ls hP hD hS hl b1 b2 => ?_) hle hok' hg B.1 (B.2.1 pc) (B.2.2 pc lo) k
  obtain ⟨l0, g1, -⟩ := hl
  have hPs := mSub_P (D := D) (kA := kA) (ad := ad) (ro := ro) (H := H) hp hP
  exact vx_runV (As := as'.map (mp (mAd ad ρ) ro)) (rest := rest.map (mp ad ro)) (n := n) (C := y.cls) (b := mAd ad ρ i) C (hcon D kA ro (mAd ad ρ) H.size) (cwV n C.2.2.2.2 (hG.inn (mMem w1 (mMem w2 (mMem w5 (mMem w3 (mMem w4 (fun _ z => z))))))) rfl rfl rfl ⟨rfl, hy⟩ ⟨by rw [hRf]; exact Nat.le_refl _, by rw [hRl]; show 8 + (mx + 11) + 42 * d ≤ 42 * (d + 1); omega⟩)
    ⟨mPre_blind, va_recv hK hPs hcl (mWs_at hri), fun U hU hW => ⟨rfl, mPre_of hK hA hX hT hnd hp hP hD hS U hU hW⟩⟩ rfl (by rw [List.length_map]; simpa using hn) g1.1 (by show st.map (mp ad ro) = _; rw [mStk hst]; simp [mp]) (mCat_room hcat) hd ⟨b1, b2⟩
theorem z_ci (F : mFx p R s m args c D kA ro A nL cc X own Ts (d + 1)) (B : mHb p l e R s m args below meth c Qf D kA ro A nL n0 ad0 hs Q) (hd : decode cc pc = .ok (.invokespecial kk, 3)) (w1 : Cond.methodLink own kk y ∈ Ts ∨ (own, kk, y) ∈ mNestM) (w2 : Cond.instanceMethod y ∈ Ts) (w3 : Cond.initialized y.cls ∈ Ts) (w4 : Cond.code y cd mx none ∈ Ts) (hyn : y.name = "<init>")
    (hy : y.cls ≠ "java/lang/invoke/MethodHandle" ∧ y.cls ≠ "java/lang/invoke/VarHandle" ∧ (parseMethodDescriptor y.desc).map (fun d => d.parameters.length) = some n) (hmx : mx ≤ 23)
    (q : ∃ (ρ : List Nat) (S : mH) (as rest : List Value) (r : Option Value ⊕ Nat) (S' : mH) (dc ds : Nat), st = (as.map (mRn ρ)).reverse ++ rest ∧ as.length = n + 1 ∧ mNd ρ = true ∧ ρ.map (fun j => mAt h j) = S.map (fun x => some (mRnC ρ x)) ∧ (as.all (mOk ρ.length) && S.all (mOkC ρ.length)) = true ∧ mCat rest ≤ 8 ∧ (mRn0 as S r ∧ ∃ i as', as = .ref i :: as') ∧
      mCon l X y (Cond.code y cd mx none :: Ts) d as S r S' dc ds ∧ ρ.length ≤ S'.length ∧ S'.all (mOkC S'.length) = true ∧ (S'.length = ρ.length ∨ (lo.all (mOk h.length) && rest.all (mOk h.length) && h.all (mOkC h.length)) = true) ∧ mAfter hs pc lo rest (mBack h ρ S') (c1 + dc) (s1 + ds) (mZ p l e R s m args below meth c Qf D kA ro A nL n0 ad0) Q r) :
    mZ p l e R s m args below meth c Qf D kA ro A nL n0 ad0 pc lo st h c1 s1 := by
  obtain ⟨C, hK, hA, hX, hT, hRf, hRl, hG⟩ := F
  obtain ⟨ρ, S, as, rest, r, S', dc, ds, hst, hn, hnd, hp, -, hcat, ⟨hr, i, as', rfl⟩, hcon, hle, hok', hg, k⟩ := q
  refine z_run (a0 := #[]) hA hnd hp (fun ad H locs ls hP hD hS hl b1 b2 => ?_) hle hok' hg B.1 (B.2.1 pc) (B.2.2 pc lo) k
  obtain ⟨l0, g1, -⟩ := hl
  match r, hr, hcon with
  | .inl v, _, hcon =>
    rcases w1 with w1 | w1
    · exact va2vx (va_runI (b := mAd ad ρ i) (As := as'.map (mp (mAd ad ρ) ro)) (rest := rest.map (mp ad ro)) (n := n) C (hcon.met D kA ro (mAd ad ρ) H.size) (cwI n C.2.2.2.2 (hG.inn (mMem w4 (fun _ z => z))) rfl rfl rfl (C.2.2.2.2 _ w3) (C.2.2.2.2 _ w1) (C.2.2.2.2 _ w2) hyn hy ⟨by rw [hRf]; exact Nat.le_refl _, by rw [hRl]; show 8 + (mx + 11) + 42 * d ≤ 42 * (d + 1); omega⟩)
        ⟨mPre_blind, fun U hU hW => ⟨rfl, mPre_of hK hA hX hT hnd hp hP hD hS U hU hW⟩⟩ rfl (by rw [List.length_map]; simpa using hn) g1.1 (by show st.map (mp ad ro) = _; rw [mStk hst]; simp [mp]) (mCat_room hcat) hd ⟨b1, b2⟩)
    · have cn : va_CN R s args own kk y "DoublePacks" cd mx none (Cond.code y cd mx none :: Ts) ({ frames := d, cells := dc, slots := ds, locals := 42 * d }) dc ds n := va_cnB n C.2.2.2.2 (hG.inn (mMem w4 (fun _ z => z))) rfl rfl rfl (hT.2.1 _ w1) (C.2.2.2.2 _ w3) hy ⟨by rw [hRf]; exact Nat.le_refl _, by rw [hRl]; show 8 + (mx + 11) + 42 * d ≤ 42 * (d + 1); omega⟩
      exact va2vx (va_runIN (b := mAd ad ρ i) (As := as'.map (mp (mAd ad ρ) ro)) (rest := rest.map (mp ad ro)) (n := n) C (hcon.met D kA ro (mAd ad ρ) H.size) ⟨cn, hyn, C.2.2.2.2 _ w2⟩
        ⟨mPre_blind, fun U hU hW => ⟨rfl, mPre_of hK hA hX hT hnd hp hP hD hS U hU hW⟩⟩ rfl (by rw [List.length_map]; simpa using hn) g1.1 (by show st.map (mp ad ro) = _; rw [mStk hst]; simp [mp]) (mCat_room hcat) hd ⟨b1, b2⟩)
end
