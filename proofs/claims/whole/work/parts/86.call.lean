/-! contracts out of runs of the small machine; a call of one -/
def mEx (e : Nat) : String := (["java/lang/IllegalStateException", "java/lang/IllegalArgumentException", "java/lang/IndexOutOfBoundsException", "java/lang/ArithmeticException"] : List String).getD e ""
def mNestF : List (String × Nat × String × String × String) := [(RX2, 37, "DoublePacks$Row", "length", "I"), (RX2, 62, "DoublePacks$Tape", "at", "I"), (RX2, 65, "DoublePacks$Tape", "bytes", "[I"), (RX2, 73, "DoublePacks$Tape", "length", "I"), (RX2, 112, "DoublePacks$Window", "length", "I"), (RX3, 42, "DoublePacks$BitSink", "length", "I"), (RX3, 115, "DoublePacks$Window", "length", "I"), (RX8, 47, "DoublePacks$Row", "length", "I"), (RX8, 114, "DoublePacks$Out", "sink", "LDoublePacks$BitSink;"), (RX8, 127, "DoublePacks$Out", "blockCount", "I"), (RX8, 139, "DoublePacks$BitSink", "bytes", "[I"), (RX8, 149, "DoublePacks$Tape", "length", "I"), (RX8, 164, "DoublePacks$Tape", "bytes", "[I"), (RX8, 172, "DoublePacks$Tape", "fault", "I"), (RX8, 175, "DoublePacks$Tape", "faultPlace", "I")]
def mNestM : List (String × Nat × MethodName) := [(RX0, 37, yX8_checkOf), (RX2, 11, yX7_init), (RX2, 69, yX8_checkOf), (RX3, 11, yX7_init), (RX4, 25, yX3_init), (RX5, 53, yX8_flip), (RX8, 9, yX5_init), (RX8, 21, yX4_init), (RX8, 28, yX6_init), (RX8, 35, yX2_init)]
def mStrs : List Nat := [78, 83, 96, 99, 134, 147, 152, 157, 159, 178, 180, 184]
def mSupN : List String := ["java/lang/RuntimeException", "java/lang/Exception", Bundle.tN]
/-- what the tables say, beside the words that every method bears along -/
def mTb (U : State) : Prop := (∀ q ∈ mNestF, va_Nw (.fieldLinkNest q.1 q.2.1 q.2.2.1 q.2.2.2.1 q.2.2.2.2 "DoublePacks") U) ∧ (∀ q ∈ mNestM, va_Nw (.methodLinkNest q.1 q.2.1 q.2.2 "DoublePacks") U) ∧
  (∀ e, e < 4 → va_Nw (.castable (mEx e) (mEx e)) U) ∧ (∀ k ∈ mStrs, ∃ (tx : String) (sa : Nat), vk_R RX8 k tx sa U) ∧ (∀ e f, e < 4 → f < 4 → e ≠ f → va_Nc (mEx e) (mEx f) U) ∧ (∀ Y ∈ mSupN, va_Nw (.declares (Bundle.initS Y)) U)
theorem mTb.warm {s U : State} (hW : s.WarmedH U.vm) (h : mTb s) : mTb U := by
  obtain ⟨h1, h2, h3, h4, h5, h6⟩ := h
  exact ⟨fun q hq => va_Nw.warmF hW (h1 q hq), fun q hq => va_Nw.warmM hW (h2 q hq), fun e he => va_Nw.warmC hW (h3 e he), fun k hk => by
    obtain ⟨tx, sa, h⟩ := h4 k hk
    exact ⟨tx, sa, vk_R.warm hW h⟩, fun e f he hf hn => va_Nc.moved hW.alike (h5 e f he hf hn), fun Y hY => va_Nw.warmD hW (h6 Y hY)⟩
theorem mTb.same {s U : State} (hv : s.vm = U.vm) (h : mTb s) : mTb U := by
  obtain ⟨h1, h2, h3, h4, h5, h6⟩ := h
  exact ⟨fun q hq => va_Nw.same rfl hv (h1 q hq), fun q hq => va_Nw.same rfl hv (h2 q hq), fun e he => va_Nw.same rfl hv (h3 e he), fun k hk => by
    obtain ⟨tx, sa, h⟩ := h4 k hk
    exact ⟨tx, sa, vk_R.same hv.symm h⟩, fun e f he hf hn => va_Nc.moved (by rw [hv]; exact Vm.Alike.refl U.vm) (h5 e f he hf hn), fun Y hY => va_Nw.same rfl hv (h6 Y hY)⟩
theorem mCx.moved {X : mX0} {ro : Nat → Nat} {A : Nat → Prop} {u U : State} {H : Heap} (hvm : u.vm.Alike U.vm) (h : mCx X ro A u H) : mCx X ro A U H := ⟨h.1.moved hvm, h.2.1.moved hvm, h.2.2.1.moved hvm, h.2.2.2.1.moved hvm, h.2.2.2.2.moved hvm⟩
theorem mCx.kept {X : mX0} {ro : Nat → Nat} {A : Nat → Prop} {U : State} {H H1 : Heap} (h : mCx X ro A U H) (hq : ∀ a : Nat, a < H.size → ¬ A a → H1[a]? = H[a]?) : mCx X ro A U H1 := ⟨h.1.kept hq, h.2.1.kept hq, h.2.2.1.kept hq, h.2.2.2.1.kept hq, h.2.2.2.2.kept hq⟩
theorem mCx.narrow {X : mX0} {ro : Nat → Nat} {A B : Nat → Prop} {U : State} {H : Heap} (h : mCx X ro A U H) (hAB : ∀ q, B q → A q) : mCx X ro B U H := ⟨h.1.narrow hAB, h.2.1.narrow hAB, h.2.2.1.narrow hAB, h.2.2.2.1.narrow hAB, h.2.2.2.2.narrow hAB⟩
def mPre (X : mX0) (D : va_G) (kA : FieldType → ClassId) (ro ad : Nat → Nat) (S : mH) (sz : Nat) (U : State) : Prop :=
  U.heap.size = sz ∧ va_P D mCl (mWs kA ad ro S) U.heap ∧ va_K D mCl (mTys kA) U ∧ va_D (fun _ => True) (mWs kA ad ro S) ∧ mCx X ro (va_A (mWs kA ad ro S) sz) U U.heap ∧ mTb U
def mPost (D : va_G) (kA : FieldType → ClassId) (ro ad : Nat → Nat) (S : mH) (sz : Nat) (S' : mH) (st t : State) : Prop :=
  ∃ ad' : Nat → Nat, (∀ i, i < S.length → ad' i = ad i) ∧ va_P D mCl (mWs kA ad' ro S') t.heap ∧ va_D (va_A (mWs kA ad ro S) sz) (mWs kA ad' ro S') ∧ va_F (va_A (mWs kA ad ro S) sz) st t
def mQc (D : va_G) (kA : FieldType → ClassId) (ro ad : Nat → Nat) (S : mH) (sz : Nat) (r : Option Value ⊕ Nat) (S' : mH) : Array Value → State → Outcome → State → Prop := fun _ st oc t => ∃ v, r = .inl v ∧ oc = .returned v ∧ mPost D kA ro ad S sz S' st t
def mXc (D : va_G) (kA : FieldType → ClassId) (ro ad : Nat → Nat) (S : mH) (sz : Nat) (r : Option Value ⊕ Nat) (S' : mH) : String → State → State → Prop := fun E st t => ∃ e, r = .inr e ∧ e < 4 ∧ E = mEx e ∧ mPost D kA ro ad S sz S' st t
/-- a method of that name, its words and code, ends so -/
def mCon (l : Launch) (X : mX0) (y : MethodName) (ws : List Cond) (d : Nat) (as : List Value) (S : mH) (r : Option Value ⊕ Nat) (S' : mH) (dc ds : Nat) : Prop :=
  ∀ (D : va_G) (kA : FieldType → ClassId) (ro ad : Nat → Nat) (sz : Nat), vx_Met l y ws ({ frames := d, cells := dc, slots := ds, locals := 42 * d }) (va_Pc (as.map (mp ad ro)) (mPre X D kA ro ad S sz)) (mQc D kA ro ad S sz r S') (mXc D kA ro ad S sz r S') dc ds (va_A (mWs kA ad ro S) sz)
/-- one that doesn't throw -/
theorem mCon.met {l : Launch} {X : mX0} {y : MethodName} {ws : List Cond} {d : Nat} {as : List Value} {S : mH} {v : Option Value} {S' : mH} {dc ds : Nat} (h : mCon l X y ws d as S (.inl v) S' dc ds) (D : va_G) (kA : FieldType → ClassId) (ro ad : Nat → Nat) (sz : Nat) :
    Met l y ws ({ frames := d, cells := dc, slots := ds, locals := 42 * d }) (va_Pc (as.map (mp ad ro)) (mPre X D kA ro ad S sz)) (mQc D kA ro ad S sz (.inl v) S') dc ds (va_A (mWs kA ad ro S) sz) := by
  intro p e ha hc hk s m args below hf happ hP hK
  obtain ⟨n, o, h1, h2, h3, hQ⟩ := h D kA ro ad sz p e ha hc hk s m args below hf happ hP hK
  refine ⟨n, o, h1, h2, h3, ?_⟩
  rcases hQ with hQ | ⟨q, -, E, ce, L, ⟨e9, he9, -⟩, -⟩
  · exact hQ
  · cases he9
theorem mPre_blind {X : mX0} {D : va_G} {kA : FieldType → ClassId} {ro ad : Nat → Nat} {S : mH} {sz : Nat} {av : List Value} : FrameBlind (va_Pc av (mPre X D kA ro ad S sz)) := fun a U g mk q => by
  obtain ⟨q0, q1, qP, qK, qD, qX, qT⟩ := q
  exact ⟨q0, q1, qP, va_K.moved (u := U) (U := U.calling g mk a) (Vm.Alike.refl U.vm) qK, qD, mCx.moved (u := U) (U := U.calling g mk a) (Vm.Alike.refl U.vm) qX, mTb.same (s := U) (U := U.calling g mk a) rfl qT⟩
section
variable {p : Program} {l : Launch} {e : Env} {R : Room} {s : State} {m : MethodId} {args : Array Value} {below : List Frame} {meth : Method} {c : Code} {Qf : State → Prop} {D : va_G} {kA : FieldType → ClassId} {ro : Nat → Nat} {A : Nat → Prop} {nL n0 : Nat} {ad0 : Nat → Nat} {cc : ByteArray} {X : mX0} {own : String} {Ts : List Cond}
variable {pc len c1 s1 : Nat} {lo st : List Value} {h : mH} {cv : Value}
/-- what a callee finds at its start -/
theorem mPre_of (hK : va_K D mCl (mTys kA) s) (hA : ∀ q, s.heap.size ≤ q → A q) (hX : mCx X ro A s s.heap) (hT : mTb s) {ad : Nat → Nat} {H : Heap} {locs : List Loc} {ρ : List Nat} {S : mH} (hnd : mNd ρ = true) (hp : ρ.map (fun j => mAt h j) = S.map (fun x => some (mRnC ρ x)))
    (hP : va_P D mCl (mWs kA ad ro h) H) (hD : va_D A (mWs kA ad ro h)) (hS : va_S A s.heap H locs) : ∀ U : State, U.heap = H → s.WarmedH U.vm → mPre X D kA ro (mAd ad ρ) S H.size U := by
  intro U hU hW
  refine ⟨by rw [hU], by rw [hU]; exact mSub_P hp hP, va_K.moved hW.alike hK, (mSub_D hnd hp hD).weaken (fun _ _ _ _ => trivial), ?_, mTb.warm hW hT⟩
  rw [hU]
  refine mCx.moved hW.alike ((hX.kept (fun a h1 h2 => hS.2.1 a h1 h2)).narrow (mSub_A hp hD hS hA))
theorem mI0.back {ad ad' : Nat → Nat} {ρ : List Nat} {S' : mH} {grown : Bool} (q : mI0 n0 ad0 h ad) (hle : ρ.length ≤ S'.length) : mI0 n0 ad0 (mBack h ρ S') (mAdB ad ad' h.length ρ.length grown) := ⟨by unfold mBack; rw [mBk_len _ _ _ _ hle]; have := q.1; omega, fun i hi => by
  have := q.1
  rw [← q.2 i hi, mAdB, if_neg (by omega)]⟩
/-- behind a call, by how the callee ended -/
theorem z_run {hs : mHd} {Q : mQ} {ρ : List Nat} {S S' : mH} {rest : List Value} {r : Option Value ⊕ Nat} {dc ds : Nat} {a0 : Array Value} (hA : ∀ q, s.heap.size ≤ q → A q) (hnd : mNd ρ = true) (hp : ρ.map (fun j => mAt h j) = S.map (fun x => some (mRnC ρ x)))
    (hrun : ∀ (ad : Nat → Nat) (H : Heap) (locs : List Loc) (ls : Array Slot), va_P D mCl (mWs kA ad ro h) H → va_D A (mWs kA ad ro h) → va_S A s.heap H locs → mL ad ro ls nL lo → c1 + dc ≤ R.cells → s1 + ds ≤ R.slots →
      vx_Run p l e R s m args below meth c H locs c1 s1 dc ds (F0 m pc ls (st.map (mp ad ro))) (rest.map (mp ad ro)) (mQc D kA ro (mAd ad ρ) S H.size r S' a0) (mXc D kA ro (mAd ad ρ) S H.size r S') (va_A (mWs kA (mAd ad ρ) ro S) H.size))
    (hle : ρ.length ≤ S'.length) (hok' : S'.all (mOkC S'.length) = true) (hg : S'.length = ρ.length ∨ (lo.all (mOk h.length) && rest.all (mOk h.length) && h.all (mOkC h.length)) = true)
    (hQb : ∀ r h c1 s1, Q r h c1 s1 → c1 ≤ R.cells ∧ s1 ≤ R.slots)
    (hU : ∀ (e0 : Nat) (h : mH) (c1 s1 : Nat), mBare pc hs = true → e0 < 4 → Q (.inr e0) h c1 s1 → ∀ (ad : Nat → Nat) (H : Heap) (locs : List Loc) (ls : Array Slot) (rest : List Value) (q : Addr) (ce : Cell), mI0 n0 ad0 h ad → va_P D mCl (mWs kA ad ro h) H → va_D A (mWs kA ad ro h) → va_S A s.heap H locs → H[q]? = some ce → ce.vm = .none → s.vm.findClass (mEx e0) = some ce.cls → vx_W p l e R s m args below meth c H locs c1 s1 Qf (F0 m pc ls rest) q)
    (hC : ∀ (e0 pc' j : Nat), e0 < 4 → mTake pc e0 hs = some (pc', j) → ∀ (H : Heap) (locs : List Loc) (c1 s1 : Nat) (ad : Nat → Nat) (ls : Array Slot) (rest : List Value) (q : Addr) (ce : Cell), mL ad ro ls nL lo → H[q]? = some ce → ce.vm = .none → s.vm.findClass (mEx e0) = some ce.cls → (∀ ls', mL ad ro ls' nL (mSt1 lo j mU) → W p l e R s m args below meth c H locs c1 s1 Qf (F0 m pc' ls' [])) → vx_W p l e R s m args below meth c H locs c1 s1 Qf (F0 m pc ls rest) q)
    (k : mAfter hs pc lo rest (mBack h ρ S') (c1 + dc) (s1 + ds) (mZ p l e R s m args below meth c Qf D kA ro A nL n0 ad0) Q r) : mZ p l e R s m args below meth c Qf D kA ro A nL n0 ad0 pc lo st h c1 s1 := by
  have hbd : c1 + dc ≤ R.cells ∧ s1 + ds ≤ R.slots := by
    unfold mAfter at k
    split at k
    · exact ⟨k.1, k.2.1⟩
    · exact ⟨k.1, k.2.1⟩
    · exact ⟨k.1, k.2.1⟩
    · exact k.elim
    · split at k
      · exact hQb _ _ _ _ k
      · split at k
        · exact ⟨k.1, k.2.1⟩
        · exact k.elim
  refine ⟨by omega, by omega, fun ad H locs ls hI hP hD hS hl => ?_⟩
  -- whether the heap has grown
  obtain ⟨grown, hgr, hlo, hrest⟩ : ∃ grown : Bool, ((grown = false ∧ S'.length = ρ.length) ∨ (grown = true ∧ h.all (mOkC h.length) = true)) ∧ (∀ ad', mL (mAdB ad ad' h.length ρ.length grown) ro ls nL lo) ∧ (∀ ad', rest.map (mp (mAdB ad ad' h.length ρ.length grown) ro) = rest.map (mp ad ro)) := by
    rcases hg with hg | hg
    · refine ⟨false, Or.inl ⟨rfl, hg⟩, fun ad' => ?_, fun ad' => ?_⟩
      · have e0 : mAdB ad ad' h.length ρ.length false = ad := by funext j; simp [mAdB]
        rw [e0]; exact hl
      · have e0 : mAdB ad ad' h.length ρ.length false = ad := by funext j; simp [mAdB]
        rw [e0]
    · simp only [Bool.and_eq_true] at hg
      have hsm : ∀ (ad' : Nat → Nat) (i : Nat), i < h.length → mAdB ad ad' h.length ρ.length true i = ad i := fun ad' i hi => by unfold mAdB; rw [if_neg (by omega)]
      refine ⟨true, Or.inr ⟨rfl, hg.2⟩, fun ad' => ?_, fun ad' => mp_same hg.1.2 (hsm ad')⟩
      obtain ⟨l0, g1, g0, g2⟩ := hl
      refine ⟨l0, g1, g0, fun j v hj hv => ?_⟩
      have e0 := mp_same (ad' := mAdB ad ad' h.length ρ.length true) (ad := ad) (ro := ro) (l := [v]) (n := h.length) (by
        simp only [List.all_cons, List.all_nil, Bool.and_true]
        rw [mAt_eq] at hj
        exact List.all_eq_true.mp hg.1.1 v (List.mem_of_getElem? hj)) (hsm ad')
      simp only [List.map_cons, List.map_nil, List.cons.injEq, and_true] at e0
      rw [e0]
      exact g2 j v hj hv
  have hF := mSub_A (ro := ro) hp hD hS hA
  intro T hT X0
  rcases hrun ad H locs ls hP hD hS hl hbd.1 hbd.2 T hT X0 with ⟨v, st₀, t, T', L, h0, X', hL, e1, e2, ⟨v', rfl, hv, ad', had, hP1, hD1, hF1⟩, stp⟩ | ⟨q, st₀, t, T', L, E, ce, h0, X', hL, e1, e2, ⟨e9, rfl, he4, hE, ad', had, hP1, hD1, hF1⟩, hce, hcv, hcl, stp⟩
  · cases hv
    obtain ⟨k1, k2, k3⟩ := vx_keep (A1 := va_A (mWs kA (mAd ad ρ) ro S) H.size) h0 e1 hS (fun q _ h => hF q h) hF hL hF1
    obtain ⟨j1, j2⟩ := mJoin (grown := grown) hnd hp hP hD hS hA hle hok' hgr had (by rw [e1]; exact hP1) hD1 k2
    unfold mAfter at k
    split at k
    · rename_i hr
      cases hr
      have k9 := k.2.2 _ T'.heap (locs ++ L) ls (hI.back hle) j1 j2 k3 (hlo ad')
      rw [hrest ad'] at k9
      obtain ⟨t2, a1, b1⟩ := k9 T' rfl X'
      exact ⟨t2, stp t2 a1, b1⟩
    · rename_i x hr
      cases hr
      have k9 := k.2.2 _ T'.heap (locs ++ L) ls (hI.back hle) j1 j2 k3 (hlo ad')
      rw [List.map_cons, hrest ad'] at k9
      obtain ⟨t2, a1, b1⟩ := k9 T' rfl X'
      exact ⟨t2, stp t2 a1, b1⟩
    · rename_i x hr
      cases hr
      have k9 := k.2.2 _ T'.heap (locs ++ L) ls (hI.back hle) j1 j2 k3 (hlo ad')
      rw [List.map_cons, hrest ad'] at k9
      obtain ⟨t2, a1, b1⟩ := k9 T' rfl X'
      exact ⟨t2, stp t2 a1, b1⟩
    · exact k.elim
    · rename_i hr
      cases hr
  · obtain ⟨k1, k2, k3⟩ := vx_keep (A1 := va_A (mWs kA (mAd ad ρ) ro S) H.size) h0 e1 hS (fun q _ h => hF q h) hF hL hF1
    obtain ⟨j1, j2⟩ := mJoin (grown := grown) hnd hp hP hD hS hA hle hok' hgr had (by rw [e1]; exact hP1) hD1 k2
    subst hE
    have k8 : (if mBare pc hs = true then Q (.inr e9) (mBack h ρ S') (c1 + dc) (s1 + ds) else match mTake pc e9 hs with
      | some (pc', j) => mZ p l e R s m args below meth c Qf D kA ro A nL n0 ad0 pc' (mSt1 lo j mU) [] (mBack h ρ S') (c1 + dc) (s1 + ds)
      | none => False) := k
    by_cases gb : mBare pc hs = true
    · rw [if_pos gb] at k8
      obtain ⟨t2, a1, b1⟩ := hU e9 _ _ _ gb he4 k8 _ T'.heap (locs ++ L) ls (rest.map (mp ad ro)) q ce (hI.back hle) j1 j2 k3 (by rw [e1]; exact hce) hcv hcl T' rfl X'
      exact ⟨t2, stp.trans a1, b1⟩
    · rw [if_neg gb] at k8
      split at k8
      · rename_i pc' j ht
        obtain ⟨t2, a1, b1⟩ := hC e9 pc' j he4 ht T'.heap (locs ++ L) _ _ _ ls (rest.map (mp ad ro)) q ce (hlo ad') (by rw [e1]; exact hce) hcv hcl (fun ls' hl' => k8.2.2 _ T'.heap (locs ++ L) ls' (hI.back hle) j1 j2 k3 hl') T' rfl X'
        exact ⟨t2, stp.trans a1, b1⟩
      · exact k8.elim
end
