/-! THE CLAIM OUT OF ONE WALK OF THE LAW'S BODY. Your part is whole_start (and what it stands on); all else here is the same for every law, but numbers. -/
def R_law : String := "DoublePacksLaw"
def lw_P (b : Addr) (xs : List Int32) (args : Array Value) (s : State) : Prop := args = #[.ref b] ∧ s.IntsAt b xs ∧ xs.length ≤ 256 ∧ (Jvm.Cond.and given_1 narrow_1).before args s = true
def lw_Q (_ : Array Value) (s : State) (o : Outcome) (t : State) : Prop := o = .returned (some (.int 1)) ∧ Framed s o t [] 600128 7301098
def lw_Z (below : List Frame) (a : Array Value) (s : State) : State → Prop := fun t => ∃ o, t.status = .running ∧ Ended t below o ∧ lw_Q a s o t
/-- the law's own end, with 1 on the stack, nothing written that was there before, its room as the claim has it -/
theorem lw_ret {p : Program} {l : Launch} {e : Env} {s : State} {m : MethodId} {below : List Frame} {meth : Method} {c : Code} {b : Nat} (hx : p.tables.exec = Jvm.exec) (hb : c.code = code) (hr : meth.sig.returnType = ret) (hlocks : meth.locks = false) {pc : Nat} {H : Heap} {ls : Array Slot} (hdg : decode code pc = .ok (.ireturn, 1)) : W p l e room_1 s m #[Value.ref b] below meth c H [] 600128 7301098 (lw_Z below #[Value.ref b] s) (F0 m pc ls [.int 1]) := by
  intro T hT X
  obtain ⟨fs, hret, hrun, hended, hW, hframe⟩ := X.leave (v := some (.int 1)) (hlocks := hlocks) (fun h => by rw [hr] at h; cases h)
  have hmeth' : T.vm.method? m = some meth := X.method'
  refine ⟨T.setFrames fs, ?_, .returned (some (.int 1)), hrun, hended, rfl, ⟨_, rfl⟩, hW, hframe⟩
  jvm_step X.here [X.here.top, hx, hb, hdg, hmeth', hr, ret, narrow_b1]
  (try refine ⟨rfl, ?_⟩); (try refine ⟨rfl, ?_⟩)
  first | (intro acts; rw [hret _ acts rfl rfl rfl]) | rw [hret _ _ rfl rfl rfl]
  exact Steps.refl _
/-- what holds at the law's entry: the machine, the code, the tables' words (any of lw_tbl by 'hts w (by decide +kernel)'), the script of L ints xs at the cell b, what the Statement gives of the start (any of its parts by flat_of_before) -/
def lw_At (p : Program) (s : State) (m : MethodId) (meth : Method) (c : Code) (b L : Nat) (xs : Nat → Int32) : Prop :=
  p.tables.exec = Jvm.exec ∧ c.code = code ∧ meth.sig.returnType = ret ∧ c.maxLocals = 8 ∧ s.vm.findClass R_law = some m.cls ∧ (∀ w ∈ lw_tbl, w.before #[Value.ref b] s = true) ∧ va_X b L xs s s.heap ∧ b < s.heap.size ∧ meth.locks = false ∧ (Jvm.Cond.and given_1 narrow_1).before #[Value.ref b] s = true

set_option maxHeartbeats 4000000 in
theorem law_of_run {p : Program} {e : Env} {s : State} {m : MethodId} {below : List Frame} {meth : Method} {c : Code} (l : Launch) (hl : l.stackTraces = false) {b L : Nat} {xs : Nat → Int32}
    (q : mWP 11 (L, xs) (mCall mP (L, xs) 11) (kL_law, 8, []) (fun r _ c1 s1 => r = .inl (some (.int 1)) ∧ c1 ≤ 600128 ∧ s1 ≤ 7301098) 0 (mEnt [.float 0] 8) [] [] 0 0)
    (C0 : lw_At p s m meth c b L xs) : W p l e room_1 s m #[Value.ref b] below meth c s.heap [] 0 0 (lw_Z below #[Value.ref b] s) (entryFrame m ([Value.ref b] : List Value).toArray 8) := by
  obtain ⟨hx, hb, hr, hml, hown, hts, hX, hbl, hlocks, hgv⟩ := C0
  obtain ⟨D, kA, hK⟩ := st_K hts
  obtain ⟨ro, hro, hCx⟩ := st_X hts hgv hX hbl
  have hT := st_T hts hgv
  have hA : ∀ q : Nat, s.heap.size ≤ q → (fun q : Nat => s.heap.size ≤ q) q := fun _ h => h
  have F : mFx p room_1 s m #[Value.ref b] c D kA ro (fun q : Nat => s.heap.size ≤ q) 8 code (L, xs) (mMt0 162).1.cls mTs 11 := ⟨⟨hx, hb, hml, hown, fun w h => hts w (mTs_lw w h)⟩, hK, hA, hCx, hT, rfl, rfl, mTs_good⟩
  have E : mEnd p l e room_1 s m #[Value.ref b] below meth c (lw_Z below #[Value.ref b] s) D kA ro (fun q : Nat => s.heap.size ≤ q) 0 (fun _ => 0) code (mMt0 162).2.2.2.1 (fun r _ c1 s1 => r = .inl (some (.int 1)) ∧ c1 ≤ 600128 ∧ s1 ≤ 7301098) := by
    rintro v h c1 s1 ⟨e1, e2, e3⟩ ad1 H locs hI hP1 hD1 hS pc ls
    cases e1
    refine ⟨fun g1 => (by cases g1), fun x g1 hd g2 => ?_, fun x g1 => (by cases g1)⟩
    cases g1
    refine va_forget (fun q hq => hS.2.2 q hq) ?_
    refine W.widen (k := 600128) (n := 7301098) e2 e3 ?_
    exact lw_ret hx hb hr hlocks hd
  have B : mHb p l e room_1 s m #[Value.ref b] below meth c (lw_Z below #[Value.ref b] s) D kA ro (fun q : Nat => s.heap.size ≤ q) 8 0 (fun _ => 0) [] (fun r _ c1 s1 => r = .inl (some (.int 1)) ∧ c1 ≤ 600128 ∧ s1 ≤ 7301098) := by
    refine ⟨?_, ?_, ?_⟩
    · rintro r1 h c1 s1 ⟨-, e3, e4⟩
      exact ⟨e3, e4⟩
    · rintro pc e0 h c1 s1 hbare he4 ⟨e1, -⟩
      cases e1
    · intro pc lo e0 pc' j he4 ht
      cases ht
  have Z := q (mZ p l e room_1 s m #[Value.ref b] below meth c (lw_Z below #[Value.ref b] s) D kA ro (fun q : Nat => s.heap.size ≤ q) 8 0 (fun _ => 0)) (fun pc lo st h c1 s1 hq => by
    rcases mAll_rows okL_law pc with hn | hok
    · rw [show ((kL_law, 8, []) : mM).1 pc = mNop from hn] at hq
      exact hq.elim
    · exact mStep_sound (ini := (mMt0 162).1.name == "<init>") F B E (fun z => absurd z (by decide +kernel)) (mSound mTs_good hl mProg 11) (fun ik e0 len pc lo st h cv c1 s1 hok hq => by
        obtain ⟨-, -, -, e1, -⟩ := hq
        cases e1) hok hq)
  have e0 : ([Value.float 0] : List Value).map (mp (fun _ => 0) ro) = [Value.ref b] := by
    show [Value.ref (ro 0)] = _
    rw [hro]
  have k := Z.2.2 (fun _ => 0) s.heap [] _ ⟨Nat.le_refl _, fun i hi => by cases hi⟩ (fun k q h => by simp [mWs] at h) ⟨fun i j p q h => by simp [mWs] at h, fun k q h => by simp [mWs] at h⟩ va_S.rf (mEnt_mL (fun _ => 0) ro (as := [.float 0]) rfl)
  rw [e0] at k
  rw [lg_entry_eq]
  exact k
