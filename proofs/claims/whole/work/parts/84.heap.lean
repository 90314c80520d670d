def mTyOk : Nat → FieldType → Prop
  | 0, t => t = .int
  | 1, t => t = .long
  | 2, t => (∃ C, t = .object C) ∨ ∃ u, t = .array u
  | 3, t => t = .boolean
  | _, _ => False
theorem mFit_ok {b : Nat} {v : Value} {t : FieldType} {ad ro : Nat → Nat} (h : mFit b v) (ht : mTyOk b t) : narrow t (mp ad ro v) = mp ad ro v ∧ fits t (mp ad ro v) = true := by
  match b, v, h, ht with
  | 0, .int x, _, ht => cases ht; exact ⟨rfl, rfl⟩
  | 1, .long x, _, ht => cases ht; exact ⟨rfl, rfl⟩
  | 2, .ref x, _, ht => rcases ht with ⟨C, rfl⟩ | ⟨u, rfl⟩ <;> exact ⟨rfl, rfl⟩
  | 3, .int x, h, ht => cases ht; rcases h with rfl | rfl <;> exact ⟨rfl, rfl⟩
section
variable {p : Program} {l : Launch} {e : Env} {R : Room} {s : State} {m : MethodId} {args : Array Value} {below : List Frame} {meth : Method} {c : Code} {Qf : State → Prop} {D : va_G} {kA : FieldType → ClassId} {ro : Nat → Nat} {A : Nat → Prop} {nL n0 : Nat} {ad0 : Nat → Nat} {cc : ByteArray} {X : mX0} {own : String} {Ts : List Cond}
variable {pc len c1 s1 : Nat} {lo st : List Value} {h : mH} {cv : Value}
theorem mMapAt {ad ro : Nat → Nat} {fs : List Value} {k : Nat} {v : Value} (h : mAt fs k = some v) : (fs.map (mp ad ro))[k]? = some (mp ad ro v) := by
  rw [mAt_eq] at h
  rw [List.getElem?_map, h]; rfl
theorem z_getfield {n ci k a N : Nat} {C : String} {T : u_T} (hx : p.tables.exec = Jvm.exec) (hb : c.code = cc) (hown : s.vm.findClass own = some m.cls) (hts : ∀ w ∈ Ts, w.before args s = true) (hK : va_K D mCl (mTys kA) s) (hd : decode cc pc = .ok (.getfield n, len)) (hl : len = 3) (hc : mCl[ci]? = some (C, T, N)) (hk : k < N) (hin : ∀ w ∈ u_ws C T N, w ∈ Ts) (hw : Cond.fieldLink own n (T k).1 (T k).2.1 (T k).2.2.1 ∈ Ts ∨ va_Nw (.fieldLinkNest own n (T k).1 (T k).2.1 (T k).2.2.1 "DoublePacks") s)
    (q : match mAt h a with | some (.inr (cj, fs)) => cj = ci ∧ (match mAt fs k with | some v => mZ p l e R s m args below meth c Qf D kA ro A nL n0 ad0 (pc + len) lo (v :: st) h c1 s1 | none => False) | _ => False) : mZ p l e R s m args below meth c Qf D kA ro A nL n0 ad0 pc lo (.ref a :: st) h c1 s1 := by
  subst hl
  split at q
  · rename_i cj fs ha
    obtain ⟨rfl, q⟩ := q
    split at q
    · rename_i v hv
      refine ⟨q.1, q.2.1, fun ad H locs ls hI hP hD hS hl => ?_⟩
      rcases hw with hw | hw
      · exact va_get (ref := (T k).1) hx hb hts hin hown hK hP a (mWs_at ha) hc k hk (hts _ hw) (fun _ z => z) (v := mp ad ro v) (mMapAt hv) hd (q.2.2 ad H locs ls hI hP hD hS hl)
      · exact va_getN (ref := (T k).1) hx hb hts hin hown hK hP a (mWs_at ha) hc k hk (va_Nw.use rfl hw) (fun _ z => z) (v := mp ad ro v) (mMapAt hv) hd (q.2.2 ad H locs ls hI hP hD hS hl)
    · exact q.elim
  · exact q.elim
theorem z_putfield {n ci k a b N : Nat} {C : String} {T : u_T} {v : Value} (hx : p.tables.exec = Jvm.exec) (hb : c.code = cc) (hown : s.vm.findClass own = some m.cls) (hts : ∀ w ∈ Ts, w.before args s = true) (hK : va_K D mCl (mTys kA) s) (hd : decode cc pc = .ok (.putfield n, len)) (hl : len = 3) (hc : mCl[ci]? = some (C, T, N)) (hk : k < N) (hin : ∀ w ∈ u_ws C T N, w ∈ Ts) (hw : Cond.fieldLink own n (T k).1 (T k).2.1 (T k).2.2.1 ∈ Ts ∨ va_Nw (.fieldLinkNest own n (T k).1 (T k).2.1 (T k).2.2.1 "DoublePacks") s)
    (hty : mTyOk (b % 10) (mTy ci k)) (hfin : ((T k).2.2.2 = false) ∨ ((T k).2.2.2 = true ∧ meth.name = "<init>" ∧ (T k).1 = own ∧ Cond.fieldLink own n (T k).1 (T k).2.1 (T k).2.2.1 ∈ Ts))
    (q : match mAt h a with | some (.inr (cj, fs)) => cj = ci ∧ k < fs.length ∧ mFit (b % 10) v ∧ mZ p l e R s m args below meth c Qf D kA ro A nL n0 ad0 (pc + len) lo st (mPut h a (.inr (ci, mPut fs k v))) c1 s1 | _ => False) : mZ p l e R s m args below meth c Qf D kA ro A nL n0 ad0 pc lo (v :: .ref a :: st) h c1 s1 := by
  subst hl
  split at q
  · rename_i cj fs ha
    obtain ⟨rfl, hlen, hfit, q⟩ := q
    refine ⟨q.1, q.2.1, fun ad H locs ls hI hP hD hS hl => ?_⟩
    obtain ⟨hn, hf⟩ := mFit_ok (ad := ad) (ro := ro) hfit hty
    obtain ⟨o1, o2⟩ := mCl_ok hc
    have go : ∀ (H1 : Heap) (locs1 : List Loc), va_P D mCl ((mWs kA ad ro h).set a (ad a, .inr (cj, (fs.map (mp ad ro)).set k (mp ad ro v)))) H1 → va_D A ((mWs kA ad ro h).set a (ad a, .inr (cj, (fs.map (mp ad ro)).set k (mp ad ro v)))) → va_S A s.heap H1 locs1 → W p l e R s m args below meth c H1 locs1 c1 s1 Qf (F0 m (pc + 3) ls (st.map (mp ad ro))) := by
      intro H1 locs1 g1 g2 g3
      have e1 : (mWs kA ad ro h).set a (ad a, .inr (cj, (fs.map (mp ad ro)).set k (mp ad ro v))) = mWs kA ad ro (mPut h a (.inr (cj, mPut fs k v))) := by
        rw [← mWs_put]
        show _ = (mWs kA ad ro h).set a (ad a, (Sum.inr (cj, (mPut fs k v).map (mp ad ro)) : va_E))
        rw [mPut_eq, List.map_set]
      rw [e1] at g1 g2
      exact q.2.2 ad H1 locs1 ls (hI.put _ _) g1 g2 g3 hl
    rcases hfin with hfin | ⟨hfin, hini, hdecl, hw2⟩
    · rcases hw with hw | hw
      · exact va_put (ref := (T k).1) hx hb hts hin (mTy cj) o1 o2 hown hK hP hD hS a (mWs_at ha) hc k hk (hts _ hw) (fun _ z => z) hfin (o1 k hk) hn hf (by simpa using hlen) hd go
      · exact va_putN (ref := (T k).1) hx hb hts hin (mTy cj) o1 o2 hown hK hP hD hS a (mWs_at ha) hc k hk (va_Nw.use rfl hw) (fun _ z => z) hfin (o1 k hk) hn hf (by simpa using hlen) hd go
    · exact va_putF (ref := (T k).1) hx hb hts hin (mTy cj) o1 o2 hown hK hP hD hS a (mWs_at ha) hc k hk (hts _ hw2) (fun _ z => z) hfin hini hdecl (o1 k hk) hn hf (by simpa using hlen) hd go
  · exact q.elim
theorem z_iaload {a : Nat} {j : Int32} (hx : p.tables.exec = Jvm.exec) (hb : c.code = cc) (hK : va_K D mCl (mTys kA) s) (hd : decode cc pc = .ok (.iaload, len)) (hl : len = 1)
    (q : match mAt h a with | some (.inl (.int, n, .inl f)) => vp_in j n ∧ mZ p l e R s m args below meth c Qf D kA ro A nL n0 ad0 (pc + len) lo (.int (f j.toNatClampNeg) :: st) h c1 s1 | _ => False) : mZ p l e R s m args below meth c Qf D kA ro A nL n0 ad0 pc lo (.int j :: .ref a :: st) h c1 s1 := by
  subst hl
  split at q
  · rename_i n f ha
    exact ⟨q.2.1, q.2.2.1, fun ad H locs ls hI hP hD hS hl => va_iald hx hb hK hP a 1 (mWs_at ha) rfl q.1 hd (q.2.2.2 ad H locs ls hI hP hD hS hl)⟩
  · exact q.elim
theorem z_baload {a : Nat} {j : Int32} (hx : p.tables.exec = Jvm.exec) (hb : c.code = cc) (hK : va_K D mCl (mTys kA) s) (hd : decode cc pc = .ok (.baload, len)) (hl : len = 1)
    (q : match mAt h a with | some (.inl (.byte, n, .inl f)) => vp_in j n ∧ mZ p l e R s m args below meth c Qf D kA ro A nL n0 ad0 (pc + len) lo (.int (f j.toNatClampNeg) :: st) h c1 s1 | _ => False) : mZ p l e R s m args below meth c Qf D kA ro A nL n0 ad0 pc lo (.int j :: .ref a :: st) h c1 s1 := by
  subst hl
  split at q
  · rename_i n f ha
    exact ⟨q.2.1, q.2.2.1, fun ad H locs ls hI hP hD hS hl => va_bald hx hb hK hP a 0 (mWs_at ha) rfl q.1 hd (q.2.2.2 ad H locs ls hI hP hD hS hl)⟩
  · exact q.elim
theorem z_laload {a : Nat} {j : Int32} (hx : p.tables.exec = Jvm.exec) (hb : c.code = cc) (hK : va_K D mCl (mTys kA) s) (hd : decode cc pc = .ok (.laload, len)) (hl : len = 1)
    (q : match mAt h a with | some (.inl (.long, n, .inr (.inl f))) => vp_in j n ∧ mZ p l e R s m args below meth c Qf D kA ro A nL n0 ad0 (pc + len) lo (.long (f j.toNatClampNeg) :: st) h c1 s1 | _ => False) : mZ p l e R s m args below meth c Qf D kA ro A nL n0 ad0 pc lo (.int j :: .ref a :: st) h c1 s1 := by
  subst hl
  split at q
  · rename_i n f ha
    exact ⟨q.2.1, q.2.2.1, fun ad H locs ls hI hP hD hS hl => va_lald hx hb hK hP a 2 (mWs_at ha) rfl q.1 hd (q.2.2.2 ad H locs ls hI hP hD hS hl)⟩
  · exact q.elim
theorem z_iastore {a : Nat} {j : Int32} {x : Int32} (hx : p.tables.exec = Jvm.exec) (hb : c.code = cc) (hK : va_K D mCl (mTys kA) s) (hd : decode cc pc = .ok (.iastore, len)) (hl : len = 1)
    (q : match mAt h a with | some (.inl (.int, n, .inl f)) => vp_in j n ∧ mZ p l e R s m args below meth c Qf D kA ro A nL n0 ad0 (pc + len) lo st (mPut h a (.inl (.int, n, .inl (upd f j.toNatClampNeg x)))) c1 s1 | _ => False) : mZ p l e R s m args below meth c Qf D kA ro A nL n0 ad0 pc lo (.int x :: .int j :: .ref a :: st) h c1 s1 := by
  subst hl
  split at q
  · rename_i n f ha
    refine ⟨q.2.1, q.2.2.1, fun ad H locs ls hI hP hD hS hl => va_iast hx hb hK hP hD hS a 1 (mWs_at ha) rfl q.1 hd (fun H1 locs1 g1 g2 g3 => ?_)⟩
    
    have e1 := mWs_put kA ad ro h a (.inl (.int, n, .inl (upd f j.toNatClampNeg x)))
    have g1 : va_P D mCl ((mWs kA ad ro h).set a (ad a, mE kA ad ro (.inl (.int, n, .inl (upd f j.toNatClampNeg x))))) H1 := g1
    have g2 : va_D A ((mWs kA ad ro h).set a (ad a, mE kA ad ro (.inl (.int, n, .inl (upd f j.toNatClampNeg x))))) := g2
    rw [e1] at g1 g2
    exact q.2.2.2 ad H1 locs1 ls (hI.put _ _) g1 g2 g3 hl
  · exact q.elim
theorem z_bastore {a : Nat} {j : Int32} {x : Int32} (hx : p.tables.exec = Jvm.exec) (hb : c.code = cc) (hK : va_K D mCl (mTys kA) s) (hd : decode cc pc = .ok (.bastore, len)) (hl : len = 1)
    (q : match mAt h a with | some (.inl (.byte, n, .inl f)) => vp_in j n ∧ mZ p l e R s m args below meth c Qf D kA ro A nL n0 ad0 (pc + len) lo st (mPut h a (.inl (.byte, n, .inl (upd f j.toNatClampNeg x.toInt8.toInt32)))) c1 s1 | _ => False) : mZ p l e R s m args below meth c Qf D kA ro A nL n0 ad0 pc lo (.int x :: .int j :: .ref a :: st) h c1 s1 := by
  subst hl
  split at q
  · rename_i n f ha
    refine ⟨q.2.1, q.2.2.1, fun ad H locs ls hI hP hD hS hl => va_bast hx hb hK hP hD hS a 0 (mWs_at ha) rfl q.1 hd (fun H1 locs1 g1 g2 g3 => ?_)⟩
    rw [vp_nar_byte] at g1 g2
    have e1 := mWs_put kA ad ro h a (.inl (.byte, n, .inl (upd f j.toNatClampNeg x.toInt8.toInt32)))
    have g1 : va_P D mCl ((mWs kA ad ro h).set a (ad a, mE kA ad ro (.inl (.byte, n, .inl (upd f j.toNatClampNeg x.toInt8.toInt32))))) H1 := g1
    have g2 : va_D A ((mWs kA ad ro h).set a (ad a, mE kA ad ro (.inl (.byte, n, .inl (upd f j.toNatClampNeg x.toInt8.toInt32))))) := g2
    rw [e1] at g1 g2
    exact q.2.2.2 ad H1 locs1 ls (hI.put _ _) g1 g2 g3 hl
  · exact q.elim
theorem z_lastore {a : Nat} {j : Int32} {x : Int64} (hx : p.tables.exec = Jvm.exec) (hb : c.code = cc) (hK : va_K D mCl (mTys kA) s) (hd : decode cc pc = .ok (.lastore, len)) (hl : len = 1)
    (q : match mAt h a with | some (.inl (.long, n, .inr (.inl f))) => vp_in j n ∧ mZ p l e R s m args below meth c Qf D kA ro A nL n0 ad0 (pc + len) lo st (mPut h a (.inl (.long, n, .inr (.inl (vp_updL f j.toNatClampNeg x))))) c1 s1 | _ => False) : mZ p l e R s m args below meth c Qf D kA ro A nL n0 ad0 pc lo (.long x :: .int j :: .ref a :: st) h c1 s1 := by
  subst hl
  split at q
  · rename_i n f ha
    refine ⟨q.2.1, q.2.2.1, fun ad H locs ls hI hP hD hS hl => va_last hx hb hK hP hD hS a 2 (mWs_at ha) rfl q.1 hd (fun H1 locs1 g1 g2 g3 => ?_)⟩
    
    have e1 := mWs_put kA ad ro h a (.inl (.long, n, .inr (.inl (vp_updL f j.toNatClampNeg x))))
    have g1 : va_P D mCl ((mWs kA ad ro h).set a (ad a, mE kA ad ro (.inl (.long, n, .inr (.inl (vp_updL f j.toNatClampNeg x)))))) H1 := g1
    have g2 : va_D A ((mWs kA ad ro h).set a (ad a, mE kA ad ro (.inl (.long, n, .inr (.inl (vp_updL f j.toNatClampNeg x)))))) := g2
    rw [e1] at g1 g2
    exact q.2.2.2 ad H1 locs1 ls (hI.put _ _) g1 g2 g3 hl
  · exact q.elim
theorem z_iaload0 {j : Int32} (hx : p.tables.exec = Jvm.exec) (hb : c.code = cc) (hX : mCx X ro A s s.heap) (hd : decode cc pc = .ok (.iaload, len)) (hl : len = 1) (q : vp_in j X.1 ∧ mZ p l e R s m args below meth c Qf D kA ro A nL n0 ad0 (pc + len) lo (.int (X.2 j.toNatClampNeg) :: st) h c1 s1) : mZ p l e R s m args below meth c Qf D kA ro A nL n0 ad0 pc lo (.int j :: .float 0 :: st) h c1 s1 := by
  subst hl
  exact ⟨q.2.1, q.2.2.1, fun ad H locs ls hI hP hD hS hl => va_ti hx hb hX.1 hS q.1 rfl hd (q.2.2.2 ad H locs ls hI hP hD hS hl)⟩
theorem z_laload1 {j : Int32} (hx : p.tables.exec = Jvm.exec) (hb : c.code = cc) (hX : mCx X ro A s s.heap) (hd : decode cc pc = .ok (.laload, len)) (hl : len = 1) (q : vp_in j 16 ∧ mZ p l e R s m args below meth c Qf D kA ro A nL n0 ad0 (pc + len) lo (.long (mFive j.toNatClampNeg) :: st) h c1 s1) : mZ p l e R s m args below meth c Qf D kA ro A nL n0 ad0 pc lo (.int j :: .float 1 :: st) h c1 s1 := by
  subst hl
  exact ⟨q.2.1, q.2.2.1, fun ad H locs ls hI hP hD hS hl => va_tl hx hb hX.2.1 hS q.1 rfl hd (q.2.2.2 ad H locs ls hI hP hD hS hl)⟩
theorem z_alen0 (hx : p.tables.exec = Jvm.exec) (hb : c.code = cc) (hX : mCx X ro A s s.heap) (hd : decode cc pc = .ok (.arraylength, len)) (hl : len = 1) (q : mZ p l e R s m args below meth c Qf D kA ro A nL n0 ad0 (pc + len) lo (.int (Int32.ofNat X.1) :: st) h c1 s1) : mZ p l e R s m args below meth c Qf D kA ro A nL n0 ad0 pc lo (.float 0 :: st) h c1 s1 := by
  subst hl
  exact ⟨q.1, q.2.1, fun ad H locs ls hI hP hD hS hl => va_tlen hx hb hX.1 hS rfl hd (q.2.2 ad H locs ls hI hP hD hS hl)⟩
theorem z_alen1 (hx : p.tables.exec = Jvm.exec) (hb : c.code = cc) (hX : mCx X ro A s s.heap) (hd : decode cc pc = .ok (.arraylength, len)) (hl : len = 1) (q : mZ p l e R s m args below meth c Qf D kA ro A nL n0 ad0 (pc + len) lo (.int (Int32.ofNat 16) :: st) h c1 s1) : mZ p l e R s m args below meth c Qf D kA ro A nL n0 ad0 pc lo (.float 1 :: st) h c1 s1 := by
  subst hl
  exact ⟨q.1, q.2.1, fun ad H locs ls hI hP hD hS hl => va_tlen hx hb hX.2.1 hS rfl hd (q.2.2 ad H locs ls hI hP hD hS hl)⟩
/-- the heap's arrays are of the three kinds -/
def mKinds (h : mH) : Prop := ∀ (i : Nat) (ty : FieldType) (a : vp_A), mAt h i = some (.inl (ty, a)) → ty = .byte ∨ ty = .int ∨ ty = .long
theorem z_alen {a : Nat} (hx : p.tables.exec = Jvm.exec) (hb : c.code = cc) (hK : va_K D mCl (mTys kA) s) (hd : decode cc pc = .ok (.arraylength, len)) (hl : len = 1)
    (q : match mAt h a with | some (.inl (.byte, n, _)) => mZ p l e R s m args below meth c Qf D kA ro A nL n0 ad0 (pc + len) lo (.int (Int32.ofNat n) :: st) h c1 s1 | some (.inl (.int, n, _)) => mZ p l e R s m args below meth c Qf D kA ro A nL n0 ad0 (pc + len) lo (.int (Int32.ofNat n) :: st) h c1 s1 | some (.inl (.long, n, _)) => mZ p l e R s m args below meth c Qf D kA ro A nL n0 ad0 (pc + len) lo (.int (Int32.ofNat n) :: st) h c1 s1 | _ => False) : mZ p l e R s m args below meth c Qf D kA ro A nL n0 ad0 pc lo (.ref a :: st) h c1 s1 := by
  subst hl
  split at q
  · rename_i n f ha
    exact ⟨q.1, q.2.1, fun ad H locs ls hI hP hD hS hl => va_alen hx hb hK hP a 0 (mWs_at ha) rfl rfl hd (q.2.2 ad H locs ls hI hP hD hS hl)⟩
  · rename_i n f ha
    exact ⟨q.1, q.2.1, fun ad H locs ls hI hP hD hS hl => va_alen hx hb hK hP a 1 (mWs_at ha) rfl rfl hd (q.2.2 ad H locs ls hI hP hD hS hl)⟩
  · rename_i n f ha
    exact ⟨q.1, q.2.1, fun ad H locs ls hI hP hD hS hl => va_alen hx hb hK hP a 2 (mWs_at ha) rfl rfl hd (q.2.2 ad H locs ls hI hP hD hS hl)⟩
  · exact q.elim
theorem z_newa_byte {n : Int32} (hx : p.tables.exec = Jvm.exec) (hb : c.code = cc) (hts : ∀ w ∈ Ts, w.before args s = true) (hK : va_K D mCl (mTys kA) s) (hA : ∀ q, s.heap.size ≤ q → A q) (hd : decode cc pc = .ok (.newarray .byte, len)) (hl : len = 2) (hw : Cond.arrayClass .byte ∈ Ts)
    (q : ¬ n < 0 ∧ n.toNatClampNeg ≤ 65536 ∧ (lo.all (mOk h.length) && st.all (mOk h.length) && h.all (mOkC h.length)) = true ∧ mZ p l e R s m args below meth c Qf D kA ro A nL n0 ad0 (pc + len) lo (.ref h.length :: st) (h ++ [.inl (.byte, n.toNatClampNeg, .inl (fun _ => 0))]) (c1 + 1) (s1 + n.toNatClampNeg)) : mZ p l e R s m args below meth c Qf D kA ro A nL n0 ad0 pc lo (.int n :: st) h c1 s1 := by
  subst hl
  obtain ⟨q1, q2, q3, q4, q5, q6⟩ := q
  simp only [Bool.and_eq_true] at q3
  obtain ⟨⟨k1, k2⟩, k3⟩ := q3
  refine ⟨by omega, by omega, fun ad H locs ls hI hP hD hS hl => ?_⟩
  refine va_newaK (N := n.toNatClampNeg) hx hb (atype := .byte) (hts _ hw) (g := F0 m pc ls ((.int n :: st).map (mp ad ro))) rfl hd rfl q1 rfl (by show _ * componentBytes .byte ≤ _; simp only [componentBytes]; omega) (by omega) (by omega) rfl (fun H1 cA e1 z1 o1 hAr hfc => ?_)
  have hcA : cA = kA .byte := by
    have h1 := (hK.2 0 _ rfl).2
    exact Option.some.inj (hfc.symm.trans h1)
  subst hcA
  have e2 : mWs kA (mUp ad h.length H.size) ro (h ++ [.inl (.byte, n.toNatClampNeg, .inl (fun _ => 0))]) = mWs kA ad ro h ++ [(H.size, .inl (kA .byte, n.toNatClampNeg, .inl (fun _ => 0)))] := mWs_push k3
  have hP1 : va_P D mCl (mWs kA (mUp ad h.length H.size) ro (h ++ [.inl (.byte, n.toNatClampNeg, .inl (fun _ => 0))])) H1 := by
    rw [e2]
    refine va_P.app (hP.kept (fun k y hy => o1 y.1 ((hP k y hy).lt))) (fun j y hy => ?_)
    match j, hy with
    | 0, hy => cases hy; exact e1
    | j + 1, hy => simp at hy
  have hD1 : va_D A (mWs kA (mUp ad h.length H.size) ro (h ++ [.inl (.byte, n.toNatClampNeg, .inl (fun _ => 0))])) := by
    rw [e2]
    exact hD.push hP rfl (hA _ hS.1)
  have hS1 : va_S A s.heap H1 locs := ⟨by rw [z1]; exact Nat.le_succ_of_le hS.1, fun x h1 h2 => by rw [o1 x (Nat.lt_of_lt_of_le h1 hS.1)]; exact hS.2.1 x h1 h2, hS.2.2⟩
  have k9 := q6 (mUp ad h.length H.size) H1 locs ls (hI.push _ _) hP1 hD1 hS1 (hl.up k1)
  have e3 : ((Value.ref h.length :: st).map (mp (mUp ad h.length H.size) ro)) = Value.ref H.size :: st.map (mp ad ro) := by
    rw [List.map_cons, mp_up_l k2]
    show Value.ref (mUp ad h.length H.size h.length) :: _ = _
    simp [mUp]
  rw [e3] at k9
  exact k9
theorem z_newa_int {n : Int32} (hx : p.tables.exec = Jvm.exec) (hb : c.code = cc) (hts : ∀ w ∈ Ts, w.before args s = true) (hK : va_K D mCl (mTys kA) s) (hA : ∀ q, s.heap.size ≤ q → A q) (hd : decode cc pc = .ok (.newarray .int, len)) (hl : len = 2) (hw : Cond.arrayClass .int ∈ Ts)
    (q : ¬ n < 0 ∧ n.toNatClampNeg ≤ 65536 ∧ (lo.all (mOk h.length) && st.all (mOk h.length) && h.all (mOkC h.length)) = true ∧ mZ p l e R s m args below meth c Qf D kA ro A nL n0 ad0 (pc + len) lo (.ref h.length :: st) (h ++ [.inl (.int, n.toNatClampNeg, .inl (fun _ => 0))]) (c1 + 1) (s1 + n.toNatClampNeg)) : mZ p l e R s m args below meth c Qf D kA ro A nL n0 ad0 pc lo (.int n :: st) h c1 s1 := by
  subst hl
  obtain ⟨q1, q2, q3, q4, q5, q6⟩ := q
  simp only [Bool.and_eq_true] at q3
  obtain ⟨⟨k1, k2⟩, k3⟩ := q3
  refine ⟨by omega, by omega, fun ad H locs ls hI hP hD hS hl => ?_⟩
  refine va_newaK (N := n.toNatClampNeg) hx hb (atype := .int) (hts _ hw) (g := F0 m pc ls ((.int n :: st).map (mp ad ro))) rfl hd rfl q1 rfl (by show _ * componentBytes .int ≤ _; simp only [componentBytes]; omega) (by omega) (by omega) rfl (fun H1 cA e1 z1 o1 hAr hfc => ?_)
  have hcA : cA = kA .int := by
    have h1 := (hK.2 1 _ rfl).2
    exact Option.some.inj (hfc.symm.trans h1)
  subst hcA
  have e2 : mWs kA (mUp ad h.length H.size) ro (h ++ [.inl (.int, n.toNatClampNeg, .inl (fun _ => 0))]) = mWs kA ad ro h ++ [(H.size, .inl (kA .int, n.toNatClampNeg, .inl (fun _ => 0)))] := mWs_push k3
  have hP1 : va_P D mCl (mWs kA (mUp ad h.length H.size) ro (h ++ [.inl (.int, n.toNatClampNeg, .inl (fun _ => 0))])) H1 := by
    rw [e2]
    refine va_P.app (hP.kept (fun k y hy => o1 y.1 ((hP k y hy).lt))) (fun j y hy => ?_)
    match j, hy with
    | 0, hy => cases hy; exact e1
    | j + 1, hy => simp at hy
  have hD1 : va_D A (mWs kA (mUp ad h.length H.size) ro (h ++ [.inl (.int, n.toNatClampNeg, .inl (fun _ => 0))])) := by
    rw [e2]
    exact hD.push hP rfl (hA _ hS.1)
  have hS1 : va_S A s.heap H1 locs := ⟨by rw [z1]; exact Nat.le_succ_of_le hS.1, fun x h1 h2 => by rw [o1 x (Nat.lt_of_lt_of_le h1 hS.1)]; exact hS.2.1 x h1 h2, hS.2.2⟩
  have k9 := q6 (mUp ad h.length H.size) H1 locs ls (hI.push _ _) hP1 hD1 hS1 (hl.up k1)
  have e3 : ((Value.ref h.length :: st).map (mp (mUp ad h.length H.size) ro)) = Value.ref H.size :: st.map (mp ad ro) := by
    rw [List.map_cons, mp_up_l k2]
    show Value.ref (mUp ad h.length H.size h.length) :: _ = _
    simp [mUp]
  rw [e3] at k9
  exact k9
theorem z_newa_long {n : Int32} (hx : p.tables.exec = Jvm.exec) (hb : c.code = cc) (hts : ∀ w ∈ Ts, w.before args s = true) (hK : va_K D mCl (mTys kA) s) (hA : ∀ q, s.heap.size ≤ q → A q) (hd : decode cc pc = .ok (.newarray .long, len)) (hl : len = 2) (hw : Cond.arrayClass .long ∈ Ts)
    (q : ¬ n < 0 ∧ n.toNatClampNeg ≤ 65536 ∧ (lo.all (mOk h.length) && st.all (mOk h.length) && h.all (mOkC h.length)) = true ∧ mZ p l e R s m args below meth c Qf D kA ro A nL n0 ad0 (pc + len) lo (.ref h.length :: st) (h ++ [.inl (.long, n.toNatClampNeg, .inr (.inl (fun _ => 0)))]) (c1 + 1) (s1 + n.toNatClampNeg)) : mZ p l e R s m args below meth c Qf D kA ro A nL n0 ad0 pc lo (.int n :: st) h c1 s1 := by
  subst hl
  obtain ⟨q1, q2, q3, q4, q5, q6⟩ := q
  simp only [Bool.and_eq_true] at q3
  obtain ⟨⟨k1, k2⟩, k3⟩ := q3
  refine ⟨by omega, by omega, fun ad H locs ls hI hP hD hS hl => ?_⟩
  refine va_newaK (N := n.toNatClampNeg) hx hb (atype := .long) (hts _ hw) (g := F0 m pc ls ((.int n :: st).map (mp ad ro))) rfl hd rfl q1 rfl (by show _ * componentBytes .long ≤ _; simp only [componentBytes]; omega) (by omega) (by omega) rfl (fun H1 cA e1 z1 o1 hAr hfc => ?_)
  have hcA : cA = kA .long := by
    have h1 := (hK.2 2 _ rfl).2
    exact Option.some.inj (hfc.symm.trans h1)
  subst hcA
  have e2 : mWs kA (mUp ad h.length H.size) ro (h ++ [.inl (.long, n.toNatClampNeg, .inr (.inl (fun _ => 0)))]) = mWs kA ad ro h ++ [(H.size, .inl (kA .long, n.toNatClampNeg, .inr (.inl (fun _ => 0))))] := mWs_push k3
  have hP1 : va_P D mCl (mWs kA (mUp ad h.length H.size) ro (h ++ [.inl (.long, n.toNatClampNeg, .inr (.inl (fun _ => 0)))])) H1 := by
    rw [e2]
    refine va_P.app (hP.kept (fun k y hy => o1 y.1 ((hP k y hy).lt))) (fun j y hy => ?_)
    match j, hy with
    | 0, hy => cases hy; exact e1
    | j + 1, hy => simp at hy
  have hD1 : va_D A (mWs kA (mUp ad h.length H.size) ro (h ++ [.inl (.long, n.toNatClampNeg, .inr (.inl (fun _ => 0)))])) := by
    rw [e2]
    exact hD.push hP rfl (hA _ hS.1)
  have hS1 : va_S A s.heap H1 locs := ⟨by rw [z1]; exact Nat.le_succ_of_le hS.1, fun x h1 h2 => by rw [o1 x (Nat.lt_of_lt_of_le h1 hS.1)]; exact hS.2.1 x h1 h2, hS.2.2⟩
  have k9 := q6 (mUp ad h.length H.size) H1 locs ls (hI.push _ _) hP1 hD1 hS1 (hl.up k1)
  have e3 : ((Value.ref h.length :: st).map (mp (mUp ad h.length H.size) ro)) = Value.ref H.size :: st.map (mp ad ro) := by
    rw [List.map_cons, mp_up_l k2]
    show Value.ref (mUp ad h.length H.size h.length) :: _ = _
    simp [mUp]
  rw [e3] at k9
  exact k9
end
