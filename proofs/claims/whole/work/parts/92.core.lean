theorem mL.kill {ad ro : Nat → Nat} {ls' : Array Slot} {nL : Nat} {lo : List Value} {l : List (Nat × Value)} {j : Nat} {v : Value} (hlen : lo.length ≤ nL) (h2 : ∀ (j : Nat) (v : Value), mAt lo j = some v → v ≠ mU → (j, mp ad ro v) ∈ l)
    (h : lv_has ls' nL ((j, v) :: l.filter (fun q => !(q.1 == j) && !(q.1 + 1 == j && q.2.category == 2)))) : mL ad ro ls' nL (mSt1 lo j mU) := by
  refine ⟨_, h, by rw [mSt1_len]; exact hlen, fun i w hi hw => ?_⟩
  rcases mSt1_get lo j mU i w hi hw with ⟨q1, q2⟩ | ⟨q1, q2, q3⟩
  · exact absurd q2 hw
  · refine List.mem_cons_of_mem _ (List.mem_filter.mpr ⟨h2 i w q2 hw, ?_⟩)
    simp only [mp_cat]
    by_cases e : i + 1 = j
    · have : ¬ w.category = 2 := fun z => q3 ⟨e, z⟩
      simp [q1, e, this]
    · simp [q1, e]
theorem mEx_fit {e0 : Nat} (h : e0 < 4) : Bundle.fit (mEx e0) = true := by
  match e0, h with
  | 0, _ => decide +kernel
  | 1, _ => decide +kernel
  | 2, _ => decide +kernel
  | 3, _ => decide +kernel
theorem mSup_fit : ∀ n ∈ mSup, Bundle.fit n = true := by decide +kernel
set_option maxHeartbeats 4000000 in
theorem mCore {l : Launch} {X : mX0} {Ts : List Cond} {mt : Nat → mMt} {d : Nat} {G : mG} {t : mMt} {k : Nat → mI} {hs : mHd} {as : List Value} {S : mH} {r : Option Value ⊕ Nat} {S' : mH} {dc ds : Nat} (hG : mGood Ts) (hl : l.stackTraces = false) (hrows : mRowsOk Ts mt t k) (hhs : mHsOk t.1.cls Ts t.2.1 t.2.2.1 hs t.2.2.2.2) (IH : mIH l X Ts mt d G) (hf : mFitA as t.2.2.1 = true)
    (q : mWP d X G (k, t.2.2.1, hs) (fun r1 S1 c1 s1 => r1 = r ∧ S1 = S' ∧ c1 = dc ∧ s1 = ds) 0 (mEnt as t.2.2.1) [] S 0 0)
    {p : Program} {e : Env} {s : State} {m : MethodId} {below : List Frame} {meth : Method} {c : Code} {D : va_G} {kA : FieldType → ClassId} {ro ad : Nat → Nat} (hx : p.tables.exec = Jvm.exec) (hb : c.code = t.2.1) (hml : c.maxLocals = t.2.2.1) (hown : s.vm.findClass t.1.cls = some m.cls) (hts : ∀ w ∈ Ts, w.before (as.map (mp ad ro)).toArray s = true)
    (hr : meth.sig.returnType = t.2.2.2.1) (hlocks : meth.locks = false) (hnm : meth.name = t.1.name) (htab : c.exceptionTable.toList = tableOf t.2.2.2.2) (hPre : mPre X D kA ro ad S s.heap.size s) :
    W p l e ({ frames := d, cells := dc, slots := ds, locals := 42 * d }) s m (as.map (mp ad ro)).toArray below meth c s.heap [] 0 0 (vx_MQ below (mQc D kA ro ad S s.heap.size r S') (mXc D kA ro ad S s.heap.size r S') (as.map (mp ad ro)).toArray s dc ds (va_A (mWs kA ad ro S) s.heap.size)) (entryFrame m (as.map (mp ad ro)).toArray t.2.2.1) := by
  obtain ⟨-, hP, hK, hD0, hX, hT⟩ := hPre
  have hD := hD0.self (sz := s.heap.size)
  have hA : ∀ q, s.heap.size ≤ q → va_A (mWs kA ad ro S) s.heap.size q := fun q h => Or.inr h
  have F : mFx p ({ frames := d, cells := dc, slots := ds, locals := 42 * d }) s m (as.map (mp ad ro)).toArray c D kA ro (va_A (mWs kA ad ro S) s.heap.size) t.2.2.1 t.2.1 X t.1.cls Ts d := ⟨⟨hx, hb, hml, hown, hts⟩, hK, hA, hX, hT, rfl, rfl, hG⟩
  have post : ∀ (ad1 : Nat → Nat) (H : Heap) (locs : List Loc), mI0 S.length ad S' ad1 → va_P D mCl (mWs kA ad1 ro S') H → va_D (va_A (mWs kA ad ro S) s.heap.size) (mWs kA ad1 ro S') → va_S (va_A (mWs kA ad ro S) s.heap.size) s.heap H locs → ∀ u : State, u.heap = H → mPost D kA ro ad S s.heap.size S' s u := fun ad1 H locs hI hP1 hD1 hS u hu => ⟨ad1, hI.2, by rw [hu]; exact hP1, hD1, hS.F hu⟩
  have E : mEnd p l e ({ frames := d, cells := dc, slots := ds, locals := 42 * d }) s m (as.map (mp ad ro)).toArray below meth c (vx_MQ below (mQc D kA ro ad S s.heap.size r S') (mXc D kA ro ad S s.heap.size r S') (as.map (mp ad ro)).toArray s dc ds (va_A (mWs kA ad ro S) s.heap.size)) D kA ro (va_A (mWs kA ad ro S) s.heap.size) S.length ad t.2.1 t.2.2.2.1 (fun r1 S1 c1 s1 => r1 = r ∧ S1 = S' ∧ c1 = dc ∧ s1 = ds) := by
    rintro v h c1 s1 ⟨e1, e2, e3, e4⟩ ad1 H locs hI hP1 hD1 hS pc ls
    subst e2; subst e3; subst e4
    refine ⟨fun g1 g2 hd => ?_, fun x g1 hd g2 => ?_, fun x g1 g2 hd => ?_⟩
    · subst g1
      exact vx_ret (W.vret hx hb (hr.trans g2) (fun u hu hW => ⟨none, e1.symm, rfl, post ad1 H locs hI hP1 hD1 hS u hu⟩) hS.2.2 hd hlocks)
    · subst g1
      rcases g2 with g2 | ⟨g2, g3⟩
      · exact vx_ret (W.iret hx hb (hr.trans g2) (fun u hu hW => ⟨_, e1.symm, rfl, post ad1 H locs hI hP1 hD1 hS u hu⟩) hS.2.2 hd hlocks)
      · exact vx_ret (W.zret hx hb (hr.trans g2) (by rcases g3 with rfl | rfl <;> rfl) (fun u hu hW => ⟨_, e1.symm, rfl, post ad1 H locs hI hP1 hD1 hS u hu⟩) hS.2.2 hd hlocks)
    · subst g1
      exact vx_ret (W.lret hx hb (hr.trans g2) (fun u hu hW => ⟨_, e1.symm, rfl, post ad1 H locs hI hP1 hD1 hS u hu⟩) hS.2.2 hd hlocks)
  have B : mHb p l e ({ frames := d, cells := dc, slots := ds, locals := 42 * d }) s m (as.map (mp ad ro)).toArray below meth c (vx_MQ below (mQc D kA ro ad S s.heap.size r S') (mXc D kA ro ad S s.heap.size r S') (as.map (mp ad ro)).toArray s dc ds (va_A (mWs kA ad ro S) s.heap.size)) D kA ro (va_A (mWs kA ad ro S) s.heap.size) t.2.2.1 S.length ad hs (fun r1 S1 c1 s1 => r1 = r ∧ S1 = S' ∧ c1 = dc ∧ s1 = ds) := by
    refine ⟨?_, ?_, ?_⟩
    · rintro r1 h c1 s1 ⟨-, -, e3, e4⟩
      exact ⟨Nat.le_of_eq e3, Nat.le_of_eq e4⟩
    · rintro pc e0 h c1 s1 hbare he4 ⟨e1, e2, e3, e4⟩ ad1 H locs ls rest q9 ce hI hP1 hD1 hS hce hcv hcl
      subst e2; subst e3; subst e4
      exact vx_out (by rw [htab]; exact mBare_ok hhs hbare) hlocks hce hcv hcl (fun u hu hal => ⟨e0, e1.symm, he4, rfl, post ad1 H locs hI hP1 hD1 hS u hu⟩) hS.2.2 (Nat.le_refl _) (Nat.le_refl _)
    · intro pc lo e0 pc' j he4 ht H locs c1 s1 ad1 ls rest q9 ce hlm hce hcv hcl kk
      obtain ⟨pre, x, suf, k1, k2, k3, k4, k5, k6, k7⟩ := mTake_ok hhs ht
      refine xc_catch (name := mEx e0) hown pre x suf (by rw [htab]; exact k1) (fun z hz => (k2 z hz).imp id (fun ⟨h0, e1, h4, hne, hw⟩ => ⟨h0, mEx e1, hts _ hw, hT.2.2.2.2.1 e0 e1 he4 h4 hne⟩)) k3 k4 (hts _ k5) (va_Nw.use rfl (hT.2.2.1 e0 he4)) hce hcv hcl ?_
      obtain ⟨l0, g1, g0, g2⟩ := hlm
      rcases k7 with ⟨kf, hd, hkf, hpc⟩ | ⟨hd, hpc⟩
      · subst hpc
        exact lv_astore_n hx hb hd hkf g1 k6 rfl (fun ls' h' => kk ls' (mL.kill g0 g2 h'))
      · subst hpc
        exact lv_astore hx hb hd g1 k6 rfl (fun ls' h' => kk ls' (mL.kill g0 g2 h'))
  have hThr : ∀ (ik e0 len pc : Nat) (lo st : List Value) (h : mH) (cv : Value) {c1 s1 : Nat}, (decode t.2.1 pc = .ok (.new ik, len) ∧ okI t.1.cls Ts mt (t.1.name == "<init>") t.2.2.2.1 t.2.1 pc (.new ik) len [e0] cv) → (5 < d ∧ mCat st ≤ 8 ∧ mBare (pc + 9) hs = true ∧ (fun r1 S1 c1 s1 => r1 = r ∧ S1 = S' ∧ c1 = dc ∧ s1 = ds) (Sum.inr e0 : Option Value ⊕ Nat) h (c1 + 1) (s1 + 6)) →
      mZ p l e ({ frames := d, cells := dc, slots := ds, locals := 42 * d }) s m (as.map (mp ad ro)).toArray below meth c (vx_MQ below (mQc D kA ro ad S s.heap.size r S') (mXc D kA ro ad S s.heap.size r S') (as.map (mp ad ro)).toArray s dc ds (va_A (mWs kA ad ro S) s.heap.size)) D kA ro (va_A (mWs kA ad ro S) s.heap.size) t.2.2.1 S.length ad pc lo st h c1 s1 := by
    rintro ik e0 len pc lo st h cv c1 s1 ⟨d0, he4, isx, ic, hsx, hownR, d3, d4, d6, d9, hlen, w1, w2, w3, w4, w5⟩ ⟨hd5, hcat, hbare, e1, e2, e3, e4⟩
    subst hlen
    subst e2
    refine ⟨by show c1 ≤ dc; omega, by show s1 ≤ ds; omega, fun ad1 H locs ls hI hP1 hD1 hS hlm => ?_⟩
    obtain ⟨tx, sa, hstr⟩ := hT.2.2.2.1 isx hsx
    obtain ⟨l0, g1, -⟩ := hlm
    refine vx_throwS (own := t.1.cls) (names := mSup) (mc := dc) (ms := ds) hx hb hl hown (mEx_fit he4) mSup_fit (hts _ w1) (hts _ w2) (by rw [hownR]; exact hstr) (vx_hat (fun w hw => hts w (w3 w hw)) w4 (vx_c (va_Nw.use rfl (hT.2.2.1 e0 he4)) (fun w hw => by
      obtain ⟨Y, hY, rfl⟩ := List.mem_map.mp hw
      exact va_Nw.use rfl (hT.2.2.2.2.2 Y hY)))) w5 hX.2.2.2.1 hX.2.2.2.2 hS (by rw [hml]; exact g1.1) d0 d3 d4 d6 d9 (by rw [htab]; exact mBare_ok hhs hbare) hd5 (by rw [mCat_mp]; show mCat st + (13 * (2 + 1) + 43) ≤ 42 * d; omega) (by show c1 + 1 ≤ dc; omega) (by show s1 + 6 ≤ ds; omega) hlocks (fun u hal hz hk => ?_) hS.2.2 (by omega) (by omega)
    refine ⟨e0, e1.symm, he4, rfl, ad1, hI.2, hP1.kept (fun k9 y hy => hk y.1 ((hP1 k9 y hy).lt)), hD1, Nat.le_trans hS.1 hz, fun x h1 h2 => ?_⟩
    rw [hk x (Nat.lt_of_lt_of_le h1 hS.1)]
    exact hS.2.1 x h1 h2
  have Z := q _ (fun pc lo st h c1 s1 hq => by
    rcases hrows pc with hn | hok
    · rw [show ((k, t.2.2.1, hs) : mM).1 pc = mNop from hn] at hq
      exact hq.elim
    · exact mStep_sound F B E (fun z => hnm.trans (by simpa using z)) IH hThr hok hq)
  rw [lg_entry_eq]
  exact Z.2.2 ad s.heap [] _ ⟨Nat.le_refl _, fun _ _ => rfl⟩ hP hD va_S.rf (mEnt_mL ad ro hf)
theorem mBody {l : Launch} {X : mX0} {Ts : List Cond} {mt : Nat → mMt} {d : Nat} {G : mG} {t : mMt} {k : Nat → mI} {hs : mHd} {as : List Value} {S : mH} {r : Option Value ⊕ Nat} {S' : mH} {dc ds : Nat} (hG : mGood Ts) (hl : l.stackTraces = false) (hpl : plainName t.1.cls = true) (hrows : mRowsOk Ts mt t k) (hhs : mHsOk t.1.cls Ts t.2.1 t.2.2.1 hs t.2.2.2.2) (IH : mIH l X Ts mt d G) (hf : mFitA as t.2.2.1 = true)
    (q : mWP d X G (k, t.2.2.1, hs) (fun r1 S1 c1 s1 => r1 = r ∧ S1 = S' ∧ c1 = dc ∧ s1 = ds) 0 (mEnt as t.2.2.1) [] S 0 0) : mCon l X t.1 (mWd t :: Ts) d as S r S' dc ds := by
  intro D kA ro ad sz
  cases ht : t.2.2.2.2 with
  | nil =>
    rw [mWd_nil ht]
    refine vx_ofW (cc := t.2.1) (maxL := t.2.2.1) (ret := t.2.2.2.1) hpl rfl ?_
    intro p e s m args below meth c s₁ Bd hml htb hv
    obtain ⟨rfl, hpre⟩ := hv
    have hsz : s.heap.size = sz := hpre.1
    subst hsz
    have hts := atoms_spec Bd.pre
    exact mCore hG hl hrows hhs IH hf q Bd.exec Bd.bytes hml (findClass_of_methodNamed Bd.named) (fun w hw => hts w (List.mem_cons_of_mem _ hw)) Bd.returns Bd.notSynchronized (name_of_methodNamed Bd.named Bd.method).1 (by
      rw [ht]
      cases hc : c.exceptionTable.toList with
      | nil => rfl
      | cons x y => exact (htb x (by rw [hc]; exact List.mem_cons_self)).elim) hpre
  | cons x hh =>
    rw [mWd_cons ht]
    refine vx_ofWH (cc := t.2.1) (maxL := t.2.2.1) (ret := t.2.2.2.1) hpl rfl ?_
    intro p e s m args below meth c s₁ Bd hml hv
    obtain ⟨rfl, hpre⟩ := hv
    have hsz : s.heap.size = sz := hpre.1
    subst hsz
    have hts := atoms_spec Bd.pre
    exact mCore hG hl hrows hhs IH hf q Bd.exec Bd.bytes hml (findClass_of_methodNamed Bd.named) (fun w hw => hts w (List.mem_cons_of_mem _ hw)) Bd.returns Bd.notSynchronized (name_of_methodNamed Bd.named Bd.method).1 (by
      rw [ht]
      exact vx_table (x := t.1) Bd (hts _ List.mem_cons_self)) hpre
/-- the program's rows and tables are true of the code -/
def mProgOk (Ts : List Cond) (mt : Nat → mMt) (P : Nat → mM) (N : Nat) : Prop := (∀ y, y < N → plainName (mt y).1.cls = true ∧ (P y).2.1 = (mt y).2.2.1 ∧ mRowsOk Ts mt (mt y) (P y).1 ∧ mHsOk (mt y).1.cls Ts (mt y).2.1 (mt y).2.2.1 (P y).2.2 (mt y).2.2.2.2) ∧ ∀ y, N ≤ y → ∀ pc, (P y).1 pc = mNop
theorem mSound {l : Launch} {X : mX0} {Ts : List Cond} {mt : Nat → mMt} {P : Nat → mM} {N : Nat} (hG : mGood Ts) (hl : l.stackTraces = false) (hok : mProgOk Ts mt P N) : ∀ d, mIH l X Ts mt d (mCall P X d)
  | 0 => fun _ _ _ _ _ _ _ q => q.elim
  | d + 1 => fun y as S r S' dc ds q => by
    refine ⟨d, rfl, ?_⟩
    obtain ⟨hf, q⟩ := q
    by_cases hy : y < N
    · obtain ⟨h1, h2, h3, h4⟩ := hok.1 y hy
      rw [h2] at hf q
      refine mBody hG hl h1 h3 h4 (mSound hG hl hok d) hf ?_
      rw [← h2]
      rw [← h2] at q
      exact q
    · exact (q (fun _ _ _ _ _ _ => False) (fun pc lo st h c1 s1 hq => by
        rw [hok.2 y (by omega) pc] at hq
        exact hq)).elim
