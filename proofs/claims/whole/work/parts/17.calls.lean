section
variable {d : Nat} {X : mX0} {P : Nat → mM} {M : mM} {Q : mQ} {pc : Nat} {lo st : List Value} {h : mH} {c s : Nat}
theorem mCall_in {y : Nat} {as : List Value} {k : Nat → mI} {L : Nat} {hs : mHd} (hp : P y = (k, L, hs)) (n : Nat) (hf : mFitA as L = true) (w : mRun d X (mCall P X d) (k, L, hs) Q n 0 (mEnt as L) [] h 0 0) : mCall P X (d + 1) y as h Q := by
  show mFitA as (P y).2.1 = true ∧ mWP d X (mCall P X d) (P y) Q 0 (mEnt as (P y).2.1) [] h 0 0
  rw [hp]
  exact ⟨hf, mRun_sound n w⟩
/-- a method whose first row is marked -/
theorem mCall_in' {y : Nat} {as : List Value} {k : Nat → mI} {L : Nat} {hs : mHd} (hp : P y = (k, L, hs)) (hf : mFitA as L = true) (w : mWP d X (mCall P X d) (k, L, hs) Q 0 (mEnt as L) [] h 0 0) : mCall P X (d + 1) y as h Q := by
  show mFitA as (P y).2.1 = true ∧ mWP d X (mCall P X d) (P y) Q 0 (mEnt as (P y).2.1) [] h 0 0
  rw [hp]
  exact ⟨hf, w⟩
theorem mWP_run (n : Nat) (w : mRun d X (mCall P X d) M Q n pc lo st h c s) : mWP d X (mCall P X d) M Q pc lo st h c s := mRun_sound n w
theorem mInv_of {hs : mHd} {y n : Nat} {rc : List Value → mH → Option Value ⊕ Nat → Prop} {K : mK} (ρ : List Nat) {S : mH} {as : List Value} (rest : List Value) {r : Option Value ⊕ Nat} {S' : mH} {dc ds : Nat} (hc : ∀ Q' : mQ, Q' r S' dc ds → mCall P X d y as S Q')
    (hst : st = (as.map (mRn ρ)).reverse ++ rest) (hn : as.length = n) (hnd : mNd ρ = true) (hp : ρ.map (fun j => mAt h j) = S.map (fun x => some (mRnC ρ x))) (hok : (as.all (mOk ρ.length) && S.all (mOkC ρ.length)) = true) (hcat : mCat rest ≤ 8) (hrc : rc as S r)
    (hl : S'.length = ρ.length) (hok' : S'.all (mOkC S'.length) = true) {h' : mH} (hb : mBack h ρ S' = h') (k : mAfter hs pc lo rest h' (c + dc) (s + ds) K Q r) : mInv (mCall P X d) hs y n rc pc lo st h c s K Q := by
  refine ⟨ρ, S, as, rest, r, S', dc, ds, hst, hn, hnd, hp, hok, hcat, hrc, hc _ ⟨rfl, rfl, rfl, rfl⟩, Nat.le_of_eq hl.symm, hok', Or.inl hl, ?_⟩
  rw [hb]
  exact k
theorem mWP_cs {kk y n : Nat} {cv : Value} {b : Bool} (he : M.1 pc = (b, .invokestatic kk, 3, [y, n], cv)) (ρ : List Nat) {S : mH} {as : List Value} (rest : List Value) {r : Option Value ⊕ Nat} {S' : mH} {dc ds : Nat} (hc : ∀ Q' : mQ, Q' r S' dc ds → mCall P X d y as S Q')
    (hst : st = (as.map (mRn ρ)).reverse ++ rest) (hn : as.length = n) (hnd : mNd ρ = true) (hp : ρ.map (fun j => mAt h j) = S.map (fun x => some (mRnC ρ x))) (hok : (as.all (mOk ρ.length) && S.all (mOkC ρ.length)) = true) (hcat : mCat rest ≤ 8)
    (hl : S'.length = ρ.length) (hok' : S'.all (mOkC S'.length) = true) {h' : mH} (hb : mBack h ρ S' = h') (k : mAfter M.2.2 pc lo rest h' (c + dc) (s + ds) (mWP d X (mCall P X d) M Q) Q r) : mWP d X (mCall P X d) M Q pc lo st h c s := by
  refine mWP_step ?_
  rw [he]
  exact mInv_of ρ rest hc hst hn hnd hp hok hcat trivial hl hok' hb k
theorem mWP_cn {kk y n z : Nat} {cv : Value} {b : Bool} (he : M.1 pc = (b, .invokestatic kk, 3, [y, n, z], cv)) (ρ : List Nat) {S : mH} {as : List Value} (rest : List Value) {r : Option Value} {S' : mH} {dc ds : Nat} (hc : ∀ Q' : mQ, Q' (.inl r) S' dc ds → mCall P X d y as S Q')
    (hst : st = (as.map (mRn ρ)).reverse ++ rest) (hn : as.length = n) (hnd : mNd ρ = true) (hp : ρ.map (fun j => mAt h j) = S.map (fun x => some (mRnC ρ x))) (hok : (as.all (mOk ρ.length) && S.all (mOkC ρ.length)) = true) (hcat : mCat rest ≤ 8)
    (hl : S'.length = ρ.length) (hok' : S'.all (mOkC S'.length) = true) {h' : mH} (hb : mBack h ρ S' = h') (k : mAfter M.2.2 pc lo rest h' (c + dc) (s + ds) (mWP d X (mCall P X d) M Q) Q (.inl r)) : mWP d X (mCall P X d) M Q pc lo st h c s := by
  refine mWP_step ?_
  rw [he]
  exact mInv_of ρ rest hc hst hn hnd hp hok hcat trivial hl hok' hb k
theorem mWP_cv {kk y n ci : Nat} {cv : Value} {b : Bool} (he : M.1 pc = (b, .invokevirtual kk, 3, [y, n, ci], cv)) (ρ : List Nat) {S : mH} {as : List Value} (rest : List Value) {r : Option Value ⊕ Nat} {S' : mH} {dc ds : Nat} (hc : ∀ Q' : mQ, Q' r S' dc ds → mCall P X d y as S Q')
    (hst : st = (as.map (mRn ρ)).reverse ++ rest) (hn : as.length = n) (hnd : mNd ρ = true) (hp : ρ.map (fun j => mAt h j) = S.map (fun x => some (mRnC ρ x))) (hok : (as.all (mOk ρ.length) && S.all (mOkC ρ.length)) = true) (hcat : mCat rest ≤ 8)
    {i : Nat} {as' fs : List Value} (hr1 : as = .ref i :: as') (hr2 : mAt S i = some (.inr (ci, fs)))
    (hl : S'.length = ρ.length) (hok' : S'.all (mOkC S'.length) = true) {h' : mH} (hb : mBack h ρ S' = h') (k : mAfter M.2.2 pc lo rest h' (c + dc) (s + ds) (mWP d X (mCall P X d) M Q) Q r) : mWP d X (mCall P X d) M Q pc lo st h c s := by
  refine mWP_step ?_
  rw [he]
  exact mInv_of ρ rest hc hst hn hnd hp hok hcat ⟨i, as', fs, hr1, hr2⟩ hl hok' hb k
end
theorem mLt {a b : Nat} (h : a < 2 ^ 31) (hb : b < 2 ^ 31) : (Int32.ofNat a < Int32.ofNat b) = (a < b) := propext (nI_ltI h hb)
theorem mLe {a b : Nat} (h : a < 2 ^ 31) (hb : b < 2 ^ 31) : (Int32.ofNat a ≤ Int32.ofNat b) = (a ≤ b) := propext (nI_leI h hb)
def mGo (d : Nat) (X : mX0) (G : mG) (M : mM) (Q : mQ) (n : Nat) (e : mI) : mK := fun pc lo st h c s => match e with
  | (true, _, _, _, _) => mWP d X G M Q pc lo st h c s
  | (false, i, len, inf, cv) => mStep d X G M.2.2 i len inf cv pc lo st h c s (mRun d X G M Q n) Q
theorem mRun_go {d : Nat} {X : mX0} {G : mG} {k : Nat → mI} {L : Nat} {hs : mHd} {Q : mQ} {n pc : Nat} {lo st : List Value} {h : mH} {c s : Nat} : mRun d X G (k, L, hs) Q (n + 1) pc lo st h c s = mGo d X G (k, L, hs) Q n (k pc) pc lo st h c s := by rfl
theorem mGo_t {d : Nat} {X : mX0} {G : mG} {M : mM} {Q : mQ} {n pc len : Nat} {i : Instr} {inf : List Nat} {cv : Value} {lo st : List Value} {h : mH} {c s : Nat} : mGo d X G M Q n (true, i, len, inf, cv) pc lo st h c s = mWP d X G M Q pc lo st h c s := by rfl
theorem mGo_f {d : Nat} {X : mX0} {G : mG} {k : Nat → mI} {L : Nat} {hs : mHd} {Q : mQ} {n pc len : Nat} {i : Instr} {inf : List Nat} {cv : Value} {lo st : List Value} {h : mH} {c s : Nat} : mGo d X G (k, L, hs) Q n (false, i, len, inf, cv) pc lo st h c s = mStep d X G hs i len inf cv pc lo st h c s (mRun d X G (k, L, hs) Q n) Q := by rfl
