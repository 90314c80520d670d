abbrev mMonoG (G : mG) : Prop := ∀ (y : Nat) (as : List Value) (S : mH) (Q Q' : mQ), (∀ r h c s, Q r h c s → Q' r h c s) → G y as S Q → G y as S Q'
theorem mIf_mono {p : Prop} {t pc : Nat} {f g : Nat → Prop} (h : ∀ q, f q → g q) : mIf p t pc f → mIf p t pc g := fun q => ⟨fun a => h _ (q.1 a), fun a => h _ (q.2 a)⟩
theorem mSw_mono {x : Int32} {f g : Nat → Prop} (h : ∀ q, f q → g q) : ∀ l : List Nat, mSw x f l → mSw x g l
  | [] => id
  | [_] => h _
  | _ :: _ :: l => fun q => ⟨fun a => h _ (q.1 a), fun a => mSw_mono h l (q.2 a)⟩
theorem mAfter_mono {hs : mHd} {pc : Nat} {lo rest : List Value} {h : mH} {c s : Nat} {K K' : mK} {Q Q' : mQ} (hK : ∀ pc lo st h c s, K pc lo st h c s → K' pc lo st h c s) (hQ : ∀ r h c s, Q r h c s → Q' r h c s) (r : Option Value ⊕ Nat) :
    mAfter hs pc lo rest h c s K Q r → mAfter hs pc lo rest h c s K' Q' r := by
  unfold mAfter
  split
  · exact hK _ _ _ _ _ _
  · exact hK _ _ _ _ _ _
  · exact hK _ _ _ _ _ _
  · exact id
  · split
    · exact hQ _ _ _ _
    · split
      · exact hK _ _ _ _ _ _
      · exact id
theorem mInv_mono {G : mG} {hs : mHd} {y n : Nat} {rc : List Value → mH → Option Value ⊕ Nat → Prop} {pc : Nat} {lo st : List Value} {h : mH} {c s : Nat} {K K' : mK} {Q Q' : mQ} (hK : ∀ pc lo st h c s, K pc lo st h c s → K' pc lo st h c s) (hQ : ∀ r h c s, Q r h c s → Q' r h c s) :
    mInv G hs y n rc pc lo st h c s K Q → mInv G hs y n rc pc lo st h c s K' Q' := by
  rintro ⟨ρ, S, as, rest, r, S', dc, ds, h1, h2, h3, h4, h5, h6, h7, h8, h9, h10, h11, h12⟩
  exact ⟨ρ, S, as, rest, r, S', dc, ds, h1, h2, h3, h4, h5, h6, h7, h8, h9, h10, h11, mAfter_mono hK hQ r h12⟩
set_option maxHeartbeats 4000000 in
theorem mStep_mono {d : Nat} {X : mX0} {G : mG} {hs : mHd} {i : Instr} {len : Nat} {inf : List Nat} {cv : Value} {pc : Nat} {lo st : List Value} {h : mH} {c s : Nat} {K K' : mK} {Q Q' : mQ} (hK : ∀ pc lo st h c s, K pc lo st h c s → K' pc lo st h c s) (hQ : ∀ r h c s, Q r h c s → Q' r h c s) :
    mStep d X G hs i len inf cv pc lo st h c s K Q → mStep d X G hs i len inf cv pc lo st h c s K' Q' := by
  have hIf : ∀ {p : Prop} {t pc : Nat} {lo r : List Value} {h : mH} {c s : Nat}, mIf p t pc (fun q => K q lo r h c s) → mIf p t pc (fun q => K' q lo r h c s) := fun {p t pc lo r h c s} => mIf_mono (fun q => hK q lo r h c s)
  have hSw : ∀ {x : Int32} {lo r : List Value} {h : mH} {c s : Nat} (l : List Nat), mSw x (fun q => K q lo r h c s) l → mSw x (fun q => K' q lo r h c s) l := fun {x lo r h c s} l => mSw_mono (fun q => hK q lo r h c s) l
  unfold mStep
  split
  all_goals first
    | exact hIf
    | exact hSw _
    | exact hK _ _ _ _ _ _
    | exact And.imp_right (hK _ _ _ _ _ _)
    | exact hQ _ _ _ _
    | exact And.imp_right (hQ _ _ _ _)
    | exact And.imp_right (And.imp_right (And.imp_right (hQ _ _ _ _)))
    | exact And.imp_right (And.imp_right (And.imp_right (hK _ _ _ _ _ _)))
    | exact And.imp_right (And.imp_right (hK _ _ _ _ _ _))
    | exact mInv_mono hK hQ
    | exact fun q => ⟨q.1, q.2.1, fun a => hK _ _ _ _ _ _ (q.2.2.1 a), fun a => hK _ _ _ _ _ _ (q.2.2.2 a)⟩
    | exact id
    | (split
       all_goals first
         | exact hK _ _ _ _ _ _
         | exact And.imp_right (hK _ _ _ _ _ _)
         | exact And.imp_right (And.imp_right (And.imp_right (hK _ _ _ _ _ _)))
         | exact id
         | (refine And.imp_right ?_
            split
            · exact hK _ _ _ _ _ _
            · exact id))
/-- the least predicate that is closed under rows -/
def mWP (d : Nat) (X : mX0) (G : mG) (M : mM) (Q : mQ) : mK := fun pc lo st h c s =>
  ∀ Z : mK, (∀ pc lo st h c s, mStep d X G M.2.2 (M.1 pc).2.1 (M.1 pc).2.2.1 (M.1 pc).2.2.2.1 (M.1 pc).2.2.2.2 pc lo st h c s Z Q → Z pc lo st h c s) → Z pc lo st h c s
theorem mWP_step {d : Nat} {X : mX0} {G : mG} {M : mM} {Q : mQ} {pc : Nat} {lo st : List Value} {h : mH} {c s : Nat}
    (q : mStep d X G M.2.2 (M.1 pc).2.1 (M.1 pc).2.2.1 (M.1 pc).2.2.2.1 (M.1 pc).2.2.2.2 pc lo st h c s (mWP d X G M Q) Q) : mWP d X G M Q pc lo st h c s :=
  fun Z hZ => hZ _ _ _ _ _ _ (mStep_mono (fun _ _ _ _ _ _ w => w Z hZ) (fun _ _ _ _ w => w) q)
theorem mWP_mono {d : Nat} {X : mX0} {G : mG} {M : mM} {Q Q' : mQ} (hQ : ∀ r h c s, Q r h c s → Q' r h c s) {pc : Nat} {lo st : List Value} {h : mH} {c s : Nat} (q : mWP d X G M Q pc lo st h c s) : mWP d X G M Q' pc lo st h c s :=
  q _ (fun _ _ _ _ _ _ w => mWP_step (mStep_mono (fun _ _ _ _ _ _ z => z) hQ w))
/-- a method, with so many frames above it less one -/
def mNoD : Value → Bool
  | .double _ => false
  | _ => true
/-- the arguments lie in so many locals -/
def mFitA (as : List Value) (L : Nat) : Bool := as.all mNoD && Nat.ble (mCat as) L
def mCall (P : Nat → mM) (X : mX0) : Nat → mG
  | 0 => fun _ _ _ _ => False
  | d + 1 => fun y as h Q => mFitA as (P y).2.1 = true ∧ mWP d X (mCall P X d) (P y) Q 0 (mEnt as (P y).2.1) [] h 0 0
theorem mCall_mono (P : Nat → mM) (X : mX0) : ∀ d, mMonoG (mCall P X d)
  | 0 => fun _ _ _ _ _ _ q => q
  | d + 1 => fun _ _ _ _ _ hQ q => ⟨q.1, mWP_mono hQ q.2⟩
/-- a walk of many rows; it stops where a row is marked -/
def mRun (d : Nat) (X : mX0) (G : mG) (M : mM) (Q : mQ) : Nat → mK
  | 0 => mWP d X G M Q
  | n + 1 => fun pc lo st h c s => match M.1 pc with
    | (true, _, _, _, _) => mWP d X G M Q pc lo st h c s
    | (false, i, len, inf, cv) => mStep d X G M.2.2 i len inf cv pc lo st h c s (mRun d X G M Q n) Q
theorem mRun_sound {d : Nat} {X : mX0} {G : mG} {M : mM} {Q : mQ} : ∀ (n : Nat) {pc : Nat} {lo st : List Value} {h : mH} {c s : Nat}, mRun d X G M Q n pc lo st h c s → mWP d X G M Q pc lo st h c s
  | 0, _, _, _, _, _, _ => id
  | n + 1, pc, _, _, _, _, _ => by
    unfold mRun
    split
    · exact id
    · intro q
      rename_i he
      refine mWP_step ?_
      rw [he]
      exact mStep_mono (fun _ _ _ _ _ _ => mRun_sound n) (fun _ _ _ _ w => w) q
/-- one row, marked or not, and then a walk -/
theorem mWP_go {d : Nat} {X : mX0} {G : mG} {M : mM} {Q : mQ} (n : Nat) {pc : Nat} {lo st : List Value} {h : mH} {c s : Nat} {b : Bool} {i : Instr} {len : Nat} {inf : List Nat} {cv : Value} (he : M.1 pc = (b, i, len, inf, cv))
    (q : mStep d X G M.2.2 i len inf cv pc lo st h c s (mRun d X G M Q n) Q) : mWP d X G M Q pc lo st h c s := by
  refine mWP_step ?_
  rw [he]
  exact mStep_mono (fun _ _ _ _ _ _ => mRun_sound n) (fun _ _ _ _ w => w) q
