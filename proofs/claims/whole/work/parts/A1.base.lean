/-! walks from a marked row, calls followed by a walk, and numbers -/
def mSt (d : Nat) (X : mX0) (G : mG) (M : mM) (Q : mQ) (n : Nat) (e : mI) : mK := fun pc lo st h c s => match e with
  | (_, i, len, inf, cv) => mStep d X G M.2.2 i len inf cv pc lo st h c s (mRun d X G M Q n) Q
theorem mSt_row {d : Nat} {X : mX0} {G : mG} {k : Nat → mI} {L : Nat} {hs : mHd} {Q : mQ} {n pc len : Nat} {b : Bool} {i : Instr} {inf : List Nat} {cv : Value} {lo st : List Value} {h : mH} {c s : Nat} : mSt d X G (k, L, hs) Q n (b, i, len, inf, cv) pc lo st h c s = mStep d X G hs i len inf cv pc lo st h c s (mRun d X G (k, L, hs) Q n) Q := by rfl
/-- from any row, marked or not: one row, and then a walk -/
theorem mWP_st {d : Nat} {X : mX0} {G : mG} {k : Nat → mI} {L : Nat} {hs : mHd} {Q : mQ} (n : Nat) {pc : Nat} {lo st : List Value} {h : mH} {c s : Nat} (q : mSt d X G (k, L, hs) Q n (k pc) pc lo st h c s) : mWP d X G (k, L, hs) Q pc lo st h c s := by
  refine mWP_step ?_
  show mStep d X G hs (k pc).2.1 (k pc).2.2.1 (k pc).2.2.2.1 (k pc).2.2.2.2 pc lo st h c s (mWP d X G (k, L, hs) Q) Q
  have q' : mStep d X G hs (k pc).2.1 (k pc).2.2.1 (k pc).2.2.2.1 (k pc).2.2.2.2 pc lo st h c s (mRun d X G (k, L, hs) Q n) Q := q
  exact mStep_mono (fun _ _ _ _ _ _ => mRun_sound n) (fun _ _ _ _ w => w) q'
section
variable {d : Nat} {X : mX0} {P : Nat → mM} {k : Nat → mI} {L : Nat} {hs : mHd} {Q : mQ} {pc : Nat} {lo st : List Value} {h : mH} {c s : Nat}
theorem mAfter_v {rest : List Value} {K : mK} : mAfter hs pc lo rest h c s K Q (.inl none) = K (pc + 3) lo rest h c s := by rfl
theorem mAfter_i {rest : List Value} {K : mK} {x : Int32} : mAfter hs pc lo rest h c s K Q (.inl (some (.int x))) = K (pc + 3) lo (.int x :: rest) h c s := by rfl
theorem mAfter_l {rest : List Value} {K : mK} {x : Int64} : mAfter hs pc lo rest h c s K Q (.inl (some (.long x))) = K (pc + 3) lo (.long x :: rest) h c s := by rfl
theorem mAfter_t {rest : List Value} {K : mK} {e : Nat} (hb : mBare pc hs = true) (q : Q (.inr e) h c s) : mAfter hs pc lo rest h c s K Q (.inr e) := by
  show if mBare pc hs = true then Q (.inr e) h c s else _
  rw [if_pos hb]
  exact q
theorem mAfter_c {rest : List Value} {K : mK} {e pc' j : Nat} (hb : mBare pc hs = false) (ht : mTake pc e hs = some (pc', j)) (q : K pc' (mSt1 lo j mU) [] h c s) : mAfter hs pc lo rest h c s K Q (.inr e) := by
  show if mBare pc hs = true then Q (.inr e) h c s else match mTake pc e hs with | some (pc', j) => K pc' (mSt1 lo j mU) [] h c s | none => False
  rw [hb, if_neg (by decide), ht]
  exact q
theorem mWP_s {kk y n : Nat} {cv : Value} {b : Bool} (m : Nat) (he : k pc = (b, .invokestatic kk, 3, [y, n], cv)) (ρ : List Nat) {S : mH} {as : List Value} (rest : List Value) {r : Option Value ⊕ Nat} {S' : mH} {dc ds : Nat} (hc : ∀ Q' : mQ, Q' r S' dc ds → mCall P X d y as S Q')
    (hst : st = (as.map (mRn ρ)).reverse ++ rest) (hn : as.length = n) (hnd : mNd ρ = true) (hp : ρ.map (fun j => mAt h j) = S.map (fun x => some (mRnC ρ x))) (hok : (as.all (mOk ρ.length) && S.all (mOkC ρ.length)) = true) (hcat : mCat rest ≤ 8)
    (hl : S'.length = ρ.length) (hok' : S'.all (mOkC S'.length) = true) {h' : mH} (hb : mBack h ρ S' = h') (q : mAfter hs pc lo rest h' (c + dc) (s + ds) (mRun d X (mCall P X d) (k, L, hs) Q m) Q r) : mWP d X (mCall P X d) (k, L, hs) Q pc lo st h c s :=
  mWP_cs (M := (k, L, hs)) he ρ rest hc hst hn hnd hp hok hcat hl hok' hb (mAfter_mono (fun _ _ _ _ _ _ => mRun_sound m) (fun _ _ _ _ w => w) r q)
theorem mWP_n {kk y n z : Nat} {cv : Value} {b : Bool} (m : Nat) (he : k pc = (b, .invokestatic kk, 3, [y, n, z], cv)) (ρ : List Nat) {S : mH} {as : List Value} (rest : List Value) {r : Option Value} {S' : mH} {dc ds : Nat} (hc : ∀ Q' : mQ, Q' (.inl r) S' dc ds → mCall P X d y as S Q')
    (hst : st = (as.map (mRn ρ)).reverse ++ rest) (hn : as.length = n) (hnd : mNd ρ = true) (hp : ρ.map (fun j => mAt h j) = S.map (fun x => some (mRnC ρ x))) (hok : (as.all (mOk ρ.length) && S.all (mOkC ρ.length)) = true) (hcat : mCat rest ≤ 8)
    (hl : S'.length = ρ.length) (hok' : S'.all (mOkC S'.length) = true) {h' : mH} (hb : mBack h ρ S' = h') (q : mAfter hs pc lo rest h' (c + dc) (s + ds) (mRun d X (mCall P X d) (k, L, hs) Q m) Q (.inl r)) : mWP d X (mCall P X d) (k, L, hs) Q pc lo st h c s :=
  mWP_cn (M := (k, L, hs)) he ρ rest hc hst hn hnd hp hok hcat hl hok' hb (mAfter_mono (fun _ _ _ _ _ _ => mRun_sound m) (fun _ _ _ _ w => w) (.inl r) q)
theorem mWP_v {kk y n ci : Nat} {cv : Value} {b : Bool} (m : Nat) (he : k pc = (b, .invokevirtual kk, 3, [y, n, ci], cv)) (ρ : List Nat) {S : mH} {as : List Value} (rest : List Value) {r : Option Value ⊕ Nat} {S' : mH} {dc ds : Nat} (hc : ∀ Q' : mQ, Q' r S' dc ds → mCall P X d y as S Q')
    (hst : st = (as.map (mRn ρ)).reverse ++ rest) (hn : as.length = n) (hnd : mNd ρ = true) (hp : ρ.map (fun j => mAt h j) = S.map (fun x => some (mRnC ρ x))) (hok : (as.all (mOk ρ.length) && S.all (mOkC ρ.length)) = true) (hcat : mCat rest ≤ 8)
    {i : Nat} {as' fs : List Value} (hr1 : as = .ref i :: as') (hr2 : mAt S i = some (.inr (ci, fs)))
    (hl : S'.length = ρ.length) (hok' : S'.all (mOkC S'.length) = true) {h' : mH} (hb : mBack h ρ S' = h') (q : mAfter hs pc lo rest h' (c + dc) (s + ds) (mRun d X (mCall P X d) (k, L, hs) Q m) Q r) : mWP d X (mCall P X d) (k, L, hs) Q pc lo st h c s :=
  mWP_cv (M := (k, L, hs)) he ρ rest hc hst hn hnd hp hok hcat hr1 hr2 hl hok' hb (mAfter_mono (fun _ _ _ _ _ _ => mRun_sound m) (fun _ _ _ _ w => w) r q)
end
theorem mRn_i {ρ : List Nat} {x : Int32} : mRn ρ (.int x) = .int x := by rfl
theorem mRn_l {ρ : List Nat} {x : Int64} : mRn ρ (.long x) = .long x := by rfl
theorem mRn_r {ρ : List Nat} {i : Nat} : mRn ρ (.ref i) = .ref ((mAt ρ i).getD 0) := by rfl
theorem mRn_n {ρ : List Nat} : mRn ρ .null = .null := by rfl
theorem mRn_f {ρ : List Nat} {x} : mRn ρ (.float x) = .float x := by rfl
theorem mRnC_l {ρ : List Nat} {a : FieldType × vp_A} : mRnC ρ (.inl a) = .inl a := by rfl
theorem mRnC_r {ρ : List Nat} {ci : Nat} {fs : List Value} : mRnC ρ (.inr (ci, fs)) = .inr (ci, fs.map (mRn ρ)) := by rfl
theorem nI_lt_iff {a b : Nat} (ha : a < 2 ^ 31) (hb : b < 2 ^ 31) : (nI a < nI b) = (a < b) := propext (nI_ltI ha hb)
theorem nI_le_iff {a b : Nat} (ha : a < 2 ^ 31) (hb : b < 2 ^ 31) : (nI a ≤ nI b) = (a ≤ b) := propext (nI_leI ha hb)
theorem nI_eq_iff {a b : Nat} (ha : a < 2 ^ 31) (hb : b < 2 ^ 31) : (nI a = nI b) = (a = b) := propext (nI_eq ha hb)
theorem nI_mod (n : Nat) : nI ((nI n).toBitVec.toNat % 2 ^ 1) = nI (n % 2) := by
  have : (nI n).toBitVec.toNat = n % 2 ^ 32 := by show (BitVec.ofNat 32 n).toNat = _; rw [BitVec.toNat_ofNat]
  rw [this]
  congr 1
  omega
theorem n_rem (a d : Nat) : a - a / d * d = a % d := by rw [Nat.mod_eq_sub_div_mul]
theorem nI_ofNat (n : Nat) : Int32.ofNat n = nI n := by rfl
theorem i_0 : (0 : Int32) = nI 0 := by rfl
theorem i_1 : (1 : Int32) = nI 1 := by rfl
theorem i_2 : (2 : Int32) = nI 2 := by rfl
theorem i_3 : (3 : Int32) = nI 3 := by rfl
theorem i_4 : (4 : Int32) = nI 4 := by rfl
theorem i_5 : (5 : Int32) = nI 5 := by rfl
theorem i_6 : (6 : Int32) = nI 6 := by rfl
theorem i_7 : (7 : Int32) = nI 7 := by rfl
theorem i_8 : (8 : Int32) = nI 8 := by rfl
theorem i_9 : (9 : Int32) = nI 9 := by rfl
theorem i_10 : (10 : Int32) = nI 10 := by rfl
theorem i_11 : (11 : Int32) = nI 11 := by rfl
theorem i_12 : (12 : Int32) = nI 12 := by rfl
theorem i_13 : (13 : Int32) = nI 13 := by rfl
theorem i_15 : (15 : Int32) = nI 15 := by rfl
theorem i_16 : (16 : Int32) = nI 16 := by rfl
theorem i_27 : (27 : Int32) = nI 27 := by rfl
theorem i_28 : (28 : Int32) = nI 28 := by rfl
theorem i_31 : (31 : Int32) = nI 31 := by rfl
theorem i_32 : (32 : Int32) = nI 32 := by rfl
theorem i_52 : (52 : Int32) = nI 52 := by rfl
theorem i_54 : (54 : Int32) = nI 54 := by rfl
theorem i_56 : (56 : Int32) = nI 56 := by rfl
theorem i_63 : (63 : Int32) = nI 63 := by rfl
theorem i_64 : (64 : Int32) = nI 64 := by rfl
theorem i_88 : (88 : Int32) = nI 88 := by rfl
theorem i_128 : (128 : Int32) = nI 128 := by rfl
theorem i_255 : (255 : Int32) = nI 255 := by rfl
theorem i_256 : (256 : Int32) = nI 256 := by rfl
theorem i_257 : (257 : Int32) = nI 257 := by rfl
theorem i_2048 : (2048 : Int32) = nI 2048 := by rfl
theorem i_4000 : (4000 : Int32) = nI 4000 := by rfl
theorem i_65521 : (65521 : Int32) = nI 65521 := by rfl
theorem i_1048576 : (1048576 : Int32) = nI 1048576 := by rfl
theorem i_1075 : (1075 : Int32) = nI 1075 := by rfl
theorem i_z : (0 : Int32).toInt = 0 := rfl
theorem vp_in_of' {i : Int32} {n : Nat} (h0 : 0 ≤ i.toInt) (h : i.toInt < n) : vp_in i n := vp_in_iff.mpr ⟨h0, h⟩
theorem clampInt (i : Int32) : i.toNatClampNeg = i.toInt.toNat := rfl
theorem lt0 (i : Int32) : (i < 0) = (i.toInt < 0) := propext (by rw [Int32.lt_iff_toInt_lt, i_z])
theorem ge0 (i : Int32) : (0 ≤ i) = (0 ≤ i.toInt) := propext (by rw [Int32.le_iff_toInt_le, i_z])
theorem leN {n : Nat} (h : n < 2 ^ 31) (i : Int32) : (nI n ≤ i) = ((n : Int) ≤ i.toInt) := propext (by rw [Int32.le_iff_toInt_le, nI_toInt h])
theorem ltN {n : Nat} (h : n < 2 ^ 31) (i : Int32) : (i < nI n) = (i.toInt < (n : Int)) := propext (by rw [Int32.lt_iff_toInt_lt, nI_toInt h])
theorem Nlt {n : Nat} (h : n < 2 ^ 31) (i : Int32) : (nI n < i) = ((n : Int) < i.toInt) := propext (by rw [Int32.lt_iff_toInt_lt, nI_toInt h])
theorem Nle {n : Nat} (h : n < 2 ^ 31) (i : Int32) : (i ≤ nI n) = (i.toInt ≤ (n : Int)) := propext (by rw [Int32.le_iff_toInt_le, nI_toInt h])
/-- a comparison of two longs, then of the answer with 0 -/
theorem cmp_lt (x y : Int64) : (lg_cmp x y < 0) = (x < y) := by
  unfold lg_cmp
  have h1 := @Int64.lt_iff_toInt_lt x y
  have h2 := @Int64.lt_iff_toInt_lt y x
  have h3 : x = y ↔ x.toInt = y.toInt := ⟨fun h => by rw [h], fun h => Int64.toInt_inj.mp h⟩
  split
  · rename_i h
    have : ¬ x < y := by rw [h1]; have := h2.mp h; omega
    simp [this]
  · split
    · rename_i h
      have : ¬ x < y := by rw [h1]; have := h3.mp h; omega
      simp [this]
    · rename_i h h'
      have : x < y := by rw [h1]; have a := mt h2.mpr h; have b := mt h3.mpr h'; omega
      simp [this]
theorem cmp_ge (x y : Int64) : (0 ≤ lg_cmp x y) = (¬ x < y) := by
  rw [← cmp_lt x y]
  unfold lg_cmp
  split
  · decide
  · split
    · decide
    · decide
theorem cmp_eq (x y : Int64) : (lg_cmp x y = 0) = (x = y) := by
  unfold lg_cmp
  have h2 := @Int64.lt_iff_toInt_lt y x
  split
  · rename_i h
    have : ¬ x = y := by intro e; rw [e] at h h2; have := h2.mp h; omega
    simp [this]
  · split
    · rename_i h
      simp [h]
    · rename_i h
      simp [h]
theorem cmp_gt (x y : Int64) : (0 < lg_cmp x y) = (y < x) := by
  unfold lg_cmp
  split
  · rename_i h
    simp only [show y < x from h]
    decide
  · rename_i h
    split
    · simp only [show ¬ y < x from h]
      decide
    · simp only [show ¬ y < x from h]
      decide
theorem cmp_le (x y : Int64) : (lg_cmp x y ≤ 0) = (¬ y < x) := by
  rw [← cmp_gt x y]
  unfold lg_cmp
  split
  · decide
  · split
    · decide
    · decide
/-- the bits of a long as a number -/
def uL (x : Int64) : Nat := x.toBitVec.toNat
theorem uL_lt (x : Int64) : uL x < 2 ^ 64 := x.toBitVec.isLt
theorem uL_lN {n : Nat} (h : n < 2 ^ 64) : uL (lN n) = n := wb_tn h
theorem lN_uL (x : Int64) : lN (uL x) = x := wb_inj (by rw [wb_tb]; unfold uL; simp)
theorem uL_inj {x y : Int64} (h : uL x = uL y) : x = y := by rw [← lN_uL x, ← lN_uL y, h]
theorem uL_0 {x : Int64} : x = 0 ↔ uL x = 0 := ⟨fun h => by rw [h]; rfl, fun h => uL_inj (by rw [h]; rfl)⟩
