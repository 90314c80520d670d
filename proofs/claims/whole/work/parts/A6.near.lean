/-! whole numbers over powers of ten: NEAREST -/
theorem l_0 : (0 : Int64) = lN 0 := by rfl
theorem l_1 : (1 : Int64) = lN 1 := by rfl
theorem l_2 : (2 : Int64) = lN 2 := by rfl
theorem l_10 : (10 : Int64) = lN 10 := by rfl
theorem l_52 : (4503599627370496 : Int64) = lN (2 ^ 52) := by rfl
theorem l_53 : (9007199254740992 : Int64) = lN (2 ^ 53) := by rfl
theorem l_52m : (4503599627370495 : Int64) = lN (2 ^ 52 - 1) := by rfl
theorem lLT {a b : Nat} (ha : a < 2 ^ 63) (hb : b < 2 ^ 63) : (lN a < lN b) = (a < b) := propext (pk_lLT ha hb)
theorem lEQ {a b : Nat} (ha : a < 2 ^ 63) (hb : b < 2 ^ 63) : (lN a = lN b) = (a = b) := propext (pk_lEQ ha hb)
theorem lRem2 (a b : Nat) : lN a - lN (a / b * b) = lN (a % b) := by rw [lN_sub (Nat.div_mul_le_self a b), n_rem]
theorem negI {x : Int64} (h1 : -(2 ^ 63) < x.toInt) (h2 : x.toInt < 2 ^ 63) : (-x).toInt = -x.toInt := by
  rw [Int64.toInt_neg]
  simp only [Int.bmod]
  split <;> omega
theorem neg_toInt {k : Nat} (h : k < 2 ^ 63) : (-(lN k)).toInt = -(k : Int) := by
  rw [Int64.toInt_neg, pk_lT h]
  simp only [Int.bmod]
  split <;> omega
/-- t: how often k is doubled, over 5^e, up to 53 bits -/
def isT (k e t : Nat) : Prop := 2 ^ 52 * 5 ^ e ≤ k * 2 ^ t ∧ k * 2 ^ t < 2 ^ 53 * 5 ^ e
theorem isT_lt {k e t t' : Nat} (h : isT k e t) (h' : isT k e t') : ¬ t < t' := by
  intro hl
  have e1 : k * 2 ^ t' = k * 2 ^ t * 2 ^ (t' - t) := by rw [Nat.mul_assoc, ← Nat.pow_add]; congr 2; omega
  have e2 : 2 ^ 1 ≤ 2 ^ (t' - t) := Nat.pow_le_pow_right (by decide) (by omega)
  have e3 : k * 2 ^ t * 2 ^ 1 ≤ k * 2 ^ t * 2 ^ (t' - t) := Nat.mul_le_mul_left _ e2
  have := h.1
  have := h'.2
  omega
theorem isT_uniq {k e t t' : Nat} (h : isT k e t) (h' : isT k e t') : t = t' := by
  have := isT_lt h h'
  have := isT_lt h' h
  omega
/-- rounded to a whole number -/
def mR (k e t : Nat) : Nat := (2 * (k * 2 ^ t) + 5 ^ e) / (2 * 5 ^ e)
def bitsT (k e t : Nat) : Nat := (1075 - e - t) * 2 ^ 52 + (mR k e t - 2 ^ 52)
noncomputable def nr (k e : Nat) : Nat := @dite Nat (∃ t, isT k e t) (Classical.propDecidable _) (fun h => bitsT k e (Classical.choose h)) (fun _ => 0)
theorem nr_eq {k e t : Nat} (h : isT k e t) : nr k e = bitsT k e t := by
  have h' : ∃ t, isT k e t := ⟨t, h⟩
  unfold nr
  rw [dif_pos h', isT_uniq (Classical.choose_spec h') h]
theorem five_pos (e : Nat) : 0 < 5 ^ e := Nat.pow_pos (by decide)
theorem five_odd : ∀ e : Nat, 5 ^ e % 2 = 1
  | 0 => rfl
  | e + 1 => by rw [Nat.pow_succ, Nat.mul_mod, five_odd e]
theorem five_lt {e : Nat} (h : e ≤ 15) : 5 ^ e ≤ 30517578125 := Nat.le_trans (Nat.pow_le_pow_right (by decide) h) (by decide)
theorem nr_0 (e : Nat) : nr 0 e = 0 := by
  unfold nr
  rw [dif_neg]
  rintro ⟨t, h, _⟩
  have := five_pos e
  omega
theorem mR_qr {k e t q r : Nat} (h : q * 5 ^ e + r = k * 2 ^ t) (hr : r < 5 ^ e) : mR k e t = if 5 ^ e < 2 * r then q + 1 else q := by
  unfold mR
  have h5 := five_pos e
  have ho := five_odd e
  rw [← h]
  generalize 5 ^ e = D at *
  have e1 : 2 * (q * D + r) + D = q * (2 * D) + (2 * r + D) := by rw [Nat.mul_add, Nat.mul_left_comm]; omega
  rw [e1, Nat.add_comm, Nat.add_mul_div_right _ _ (by omega)]
  by_cases hc : D < 2 * r
  · rw [if_pos hc, Nat.div_eq_of_lt_le (k := 1) (by omega) (by omega)]; omega
  · rw [if_neg hc, Nat.div_eq_of_lt (by omega)]; omega
theorem isT_qr {k e t q r : Nat} (h : q * 5 ^ e + r = k * 2 ^ t) (hr : r < 5 ^ e) (h1 : 2 ^ 52 ≤ q) (h2 : q < 2 ^ 53) : isT k e t := by
  unfold isT
  rw [← h]
  have a : 2 ^ 52 * 5 ^ e ≤ q * 5 ^ e := Nat.mul_le_mul_right _ h1
  have b : (q + 1) * 5 ^ e ≤ 2 ^ 53 * 5 ^ e := Nat.mul_le_mul_right _ h2
  rw [Nat.add_mul] at b
  omega
theorem isT_le {k e t : Nat} (he : e ≤ 15) (hk : 0 < k) (h : isT k e t) : t ≤ 87 := by
  rcases Nat.lt_or_ge t 88 with z | z
  · omega
  · have a : 1 * 2 ^ 88 ≤ k * 2 ^ t := Nat.mul_le_mul hk (Nat.pow_le_pow_right (by decide) z)
    have b := five_lt he
    have := h.2
    omega
theorem isT_gt {k e t : Nat} (hk : k < 2 ^ 52) (h : isT k e t) : 5 ^ e < 2 ^ t := by
  rcases Nat.lt_or_ge (5 ^ e) (2 ^ t) with z | z
  · exact z
  · have a : k * 2 ^ t ≤ k * 5 ^ e := Nat.mul_le_mul_left _ z
    have b : (k + 1) * 5 ^ e ≤ 2 ^ 52 * 5 ^ e := Nat.mul_le_mul_right _ hk
    have := h.1
    have := five_pos e
    rw [Nat.add_mul] at b
    omega
theorem bitsT_lt {k e t : Nat} (he : e ≤ 15) (hk : 0 < k) (h : isT k e t) : 2 ^ 52 ≤ mR k e t ∧ mR k e t ≤ 2 ^ 53 ∧ bitsT k e t < 2 ^ 63 := by
  have hq : (k * 2 ^ t / 5 ^ e) * 5 ^ e + k * 2 ^ t % 5 ^ e = k * 2 ^ t := by rw [Nat.mul_comm]; exact Nat.div_add_mod _ _
  have hm := mR_qr hq (Nat.mod_lt _ (five_pos e))
  have h1 : 2 ^ 52 ≤ k * 2 ^ t / 5 ^ e := (Nat.le_div_iff_mul_le (five_pos e)).mpr h.1
  have h2 : k * 2 ^ t / 5 ^ e < 2 ^ 53 := (Nat.div_lt_iff_lt_mul (five_pos e)).mpr h.2
  have h3 : 2 ^ 52 ≤ mR k e t ∧ mR k e t ≤ 2 ^ 53 := by
    rw [hm]
    split <;> omega
  refine ⟨h3.1, h3.2, ?_⟩
  unfold bitsT
  omega
theorem mFive_eq : ∀ e : Fin 16, mFive e.val = lN (5 ^ e.val) := by decide +kernel
theorem c_fiveTo {X : mX0} {d e : Nat} (he : e ≤ 15) (Q : mQ) (hq : Q (.inl (some (.long (lN (5 ^ e))))) [] 0 0) : mCall mP X (d + 1) 6 [.int (nI e)] [] Q := by
  refine mCall_in pX1_fiveTo 50 rfl ?_
  simp only [mS_iload_n, mS_iload, mS_lload_n, mS_lload, mS_aload_n, mS_aload, mS_istore_n, mS_istore, mS_lstore_n, mS_lstore, mS_astore_n, mS_astore, mS_iinc, mS_iconst, mS_bipush, mS_sipush, mS_lconst, mS_ldc, mS_ldc_w, mS_ldc2_w, mS_getstatic, mS_iadd, mS_isub, mS_imul, mS_iand, mS_ior, mS_ixor, mS_ishl, mS_ishr, mS_iushr, mS_idiv, mS_irem, mS_ladd, mS_lsub, mS_lmul, mS_land, mS_lor, mS_lxor, mS_ldiv, mS_lrem, mS_lneg, mS_lshl, mS_lushr, mS_lcmp, mS_i2l, mS_l2i, mS_i2b, mS_dup_i, mS_dup_r, mS_dup2, mS_pop, mS_if_eq, mS_if_ne, mS_if_lt, mS_if_ge, mS_if_gt, mS_if_le, mS_icmp_eq, mS_icmp_ne, mS_icmp_lt, mS_icmp_ge, mS_icmp_gt, mS_icmp_le, mS_goto, mS_tsw, mS_lsw, mS_getfield, mS_putfield, mS_iaload, mS_iaload0, mS_baload, mS_laload, mS_laload1, mS_iastore, mS_bastore, mS_lastore, mS_alen, mS_alen0, mS_alen1, mS_newa_byte, mS_newa_int, mS_newa_long, mS_throw, mS_new, mS_oinit, mS_ireturn, mS_zreturn, mS_lreturn, mS_return, mS_mmin, mS_mmax, mS_mabs, mRun_go, mGo_t, mGo_f, mAt, mPut, mSt1, mSt2, mKill, mFit, mEnt, mPad, mSw, Nat.reduceAdd, Nat.reduceSub, Nat.reduceMod, Nat.reduceLT, Nat.reduceLeDiff, List.length_cons, List.length_nil, true_and, and_true, Option.some.injEq, Nat.zero_add, Classical.not_not, cmp_lt, cmp_ge, cmp_eq, cmp_gt, cmp_le, mAfter_v, mAfter_i, mAfter_l, mBack, mBk, mFrom, mRnC_l, mRnC_r, mRn_i, mRn_l, mRn_r, mRn_n, mRn_f, List.map_cons, List.map_nil, List.cons_append, List.nil_append, List.append_nil, Option.getD_some, Nat.add_zero, TX1_fiveTo_0]
  simp (disch := omega) only [i_0, i_1, i_2, i_3, i_4, i_5, i_6, i_7, i_8, i_9, i_10, i_11, i_12, i_13, i_15, i_16, i_27, i_28, i_31, i_32, i_52, i_54, i_56, i_63, i_64, i_88, i_128, i_255, i_256, i_257, i_2048, i_4000, i_65521, i_1048576, i_1075, nI_ofNat, nI_lt_iff, nI_le_iff, nI_eq_iff, nI_add, pk_mul, pk_sub, pk_div, pk_rem, nI_clamp, Nat.add_sub_cancel, Nat.reduceAdd, Nat.reduceSub, Nat.reduceMul, Nat.reduceDiv, Nat.reduceMod, Nat.reduceLT, Nat.reduceLeDiff, Nat.reduceEqDiff, Nat.add_zero, Nat.zero_add, n_rem, not_false_eq_true, not_true_eq_false, true_and, and_true, true_or, or_true, true_implies, false_implies, Nat.not_lt_zero, Nat.zero_le]
  refine ⟨fun h => absurd h (by omega), fun _ => ⟨vp_in_nI (by omega) (by omega), ?_⟩⟩
  rw [mFive_eq ⟨e, by omega⟩]
  exact hq
/-- NEAREST, with its sign -/
noncomputable def nrS (x : Int64) (e : Nat) : Int64 := if x < 0 then lN (nr (uL (-x)) e) ||| (-9223372036854775808) else lN (nr (uL x) e)
theorem c_nearest {X : mX0} {d e : Nat} (he : e ≤ 15) (x : Int64) (hx1 : -(2 ^ 52) < x.toInt) (hx2 : x.toInt < 2 ^ 52) (Q : mQ) (hq : Q (.inl (some (.long (nrS x e)))) [] 0 0) : mCall mP X (d + 3) 7 [.long x, .int (nI e)] [] Q := by
  have h5 := five_pos e
  have h5l := five_lt he
  have h5o := five_odd e
  have tail : ∀ (k t q r i : Nat) (y : Value), 0 < k → k < 2 ^ 52 → (x = lN k ∨ x = -(lN k)) → q * 5 ^ e + r = k * 2 ^ t → r < 5 ^ e → 2 ^ 52 ≤ q → q < 2 ^ 53 → i ≤ 8 →
      mWP (d + 2) X (mCall mP X (d + 2)) (kX1_nearest, 14, []) Q 43 [.long x, mU, .int (nI e), .long (lN (5 ^ e)), mU, .long (lN k), mU, .long (lN q), mU, .long (lN r), mU, .int (nI (e + t)), .int (nI i), y] [] [] 0 0 := by
    intro k t q r i y hk hk2 hx h1 hr hq1 hq2 hi
    have hT := isT_qr h1 hr hq1 hq2
    have hm := mR_qr h1 hr
    have htl := isT_le he hk hT
    have hb := bitsT_lt he hk hT
    have hnr := nr_eq hT
    have fin : ∀ z : Nat, z = mR k e t → (¬ x < 0 → Q (.inl (some (.long ((nI (1075 - (e + t))).toInt64 <<< ((nI 52).toInt64 &&& 63) + lN (z - 2 ^ 52))))) [] 0 0) ∧ (x < 0 → Q (.inl (some (.long ((nI (1075 - (e + t))).toInt64 <<< ((nI 52).toInt64 &&& 63) + lN (z - 2 ^ 52) ||| (-9223372036854775808))))) [] 0 0) := by
      intro z hz
      rw [nI_l (by omega), wb_shl _ (by decide), hz, lN_add, show (1075 - (e + t)) * 2 ^ 52 + (mR k e t - 2 ^ 52) = nr k e from by rw [hnr]; unfold bitsT; congr 2; omega]
      unfold nrS at hq
      refine ⟨fun h => ?_, fun h => ?_⟩
      · rw [if_neg h] at hq
        rcases hx with e0 | e0
        · rw [e0, uL_lN (by omega)] at hq
          exact hq
        · exfalso
          apply h
          rw [e0, Int64.lt_iff_toInt_lt, neg_toInt (by omega)]
          show -(k : Int) < 0
          omega
      · rw [if_pos h] at hq
        rcases hx with e0 | e0
        · rw [e0, l_0, lLT (by omega) (by omega)] at h
          omega
        · rw [e0, Int64.neg_neg, uL_lN (by omega)] at hq
          exact hq
    (refine mWP_st 80 ?_; simp only [mS_iload_n, mS_iload, mS_lload_n, mS_lload, mS_aload_n, mS_aload, mS_istore_n, mS_istore, mS_lstore_n, mS_lstore, mS_astore_n, mS_astore, mS_iinc, mS_iconst, mS_bipush, mS_sipush, mS_lconst, mS_ldc, mS_ldc_w, mS_ldc2_w, mS_getstatic, mS_iadd, mS_isub, mS_imul, mS_iand, mS_ior, mS_ixor, mS_ishl, mS_ishr, mS_iushr, mS_idiv, mS_irem, mS_ladd, mS_lsub, mS_lmul, mS_land, mS_lor, mS_lxor, mS_ldiv, mS_lrem, mS_lneg, mS_lshl, mS_lushr, mS_lcmp, mS_i2l, mS_l2i, mS_i2b, mS_dup_i, mS_dup_r, mS_dup2, mS_pop, mS_if_eq, mS_if_ne, mS_if_lt, mS_if_ge, mS_if_gt, mS_if_le, mS_icmp_eq, mS_icmp_ne, mS_icmp_lt, mS_icmp_ge, mS_icmp_gt, mS_icmp_le, mS_goto, mS_tsw, mS_lsw, mS_getfield, mS_putfield, mS_iaload, mS_iaload0, mS_baload, mS_laload, mS_laload1, mS_iastore, mS_bastore, mS_lastore, mS_alen, mS_alen0, mS_alen1, mS_newa_byte, mS_newa_int, mS_newa_long, mS_throw, mS_new, mS_oinit, mS_ireturn, mS_zreturn, mS_lreturn, mS_return, mS_mmin, mS_mmax, mS_mabs, mRun_go, mGo_t, mGo_f, mAt, mPut, mSt1, mSt2, mKill, mFit, mEnt, mPad, mSw, Nat.reduceAdd, Nat.reduceSub, Nat.reduceMod, Nat.reduceLT, Nat.reduceLeDiff, List.length_cons, List.length_nil, true_and, and_true, Option.some.injEq, Nat.zero_add, Classical.not_not, cmp_lt, cmp_ge, cmp_eq, cmp_gt, cmp_le, mAfter_v, mAfter_i, mAfter_l, mBack, mBk, mFrom, mRnC_l, mRnC_r, mRn_i, mRn_l, mRn_r, mRn_n, mRn_f, List.map_cons, List.map_nil, List.cons_append, List.nil_append, List.append_nil, Option.getD_some, Nat.add_zero, TX1_nearest_0, TX1_nearest_1, mSt_row])
    simp (disch := omega) only [i_0, i_1, i_2, i_3, i_4, i_5, i_6, i_7, i_8, i_9, i_10, i_11, i_12, i_13, i_15, i_16, i_27, i_28, i_31, i_32, i_52, i_54, i_56, i_63, i_64, i_88, i_128, i_255, i_256, i_257, i_2048, i_4000, i_65521, i_1048576, i_1075, nI_ofNat, nI_lt_iff, nI_le_iff, nI_eq_iff, nI_add, pk_mul, pk_sub, pk_div, pk_rem, nI_clamp, Nat.add_sub_cancel, Nat.reduceAdd, Nat.reduceSub, Nat.reduceMul, Nat.reduceDiv, Nat.reduceMod, Nat.reduceLT, Nat.reduceLeDiff, Nat.reduceEqDiff, Nat.add_zero, Nat.zero_add, n_rem, not_false_eq_true, not_true_eq_false, true_and, and_true, true_or, or_true, true_implies, false_implies, Nat.not_lt_zero, Nat.zero_le, l_0, l_1, l_2, l_10, l_52, l_53, l_52m, lLT, lEQ, lN_add, lN_mul, lN_sub, pk_lDiv, lRem2, n_rem, cmp_lt, cmp_ge, cmp_eq, cmp_gt, cmp_le]
    refine ⟨fun _ => ?_, fun _ => ⟨fun _ => ?_, fun h => absurd h (by omega)⟩⟩
    · refine ⟨fun h => ?_, fun h => ?_⟩
      · rw [if_neg h] at hm
        exact fin q hm.symm
      · rw [if_pos h] at hm
        exact fin (q + 1) hm.symm
    · refine ⟨fun h => ?_, fun h => ?_⟩
      · rw [if_neg h] at hm
        exact fin q hm.symm
      · rw [if_pos h] at hm
        exact fin (q + 1) hm.symm
  have loop : ∀ (j i k q r : Nat) (y : Value), i + j = 4 → 0 < k → k < 2 ^ 52 → (x = lN k ∨ x = -(lN k)) → q * 5 ^ e + r = k * 2 ^ (28 * i) → r < 5 ^ e → q < 2 ^ 53 →
      mWP (d + 2) X (mCall mP X (d + 2)) (kX1_nearest, 14, []) Q 43 [.long x, mU, .int (nI e), .long (lN (5 ^ e)), mU, .long (lN k), mU, .long (lN q), mU, .long (lN r), mU, .int (nI (e + 28 * i)), .int (nI i), y] [] [] 0 0 := by
    intro j
    induction j with
    | zero =>
      intro i k q r y hi hk hk2 hx h1 hr hq2
      have : 2 ^ 52 ≤ q := by
        rcases Nat.lt_or_ge q (2 ^ 52) with z | z
        · have a : (q + 1) * 5 ^ e ≤ 2 ^ 52 * 5 ^ e := Nat.mul_le_mul_right _ z
          have b : 1 * 2 ^ 112 ≤ k * 2 ^ (28 * i) := by rw [show 28 * i = 112 from by omega]; exact Nat.mul_le_mul_right _ hk
          rw [Nat.add_mul] at a
          omega
        · exact z
      exact tail k (28 * i) q r i y hk hk2 hx h1 hr this hq2 (by omega)
    | succ j ih =>
      intro i k q r y hi hk hk2 hx h1 hr hq2
      rcases Nat.lt_or_ge q (2 ^ 52) with hlt | hge
      · have hz := nlzF_sp 64 q (by omega)
        generalize hzz : nlzF 64 q = z at hz
        obtain ⟨z1, z2, z3⟩ := hz
        have z4 : 12 ≤ z := by
          rcases Nat.lt_or_ge z 12 with c | c
          · have a := z3 (by omega)
            have b : 2 ^ 52 ≤ 2 ^ (64 - z - 1) := Nat.pow_le_pow_right (by decide) (by omega)
            omega
          · exact c
        have step : ∀ s, s ≤ 28 → q * 2 ^ s + 2 ^ s ≤ 2 ^ 53 → r * 2 ^ s < 2 ^ 63 ∧ q * 2 ^ s < 2 ^ 63 ∧ r * 2 ^ s / 5 ^ e < 2 ^ s ∧ q * 2 ^ s + r * 2 ^ s / 5 ^ e < 2 ^ 53 ∧ (q * 2 ^ s + r * 2 ^ s / 5 ^ e) * 5 ^ e + r * 2 ^ s % 5 ^ e = k * 2 ^ (28 * i + s) := by
          intro s hs hqs
          have p28 : 2 ^ s ≤ 2 ^ 28 := Nat.pow_le_pow_right (by decide) hs
          have a1 : r * 2 ^ s ≤ 30517578125 * 2 ^ 28 := Nat.mul_le_mul (by omega) p28
          have a2 : r * 2 ^ s / 5 ^ e < 2 ^ s := by
            rw [Nat.div_lt_iff_lt_mul h5, Nat.mul_comm]
            exact Nat.mul_lt_mul_of_pos_left hr (Nat.pow_pos (by decide))
          have p0 : 0 < 2 ^ s := Nat.pow_pos (by decide)
          refine ⟨by omega, by omega, a2, by omega, ?_⟩
          rw [Nat.add_mul, Nat.add_assoc, Nat.mul_comm (r * 2 ^ s / 5 ^ e), Nat.div_add_mod, Nat.pow_add, ← Nat.mul_assoc, ← h1, Nat.add_mul, Nat.mul_right_comm]
        (refine mWP_st 80 ?_; simp only [mS_iload_n, mS_iload, mS_lload_n, mS_lload, mS_aload_n, mS_aload, mS_istore_n, mS_istore, mS_lstore_n, mS_lstore, mS_astore_n, mS_astore, mS_iinc, mS_iconst, mS_bipush, mS_sipush, mS_lconst, mS_ldc, mS_ldc_w, mS_ldc2_w, mS_getstatic, mS_iadd, mS_isub, mS_imul, mS_iand, mS_ior, mS_ixor, mS_ishl, mS_ishr, mS_iushr, mS_idiv, mS_irem, mS_ladd, mS_lsub, mS_lmul, mS_land, mS_lor, mS_lxor, mS_ldiv, mS_lrem, mS_lneg, mS_lshl, mS_lushr, mS_lcmp, mS_i2l, mS_l2i, mS_i2b, mS_dup_i, mS_dup_r, mS_dup2, mS_pop, mS_if_eq, mS_if_ne, mS_if_lt, mS_if_ge, mS_if_gt, mS_if_le, mS_icmp_eq, mS_icmp_ne, mS_icmp_lt, mS_icmp_ge, mS_icmp_gt, mS_icmp_le, mS_goto, mS_tsw, mS_lsw, mS_getfield, mS_putfield, mS_iaload, mS_iaload0, mS_baload, mS_laload, mS_laload1, mS_iastore, mS_bastore, mS_lastore, mS_alen, mS_alen0, mS_alen1, mS_newa_byte, mS_newa_int, mS_newa_long, mS_throw, mS_new, mS_oinit, mS_ireturn, mS_zreturn, mS_lreturn, mS_return, mS_mmin, mS_mmax, mS_mabs, mRun_go, mGo_t, mGo_f, mAt, mPut, mSt1, mSt2, mKill, mFit, mEnt, mPad, mSw, Nat.reduceAdd, Nat.reduceSub, Nat.reduceMod, Nat.reduceLT, Nat.reduceLeDiff, List.length_cons, List.length_nil, true_and, and_true, Option.some.injEq, Nat.zero_add, Classical.not_not, cmp_lt, cmp_ge, cmp_eq, cmp_gt, cmp_le, mAfter_v, mAfter_i, mAfter_l, mBack, mBk, mFrom, mRnC_l, mRnC_r, mRn_i, mRn_l, mRn_r, mRn_n, mRn_f, List.map_cons, List.map_nil, List.cons_append, List.nil_append, List.append_nil, Option.getD_some, Nat.add_zero, TX1_nearest_0, TX1_nearest_1, mSt_row])
        simp (disch := omega) only [i_0, i_1, i_2, i_3, i_4, i_5, i_6, i_7, i_8, i_9, i_10, i_11, i_12, i_13, i_15, i_16, i_27, i_28, i_31, i_32, i_52, i_54, i_56, i_63, i_64, i_88, i_128, i_255, i_256, i_257, i_2048, i_4000, i_65521, i_1048576, i_1075, nI_ofNat, nI_lt_iff, nI_le_iff, nI_eq_iff, nI_add, pk_mul, pk_sub, pk_div, pk_rem, nI_clamp, Nat.add_sub_cancel, Nat.reduceAdd, Nat.reduceSub, Nat.reduceMul, Nat.reduceDiv, Nat.reduceMod, Nat.reduceLT, Nat.reduceLeDiff, Nat.reduceEqDiff, Nat.add_zero, Nat.zero_add, n_rem, not_false_eq_true, not_true_eq_false, true_and, and_true, true_or, or_true, true_implies, false_implies, Nat.not_lt_zero, Nat.zero_le, l_0, l_1, l_2, l_10, l_52, l_53, l_52m, lLT, lEQ, lN_add, lN_mul, lN_sub, pk_lDiv, lRem2, n_rem, cmp_lt, cmp_ge, cmp_eq, cmp_gt, cmp_le]
        refine ⟨fun h => absurd h (by omega), fun _ => ⟨fun h => absurd hlt h, fun _ => ?_⟩⟩
        (refine mWP_s 80 (by simp only [TX1_nearest_0, TX1_nearest_1]; rfl) [] [.int (nI 28)] (c_nlz (d := d) (v := q) (by omega)) rfl rfl rfl rfl rfl (Nat.le_of_ble_eq_true rfl) rfl rfl rfl ?_; simp only [mS_iload_n, mS_iload, mS_lload_n, mS_lload, mS_aload_n, mS_aload, mS_istore_n, mS_istore, mS_lstore_n, mS_lstore, mS_astore_n, mS_astore, mS_iinc, mS_iconst, mS_bipush, mS_sipush, mS_lconst, mS_ldc, mS_ldc_w, mS_ldc2_w, mS_getstatic, mS_iadd, mS_isub, mS_imul, mS_iand, mS_ior, mS_ixor, mS_ishl, mS_ishr, mS_iushr, mS_idiv, mS_irem, mS_ladd, mS_lsub, mS_lmul, mS_land, mS_lor, mS_lxor, mS_ldiv, mS_lrem, mS_lneg, mS_lshl, mS_lushr, mS_lcmp, mS_i2l, mS_l2i, mS_i2b, mS_dup_i, mS_dup_r, mS_dup2, mS_pop, mS_if_eq, mS_if_ne, mS_if_lt, mS_if_ge, mS_if_gt, mS_if_le, mS_icmp_eq, mS_icmp_ne, mS_icmp_lt, mS_icmp_ge, mS_icmp_gt, mS_icmp_le, mS_goto, mS_tsw, mS_lsw, mS_getfield, mS_putfield, mS_iaload, mS_iaload0, mS_baload, mS_laload, mS_laload1, mS_iastore, mS_bastore, mS_lastore, mS_alen, mS_alen0, mS_alen1, mS_newa_byte, mS_newa_int, mS_newa_long, mS_throw, mS_new, mS_oinit, mS_ireturn, mS_zreturn, mS_lreturn, mS_return, mS_mmin, mS_mmax, mS_mabs, mRun_go, mGo_t, mGo_f, mAt, mPut, mSt1, mSt2, mKill, mFit, mEnt, mPad, mSw, Nat.reduceAdd, Nat.reduceSub, Nat.reduceMod, Nat.reduceLT, Nat.reduceLeDiff, List.length_cons, List.length_nil, true_and, and_true, Option.some.injEq, Nat.zero_add, Classical.not_not, cmp_lt, cmp_ge, cmp_eq, cmp_gt, cmp_le, mAfter_v, mAfter_i, mAfter_l, mBack, mBk, mFrom, mRnC_l, mRnC_r, mRn_i, mRn_l, mRn_r, mRn_n, mRn_f, List.map_cons, List.map_nil, List.cons_append, List.nil_append, List.append_nil, Option.getD_some, Nat.add_zero, TX1_nearest_0, TX1_nearest_1])
        rw [hzz]
        simp (disch := omega) only [i_0, i_1, i_2, i_3, i_4, i_5, i_6, i_7, i_8, i_9, i_10, i_11, i_12, i_13, i_15, i_16, i_27, i_28, i_31, i_32, i_52, i_54, i_56, i_63, i_64, i_88, i_128, i_255, i_256, i_257, i_2048, i_4000, i_65521, i_1048576, i_1075, nI_ofNat, nI_lt_iff, nI_le_iff, nI_eq_iff, nI_add, pk_mul, pk_sub, pk_div, pk_rem, nI_clamp, Nat.add_sub_cancel, Nat.reduceAdd, Nat.reduceSub, Nat.reduceMul, Nat.reduceDiv, Nat.reduceMod, Nat.reduceLT, Nat.reduceLeDiff, Nat.reduceEqDiff, Nat.add_zero, Nat.zero_add, n_rem, not_false_eq_true, not_true_eq_false, true_and, and_true, true_or, or_true, true_implies, false_implies, Nat.not_lt_zero, Nat.zero_le, l_0, l_1, l_2, l_10, l_52, l_53, l_52m, lLT, lEQ, lN_add, lN_mul, lN_sub, pk_lDiv, lRem2, n_rem, cmp_lt, cmp_ge, cmp_eq, cmp_gt, cmp_le]
        refine ⟨by omega, by decide, fun hs => ?_, fun hs => ?_⟩
        · have hp1 : q * 2 ^ (z - 11) + 2 ^ (z - 11) ≤ 2 ^ 53 := by
            have a : (q + 1) * 2 ^ (z - 11) ≤ 2 ^ (64 - z) * 2 ^ (z - 11) := Nat.mul_le_mul_right _ z2
            rw [← Nat.pow_add, show 64 - z + (z - 11) = 53 from by omega, Nat.add_mul] at a
            omega
          have hp2 : 2 ^ 52 ≤ q * 2 ^ (z - 11) := by
            have a : 2 ^ (64 - z - 1) * 2 ^ (z - 11) ≤ q * 2 ^ (z - 11) := Nat.mul_le_mul_right _ (z3 (by omega))
            rw [← Nat.pow_add, show 64 - z - 1 + (z - 11) = 52 from by omega] at a
            exact a
          obtain ⟨s1, s2, s3, s4, s5⟩ := step (z - 11) (by omega) hp1
          rw [wb_shl _ (by omega), wb_shl _ (by omega)]
          simp (disch := omega) only [i_0, i_1, i_2, i_3, i_4, i_5, i_6, i_7, i_8, i_9, i_10, i_11, i_12, i_13, i_15, i_16, i_27, i_28, i_31, i_32, i_52, i_54, i_56, i_63, i_64, i_88, i_128, i_255, i_256, i_257, i_2048, i_4000, i_65521, i_1048576, i_1075, nI_ofNat, nI_lt_iff, nI_le_iff, nI_eq_iff, nI_add, pk_mul, pk_sub, pk_div, pk_rem, nI_clamp, Nat.add_sub_cancel, Nat.reduceAdd, Nat.reduceSub, Nat.reduceMul, Nat.reduceDiv, Nat.reduceMod, Nat.reduceLT, Nat.reduceLeDiff, Nat.reduceEqDiff, Nat.add_zero, Nat.zero_add, n_rem, not_false_eq_true, not_true_eq_false, true_and, and_true, true_or, or_true, true_implies, false_implies, Nat.not_lt_zero, Nat.zero_le, l_0, l_1, l_2, l_10, l_52, l_53, l_52m, lLT, lEQ, lN_add, lN_mul, lN_sub, pk_lDiv, lRem2, n_rem, cmp_lt, cmp_ge, cmp_eq, cmp_gt, cmp_le]
          refine ⟨by omega, by omega, ?_⟩
          have := tail k (28 * i + (z - 11)) _ _ (i + 1) (.int (nI (z - 11))) hk hk2 hx s5 (Nat.mod_lt _ h5) (Nat.le_trans hp2 (Nat.le_add_right _ _)) s4 (by omega)
          rw [← Nat.add_assoc] at this
          exact this
        · have hp1 : q * 2 ^ 28 + 2 ^ 28 ≤ 2 ^ 53 := by
            have a : 2 ^ (64 - z) ≤ 2 ^ 25 := Nat.pow_le_pow_right (by decide) (by omega)
            omega
          obtain ⟨s, hs28⟩ : ∃ s, s = 28 := ⟨28, rfl⟩
          have hp1' : q * 2 ^ s + 2 ^ s ≤ 2 ^ 53 := by rw [hs28]; exact hp1
          obtain ⟨s1, s2, s3, s4, s5⟩ := step s (by omega) hp1'
          have ih' := ih (i + 1) k _ _ (.int (nI s)) (by omega) hk hk2 hx (by rw [show 28 * (i + 1) = 28 * i + s from by omega]; exact s5) (Nat.mod_lt _ h5) s4
          rw [show e + 28 * (i + 1) = e + s * i + s from by rw [hs28]; omega] at ih'
          rw [← hs28]
          rw [wb_shl _ (by omega), wb_shl _ (by omega)]
          simp (disch := omega) only [i_0, i_1, i_2, i_3, i_4, i_5, i_6, i_7, i_8, i_9, i_10, i_11, i_12, i_13, i_15, i_16, i_27, i_28, i_31, i_32, i_52, i_54, i_56, i_63, i_64, i_88, i_128, i_255, i_256, i_257, i_2048, i_4000, i_65521, i_1048576, i_1075, nI_ofNat, nI_lt_iff, nI_le_iff, nI_eq_iff, nI_add, pk_mul, pk_sub, pk_div, pk_rem, nI_clamp, Nat.add_sub_cancel, Nat.reduceAdd, Nat.reduceSub, Nat.reduceMul, Nat.reduceDiv, Nat.reduceMod, Nat.reduceLT, Nat.reduceLeDiff, Nat.reduceEqDiff, Nat.add_zero, Nat.zero_add, n_rem, not_false_eq_true, not_true_eq_false, true_and, and_true, true_or, or_true, true_implies, false_implies, Nat.not_lt_zero, Nat.zero_le, l_0, l_1, l_2, l_10, l_52, l_53, l_52m, lLT, lEQ, lN_add, lN_mul, lN_sub, pk_lDiv, lRem2, n_rem, cmp_lt, cmp_ge, cmp_eq, cmp_gt, cmp_le]
          exact ⟨by omega, by omega, ih'⟩
      · exact tail k (28 * i) q r i y hk hk2 hx h1 hr hge hq2 (by omega)
  have start : ∀ k, 0 < k → k < 2 ^ 52 → (x = lN k ∨ x = -(lN k)) → mWP (d + 2) X (mCall mP X (d + 2)) (kX1_nearest, 14, []) Q 43 [.long x, mU, .int (nI e), .long (lN (5 ^ e)), mU, .long (lN k), mU, .long (lN (k / 5 ^ e)), mU, .long (lN (k % 5 ^ e)), mU, .int (nI e), .int (nI 0), mU] [] [] 0 0 := by
    intro k hk hk2 hx
    have a : k / 5 ^ e ≤ k := Nat.div_le_self _ _
    exact loop 4 0 k (k / 5 ^ e) (k % 5 ^ e) mU (by omega) hk hk2 hx (by rw [Nat.mul_comm, Nat.div_add_mod]; simp) (Nat.mod_lt _ h5) (by omega)
  refine mCall_in pX1_nearest 50 rfl ?_
  simp only [mS_iload_n, mS_iload, mS_lload_n, mS_lload, mS_aload_n, mS_aload, mS_istore_n, mS_istore, mS_lstore_n, mS_lstore, mS_astore_n, mS_astore, mS_iinc, mS_iconst, mS_bipush, mS_sipush, mS_lconst, mS_ldc, mS_ldc_w, mS_ldc2_w, mS_getstatic, mS_iadd, mS_isub, mS_imul, mS_iand, mS_ior, mS_ixor, mS_ishl, mS_ishr, mS_iushr, mS_idiv, mS_irem, mS_ladd, mS_lsub, mS_lmul, mS_land, mS_lor, mS_lxor, mS_ldiv, mS_lrem, mS_lneg, mS_lshl, mS_lushr, mS_lcmp, mS_i2l, mS_l2i, mS_i2b, mS_dup_i, mS_dup_r, mS_dup2, mS_pop, mS_if_eq, mS_if_ne, mS_if_lt, mS_if_ge, mS_if_gt, mS_if_le, mS_icmp_eq, mS_icmp_ne, mS_icmp_lt, mS_icmp_ge, mS_icmp_gt, mS_icmp_le, mS_goto, mS_tsw, mS_lsw, mS_getfield, mS_putfield, mS_iaload, mS_iaload0, mS_baload, mS_laload, mS_laload1, mS_iastore, mS_bastore, mS_lastore, mS_alen, mS_alen0, mS_alen1, mS_newa_byte, mS_newa_int, mS_newa_long, mS_throw, mS_new, mS_oinit, mS_ireturn, mS_zreturn, mS_lreturn, mS_return, mS_mmin, mS_mmax, mS_mabs, mRun_go, mGo_t, mGo_f, mAt, mPut, mSt1, mSt2, mKill, mFit, mEnt, mPad, mSw, Nat.reduceAdd, Nat.reduceSub, Nat.reduceMod, Nat.reduceLT, Nat.reduceLeDiff, List.length_cons, List.length_nil, true_and, and_true, Option.some.injEq, Nat.zero_add, Classical.not_not, cmp_lt, cmp_ge, cmp_eq, cmp_gt, cmp_le, mAfter_v, mAfter_i, mAfter_l, mBack, mBk, mFrom, mRnC_l, mRnC_r, mRn_i, mRn_l, mRn_r, mRn_n, mRn_f, List.map_cons, List.map_nil, List.cons_append, List.nil_append, List.append_nil, Option.getD_some, Nat.add_zero, TX1_nearest_0, TX1_nearest_1]
  (refine mWP_s 80 (by simp only [TX1_nearest_0, TX1_nearest_1]; rfl) [] [] (c_fiveTo (d := d + 1) he) rfl rfl rfl rfl rfl (Nat.le_of_ble_eq_true rfl) rfl rfl rfl ?_; simp only [mS_iload_n, mS_iload, mS_lload_n, mS_lload, mS_aload_n, mS_aload, mS_istore_n, mS_istore, mS_lstore_n, mS_lstore, mS_astore_n, mS_astore, mS_iinc, mS_iconst, mS_bipush, mS_sipush, mS_lconst, mS_ldc, mS_ldc_w, mS_ldc2_w, mS_getstatic, mS_iadd, mS_isub, mS_imul, mS_iand, mS_ior, mS_ixor, mS_ishl, mS_ishr, mS_iushr, mS_idiv, mS_irem, mS_ladd, mS_lsub, mS_lmul, mS_land, mS_lor, mS_lxor, mS_ldiv, mS_lrem, mS_lneg, mS_lshl, mS_lushr, mS_lcmp, mS_i2l, mS_l2i, mS_i2b, mS_dup_i, mS_dup_r, mS_dup2, mS_pop, mS_if_eq, mS_if_ne, mS_if_lt, mS_if_ge, mS_if_gt, mS_if_le, mS_icmp_eq, mS_icmp_ne, mS_icmp_lt, mS_icmp_ge, mS_icmp_gt, mS_icmp_le, mS_goto, mS_tsw, mS_lsw, mS_getfield, mS_putfield, mS_iaload, mS_iaload0, mS_baload, mS_laload, mS_laload1, mS_iastore, mS_bastore, mS_lastore, mS_alen, mS_alen0, mS_alen1, mS_newa_byte, mS_newa_int, mS_newa_long, mS_throw, mS_new, mS_oinit, mS_ireturn, mS_zreturn, mS_lreturn, mS_return, mS_mmin, mS_mmax, mS_mabs, mRun_go, mGo_t, mGo_f, mAt, mPut, mSt1, mSt2, mKill, mFit, mEnt, mPad, mSw, Nat.reduceAdd, Nat.reduceSub, Nat.reduceMod, Nat.reduceLT, Nat.reduceLeDiff, List.length_cons, List.length_nil, true_and, and_true, Option.some.injEq, Nat.zero_add, Classical.not_not, cmp_lt, cmp_ge, cmp_eq, cmp_gt, cmp_le, mAfter_v, mAfter_i, mAfter_l, mBack, mBk, mFrom, mRnC_l, mRnC_r, mRn_i, mRn_l, mRn_r, mRn_n, mRn_f, List.map_cons, List.map_nil, List.cons_append, List.nil_append, List.append_nil, Option.getD_some, Nat.add_zero, TX1_nearest_0, TX1_nearest_1])
  refine ⟨fun h0 => ?_, fun h0 => ⟨fun h1 => ⟨by omega, by decide, fun hp => ?_, fun hp => ?_⟩, fun h1 => ?_⟩⟩
  · rw [h0] at hq
    unfold nrS at hq
    rw [if_neg (by decide), show uL 0 = 0 from rfl, nr_0] at hq
    exact hq
  · obtain ⟨k, hk, rfl⟩ := pk_lOf (x := x) (by rw [Int64.lt_iff_toInt_lt] at hp ⊢; omega)
    rw [pk_lT hk] at hx2
    have hk0 : 0 < k := by
      rcases Nat.eq_zero_or_pos k with z | z
      · rw [z] at h0; exact absurd rfl h0
      · exact z
    simp (disch := omega) only [i_0, i_1, i_2, i_3, i_4, i_5, i_6, i_7, i_8, i_9, i_10, i_11, i_12, i_13, i_15, i_16, i_27, i_28, i_31, i_32, i_52, i_54, i_56, i_63, i_64, i_88, i_128, i_255, i_256, i_257, i_2048, i_4000, i_65521, i_1048576, i_1075, nI_ofNat, nI_lt_iff, nI_le_iff, nI_eq_iff, nI_add, pk_mul, pk_sub, pk_div, pk_rem, nI_clamp, Nat.add_sub_cancel, Nat.reduceAdd, Nat.reduceSub, Nat.reduceMul, Nat.reduceDiv, Nat.reduceMod, Nat.reduceLT, Nat.reduceLeDiff, Nat.reduceEqDiff, Nat.add_zero, Nat.zero_add, n_rem, not_false_eq_true, not_true_eq_false, true_and, and_true, true_or, or_true, true_implies, false_implies, Nat.not_lt_zero, Nat.zero_le, l_0, l_1, l_2, l_10, l_52, l_53, l_52m, lLT, lEQ, lN_add, lN_mul, lN_sub, pk_lDiv, lRem2, n_rem, cmp_lt, cmp_ge, cmp_eq, cmp_gt, cmp_le]
    exact ⟨by omega, by omega, start k hk0 (by omega) (Or.inl rfl)⟩
  · obtain ⟨k, hk, hkx⟩ := pk_lOf (x := -x) (by rw [Int64.lt_iff_toInt_lt, negI (by omega) (by omega)]; rw [Int64.lt_iff_toInt_lt] at hp; have : (0 : Int64).toInt = 0 := rfl; omega)
    have hxk : x = -(lN k) := by rw [← hkx, Int64.neg_neg]
    have hkt := congrArg Int64.toInt hkx
    rw [negI (by omega) (by omega), pk_lT hk] at hkt
    have hk0 : 0 < k := by
      rcases Nat.eq_zero_or_pos k with z | z
      · rw [hxk, z] at h0; exact absurd rfl h0
      · exact z
    rw [hkx]
    simp (disch := omega) only [i_0, i_1, i_2, i_3, i_4, i_5, i_6, i_7, i_8, i_9, i_10, i_11, i_12, i_13, i_15, i_16, i_27, i_28, i_31, i_32, i_52, i_54, i_56, i_63, i_64, i_88, i_128, i_255, i_256, i_257, i_2048, i_4000, i_65521, i_1048576, i_1075, nI_ofNat, nI_lt_iff, nI_le_iff, nI_eq_iff, nI_add, pk_mul, pk_sub, pk_div, pk_rem, nI_clamp, Nat.add_sub_cancel, Nat.reduceAdd, Nat.reduceSub, Nat.reduceMul, Nat.reduceDiv, Nat.reduceMod, Nat.reduceLT, Nat.reduceLeDiff, Nat.reduceEqDiff, Nat.add_zero, Nat.zero_add, n_rem, not_false_eq_true, not_true_eq_false, true_and, and_true, true_or, or_true, true_implies, false_implies, Nat.not_lt_zero, Nat.zero_le, l_0, l_1, l_2, l_10, l_52, l_53, l_52m, lLT, lEQ, lN_add, lN_mul, lN_sub, pk_lDiv, lRem2, n_rem, cmp_lt, cmp_ge, cmp_eq, cmp_gt, cmp_le]
    exact ⟨by omega, by omega, start k hk0 (by omega) (Or.inr hxk)⟩
  · rw [l_0, lEQ (by omega) (by omega)] at h1
    omega
