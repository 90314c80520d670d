/-! the model's NEAREST -/
theorem i_m1 {n : Nat} (h : 1 ≤ n) : nI n + (-1) = nI (n - 1) := by rw [show (-1 : Int32) = -(nI 1) from rfl, ← Int32.sub_eq_add_neg, pk_sub h]
theorem ten_lt {e : Nat} (h : e ≤ 15) : 10 ^ e ≤ 10 ^ 15 := Nat.pow_le_pow_right (by decide) h
theorem c_ten {X : mX0} {d e : Nat} (he : e ≤ 15) (Q : mQ) (hq : Q (.inl (some (.long (lN (10 ^ e))))) [] 0 0) : mCall mP X (d + 1) 99 [.int (nI e)] [] Q := by
  have loop : ∀ j i, i + j = e → mWP d X (mCall mP X d) (kX9_ten, 4, []) Q 4 [.int (nI e), .long (lN (10 ^ i)), mU, .int (nI i)] [] [] 0 0 := by
    intro j
    induction j with
    | zero =>
      intro i hi
      (refine mWP_st 80 ?_; simp only [mS_iload_n, mS_iload, mS_lload_n, mS_lload, mS_aload_n, mS_aload, mS_istore_n, mS_istore, mS_lstore_n, mS_lstore, mS_astore_n, mS_astore, mS_iinc, mS_iconst, mS_bipush, mS_sipush, mS_lconst, mS_ldc, mS_ldc_w, mS_ldc2_w, mS_getstatic, mS_iadd, mS_isub, mS_imul, mS_iand, mS_ior, mS_ixor, mS_ishl, mS_ishr, mS_iushr, mS_idiv, mS_irem, mS_ladd, mS_lsub, mS_lmul, mS_land, mS_lor, mS_lxor, mS_ldiv, mS_lrem, mS_lneg, mS_lshl, mS_lushr, mS_lcmp, mS_i2l, mS_l2i, mS_i2b, mS_dup_i, mS_dup_r, mS_dup2, mS_pop, mS_if_eq, mS_if_ne, mS_if_lt, mS_if_ge, mS_if_gt, mS_if_le, mS_icmp_eq, mS_icmp_ne, mS_icmp_lt, mS_icmp_ge, mS_icmp_gt, mS_icmp_le, mS_goto, mS_tsw, mS_lsw, mS_getfield, mS_putfield, mS_iaload, mS_iaload0, mS_baload, mS_laload, mS_laload1, mS_iastore, mS_bastore, mS_lastore, mS_alen, mS_alen0, mS_alen1, mS_newa_byte, mS_newa_int, mS_newa_long, mS_throw, mS_new, mS_oinit, mS_ireturn, mS_zreturn, mS_lreturn, mS_return, mS_mmin, mS_mmax, mS_mabs, mRun_go, mGo_t, mGo_f, mAt, mPut, mSt1, mSt2, mKill, mFit, mEnt, mPad, mSw, Nat.reduceAdd, Nat.reduceSub, Nat.reduceMod, Nat.reduceLT, Nat.reduceLeDiff, List.length_cons, List.length_nil, true_and, and_true, Option.some.injEq, Nat.zero_add, Classical.not_not, cmp_lt, cmp_ge, cmp_eq, cmp_gt, cmp_le, mAfter_v, mAfter_i, mAfter_l, mBack, mBk, mFrom, mRnC_l, mRnC_r, mRn_i, mRn_l, mRn_r, mRn_n, mRn_f, List.map_cons, List.map_nil, List.cons_append, List.nil_append, List.append_nil, Option.getD_some, Nat.add_zero, TX9_ten_0, mSt_row])
      simp (disch := omega) only [i_0, i_1, i_2, i_3, i_4, i_5, i_6, i_7, i_8, i_9, i_10, i_11, i_12, i_13, i_15, i_16, i_27, i_28, i_31, i_32, i_52, i_54, i_56, i_63, i_64, i_88, i_128, i_255, i_256, i_257, i_2048, i_4000, i_65521, i_1048576, i_1075, nI_ofNat, nI_lt_iff, nI_le_iff, nI_eq_iff, nI_add, pk_mul, pk_sub, pk_div, pk_rem, nI_clamp, Nat.add_sub_cancel, Nat.reduceAdd, Nat.reduceSub, Nat.reduceMul, Nat.reduceDiv, Nat.reduceMod, Nat.reduceLT, Nat.reduceLeDiff, Nat.reduceEqDiff, Nat.add_zero, Nat.zero_add, n_rem, not_false_eq_true, not_true_eq_false, true_and, and_true, true_or, or_true, true_implies, false_implies, Nat.not_lt_zero, Nat.zero_le, l_0, l_1, l_2, l_10, l_52, l_53, l_52m, lLT, lEQ, lN_add, lN_mul, lN_sub, pk_lDiv, lRem2, n_rem, cmp_lt, cmp_ge, cmp_eq, cmp_gt, cmp_le]
      rw [show i = e from by omega]
      exact ⟨fun _ => hq, fun h => absurd h (by omega)⟩
    | succ j ih =>
      intro i hi
      (refine mWP_st 80 ?_; simp only [mS_iload_n, mS_iload, mS_lload_n, mS_lload, mS_aload_n, mS_aload, mS_istore_n, mS_istore, mS_lstore_n, mS_lstore, mS_astore_n, mS_astore, mS_iinc, mS_iconst, mS_bipush, mS_sipush, mS_lconst, mS_ldc, mS_ldc_w, mS_ldc2_w, mS_getstatic, mS_iadd, mS_isub, mS_imul, mS_iand, mS_ior, mS_ixor, mS_ishl, mS_ishr, mS_iushr, mS_idiv, mS_irem, mS_ladd, mS_lsub, mS_lmul, mS_land, mS_lor, mS_lxor, mS_ldiv, mS_lrem, mS_lneg, mS_lshl, mS_lushr, mS_lcmp, mS_i2l, mS_l2i, mS_i2b, mS_dup_i, mS_dup_r, mS_dup2, mS_pop, mS_if_eq, mS_if_ne, mS_if_lt, mS_if_ge, mS_if_gt, mS_if_le, mS_icmp_eq, mS_icmp_ne, mS_icmp_lt, mS_icmp_ge, mS_icmp_gt, mS_icmp_le, mS_goto, mS_tsw, mS_lsw, mS_getfield, mS_putfield, mS_iaload, mS_iaload0, mS_baload, mS_laload, mS_laload1, mS_iastore, mS_bastore, mS_lastore, mS_alen, mS_alen0, mS_alen1, mS_newa_byte, mS_newa_int, mS_newa_long, mS_throw, mS_new, mS_oinit, mS_ireturn, mS_zreturn, mS_lreturn, mS_return, mS_mmin, mS_mmax, mS_mabs, mRun_go, mGo_t, mGo_f, mAt, mPut, mSt1, mSt2, mKill, mFit, mEnt, mPad, mSw, Nat.reduceAdd, Nat.reduceSub, Nat.reduceMod, Nat.reduceLT, Nat.reduceLeDiff, List.length_cons, List.length_nil, true_and, and_true, Option.some.injEq, Nat.zero_add, Classical.not_not, cmp_lt, cmp_ge, cmp_eq, cmp_gt, cmp_le, mAfter_v, mAfter_i, mAfter_l, mBack, mBk, mFrom, mRnC_l, mRnC_r, mRn_i, mRn_l, mRn_r, mRn_n, mRn_f, List.map_cons, List.map_nil, List.cons_append, List.nil_append, List.append_nil, Option.getD_some, Nat.add_zero, TX9_ten_0, mSt_row])
      simp (disch := omega) only [i_0, i_1, i_2, i_3, i_4, i_5, i_6, i_7, i_8, i_9, i_10, i_11, i_12, i_13, i_15, i_16, i_27, i_28, i_31, i_32, i_52, i_54, i_56, i_63, i_64, i_88, i_128, i_255, i_256, i_257, i_2048, i_4000, i_65521, i_1048576, i_1075, nI_ofNat, nI_lt_iff, nI_le_iff, nI_eq_iff, nI_add, pk_mul, pk_sub, pk_div, pk_rem, nI_clamp, Nat.add_sub_cancel, Nat.reduceAdd, Nat.reduceSub, Nat.reduceMul, Nat.reduceDiv, Nat.reduceMod, Nat.reduceLT, Nat.reduceLeDiff, Nat.reduceEqDiff, Nat.add_zero, Nat.zero_add, n_rem, not_false_eq_true, not_true_eq_false, true_and, and_true, true_or, or_true, true_implies, false_implies, Nat.not_lt_zero, Nat.zero_le, l_0, l_1, l_2, l_10, l_52, l_53, l_52m, lLT, lEQ, lN_add, lN_mul, lN_sub, pk_lDiv, lRem2, n_rem, cmp_lt, cmp_ge, cmp_eq, cmp_gt, cmp_le]
      refine ⟨fun h => absurd h (by omega), fun _ => ?_⟩
      rw [← Nat.pow_succ]
      exact ih (i + 1) (by omega)
  refine mCall_in pX9_ten 50 rfl ?_
  simp only [mS_iload_n, mS_iload, mS_lload_n, mS_lload, mS_aload_n, mS_aload, mS_istore_n, mS_istore, mS_lstore_n, mS_lstore, mS_astore_n, mS_astore, mS_iinc, mS_iconst, mS_bipush, mS_sipush, mS_lconst, mS_ldc, mS_ldc_w, mS_ldc2_w, mS_getstatic, mS_iadd, mS_isub, mS_imul, mS_iand, mS_ior, mS_ixor, mS_ishl, mS_ishr, mS_iushr, mS_idiv, mS_irem, mS_ladd, mS_lsub, mS_lmul, mS_land, mS_lor, mS_lxor, mS_ldiv, mS_lrem, mS_lneg, mS_lshl, mS_lushr, mS_lcmp, mS_i2l, mS_l2i, mS_i2b, mS_dup_i, mS_dup_r, mS_dup2, mS_pop, mS_if_eq, mS_if_ne, mS_if_lt, mS_if_ge, mS_if_gt, mS_if_le, mS_icmp_eq, mS_icmp_ne, mS_icmp_lt, mS_icmp_ge, mS_icmp_gt, mS_icmp_le, mS_goto, mS_tsw, mS_lsw, mS_getfield, mS_putfield, mS_iaload, mS_iaload0, mS_baload, mS_laload, mS_laload1, mS_iastore, mS_bastore, mS_lastore, mS_alen, mS_alen0, mS_alen1, mS_newa_byte, mS_newa_int, mS_newa_long, mS_throw, mS_new, mS_oinit, mS_ireturn, mS_zreturn, mS_lreturn, mS_return, mS_mmin, mS_mmax, mS_mabs, mRun_go, mGo_t, mGo_f, mAt, mPut, mSt1, mSt2, mKill, mFit, mEnt, mPad, mSw, Nat.reduceAdd, Nat.reduceSub, Nat.reduceMod, Nat.reduceLT, Nat.reduceLeDiff, List.length_cons, List.length_nil, true_and, and_true, Option.some.injEq, Nat.zero_add, Classical.not_not, cmp_lt, cmp_ge, cmp_eq, cmp_gt, cmp_le, mAfter_v, mAfter_i, mAfter_l, mBack, mBk, mFrom, mRnC_l, mRnC_r, mRn_i, mRn_l, mRn_r, mRn_n, mRn_f, List.map_cons, List.map_nil, List.cons_append, List.nil_append, List.append_nil, Option.getD_some, Nat.add_zero, TX9_ten_0]
  exact loop e 0 (by omega)
theorem tT {k e m rest down : Nat} (h : m * 10 ^ e + rest = k * 2 ^ down) (hr : rest < 10 ^ e) (h1 : 2 ^ 52 ≤ m) (hk : k < 2 ^ 52) : ∃ t r, down = e + t ∧ m * 5 ^ e + r = k * 2 ^ t ∧ r < 5 ^ e ∧ rest = 2 ^ e * r := by
  have e10 : 10 ^ e = 2 ^ e * 5 ^ e := by rw [← Nat.mul_pow]
  have p2 : 0 < 2 ^ e := Nat.pow_pos (by decide)
  have p5 := five_pos e
  have hd : e ≤ down := by
    rcases Nat.lt_or_ge down e with z | z
    · have a : 2 ^ down ≤ 2 ^ e := Nat.pow_le_pow_right (by decide) (by omega)
      have a2 : 2 ^ e * 1 ≤ 2 ^ e * 5 ^ e := Nat.mul_le_mul_left _ p5
      have b : k * 2 ^ down ≤ k * 10 ^ e := Nat.mul_le_mul_left _ (by omega)
      have c : (k + 1) * 10 ^ e ≤ m * 10 ^ e := Nat.mul_le_mul_right _ (by omega)
      rw [Nat.add_mul] at c
      omega
    · exact z
  have e1 : k * 2 ^ down = 2 ^ e * (k * 2 ^ (down - e)) := by
    rw [Nat.mul_left_comm, ← Nat.pow_add]
    congr 2
    omega
  have e2 : m * 10 ^ e = 2 ^ e * (m * 5 ^ e) := by rw [e10, Nat.mul_left_comm]
  have hle : m * 5 ^ e ≤ k * 2 ^ (down - e) := by
    apply Nat.le_of_mul_le_mul_left _ p2
    omega
  have e3 : rest = 2 ^ e * (k * 2 ^ (down - e) - m * 5 ^ e) := by
    rw [Nat.mul_sub]
    omega
  refine ⟨down - e, k * 2 ^ (down - e) - m * 5 ^ e, by omega, by omega, ?_, e3⟩
  apply Nat.lt_of_mul_lt_mul_left (a := 2 ^ e)
  rw [← e3, ← e10]
  exact hr
theorem or52 {a b : Nat} (ha : a < 2 ^ 11) (hb : b < 2 ^ 52) : lN (a * 2 ^ 52) ||| lN b = lN (a * 2 ^ 52 + b) := by
  rw [wb_or (by omega) (by omega)]
  congr 1
  rw [Nat.mul_comm, ← Nat.two_pow_add_eq_or_of_lt hb]
theorem c_mnearest {X : mX0} {d k e : Nat} (he : e ≤ 15) (hk : k < 2 ^ 52) (Q : mQ) (hq : Q (.inl (some (.long (lN (nr k e))))) [] 0 0) : mCall mP X (d + 2) 100 [.long (lN k), .int (nI e)] [] Q := by
  have h10 := ten_lt he
  have p10 : 0 < 10 ^ e := Nat.pow_pos (by decide)
  have e10 : 10 ^ e = 2 ^ e * 5 ^ e := by rw [← Nat.mul_pow]
  have p2 : 0 < 2 ^ e := Nat.pow_pos (by decide)
  rcases Nat.eq_zero_or_pos k with hk0 | hk0
  · subst hk0
    refine mCall_in pX9_nearest 50 rfl ?_
    simp only [mS_iload_n, mS_iload, mS_lload_n, mS_lload, mS_aload_n, mS_aload, mS_istore_n, mS_istore, mS_lstore_n, mS_lstore, mS_astore_n, mS_astore, mS_iinc, mS_iconst, mS_bipush, mS_sipush, mS_lconst, mS_ldc, mS_ldc_w, mS_ldc2_w, mS_getstatic, mS_iadd, mS_isub, mS_imul, mS_iand, mS_ior, mS_ixor, mS_ishl, mS_ishr, mS_iushr, mS_idiv, mS_irem, mS_ladd, mS_lsub, mS_lmul, mS_land, mS_lor, mS_lxor, mS_ldiv, mS_lrem, mS_lneg, mS_lshl, mS_lushr, mS_lcmp, mS_i2l, mS_l2i, mS_i2b, mS_dup_i, mS_dup_r, mS_dup2, mS_pop, mS_if_eq, mS_if_ne, mS_if_lt, mS_if_ge, mS_if_gt, mS_if_le, mS_icmp_eq, mS_icmp_ne, mS_icmp_lt, mS_icmp_ge, mS_icmp_gt, mS_icmp_le, mS_goto, mS_tsw, mS_lsw, mS_getfield, mS_putfield, mS_iaload, mS_iaload0, mS_baload, mS_laload, mS_laload1, mS_iastore, mS_bastore, mS_lastore, mS_alen, mS_alen0, mS_alen1, mS_newa_byte, mS_newa_int, mS_newa_long, mS_throw, mS_new, mS_oinit, mS_ireturn, mS_zreturn, mS_lreturn, mS_return, mS_mmin, mS_mmax, mS_mabs, mRun_go, mGo_t, mGo_f, mAt, mPut, mSt1, mSt2, mKill, mFit, mEnt, mPad, mSw, Nat.reduceAdd, Nat.reduceSub, Nat.reduceMod, Nat.reduceLT, Nat.reduceLeDiff, List.length_cons, List.length_nil, true_and, and_true, Option.some.injEq, Nat.zero_add, Classical.not_not, cmp_lt, cmp_ge, cmp_eq, cmp_gt, cmp_le, mAfter_v, mAfter_i, mAfter_l, mBack, mBk, mFrom, mRnC_l, mRnC_r, mRn_i, mRn_l, mRn_r, mRn_n, mRn_f, List.map_cons, List.map_nil, List.cons_append, List.nil_append, List.append_nil, Option.getD_some, Nat.add_zero, TX9_nearest_0, TX9_nearest_1]
    rw [nr_0] at hq
    exact ⟨fun h => absurd rfl h, fun _ => hq⟩
  have tail : ∀ (m rest down : Nat), m * 10 ^ e + rest = k * 2 ^ down → rest < 10 ^ e → 2 ^ 52 ≤ m → m < 2 ^ 53 →
      mWP (d + 1) X (mCall mP X (d + 1)) (kX9_nearest, 10, []) Q 26 [.long (lN k), mU, .int (nI e), .long (lN (10 ^ e)), mU, .long (lN m), mU, .long (lN rest), mU, .int (nI down)] [] [] 0 0 := by
    intro m rest down h1 hr hm1 hm2
    obtain ⟨t, r, ht, h5, hr5, hrr⟩ := tT h1 hr hm1 hk
    have hT := isT_qr h5 hr5 hm1 hm2
    have hm := mR_qr h5 hr5
    have htl := isT_le he hk0 hT
    have hb := bitsT_lt he hk0 hT
    have hnr := nr_eq hT
    have ho := five_odd e
    have c1 : 10 ^ e < rest * 2 ↔ 5 ^ e < 2 * r := by
      rw [hrr, e10, Nat.mul_assoc, Nat.mul_comm r 2]
      exact Nat.mul_lt_mul_left p2
    have c2 : ¬ rest * 2 = 10 ^ e := by
      rw [hrr, e10, Nat.mul_assoc]
      intro c
      have := Nat.eq_of_mul_eq_mul_left p2 c
      omega
    have hgt := isT_gt hk hT
    have ht1 : 1 ≤ t := by
      rcases Nat.eq_zero_or_pos t with z | z
      · rw [z] at hgt
        have := five_pos e
        omega
      · exact z
    have fin : ∀ z : Nat, z = mR k e t → (¬ z = 2 ^ 53 → Q (.inl (some (.long ((nI (1075 - down)).toInt64 <<< ((nI 52).toInt64 &&& 63) ||| (lN z &&& lN (2 ^ 52 - 1)))))) [] 0 0) ∧ (z = 2 ^ 53 → Q (.inl (some (.long ((nI (1075 - (down - 1))).toInt64 <<< ((nI 52).toInt64 &&& 63) ||| (lN (2 ^ 52) &&& lN (2 ^ 52 - 1)))))) [] 0 0) := by
      intro z hz
      rw [wb_mask (by omega) (by decide), wb_mask (by omega) (by decide), nI_l (by omega), nI_l (by omega), wb_shl _ (by decide), wb_shl _ (by decide), or52 (by omega) (Nat.mod_lt _ (by decide)), or52 (by omega) (Nat.mod_lt _ (by decide))]
      rw [hnr] at hq
      unfold bitsT at hq
      refine ⟨fun hn => ?_, fun hn => ?_⟩
      · rw [show (1075 - down) * 2 ^ 52 + z % 2 ^ 52 = (1075 - e - t) * 2 ^ 52 + (mR k e t - 2 ^ 52) from by omega]
        exact hq
      · rw [show (1075 - (down - 1)) * 2 ^ 52 + 2 ^ 52 % 2 ^ 52 = (1075 - e - t) * 2 ^ 52 + (mR k e t - 2 ^ 52) from by omega]
        exact hq
    (refine mWP_st 80 ?_; simp only [mS_iload_n, mS_iload, mS_lload_n, mS_lload, mS_aload_n, mS_aload, mS_istore_n, mS_istore, mS_lstore_n, mS_lstore, mS_astore_n, mS_astore, mS_iinc, mS_iconst, mS_bipush, mS_sipush, mS_lconst, mS_ldc, mS_ldc_w, mS_ldc2_w, mS_getstatic, mS_iadd, mS_isub, mS_imul, mS_iand, mS_ior, mS_ixor, mS_ishl, mS_ishr, mS_iushr, mS_idiv, mS_irem, mS_ladd, mS_lsub, mS_lmul, mS_land, mS_lor, mS_lxor, mS_ldiv, mS_lrem, mS_lneg, mS_lshl, mS_lushr, mS_lcmp, mS_i2l, mS_l2i, mS_i2b, mS_dup_i, mS_dup_r, mS_dup2, mS_pop, mS_if_eq, mS_if_ne, mS_if_lt, mS_if_ge, mS_if_gt, mS_if_le, mS_icmp_eq, mS_icmp_ne, mS_icmp_lt, mS_icmp_ge, mS_icmp_gt, mS_icmp_le, mS_goto, mS_tsw, mS_lsw, mS_getfield, mS_putfield, mS_iaload, mS_iaload0, mS_baload, mS_laload, mS_laload1, mS_iastore, mS_bastore, mS_lastore, mS_alen, mS_alen0, mS_alen1, mS_newa_byte, mS_newa_int, mS_newa_long, mS_throw, mS_new, mS_oinit, mS_ireturn, mS_zreturn, mS_lreturn, mS_return, mS_mmin, mS_mmax, mS_mabs, mRun_go, mGo_t, mGo_f, mAt, mPut, mSt1, mSt2, mKill, mFit, mEnt, mPad, mSw, Nat.reduceAdd, Nat.reduceSub, Nat.reduceMod, Nat.reduceLT, Nat.reduceLeDiff, List.length_cons, List.length_nil, true_and, and_true, Option.some.injEq, Nat.zero_add, Classical.not_not, cmp_lt, cmp_ge, cmp_eq, cmp_gt, cmp_le, mAfter_v, mAfter_i, mAfter_l, mBack, mBk, mFrom, mRnC_l, mRnC_r, mRn_i, mRn_l, mRn_r, mRn_n, mRn_f, List.map_cons, List.map_nil, List.cons_append, List.nil_append, List.append_nil, Option.getD_some, Nat.add_zero, TX9_nearest_0, TX9_nearest_1, mSt_row])
    simp (disch := omega) only [i_0, i_1, i_2, i_3, i_4, i_5, i_6, i_7, i_8, i_9, i_10, i_11, i_12, i_13, i_15, i_16, i_27, i_28, i_31, i_32, i_52, i_54, i_56, i_63, i_64, i_88, i_128, i_255, i_256, i_257, i_2048, i_4000, i_65521, i_1048576, i_1075, nI_ofNat, nI_lt_iff, nI_le_iff, nI_eq_iff, nI_add, pk_mul, pk_sub, pk_div, pk_rem, nI_clamp, Nat.add_sub_cancel, Nat.reduceAdd, Nat.reduceSub, Nat.reduceMul, Nat.reduceDiv, Nat.reduceMod, Nat.reduceLT, Nat.reduceLeDiff, Nat.reduceEqDiff, Nat.add_zero, Nat.zero_add, n_rem, not_false_eq_true, not_true_eq_false, true_and, and_true, true_or, or_true, true_implies, false_implies, Nat.not_lt_zero, Nat.zero_le, l_0, l_1, l_2, l_10, l_52, l_53, l_52m, lLT, lEQ, lN_add, lN_mul, lN_sub, pk_lDiv, lRem2, n_rem, cmp_lt, cmp_ge, cmp_eq, cmp_gt, cmp_le, i_m1]
    sorry
  sorry
