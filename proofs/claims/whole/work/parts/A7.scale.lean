/-! the model's NEAREST -/
theorem i_m1 {n : Nat} (h : 1 ≤ n) : nI n + (-(nI 1)) = nI (n - 1) := by rw [← Int32.sub_eq_add_neg, pk_sub h]
theorem ten_lt {e : Nat} (h : e ≤ 15) : 10 ^ e ≤ 10 ^ 15 := Nat.pow_le_pow_right (by decide) h
theorem c_ten {X : mX0} {d e : Nat} (he : e ≤ 15) (Q : mQ) (hq : Q (.inl (some (.long (lN (10 ^ e))))) [] 0 0) : mCall mP X (d + 1) 99 [.int (nI e)] [] Q := by
  have loop : ∀ j i, i + j = e → mWP d X (mCall mP X d) (kX9_ten, 4, []) Q 4 [.int (nI e), .long (lN (10 ^ i)), mU, .int (nI i)] [] [] 0 0 := by
    intro j
    induction j with
    | zero =>
      intro i hi
      (refine mWP_st 80 ?_; simp only [mS_iload_n, mS_iload, mS_lload_n, mS_lload, mS_aload_n, mS_aload, mS_istore_n, mS_istore, mS_lstore_n, mS_lstore, mS_astore_n, mS_astore, mS_iinc, mS_iconst, mS_bipush, mS_sipush, mS_lconst, mS_ldc, mS_ldc_w, mS_ldc2_w, mS_getstatic, mS_iadd, mS_isub, mS_imul, mS_iand, mS_ior, mS_ixor, mS_ishl, mS_ishr, mS_iushr, mS_idiv, mS_irem, mS_ladd, mS_lsub, mS_lmul, mS_land, mS_lor, mS_lxor, mS_ldiv, mS_lrem, mS_lneg, mS_lshl, mS_lushr, mS_lcmp, mS_i2l, mS_l2i, mS_i2b, mS_dup_i, mS_dup_r, mS_dup2, mS_pop, mS_if_eq, mS_if_ne, mS_if_lt, mS_if_ge, mS_if_gt, mS_if_le, mS_icmp_eq, mS_icmp_ne, mS_icmp_lt, mS_icmp_ge, mS_icmp_gt, mS_icmp_le, mS_goto, mS_tsw, mS_lsw, mS_getfield, mS_putfield, mS_iaload, mS_iaload0, mS_baload, mS_laload, mS_laload1, mS_iastore, mS_bastore, mS_lastore, mS_alen, mS_alen0, mS_alen1, mS_newa_byte, mS_newa_int, mS_newa_long, mS_throw, mS_new, mS_oinit, mS_ireturn, mS_zreturn, mS_lreturn, mS_return, mS_mmin, mS_mmax, mS_mabs, mRun_go, mGo_t, mGo_f, mAt, mPut, mSt1, mSt2, mKill, mFit, mEnt, mPad, mSw, Nat.reduceAdd, Nat.reduceSub, Nat.reduceMod, Nat.reduceLT, Nat.reduceLeDiff, List.length_cons, List.length_nil, true_and, and_true, Option.some.injEq, Nat.zero_add, Classical.not_not, cmp_lt, cmp_ge, cmp_eq, cmp_gt, cmp_le, mAfter_v, mAfter_i, mAfter_l, mBack, mBk, mFrom, mRnC_l, mRnC_r, mRn_i, mRn_l, mRn_r, mRn_n, mRn_f, List.map_cons, List.map_nil, List.cons_append, List.nil_append, List.append_nil, Option.getD_some, Nat.add_zero, TX9_ten_0, mSt_row])
      simp (disch := omega) only [i_0, i_1, i_2, i_3, i_4, i_5, i_6, i_7, i_8, i_9, i_10, i_11, i_12, i_13, i_15, i_16, i_27, i_28, i_31, i_32, i_52, i_54, i_56, i_63, i_64, i_88, i_128, i_255, i_256, i_257, i_2048, i_4000, i_65521, i_1048576, i_1075, nI_ofNat, nI_lt_iff, nI_le_iff, nI_eq_iff, nI_add, pk_mul, pk_sub, pk_div, pk_rem, nI_clamp, Nat.add_sub_cancel, Nat.reduceAdd, Nat.reduceSub, Nat.reduceMul, Nat.reduceDiv, Nat.reduceMod, Nat.reduceLT, Nat.reduceLeDiff, Nat.reduceEqDiff, Nat.add_zero, Nat.zero_add, n_rem, not_false_eq_true, not_true_eq_false, true_and, and_true, true_or, or_true, true_implies, false_implies, Nat.not_lt_zero, Nat.zero_le, l_0, l_1, l_2, l_10, l_52, l_53, l_52m, lLT, lEQ, lN_add, lN_mul, lN_sub, pk_lDiv, lRem2, n_rem, cmp_lt, cmp_ge, cmp_eq, cmp_gt, cmp_le]
      rw [show i = e from by omega]
      exact ⟨fun _ => hq, fun h => absurd h (by omega)⟩
    | succ j ih =>
      intro i hi
      (refine mWP_st 80 ?_; simp only [mS_iload_n, mS_iload, mS_lload_n, mS_lload, mS_aload_n, mS_aload, mS_istore_n, mS_istore, mS_lstore_n, mS_lstore, mS_astore_n, mS_astore, mS_iinc, mS_iconst, mS_bipush, mS_sipush, mS_lconst, mS_ldc, mS_ldc_w, mS_ldc2_w, mS_getstatic, mS_iadd, mS_isub, mS_imul, mS_iand, mS_ior, mS_ixor, mS_ishl, mS_ishr, mS_iushr, mS_idiv, mS_irem, mS_ladd, mS_lsub, mS_lmul, mS_land, mS_lor, mS_lxor, mS_ldiv, mS_lrem, mS_lneg, mS_lshl, mS_lushr, mS_lcmp, mS_i2l, mS_l2i, mS_i2b, mS_dup_i, mS_dup_r, mS_dup2, mS_pop, mS_if_eq, mS_if_ne, mS_if_lt, mS_if_ge, mS_if_gt, mS_if_le, mS_icmp_eq, mS_icmp_ne, mS_icmp_lt, mS_icmp_ge, mS_icmp_gt, mS_icmp_le, mS_goto, mS_tsw, mS_lsw, mS_getfield, mS_putfield, mS_iaload, mS_iaload0, mS_baload, mS_laload, mS_laload1, mS_iastore, mS_bastore, mS_lastore, mS_alen, mS_alen0, mS_alen1, mS_newa_byte, mS_newa_int, mS_newa_long, mS_throw, mS_new, mS_oinit, mS_ireturn, mS_zreturn, mS_lreturn, mS_return, mS_mmin, mS_mmax, mS_mabs, mRun_go, mGo_t, mGo_f, mAt, mPut, mSt1, mSt2, mKill, mFit, mEnt, mPad, mSw, Nat.reduceAdd, Nat.reduceSub, Nat.reduceMod, Nat.reduceLT, Nat.reduceLeDiff, List.length_cons, List.length_nil, true_and, and_true, Option.some.injEq, Nat.zero_add, Classical.not_not, cmp_lt, cmp_ge, cmp_eq, cmp_gt, cmp_le, mAfter_v, mAfter_i, mAfter_l, mBack, mBk, mFrom, mRnC_l, mRnC_r, mRn_i, mRn_l, mRn_r, mRn_n, mRn_f, List.map_cons, List.map_nil, List.cons_append, List.nil_append, List.append_nil, Option.getD_some, Nat.add_zero, TX9_ten_0, mSt_row])
      simp (disch := omega) only [i_0, i_1, i_2, i_3, i_4, i_5, i_6, i_7, i_8, i_9, i_10, i_11, i_12, i_13, i_15, i_16, i_27, i_28, i_31, i_32, i_52, i_54, i_56, i_63, i_64, i_88, i_128, i_255, i_256, i_257, i_2048, i_4000, i_65521, i_1048576, i_1075, nI_ofNat, nI_lt_iff, nI_le_iff, nI_eq_iff, nI_add, pk_mul, pk_sub, pk_div, pk_rem, nI_clamp, Nat.add_sub_cancel, Nat.reduceAdd, Nat.reduceSub, Nat.reduceMul, Nat.reduceDiv, Nat.reduceMod, Nat.reduceLT, Nat.reduceLeDiff, Nat.reduceEqDiff, Nat.add_zero, Nat.zero_add, n_rem, not_false_eq_true, not_true_eq_false, true_and, and_true, true_or, or_true, true_implies, false_implies, Nat.not_lt_zero, Nat.zero_le, l_0, l_1, l_2, l_10, l_52, l_53, l_52m, lLT, lEQ, lN_add, lN_mul, lN_sub, pk_lDiv, lRem2, n_rem, cmp_lt, cmp_ge, cmp_eq, cmp_gt, cmp_le]
      refine ⟨fun h => absurd h (by omega), fun _ => ?_⟩
      rw [← Nat.pow_succ]
      exact ih (i + 1) (by omega)
  refine mCall_in pX9_ten 50 rfl ?_
  simp only [mS_iload_n, mS_iload, mS_lload_n, mS_lload, mS_aload_n, mS_aload, mS_istore_n, mS_istore, mS_lstore_n, mS_lstore, mS_astore_n, mS_astore, mS_iinc, mS_iconst, mS_bipush, mS_sipush, mS_lconst, mS_ldc, mS_ldc_w, mS_ldc2_w, mS_getstatic, mS_iadd, mS_isub, mS_imul, mS_iand, mS_ior, mS_ixor, mS_ishl, mS_ishr, mS_iushr, mS_idiv, mS_irem, mS_ladd, mS_lsub, mS_lmul, mS_land, mS_lor, mS_lxor, mS_ldiv, mS_lrem, mS_lneg, mS_lshl, mS_lushr, mS_lcmp, mS_i2l, mS_l2i, mS_i2b, mS_dup_i, mS_dup_r, mS_dup2, mS_pop, mS_if_eq, mS_if_ne, mS_if_lt, mS_if_ge, mS_if_gt, mS_if_le, mS_icmp_eq, mS_icmp_ne, mS_icmp_lt, mS_icmp_ge, mS_icmp_gt, mS_icmp_le, mS_goto, mS_tsw, mS_lsw, mS_getfield, mS_putfield, mS_iaload, mS_iaload0, mS_baload, mS_laload, mS_laload1, mS_iastore, mS_bastore, mS_lastore, mS_alen, mS_alen0, mS_alen1, mS_newa_byte, mS_newa_int, mS_newa_long, mS_throw, mS_new, mS_oinit, mS_ireturn, mS_zreturn, mS_lreturn, mS_return, mS_mmin, mS_mmax, mS_mabs, mRun_go, mGo_t, mGo_f, mAt, mPut, mSt1, mSt2, mKill, mFit, mEnt, mPad, mSw, Nat.reduceAdd, Nat.reduceSub, Nat.reduceMod, Nat.reduceLT, Nat.reduceLeDiff, List.length_cons, List.length_nil, true_and, and_true, Option.some.injEq, Nat.zero_add, Classical.not_not, cmp_lt, cmp_ge, cmp_eq, cmp_gt, cmp_le, mAfter_v, mAfter_i, mAfter_l, mBack, mBk, mFrom, mRnC_l, mRnC_r, mRn_i, mRn_l, mRn_r, mRn_n, mRn_f, List.map_cons, List.map_nil, List.cons_append, List.nil_append, List.append_nil, Option.getD_some, Nat.add_zero, TX9_ten_0]
  exact loop e 0 (by omega)
theorem tT {k e m rest down : Nat} (h : m * 10 ^ e + rest = k * 2 ^ down) (hr : rest < 10 ^ e) (h1 : 2 ^ 52 ≤ m) (hk : k < 2 ^ 52) : ∃ t r, down = e + t ∧ m * 5 ^ e + r = k * 2 ^ t ∧ r < 5 ^ e ∧ rest = 2 ^ e * r := by
  have e10 : 10 ^ e = 2 ^ e * 5 ^ e := by rw [← Nat.mul_pow]
  have p2 : 0 < 2 ^ e := Nat.pow_pos (by decide)
  have p5 := five_pos e
  have hd : e ≤ down := by
    rcases Nat.lt_or_ge down e with z | z
    · have a : 2 ^ down ≤ 2 ^ e := Nat.pow_le_pow_right (by decide) (by omega)
      have a2 : 2 ^ e * 1 ≤ 2 ^ e * 5 ^ e := Nat.mul_le_mul_left _ p5
      have b : k * 2 ^ down ≤ k * 10 ^ e := Nat.mul_le_mul_left _ (by omega)
      have c : (k + 1) * 10 ^ e ≤ m * 10 ^ e := Nat.mul_le_mul_right _ (by omega)
      rw [Nat.add_mul] at c
      omega
    · exact z
  have e1 : k * 2 ^ down = 2 ^ e * (k * 2 ^ (down - e)) := by
    rw [Nat.mul_left_comm, ← Nat.pow_add]
    congr 2
    omega
  have e2 : m * 10 ^ e = 2 ^ e * (m * 5 ^ e) := by rw [e10, Nat.mul_left_comm]
  have hle : m * 5 ^ e ≤ k * 2 ^ (down - e) := by
    apply Nat.le_of_mul_le_mul_left _ p2
    omega
  have e3 : rest = 2 ^ e * (k * 2 ^ (down - e) - m * 5 ^ e) := by
    rw [Nat.mul_sub]
    omega
  refine ⟨down - e, k * 2 ^ (down - e) - m * 5 ^ e, by omega, by omega, ?_, e3⟩
  apply Nat.lt_of_mul_lt_mul_left (a := 2 ^ e)
  rw [← e3, ← e10]
  exact hr
theorem or52 {a b : Nat} (ha : a < 2 ^ 11) (hb : b < 2 ^ 52) : lN (a * 2 ^ 52) ||| lN b = lN (a * 2 ^ 52 + b) := by
  rw [wb_or (by omega) (by omega)]
  congr 1
  rw [Nat.mul_comm, ← Nat.two_pow_add_eq_or_of_lt hb]
theorem c_mnearest {X : mX0} {d k e : Nat} (he : e ≤ 15) (hk : k < 2 ^ 52) (Q : mQ) (hq : Q (.inl (some (.long (lN (nr k e))))) [] 0 0) : mCall mP X (d + 2) 100 [.long (lN k), .int (nI e)] [] Q := by
  have h10 := ten_lt he
  have p10 : 0 < 10 ^ e := Nat.pow_pos (by decide)
  have e10 : 10 ^ e = 2 ^ e * 5 ^ e := by rw [← Nat.mul_pow]
  have p2 : 0 < 2 ^ e := Nat.pow_pos (by decide)
  rcases Nat.eq_zero_or_pos k with hk0 | hk0
  · subst hk0
    refine mCall_in pX9_nearest 50 rfl ?_
    simp only [mS_iload_n, mS_iload, mS_lload_n, mS_lload, mS_aload_n, mS_aload, mS_istore_n, mS_istore, mS_lstore_n, mS_lstore, mS_astore_n, mS_astore, mS_iinc, mS_iconst, mS_bipush, mS_sipush, mS_lconst, mS_ldc, mS_ldc_w, mS_ldc2_w, mS_getstatic, mS_iadd, mS_isub, mS_imul, mS_iand, mS_ior, mS_ixor, mS_ishl, mS_ishr, mS_iushr, mS_idiv, mS_irem, mS_ladd, mS_lsub, mS_lmul, mS_land, mS_lor, mS_lxor, mS_ldiv, mS_lrem, mS_lneg, mS_lshl, mS_lushr, mS_lcmp, mS_i2l, mS_l2i, mS_i2b, mS_dup_i, mS_dup_r, mS_dup2, mS_pop, mS_if_eq, mS_if_ne, mS_if_lt, mS_if_ge, mS_if_gt, mS_if_le, mS_icmp_eq, mS_icmp_ne, mS_icmp_lt, mS_icmp_ge, mS_icmp_gt, mS_icmp_le, mS_goto, mS_tsw, mS_lsw, mS_getfield, mS_putfield, mS_iaload, mS_iaload0, mS_baload, mS_laload, mS_laload1, mS_iastore, mS_bastore, mS_lastore, mS_alen, mS_alen0, mS_alen1, mS_newa_byte, mS_newa_int, mS_newa_long, mS_throw, mS_new, mS_oinit, mS_ireturn, mS_zreturn, mS_lreturn, mS_return, mS_mmin, mS_mmax, mS_mabs, mRun_go, mGo_t, mGo_f, mAt, mPut, mSt1, mSt2, mKill, mFit, mEnt, mPad, mSw, Nat.reduceAdd, Nat.reduceSub, Nat.reduceMod, Nat.reduceLT, Nat.reduceLeDiff, List.length_cons, List.length_nil, true_and, and_true, Option.some.injEq, Nat.zero_add, Classical.not_not, cmp_lt, cmp_ge, cmp_eq, cmp_gt, cmp_le, mAfter_v, mAfter_i, mAfter_l, mBack, mBk, mFrom, mRnC_l, mRnC_r, mRn_i, mRn_l, mRn_r, mRn_n, mRn_f, List.map_cons, List.map_nil, List.cons_append, List.nil_append, List.append_nil, Option.getD_some, Nat.add_zero, TX9_nearest_0, TX9_nearest_1]
    rw [nr_0] at hq
    exact ⟨fun h => absurd rfl h, fun _ => hq⟩
  have tail : ∀ (m rest down : Nat), m * 10 ^ e + rest = k * 2 ^ down → rest < 10 ^ e → 2 ^ 52 ≤ m → m < 2 ^ 53 →
      mWP (d + 1) X (mCall mP X (d + 1)) (kX9_nearest, 10, []) Q 26 [.long (lN k), mU, .int (nI e), .long (lN (10 ^ e)), mU, .long (lN m), mU, .long (lN rest), mU, .int (nI down)] [] [] 0 0 := by
    intro m rest down h1 hr hm1 hm2
    obtain ⟨t, r, ht, h5, hr5, hrr⟩ := tT h1 hr hm1 hk
    have hT := isT_qr h5 hr5 hm1 hm2
    have hm := mR_qr h5 hr5
    have htl := isT_le he hk0 hT
    have hb := bitsT_lt he hk0 hT
    have hnr := nr_eq hT
    have ho := five_odd e
    have c1 : 10 ^ e < rest * 2 ↔ 5 ^ e < 2 * r := by
      rw [hrr, e10, Nat.mul_assoc, Nat.mul_comm r 2]
      exact Nat.mul_lt_mul_left p2
    have c2 : ¬ rest * 2 = 10 ^ e := by
      rw [hrr, e10, Nat.mul_assoc]
      intro c
      have := Nat.eq_of_mul_eq_mul_left p2 c
      omega
    have hgt := isT_gt hk hT
    have ht1 : 1 ≤ t := by
      rcases Nat.eq_zero_or_pos t with z | z
      · rw [z] at hgt
        have := five_pos e
        omega
      · exact z
    have fin : ∀ z : Nat, z = mR k e t → (¬ z = 2 ^ 53 → Q (.inl (some (.long ((nI (1075 - down)).toInt64 <<< ((nI 52).toInt64 &&& 63) ||| (lN z &&& lN (2 ^ 52 - 1)))))) [] 0 0) ∧ (z = 2 ^ 53 → Q (.inl (some (.long ((nI (1075 - (down - 1))).toInt64 <<< ((nI 52).toInt64 &&& 63) ||| (lN (2 ^ 52) &&& lN (2 ^ 52 - 1)))))) [] 0 0) := by
      intro z hz
      rw [wb_mask (by omega) (by decide), wb_mask (by omega) (by decide), nI_l (n := 1075 - down) (by omega), nI_l (n := 1075 - (down - 1)) (by omega), wb_shl _ (by decide), wb_shl _ (by decide), or52 (by omega) (Nat.mod_lt _ (by decide)), or52 (by omega) (Nat.mod_lt _ (by decide))]
      rw [hnr] at hq
      unfold bitsT at hq
      refine ⟨fun hn => ?_, fun hn => ?_⟩
      · rw [show (1075 - down) * 2 ^ 52 + z % 2 ^ 52 = (1075 - e - t) * 2 ^ 52 + (mR k e t - 2 ^ 52) from by omega]
        exact hq
      · rw [show (1075 - (down - 1)) * 2 ^ 52 + 2 ^ 52 % 2 ^ 52 = (1075 - e - t) * 2 ^ 52 + (mR k e t - 2 ^ 52) from by omega]
        exact hq
    (refine mWP_st 80 ?_; simp only [mS_iload_n, mS_iload, mS_lload_n, mS_lload, mS_aload_n, mS_aload, mS_istore_n, mS_istore, mS_lstore_n, mS_lstore, mS_astore_n, mS_astore, mS_iinc, mS_iconst, mS_bipush, mS_sipush, mS_lconst, mS_ldc, mS_ldc_w, mS_ldc2_w, mS_getstatic, mS_iadd, mS_isub, mS_imul, mS_iand, mS_ior, mS_ixor, mS_ishl, mS_ishr, mS_iushr, mS_idiv, mS_irem, mS_ladd, mS_lsub, mS_lmul, mS_land, mS_lor, mS_lxor, mS_ldiv, mS_lrem, mS_lneg, mS_lshl, mS_lushr, mS_lcmp, mS_i2l, mS_l2i, mS_i2b, mS_dup_i, mS_dup_r, mS_dup2, mS_pop, mS_if_eq, mS_if_ne, mS_if_lt, mS_if_ge, mS_if_gt, mS_if_le, mS_icmp_eq, mS_icmp_ne, mS_icmp_lt, mS_icmp_ge, mS_icmp_gt, mS_icmp_le, mS_goto, mS_tsw, mS_lsw, mS_getfield, mS_putfield, mS_iaload, mS_iaload0, mS_baload, mS_laload, mS_laload1, mS_iastore, mS_bastore, mS_lastore, mS_alen, mS_alen0, mS_alen1, mS_newa_byte, mS_newa_int, mS_newa_long, mS_throw, mS_new, mS_oinit, mS_ireturn, mS_zreturn, mS_lreturn, mS_return, mS_mmin, mS_mmax, mS_mabs, mRun_go, mGo_t, mGo_f, mAt, mPut, mSt1, mSt2, mKill, mFit, mEnt, mPad, mSw, Nat.reduceAdd, Nat.reduceSub, Nat.reduceMod, Nat.reduceLT, Nat.reduceLeDiff, List.length_cons, List.length_nil, true_and, and_true, Option.some.injEq, Nat.zero_add, Classical.not_not, cmp_lt, cmp_ge, cmp_eq, cmp_gt, cmp_le, mAfter_v, mAfter_i, mAfter_l, mBack, mBk, mFrom, mRnC_l, mRnC_r, mRn_i, mRn_l, mRn_r, mRn_n, mRn_f, List.map_cons, List.map_nil, List.cons_append, List.nil_append, List.append_nil, Option.getD_some, Nat.add_zero, TX9_nearest_0, TX9_nearest_1, mSt_row])
    simp (disch := omega) only [i_0, i_1, i_2, i_3, i_4, i_5, i_6, i_7, i_8, i_9, i_10, i_11, i_12, i_13, i_15, i_16, i_27, i_28, i_31, i_32, i_52, i_54, i_56, i_63, i_64, i_88, i_128, i_255, i_256, i_257, i_2048, i_4000, i_65521, i_1048576, i_1075, nI_ofNat, nI_lt_iff, nI_le_iff, nI_eq_iff, nI_add, pk_mul, pk_sub, pk_div, pk_rem, nI_clamp, Nat.add_sub_cancel, Nat.reduceAdd, Nat.reduceSub, Nat.reduceMul, Nat.reduceDiv, Nat.reduceMod, Nat.reduceLT, Nat.reduceLeDiff, Nat.reduceEqDiff, Nat.add_zero, Nat.zero_add, n_rem, not_false_eq_true, not_true_eq_false, true_and, and_true, true_or, or_true, true_implies, false_implies, Nat.not_lt_zero, Nat.zero_le, l_0, l_1, l_2, l_10, l_52, l_53, l_52m, lLT, lEQ, lN_add, lN_mul, lN_sub, pk_lDiv, lRem2, n_rem, cmp_lt, cmp_ge, cmp_eq, cmp_gt, cmp_le, i_m1]
    refine ⟨fun _ => ⟨fun c => ?_, fun c => ⟨fun _ => ?_, fun c' => absurd c' c2⟩⟩, fun h => absurd h (by omega)⟩
    · rw [if_pos (c1.mp c)] at hm
      exact fin (m + 1) hm.symm
    · rw [if_neg (fun h => c (c1.mpr h))] at hm
      exact fin m hm.symm
  have loop : ∀ (j m rest down : Nat), down + j = 103 → m * 10 ^ e + rest = k * 2 ^ down → rest < 10 ^ e → m < 2 ^ 53 →
      mWP (d + 1) X (mCall mP X (d + 1)) (kX9_nearest, 10, []) Q 26 [.long (lN k), mU, .int (nI e), .long (lN (10 ^ e)), mU, .long (lN m), mU, .long (lN rest), mU, .int (nI down)] [] [] 0 0 := by
    intro j
    induction j with
    | zero =>
      intro m rest down hd h1 hr hm2
      have : 2 ^ 52 ≤ m := by
        rcases Nat.lt_or_ge m (2 ^ 52) with z | z
        · have a : (m + 1) * 10 ^ e ≤ 2 ^ 52 * 10 ^ 15 := Nat.mul_le_mul z h10
          have b : 1 * 2 ^ 103 ≤ k * 2 ^ down := by rw [show down = 103 from by omega]; exact Nat.mul_le_mul_right _ hk0
          rw [Nat.add_mul] at a
          omega
        · exact z
      exact tail m rest down h1 hr this hm2
    | succ j ih =>
      intro m rest down hd h1 hr hm2
      rcases Nat.lt_or_ge m (2 ^ 52) with hlt | hge
      · have e1 : k * 2 ^ (down + 1) = 2 * (k * 2 ^ down) := by rw [pow_s, Nat.mul_left_comm]
        have e2 : m * 2 * 10 ^ e = 2 * (m * 10 ^ e) := by rw [Nat.mul_comm m 2, Nat.mul_assoc]
        (refine mWP_st 80 ?_; simp only [mS_iload_n, mS_iload, mS_lload_n, mS_lload, mS_aload_n, mS_aload, mS_istore_n, mS_istore, mS_lstore_n, mS_lstore, mS_astore_n, mS_astore, mS_iinc, mS_iconst, mS_bipush, mS_sipush, mS_lconst, mS_ldc, mS_ldc_w, mS_ldc2_w, mS_getstatic, mS_iadd, mS_isub, mS_imul, mS_iand, mS_ior, mS_ixor, mS_ishl, mS_ishr, mS_iushr, mS_idiv, mS_irem, mS_ladd, mS_lsub, mS_lmul, mS_land, mS_lor, mS_lxor, mS_ldiv, mS_lrem, mS_lneg, mS_lshl, mS_lushr, mS_lcmp, mS_i2l, mS_l2i, mS_i2b, mS_dup_i, mS_dup_r, mS_dup2, mS_pop, mS_if_eq, mS_if_ne, mS_if_lt, mS_if_ge, mS_if_gt, mS_if_le, mS_icmp_eq, mS_icmp_ne, mS_icmp_lt, mS_icmp_ge, mS_icmp_gt, mS_icmp_le, mS_goto, mS_tsw, mS_lsw, mS_getfield, mS_putfield, mS_iaload, mS_iaload0, mS_baload, mS_laload, mS_laload1, mS_iastore, mS_bastore, mS_lastore, mS_alen, mS_alen0, mS_alen1, mS_newa_byte, mS_newa_int, mS_newa_long, mS_throw, mS_new, mS_oinit, mS_ireturn, mS_zreturn, mS_lreturn, mS_return, mS_mmin, mS_mmax, mS_mabs, mRun_go, mGo_t, mGo_f, mAt, mPut, mSt1, mSt2, mKill, mFit, mEnt, mPad, mSw, Nat.reduceAdd, Nat.reduceSub, Nat.reduceMod, Nat.reduceLT, Nat.reduceLeDiff, List.length_cons, List.length_nil, true_and, and_true, Option.some.injEq, Nat.zero_add, Classical.not_not, cmp_lt, cmp_ge, cmp_eq, cmp_gt, cmp_le, mAfter_v, mAfter_i, mAfter_l, mBack, mBk, mFrom, mRnC_l, mRnC_r, mRn_i, mRn_l, mRn_r, mRn_n, mRn_f, List.map_cons, List.map_nil, List.cons_append, List.nil_append, List.append_nil, Option.getD_some, Nat.add_zero, TX9_nearest_0, TX9_nearest_1, mSt_row])
        simp (disch := omega) only [i_0, i_1, i_2, i_3, i_4, i_5, i_6, i_7, i_8, i_9, i_10, i_11, i_12, i_13, i_15, i_16, i_27, i_28, i_31, i_32, i_52, i_54, i_56, i_63, i_64, i_88, i_128, i_255, i_256, i_257, i_2048, i_4000, i_65521, i_1048576, i_1075, nI_ofNat, nI_lt_iff, nI_le_iff, nI_eq_iff, nI_add, pk_mul, pk_sub, pk_div, pk_rem, nI_clamp, Nat.add_sub_cancel, Nat.reduceAdd, Nat.reduceSub, Nat.reduceMul, Nat.reduceDiv, Nat.reduceMod, Nat.reduceLT, Nat.reduceLeDiff, Nat.reduceEqDiff, Nat.add_zero, Nat.zero_add, n_rem, not_false_eq_true, not_true_eq_false, true_and, and_true, true_or, or_true, true_implies, false_implies, Nat.not_lt_zero, Nat.zero_le, l_0, l_1, l_2, l_10, l_52, l_53, l_52m, lLT, lEQ, lN_add, lN_mul, lN_sub, pk_lDiv, lRem2, n_rem, cmp_lt, cmp_ge, cmp_eq, cmp_gt, cmp_le]
        refine ⟨fun h => absurd hlt h, fun _ => ⟨fun h => ?_, fun h => ?_⟩⟩
        · exact ih (m * 2) (rest * 2) (down + 1) (by omega) (by rw [e1, e2]; omega) h (by omega)
        · rw [lN_sub (by omega)]
          exact ih (m * 2 + 1) (rest * 2 - 10 ^ e) (down + 1) (by omega) (by rw [e1, Nat.add_mul, e2]; omega) (by omega) (by omega)
      · exact tail m rest down h1 hr hge hm2
  refine mCall_in pX9_nearest 50 rfl ?_
  simp only [mS_iload_n, mS_iload, mS_lload_n, mS_lload, mS_aload_n, mS_aload, mS_istore_n, mS_istore, mS_lstore_n, mS_lstore, mS_astore_n, mS_astore, mS_iinc, mS_iconst, mS_bipush, mS_sipush, mS_lconst, mS_ldc, mS_ldc_w, mS_ldc2_w, mS_getstatic, mS_iadd, mS_isub, mS_imul, mS_iand, mS_ior, mS_ixor, mS_ishl, mS_ishr, mS_iushr, mS_idiv, mS_irem, mS_ladd, mS_lsub, mS_lmul, mS_land, mS_lor, mS_lxor, mS_ldiv, mS_lrem, mS_lneg, mS_lshl, mS_lushr, mS_lcmp, mS_i2l, mS_l2i, mS_i2b, mS_dup_i, mS_dup_r, mS_dup2, mS_pop, mS_if_eq, mS_if_ne, mS_if_lt, mS_if_ge, mS_if_gt, mS_if_le, mS_icmp_eq, mS_icmp_ne, mS_icmp_lt, mS_icmp_ge, mS_icmp_gt, mS_icmp_le, mS_goto, mS_tsw, mS_lsw, mS_getfield, mS_putfield, mS_iaload, mS_iaload0, mS_baload, mS_laload, mS_laload1, mS_iastore, mS_bastore, mS_lastore, mS_alen, mS_alen0, mS_alen1, mS_newa_byte, mS_newa_int, mS_newa_long, mS_throw, mS_new, mS_oinit, mS_ireturn, mS_zreturn, mS_lreturn, mS_return, mS_mmin, mS_mmax, mS_mabs, mRun_go, mGo_t, mGo_f, mAt, mPut, mSt1, mSt2, mKill, mFit, mEnt, mPad, mSw, Nat.reduceAdd, Nat.reduceSub, Nat.reduceMod, Nat.reduceLT, Nat.reduceLeDiff, List.length_cons, List.length_nil, true_and, and_true, Option.some.injEq, Nat.zero_add, Classical.not_not, cmp_lt, cmp_ge, cmp_eq, cmp_gt, cmp_le, mAfter_v, mAfter_i, mAfter_l, mBack, mBk, mFrom, mRnC_l, mRnC_r, mRn_i, mRn_l, mRn_r, mRn_n, mRn_f, List.map_cons, List.map_nil, List.cons_append, List.nil_append, List.append_nil, Option.getD_some, Nat.add_zero, TX9_nearest_0, TX9_nearest_1]
  simp (disch := omega) only [i_0, i_1, i_2, i_3, i_4, i_5, i_6, i_7, i_8, i_9, i_10, i_11, i_12, i_13, i_15, i_16, i_27, i_28, i_31, i_32, i_52, i_54, i_56, i_63, i_64, i_88, i_128, i_255, i_256, i_257, i_2048, i_4000, i_65521, i_1048576, i_1075, nI_ofNat, nI_lt_iff, nI_le_iff, nI_eq_iff, nI_add, pk_mul, pk_sub, pk_div, pk_rem, nI_clamp, Nat.add_sub_cancel, Nat.reduceAdd, Nat.reduceSub, Nat.reduceMul, Nat.reduceDiv, Nat.reduceMod, Nat.reduceLT, Nat.reduceLeDiff, Nat.reduceEqDiff, Nat.add_zero, Nat.zero_add, n_rem, not_false_eq_true, not_true_eq_false, true_and, and_true, true_or, or_true, true_implies, false_implies, Nat.not_lt_zero, Nat.zero_le, l_0, l_1, l_2, l_10, l_52, l_53, l_52m, lLT, lEQ, lN_add, lN_mul, lN_sub, pk_lDiv, lRem2, n_rem, cmp_lt, cmp_ge, cmp_eq, cmp_gt, cmp_le]
  refine ⟨fun _ => ?_, fun h => absurd h (by omega)⟩
  (refine mWP_s 80 (by simp only [TX9_nearest_0, TX9_nearest_1]; rfl) [] [] (c_ten (d := d) he) rfl rfl rfl rfl rfl (Nat.le_of_ble_eq_true rfl) rfl rfl rfl ?_; simp only [mS_iload_n, mS_iload, mS_lload_n, mS_lload, mS_aload_n, mS_aload, mS_istore_n, mS_istore, mS_lstore_n, mS_lstore, mS_astore_n, mS_astore, mS_iinc, mS_iconst, mS_bipush, mS_sipush, mS_lconst, mS_ldc, mS_ldc_w, mS_ldc2_w, mS_getstatic, mS_iadd, mS_isub, mS_imul, mS_iand, mS_ior, mS_ixor, mS_ishl, mS_ishr, mS_iushr, mS_idiv, mS_irem, mS_ladd, mS_lsub, mS_lmul, mS_land, mS_lor, mS_lxor, mS_ldiv, mS_lrem, mS_lneg, mS_lshl, mS_lushr, mS_lcmp, mS_i2l, mS_l2i, mS_i2b, mS_dup_i, mS_dup_r, mS_dup2, mS_pop, mS_if_eq, mS_if_ne, mS_if_lt, mS_if_ge, mS_if_gt, mS_if_le, mS_icmp_eq, mS_icmp_ne, mS_icmp_lt, mS_icmp_ge, mS_icmp_gt, mS_icmp_le, mS_goto, mS_tsw, mS_lsw, mS_getfield, mS_putfield, mS_iaload, mS_iaload0, mS_baload, mS_laload, mS_laload1, mS_iastore, mS_bastore, mS_lastore, mS_alen, mS_alen0, mS_alen1, mS_newa_byte, mS_newa_int, mS_newa_long, mS_throw, mS_new, mS_oinit, mS_ireturn, mS_zreturn, mS_lreturn, mS_return, mS_mmin, mS_mmax, mS_mabs, mRun_go, mGo_t, mGo_f, mAt, mPut, mSt1, mSt2, mKill, mFit, mEnt, mPad, mSw, Nat.reduceAdd, Nat.reduceSub, Nat.reduceMod, Nat.reduceLT, Nat.reduceLeDiff, List.length_cons, List.length_nil, true_and, and_true, Option.some.injEq, Nat.zero_add, Classical.not_not, cmp_lt, cmp_ge, cmp_eq, cmp_gt, cmp_le, mAfter_v, mAfter_i, mAfter_l, mBack, mBk, mFrom, mRnC_l, mRnC_r, mRn_i, mRn_l, mRn_r, mRn_n, mRn_f, List.map_cons, List.map_nil, List.cons_append, List.nil_append, List.append_nil, Option.getD_some, Nat.add_zero, TX9_nearest_0, TX9_nearest_1])
  have a : k / 10 ^ e ≤ k := Nat.div_le_self _ _
  simp (disch := omega) only [i_0, i_1, i_2, i_3, i_4, i_5, i_6, i_7, i_8, i_9, i_10, i_11, i_12, i_13, i_15, i_16, i_27, i_28, i_31, i_32, i_52, i_54, i_56, i_63, i_64, i_88, i_128, i_255, i_256, i_257, i_2048, i_4000, i_65521, i_1048576, i_1075, nI_ofNat, nI_lt_iff, nI_le_iff, nI_eq_iff, nI_add, pk_mul, pk_sub, pk_div, pk_rem, nI_clamp, Nat.add_sub_cancel, Nat.reduceAdd, Nat.reduceSub, Nat.reduceMul, Nat.reduceDiv, Nat.reduceMod, Nat.reduceLT, Nat.reduceLeDiff, Nat.reduceEqDiff, Nat.add_zero, Nat.zero_add, n_rem, not_false_eq_true, not_true_eq_false, true_and, and_true, true_or, or_true, true_implies, false_implies, Nat.not_lt_zero, Nat.zero_le, l_0, l_1, l_2, l_10, l_52, l_53, l_52m, lLT, lEQ, lN_add, lN_mul, lN_sub, pk_lDiv, lRem2, n_rem, cmp_lt, cmp_ge, cmp_eq, cmp_gt, cmp_le]
  exact ⟨by omega, by omega, loop 103 (k / 10 ^ e) (k % 10 ^ e) 0 (by omega) (by rw [Nat.mul_comm, Nat.div_add_mod]; simp) (Nat.mod_lt _ p10) (by omega)⟩
theorem c_signedNearest {X : mX0} {d e : Nat} (he : e ≤ 15) (x : Int64) (hx1 : -(2 ^ 52) < x.toInt) (hx2 : x.toInt < 2 ^ 52) (Q : mQ) (hq : Q (.inl (some (.long (nrS x e)))) [] 0 0) : mCall mP X (d + 3) 101 [.long x, .int (nI e)] [] Q := by
  have z0 : (0 : Int64).toInt = 0 := rfl
  unfold nrS at hq
  refine mCall_in pX9_signedNearest 50 rfl ?_
  simp only [mS_iload_n, mS_iload, mS_lload_n, mS_lload, mS_aload_n, mS_aload, mS_istore_n, mS_istore, mS_lstore_n, mS_lstore, mS_astore_n, mS_astore, mS_iinc, mS_iconst, mS_bipush, mS_sipush, mS_lconst, mS_ldc, mS_ldc_w, mS_ldc2_w, mS_getstatic, mS_iadd, mS_isub, mS_imul, mS_iand, mS_ior, mS_ixor, mS_ishl, mS_ishr, mS_iushr, mS_idiv, mS_irem, mS_ladd, mS_lsub, mS_lmul, mS_land, mS_lor, mS_lxor, mS_ldiv, mS_lrem, mS_lneg, mS_lshl, mS_lushr, mS_lcmp, mS_i2l, mS_l2i, mS_i2b, mS_dup_i, mS_dup_r, mS_dup2, mS_pop, mS_if_eq, mS_if_ne, mS_if_lt, mS_if_ge, mS_if_gt, mS_if_le, mS_icmp_eq, mS_icmp_ne, mS_icmp_lt, mS_icmp_ge, mS_icmp_gt, mS_icmp_le, mS_goto, mS_tsw, mS_lsw, mS_getfield, mS_putfield, mS_iaload, mS_iaload0, mS_baload, mS_laload, mS_laload1, mS_iastore, mS_bastore, mS_lastore, mS_alen, mS_alen0, mS_alen1, mS_newa_byte, mS_newa_int, mS_newa_long, mS_throw, mS_new, mS_oinit, mS_ireturn, mS_zreturn, mS_lreturn, mS_return, mS_mmin, mS_mmax, mS_mabs, mRun_go, mGo_t, mGo_f, mAt, mPut, mSt1, mSt2, mKill, mFit, mEnt, mPad, mSw, Nat.reduceAdd, Nat.reduceSub, Nat.reduceMod, Nat.reduceLT, Nat.reduceLeDiff, List.length_cons, List.length_nil, true_and, and_true, Option.some.injEq, Nat.zero_add, Classical.not_not, cmp_lt, cmp_ge, cmp_eq, cmp_gt, cmp_le, mAfter_v, mAfter_i, mAfter_l, mBack, mBk, mFrom, mRnC_l, mRnC_r, mRn_i, mRn_l, mRn_r, mRn_n, mRn_f, List.map_cons, List.map_nil, List.cons_append, List.nil_append, List.append_nil, Option.getD_some, Nat.add_zero, TX9_signedNearest_0]
  refine ⟨fun h => ?_, fun h => ?_⟩
  · rw [if_neg h] at hq
    obtain ⟨k, hk, rfl⟩ := pk_lOf h
    rw [pk_lT hk] at hx2
    rw [uL_lN (by omega)] at hq
    (refine mWP_s 80 (by simp only [TX9_signedNearest_0]; rfl) [] [] (c_mnearest (d := d) he (k := k) (by omega)) rfl rfl rfl rfl rfl (Nat.le_of_ble_eq_true rfl) rfl rfl rfl ?_; simp only [mS_iload_n, mS_iload, mS_lload_n, mS_lload, mS_aload_n, mS_aload, mS_istore_n, mS_istore, mS_lstore_n, mS_lstore, mS_astore_n, mS_astore, mS_iinc, mS_iconst, mS_bipush, mS_sipush, mS_lconst, mS_ldc, mS_ldc_w, mS_ldc2_w, mS_getstatic, mS_iadd, mS_isub, mS_imul, mS_iand, mS_ior, mS_ixor, mS_ishl, mS_ishr, mS_iushr, mS_idiv, mS_irem, mS_ladd, mS_lsub, mS_lmul, mS_land, mS_lor, mS_lxor, mS_ldiv, mS_lrem, mS_lneg, mS_lshl, mS_lushr, mS_lcmp, mS_i2l, mS_l2i, mS_i2b, mS_dup_i, mS_dup_r, mS_dup2, mS_pop, mS_if_eq, mS_if_ne, mS_if_lt, mS_if_ge, mS_if_gt, mS_if_le, mS_icmp_eq, mS_icmp_ne, mS_icmp_lt, mS_icmp_ge, mS_icmp_gt, mS_icmp_le, mS_goto, mS_tsw, mS_lsw, mS_getfield, mS_putfield, mS_iaload, mS_iaload0, mS_baload, mS_laload, mS_laload1, mS_iastore, mS_bastore, mS_lastore, mS_alen, mS_alen0, mS_alen1, mS_newa_byte, mS_newa_int, mS_newa_long, mS_throw, mS_new, mS_oinit, mS_ireturn, mS_zreturn, mS_lreturn, mS_return, mS_mmin, mS_mmax, mS_mabs, mRun_go, mGo_t, mGo_f, mAt, mPut, mSt1, mSt2, mKill, mFit, mEnt, mPad, mSw, Nat.reduceAdd, Nat.reduceSub, Nat.reduceMod, Nat.reduceLT, Nat.reduceLeDiff, List.length_cons, List.length_nil, true_and, and_true, Option.some.injEq, Nat.zero_add, Classical.not_not, cmp_lt, cmp_ge, cmp_eq, cmp_gt, cmp_le, mAfter_v, mAfter_i, mAfter_l, mBack, mBk, mFrom, mRnC_l, mRnC_r, mRn_i, mRn_l, mRn_r, mRn_n, mRn_f, List.map_cons, List.map_nil, List.cons_append, List.nil_append, List.append_nil, Option.getD_some, Nat.add_zero, TX9_signedNearest_0])
    exact hq
  · rw [if_pos h] at hq
    obtain ⟨k, hk, hkx⟩ := pk_lOf (x := -x) (by rw [Int64.lt_iff_toInt_lt, negI (by omega) (by omega)]; rw [Int64.lt_iff_toInt_lt] at h; omega)
    have hkt := congrArg Int64.toInt hkx
    rw [negI (by omega) (by omega), pk_lT hk] at hkt
    rw [hkx, uL_lN (by omega)] at hq
    rw [hkx]
    (refine mWP_s 80 (by simp only [TX9_signedNearest_0]; rfl) [] [] (c_mnearest (d := d) he (k := k) (by omega)) rfl rfl rfl rfl rfl (Nat.le_of_ble_eq_true rfl) rfl rfl rfl ?_; simp only [mS_iload_n, mS_iload, mS_lload_n, mS_lload, mS_aload_n, mS_aload, mS_istore_n, mS_istore, mS_lstore_n, mS_lstore, mS_astore_n, mS_astore, mS_iinc, mS_iconst, mS_bipush, mS_sipush, mS_lconst, mS_ldc, mS_ldc_w, mS_ldc2_w, mS_getstatic, mS_iadd, mS_isub, mS_imul, mS_iand, mS_ior, mS_ixor, mS_ishl, mS_ishr, mS_iushr, mS_idiv, mS_irem, mS_ladd, mS_lsub, mS_lmul, mS_land, mS_lor, mS_lxor, mS_ldiv, mS_lrem, mS_lneg, mS_lshl, mS_lushr, mS_lcmp, mS_i2l, mS_l2i, mS_i2b, mS_dup_i, mS_dup_r, mS_dup2, mS_pop, mS_if_eq, mS_if_ne, mS_if_lt, mS_if_ge, mS_if_gt, mS_if_le, mS_icmp_eq, mS_icmp_ne, mS_icmp_lt, mS_icmp_ge, mS_icmp_gt, mS_icmp_le, mS_goto, mS_tsw, mS_lsw, mS_getfield, mS_putfield, mS_iaload, mS_iaload0, mS_baload, mS_laload, mS_laload1, mS_iastore, mS_bastore, mS_lastore, mS_alen, mS_alen0, mS_alen1, mS_newa_byte, mS_newa_int, mS_newa_long, mS_throw, mS_new, mS_oinit, mS_ireturn, mS_zreturn, mS_lreturn, mS_return, mS_mmin, mS_mmax, mS_mabs, mRun_go, mGo_t, mGo_f, mAt, mPut, mSt1, mSt2, mKill, mFit, mEnt, mPad, mSw, Nat.reduceAdd, Nat.reduceSub, Nat.reduceMod, Nat.reduceLT, Nat.reduceLeDiff, List.length_cons, List.length_nil, true_and, and_true, Option.some.injEq, Nat.zero_add, Classical.not_not, cmp_lt, cmp_ge, cmp_eq, cmp_gt, cmp_le, mAfter_v, mAfter_i, mAfter_l, mBack, mBk, mFrom, mRnC_l, mRnC_r, mRn_i, mRn_l, mRn_r, mRn_n, mRn_f, List.map_cons, List.map_nil, List.cons_append, List.nil_append, List.append_nil, Option.getD_some, Nat.add_zero, TX9_signedNearest_0])
    exact hq
theorem isT_ex {k e : Nat} (hk : 0 < k) (hk2 : k < 2 ^ 52) : ∃ t, isT k e t := by
  have h5 := five_pos e
  have ex : ∃ t, 2 ^ 52 * 5 ^ e ≤ k * 2 ^ t := ⟨2 ^ 52 * 5 ^ e, by
    have a : 2 ^ 52 * 5 ^ e < 2 ^ (2 ^ 52 * 5 ^ e) := Nat.lt_two_pow_self
    have b : 1 * 2 ^ (2 ^ 52 * 5 ^ e) ≤ k * 2 ^ (2 ^ 52 * 5 ^ e) := Nat.mul_le_mul_right _ hk
    rw [Nat.one_mul] at b
    exact Nat.le_trans (Nat.le_of_lt a) b⟩
  obtain ⟨t, h1, h2⟩ := pk_least _ ex
  refine ⟨t, h1, ?_⟩
  rcases Nat.eq_zero_or_pos t with z | z
  · rw [z] at h1 ⊢
    have : (k + 1) * 5 ^ e ≤ 2 ^ 52 * 5 ^ e := Nat.mul_le_mul_right _ hk2
    have b : k * 1 ≤ k * 5 ^ e := Nat.mul_le_mul_left _ h5
    rw [Nat.add_mul] at this
    omega
  · have := h2 (t - 1) (by omega)
    have e1 : k * 2 ^ t = 2 * (k * 2 ^ (t - 1)) := by
      have : 2 ^ t = 2 * 2 ^ (t - 1) := by rw [← pow_s]; congr 1; omega
      rw [this, Nat.mul_left_comm]
    omega
theorem nr_mono {k k' e : Nat} (he : e ≤ 15) (hk : 0 < k) (hkk : k ≤ k') (hk2 : k' < 2 ^ 52) : nr k e ≤ nr k' e := by
  obtain ⟨t, h⟩ := isT_ex (e := e) hk (by omega)
  obtain ⟨t', h'⟩ := isT_ex (e := e) (show 0 < k' by omega) hk2
  rw [nr_eq h, nr_eq h']
  have b := bitsT_lt he hk h
  have b' := bitsT_lt he (by omega) h'
  have l := isT_le he hk h
  have l' := isT_le he (by omega) h'
  unfold bitsT
  rcases Nat.lt_trichotomy t t' with z | z | z
  · exfalso
    have e1 : 2 * 2 ^ t ≤ 2 ^ t' := by rw [← pow_s]; exact Nat.pow_le_pow_right (by decide) z
    have e2 : k * (2 * 2 ^ t) ≤ k' * 2 ^ t' := Nat.mul_le_mul hkk e1
    have e3 : k * (2 * 2 ^ t) = 2 * (k * 2 ^ t) := Nat.mul_left_comm _ _ _
    have := h.1
    have := h'.2
    omega
  · subst z
    have : mR k e t ≤ mR k' e t := by
      unfold mR
      apply Nat.div_le_div_right
      have : k * 2 ^ t ≤ k' * 2 ^ t := Nat.mul_le_mul_right _ hkk
      omega
    omega
  · omega
/-- the whole number nearest to 10^e times a double -/
def nwN (u e : Nat) : Nat := if 1075 < u / 2 ^ 52 + e + 1 then 2 ^ 52 else if 88 < 1074 - u / 2 ^ 52 - e then 0 else ((u % 2 ^ 52 + 2 ^ 52) * 5 ^ e / 2 ^ (1074 - u / 2 ^ 52 - e) + 1) / 2
theorem rnd {P T k : Nat} (h1' : P < 2 * (k * T) + T) (h2' : 2 * (k * T) < P + T) : (P / T + 1) / 2 = k := by
  have h1 : P < (2 * k + 1) * T := by rw [Nat.add_mul, Nat.mul_assoc]; omega
  have h2 : (2 * k) * T < P + T := by rw [Nat.mul_assoc]; exact h2'
  have hT : 0 < T := by
    rcases Nat.eq_zero_or_pos T with z | z
    · rw [z] at h1; simp at h1
    · exact z
  have a : P / T < 2 * k + 1 := (Nat.div_lt_iff_lt_mul hT).mpr h1
  have b : 2 * k ≤ P / T + 1 := by
    rw [← Nat.add_div_right P hT]
    exact (Nat.le_div_iff_mul_le hT).mpr (Nat.le_of_lt h2)
  omega
theorem nwN_eq {k e : Nat} (he : e ≤ 15) (hk : 0 < k) (hk2 : k < 2 ^ 52) : nwN (nr k e) e = k := by
  obtain ⟨t, h⟩ := isT_ex (e := e) hk hk2
  rw [nr_eq h]
  have b := bitsT_lt he hk h
  have l := isT_le he hk h
  have g := isT_gt hk2 h
  have ho := five_odd e
  have h5 := five_pos e
  have ht1 : 1 ≤ t := by
    rcases Nat.eq_zero_or_pos t with z | z
    · rw [z] at g; omega
    · exact z
  -- the rounded one lies close
  have m1 : mR k e t * (2 * 5 ^ e) ≤ 2 * (k * 2 ^ t) + 5 ^ e := Nat.div_mul_le_self _ _
  have m2 : 2 * (k * 2 ^ t) + 5 ^ e < (mR k e t + 1) * (2 * 5 ^ e) :=
    Nat.lt_of_lt_of_eq (Nat.lt_mul_div_succ (2 * (k * 2 ^ t) + 5 ^ e) (show 0 < 2 * 5 ^ e by omega)) (Nat.mul_comm _ _)
  have eT : 2 ^ t = 2 * 2 ^ (t - 1) := by rw [← pow_s]; congr 1; omega
  have eM : mR k e t * (2 * 5 ^ e) = 2 * (mR k e t * 5 ^ e) := Nat.mul_left_comm _ _ _
  have ek : k * 2 ^ t = 2 * (k * 2 ^ (t - 1)) := by rw [eT, Nat.mul_left_comm]
  rw [Nat.add_mul, eM] at m2
  rw [eM] at m1
  unfold bitsT nwN
  by_cases hc : mR k e t = 2 ^ 53
  · have ht2 : 2 ≤ t := by
      rcases Nat.lt_or_ge t 2 with z | z
      · exfalso
        obtain rfl : t = 1 := by omega
        clear ek eT
        rw [hc] at m1
        have : 5 ^ e = 1 := by omega
        rw [this] at m1
        omega
      · exact z
    have eT2 : 2 ^ (t - 1) = 2 * 2 ^ (t - 2) := by
      have : t - 1 = (t - 2) + 1 := by omega
      rw [this]
      exact pow_s _
    have ek2 : k * 2 ^ (t - 1) = 2 * (k * 2 ^ (t - 2)) := by rw [eT2, Nat.mul_left_comm]
    have q1 : ((1075 - e - t) * 2 ^ 52 + (mR k e t - 2 ^ 52)) / 2 ^ 52 = 1076 - e - t := by omega
    have q2 : ((1075 - e - t) * 2 ^ 52 + (mR k e t - 2 ^ 52)) % 2 ^ 52 = 0 := by omega
    rw [q1, q2, if_neg (by omega), if_neg (by omega), show 1074 - (1076 - e - t) - e = t - 2 from by omega, Nat.zero_add]
    rw [hc] at m1 m2
    apply rnd
    · omega
    · omega
  · have q1 : ((1075 - e - t) * 2 ^ 52 + (mR k e t - 2 ^ 52)) / 2 ^ 52 = 1075 - e - t := by omega
    have q2 : ((1075 - e - t) * 2 ^ 52 + (mR k e t - 2 ^ 52)) % 2 ^ 52 = mR k e t - 2 ^ 52 := by omega
    rw [q1, q2, if_neg (by omega), if_neg (by omega), show 1074 - (1075 - e - t) - e = t - 1 from by omega, show mR k e t - 2 ^ 52 + 2 ^ 52 = mR k e t from by omega]
    apply rnd
    · omega
    · omega
theorem i_26' : (26 : Int32) = nI 26 := by rfl
/-- SCALED of the bits without their sign -/
noncomputable def scN (u e : Nat) : Option Nat := if 0 < nwN u e ∧ nwN u e < 2 ^ 52 ∧ nr (nwN u e) e = u then some (nwN u e) else none
noncomputable def sc (x : Int64) (e : Nat) : Int64 := if x = 0 then 0 else match scN (uL x % 2 ^ 63) e with
  | some k => if x < 0 then -(lN k) else lN k
  | none => -9223372036854775808
theorem and63 (x : Int64) : x &&& 9223372036854775807 = lN (uL x % 2 ^ 63) := by
  have h := uL_lt x
  have := wb_mask (n := uL x) (k := 63) h (by decide)
  rw [lN_uL] at this
  exact this
theorem c_shiftedRight {X : mX0} {d hi lo cnt : Nat} (h1 : hi < 2 ^ 61) (h2 : lo < 2 ^ 27) (h3 : cnt ≤ 88) : ∃ r, r < 2 ^ 62 ∧ ((hi * 2 ^ 27 + lo) / 2 ^ cnt < 2 ^ 53 → r = (hi * 2 ^ 27 + lo) / 2 ^ cnt) ∧ (2 ^ 53 ≤ (hi * 2 ^ 27 + lo) / 2 ^ cnt → 2 ^ 53 ≤ r) ∧ ∀ Q : mQ, Q (.inl (some (.long (lN r)))) [] 0 0 → mCall mP X (d + 1) 10 [.long (lN hi), .long (lN lo), .int (nI cnt)] [] Q := by
  by_cases hc : 27 ≤ cnt
  · have e1 : (hi * 2 ^ 27 + lo) / 2 ^ cnt = hi / 2 ^ (cnt - 27) := by
      rw [show (2 : Nat) ^ cnt = 2 ^ 27 * 2 ^ (cnt - 27) from by rw [← Nat.pow_add]; congr 1; omega, ← Nat.div_div_eq_div_mul]
      congr 1
      omega
    have e2 : hi / 2 ^ (cnt - 27) ≤ hi := Nat.div_le_self _ _
    refine ⟨hi / 2 ^ (cnt - 27), by omega, fun _ => e1.symm, fun h => by rw [← e1]; exact h, fun Q hq => ?_⟩
    refine mCall_in pX1_shiftedRight 50 rfl ?_
    simp only [mS_iload_n, mS_iload, mS_lload_n, mS_lload, mS_aload_n, mS_aload, mS_istore_n, mS_istore, mS_lstore_n, mS_lstore, mS_astore_n, mS_astore, mS_iinc, mS_iconst, mS_bipush, mS_sipush, mS_lconst, mS_ldc, mS_ldc_w, mS_ldc2_w, mS_getstatic, mS_iadd, mS_isub, mS_imul, mS_iand, mS_ior, mS_ixor, mS_ishl, mS_ishr, mS_iushr, mS_idiv, mS_irem, mS_ladd, mS_lsub, mS_lmul, mS_land, mS_lor, mS_lxor, mS_ldiv, mS_lrem, mS_lneg, mS_lshl, mS_lushr, mS_lcmp, mS_i2l, mS_l2i, mS_i2b, mS_dup_i, mS_dup_r, mS_dup2, mS_pop, mS_if_eq, mS_if_ne, mS_if_lt, mS_if_ge, mS_if_gt, mS_if_le, mS_icmp_eq, mS_icmp_ne, mS_icmp_lt, mS_icmp_ge, mS_icmp_gt, mS_icmp_le, mS_goto, mS_tsw, mS_lsw, mS_getfield, mS_putfield, mS_iaload, mS_iaload0, mS_baload, mS_laload, mS_laload1, mS_iastore, mS_bastore, mS_lastore, mS_alen, mS_alen0, mS_alen1, mS_newa_byte, mS_newa_int, mS_newa_long, mS_throw, mS_new, mS_oinit, mS_ireturn, mS_zreturn, mS_lreturn, mS_return, mS_mmin, mS_mmax, mS_mabs, mRun_go, mGo_t, mGo_f, mAt, mPut, mSt1, mSt2, mKill, mFit, mEnt, mPad, mSw, Nat.reduceAdd, Nat.reduceSub, Nat.reduceMod, Nat.reduceLT, Nat.reduceLeDiff, List.length_cons, List.length_nil, true_and, and_true, Option.some.injEq, Nat.zero_add, Classical.not_not, cmp_lt, cmp_ge, cmp_eq, cmp_gt, cmp_le, mAfter_v, mAfter_i, mAfter_l, mBack, mBk, mFrom, mRnC_l, mRnC_r, mRn_i, mRn_l, mRn_r, mRn_n, mRn_f, List.map_cons, List.map_nil, List.cons_append, List.nil_append, List.append_nil, Option.getD_some, Nat.add_zero, TX1_shiftedRight_0]
    simp (disch := omega) only [i_0, i_1, i_2, i_3, i_4, i_5, i_6, i_7, i_8, i_9, i_10, i_11, i_12, i_13, i_15, i_16, i_27, i_28, i_31, i_32, i_52, i_54, i_56, i_63, i_64, i_88, i_128, i_255, i_256, i_257, i_2048, i_4000, i_65521, i_1048576, i_1075, nI_ofNat, nI_lt_iff, nI_le_iff, nI_eq_iff, nI_add, pk_mul, pk_sub, pk_div, pk_rem, nI_clamp, Nat.add_sub_cancel, Nat.reduceAdd, Nat.reduceSub, Nat.reduceMul, Nat.reduceDiv, Nat.reduceMod, Nat.reduceLT, Nat.reduceLeDiff, Nat.reduceEqDiff, Nat.add_zero, Nat.zero_add, n_rem, not_false_eq_true, not_true_eq_false, true_and, and_true, true_or, or_true, true_implies, false_implies, Nat.not_lt_zero, Nat.zero_le]
    refine ⟨fun h => absurd h (by omega), fun _ => ?_⟩
    rw [show Int64.toUInt64 63 = Int64.toUInt64 63 from rfl, wb_shr (by omega) (by omega)]
    exact hq
  · have p1 : (2 : Nat) ^ (26 + cnt) * 2 ^ 27 = 2 ^ 53 * 2 ^ cnt := by rw [← Nat.pow_add, ← Nat.pow_add]; congr 1; omega
    have p0 : 0 < 2 ^ cnt := Nat.pow_pos (by decide)
    by_cases hz : hi / 2 ^ (26 + cnt) = 0
    · have hl : hi < 2 ^ (26 + cnt) := by
        rcases Nat.lt_or_ge hi (2 ^ (26 + cnt)) with z | z
        · exact z
        · have := Nat.div_pos z (Nat.pow_pos (by decide)); omega
      have hP : (hi * 2 ^ 27 + lo) / 2 ^ cnt < 2 ^ 53 := by
        rw [Nat.div_lt_iff_lt_mul p0, ← p1]
        have : (hi + 1) * 2 ^ 27 ≤ 2 ^ (26 + cnt) * 2 ^ 27 := Nat.mul_le_mul_right _ hl
        omega
      have e1 : (hi * 2 ^ 27 + lo) / 2 ^ cnt = hi * 2 ^ (27 - cnt) + lo / 2 ^ cnt := by
        rw [show (2 : Nat) ^ 27 = 2 ^ (27 - cnt) * 2 ^ cnt from by rw [← Nat.pow_add]; congr 1; omega, ← Nat.mul_assoc, Nat.add_comm, Nat.add_mul_div_right _ _ p0, Nat.add_comm]
      refine ⟨(hi * 2 ^ 27 + lo) / 2 ^ cnt, by omega, fun _ => rfl, fun h => h, fun Q hq => ?_⟩
      refine mCall_in pX1_shiftedRight 50 rfl ?_
      simp only [mS_iload_n, mS_iload, mS_lload_n, mS_lload, mS_aload_n, mS_aload, mS_istore_n, mS_istore, mS_lstore_n, mS_lstore, mS_astore_n, mS_astore, mS_iinc, mS_iconst, mS_bipush, mS_sipush, mS_lconst, mS_ldc, mS_ldc_w, mS_ldc2_w, mS_getstatic, mS_iadd, mS_isub, mS_imul, mS_iand, mS_ior, mS_ixor, mS_ishl, mS_ishr, mS_iushr, mS_idiv, mS_irem, mS_ladd, mS_lsub, mS_lmul, mS_land, mS_lor, mS_lxor, mS_ldiv, mS_lrem, mS_lneg, mS_lshl, mS_lushr, mS_lcmp, mS_i2l, mS_l2i, mS_i2b, mS_dup_i, mS_dup_r, mS_dup2, mS_pop, mS_if_eq, mS_if_ne, mS_if_lt, mS_if_ge, mS_if_gt, mS_if_le, mS_icmp_eq, mS_icmp_ne, mS_icmp_lt, mS_icmp_ge, mS_icmp_gt, mS_icmp_le, mS_goto, mS_tsw, mS_lsw, mS_getfield, mS_putfield, mS_iaload, mS_iaload0, mS_baload, mS_laload, mS_laload1, mS_iastore, mS_bastore, mS_lastore, mS_alen, mS_alen0, mS_alen1, mS_newa_byte, mS_newa_int, mS_newa_long, mS_throw, mS_new, mS_oinit, mS_ireturn, mS_zreturn, mS_lreturn, mS_return, mS_mmin, mS_mmax, mS_mabs, mRun_go, mGo_t, mGo_f, mAt, mPut, mSt1, mSt2, mKill, mFit, mEnt, mPad, mSw, Nat.reduceAdd, Nat.reduceSub, Nat.reduceMod, Nat.reduceLT, Nat.reduceLeDiff, List.length_cons, List.length_nil, true_and, and_true, Option.some.injEq, Nat.zero_add, Classical.not_not, cmp_lt, cmp_ge, cmp_eq, cmp_gt, cmp_le, mAfter_v, mAfter_i, mAfter_l, mBack, mBk, mFrom, mRnC_l, mRnC_r, mRn_i, mRn_l, mRn_r, mRn_n, mRn_f, List.map_cons, List.map_nil, List.cons_append, List.nil_append, List.append_nil, Option.getD_some, Nat.add_zero, TX1_shiftedRight_0]
      simp (disch := omega) only [i_0, i_1, i_2, i_3, i_4, i_5, i_6, i_7, i_8, i_9, i_10, i_11, i_12, i_13, i_15, i_16, i_27, i_28, i_31, i_32, i_52, i_54, i_56, i_63, i_64, i_88, i_128, i_255, i_256, i_257, i_2048, i_4000, i_65521, i_1048576, i_1075, nI_ofNat, nI_lt_iff, nI_le_iff, nI_eq_iff, nI_add, pk_mul, pk_sub, pk_div, pk_rem, nI_clamp, Nat.add_sub_cancel, Nat.reduceAdd, Nat.reduceSub, Nat.reduceMul, Nat.reduceDiv, Nat.reduceMod, Nat.reduceLT, Nat.reduceLeDiff, Nat.reduceEqDiff, Nat.add_zero, Nat.zero_add, n_rem, not_false_eq_true, not_true_eq_false, true_and, and_true, true_or, or_true, true_implies, false_implies, Nat.not_lt_zero, Nat.zero_le, l_0, l_1, l_2, l_10, l_52, l_53, l_52m, lLT, lEQ, lN_add, lN_mul, lN_sub, pk_lDiv, lRem2, n_rem, cmp_lt, cmp_ge, cmp_eq, cmp_gt, cmp_le]
      refine ⟨fun _ => ?_, fun h => absurd h (by omega)⟩
      rw [i_26', nI_add, wb_shr (by omega) (by omega), wb_shl _ (by omega), wb_shr (by omega) (by omega), lN_add, ← e1, lEQ (Nat.lt_of_le_of_lt (Nat.div_le_self _ _) (by omega)) (by decide)]
      exact ⟨fun _ => hq, fun h => absurd hz h⟩
    · have hP : 2 ^ 53 ≤ (hi * 2 ^ 27 + lo) / 2 ^ cnt := by
        rw [Nat.le_div_iff_mul_le p0, ← p1]
        have hl : 2 ^ (26 + cnt) ≤ hi := by
          rcases Nat.lt_or_ge hi (2 ^ (26 + cnt)) with z | z
          · exact absurd (Nat.div_eq_of_lt z) hz
          · exact z
        exact Nat.le_trans (Nat.mul_le_mul_right _ hl) (Nat.le_add_right _ _)
      refine ⟨2 ^ 53, by decide, fun h => absurd h (by omega), fun h => Nat.le_refl _, fun Q hq => ?_⟩
      refine mCall_in pX1_shiftedRight 50 rfl ?_
      simp only [mS_iload_n, mS_iload, mS_lload_n, mS_lload, mS_aload_n, mS_aload, mS_istore_n, mS_istore, mS_lstore_n, mS_lstore, mS_astore_n, mS_astore, mS_iinc, mS_iconst, mS_bipush, mS_sipush, mS_lconst, mS_ldc, mS_ldc_w, mS_ldc2_w, mS_getstatic, mS_iadd, mS_isub, mS_imul, mS_iand, mS_ior, mS_ixor, mS_ishl, mS_ishr, mS_iushr, mS_idiv, mS_irem, mS_ladd, mS_lsub, mS_lmul, mS_land, mS_lor, mS_lxor, mS_ldiv, mS_lrem, mS_lneg, mS_lshl, mS_lushr, mS_lcmp, mS_i2l, mS_l2i, mS_i2b, mS_dup_i, mS_dup_r, mS_dup2, mS_pop, mS_if_eq, mS_if_ne, mS_if_lt, mS_if_ge, mS_if_gt, mS_if_le, mS_icmp_eq, mS_icmp_ne, mS_icmp_lt, mS_icmp_ge, mS_icmp_gt, mS_icmp_le, mS_goto, mS_tsw, mS_lsw, mS_getfield, mS_putfield, mS_iaload, mS_iaload0, mS_baload, mS_laload, mS_laload1, mS_iastore, mS_bastore, mS_lastore, mS_alen, mS_alen0, mS_alen1, mS_newa_byte, mS_newa_int, mS_newa_long, mS_throw, mS_new, mS_oinit, mS_ireturn, mS_zreturn, mS_lreturn, mS_return, mS_mmin, mS_mmax, mS_mabs, mRun_go, mGo_t, mGo_f, mAt, mPut, mSt1, mSt2, mKill, mFit, mEnt, mPad, mSw, Nat.reduceAdd, Nat.reduceSub, Nat.reduceMod, Nat.reduceLT, Nat.reduceLeDiff, List.length_cons, List.length_nil, true_and, and_true, Option.some.injEq, Nat.zero_add, Classical.not_not, cmp_lt, cmp_ge, cmp_eq, cmp_gt, cmp_le, mAfter_v, mAfter_i, mAfter_l, mBack, mBk, mFrom, mRnC_l, mRnC_r, mRn_i, mRn_l, mRn_r, mRn_n, mRn_f, List.map_cons, List.map_nil, List.cons_append, List.nil_append, List.append_nil, Option.getD_some, Nat.add_zero, TX1_shiftedRight_0]
      simp (disch := omega) only [i_0, i_1, i_2, i_3, i_4, i_5, i_6, i_7, i_8, i_9, i_10, i_11, i_12, i_13, i_15, i_16, i_27, i_28, i_31, i_32, i_52, i_54, i_56, i_63, i_64, i_88, i_128, i_255, i_256, i_257, i_2048, i_4000, i_65521, i_1048576, i_1075, nI_ofNat, nI_lt_iff, nI_le_iff, nI_eq_iff, nI_add, pk_mul, pk_sub, pk_div, pk_rem, nI_clamp, Nat.add_sub_cancel, Nat.reduceAdd, Nat.reduceSub, Nat.reduceMul, Nat.reduceDiv, Nat.reduceMod, Nat.reduceLT, Nat.reduceLeDiff, Nat.reduceEqDiff, Nat.add_zero, Nat.zero_add, n_rem, not_false_eq_true, not_true_eq_false, true_and, and_true, true_or, or_true, true_implies, false_implies, Nat.not_lt_zero, Nat.zero_le, l_0, l_1, l_2, l_10, l_52, l_53, l_52m, lLT, lEQ, lN_add, lN_mul, lN_sub, pk_lDiv, lRem2, n_rem, cmp_lt, cmp_ge, cmp_eq, cmp_gt, cmp_le]
      refine ⟨fun _ => ?_, fun h => absurd h (by omega)⟩
      rw [i_26', nI_add, wb_shr (by omega) (by omega), wb_shl _ (by omega), wb_shr (by omega) (by omega), lEQ (Nat.lt_of_le_of_lt (Nat.div_le_self _ _) (by omega)) (by decide)]
      exact ⟨fun h => absurd h hz, fun _ => hq⟩
theorem s4 (a b c e : Int32) : a - b - c - e = a - (b + c + e) := by
  apply Int32.toBitVec_inj.1
  simp only [Int32.toBitVec_sub, Int32.toBitVec_add]
  bv_omega
theorem l_27 : (134217727 : Int64) = lN (2 ^ 27 - 1) := by rfl
theorem i_1075' : (1075 : Int32) = nI 1075 := by rfl
theorem c_nearestWhole {X : mX0} {d u e : Nat} (hu : u < 2 ^ 63) (he : e ≤ 15) : ∃ r, r < 2 ^ 63 ∧ (r < 2 ^ 52 → r = nwN u e) ∧ (nwN u e < 2 ^ 52 → r = nwN u e) ∧ ∀ Q : mQ, Q (.inl (some (.long (lN r)))) [] 0 0 → mCall mP X (d + 2) 9 [.long (lN u), .int (nI e)] [] Q := by
  have h5 := five_pos e
  have h5l := five_lt he
  have hx : u / 2 ^ 52 < 2048 := by omega
  by_cases c1 : 1075 < u / 2 ^ 52 + e + 1
  · refine ⟨2 ^ 52, by decide, fun h => absurd h (by decide), fun h => ?_, fun Q hq => ?_⟩
    · unfold nwN at h ⊢
      rw [if_pos c1]
    · refine mCall_in pX1_nearestWhole 80 rfl ?_
      simp only [mS_iload_n, mS_iload, mS_lload_n, mS_lload, mS_aload_n, mS_aload, mS_istore_n, mS_istore, mS_lstore_n, mS_lstore, mS_astore_n, mS_astore, mS_iinc, mS_iconst, mS_bipush, mS_sipush, mS_lconst, mS_ldc, mS_ldc_w, mS_ldc2_w, mS_getstatic, mS_iadd, mS_isub, mS_imul, mS_iand, mS_ior, mS_ixor, mS_ishl, mS_ishr, mS_iushr, mS_idiv, mS_irem, mS_ladd, mS_lsub, mS_lmul, mS_land, mS_lor, mS_lxor, mS_ldiv, mS_lrem, mS_lneg, mS_lshl, mS_lushr, mS_lcmp, mS_i2l, mS_l2i, mS_i2b, mS_dup_i, mS_dup_r, mS_dup2, mS_pop, mS_if_eq, mS_if_ne, mS_if_lt, mS_if_ge, mS_if_gt, mS_if_le, mS_icmp_eq, mS_icmp_ne, mS_icmp_lt, mS_icmp_ge, mS_icmp_gt, mS_icmp_le, mS_goto, mS_tsw, mS_lsw, mS_getfield, mS_putfield, mS_iaload, mS_iaload0, mS_baload, mS_laload, mS_laload1, mS_iastore, mS_bastore, mS_lastore, mS_alen, mS_alen0, mS_alen1, mS_newa_byte, mS_newa_int, mS_newa_long, mS_throw, mS_new, mS_oinit, mS_ireturn, mS_zreturn, mS_lreturn, mS_return, mS_mmin, mS_mmax, mS_mabs, mRun_go, mGo_t, mGo_f, mAt, mPut, mSt1, mSt2, mKill, mFit, mEnt, mPad, mSw, Nat.reduceAdd, Nat.reduceSub, Nat.reduceMod, Nat.reduceLT, Nat.reduceLeDiff, List.length_cons, List.length_nil, true_and, and_true, Option.some.injEq, Nat.zero_add, Classical.not_not, cmp_lt, cmp_ge, cmp_eq, cmp_gt, cmp_le, mAfter_v, mAfter_i, mAfter_l, mBack, mBk, mFrom, mRnC_l, mRnC_r, mRn_i, mRn_l, mRn_r, mRn_n, mRn_f, List.map_cons, List.map_nil, List.cons_append, List.nil_append, List.append_nil, Option.getD_some, Nat.add_zero, TX1_nearestWhole_0]
      rw [i_52, wb_shr (by omega) (by decide), lN_i, i_1, s4, nI_add, nI_add, i_1075', ge0]
      refine ⟨fun h => ?_, fun _ => hq⟩
      have := pk_sneg (a := 1075) (b := u / 2 ^ 52 + e + 1) (by omega) c1
      rw [lt0] at this
      omega
  · by_cases c2 : 88 < 1074 - u / 2 ^ 52 - e
    · refine ⟨0, by decide, fun _ => ?_, fun h => ?_, fun Q hq => ?_⟩
      · unfold nwN
        rw [if_neg c1, if_pos c2]
      · unfold nwN
        rw [if_neg c1, if_pos c2]
      · refine mCall_in pX1_nearestWhole 80 rfl ?_
        simp only [mS_iload_n, mS_iload, mS_lload_n, mS_lload, mS_aload_n, mS_aload, mS_istore_n, mS_istore, mS_lstore_n, mS_lstore, mS_astore_n, mS_astore, mS_iinc, mS_iconst, mS_bipush, mS_sipush, mS_lconst, mS_ldc, mS_ldc_w, mS_ldc2_w, mS_getstatic, mS_iadd, mS_isub, mS_imul, mS_iand, mS_ior, mS_ixor, mS_ishl, mS_ishr, mS_iushr, mS_idiv, mS_irem, mS_ladd, mS_lsub, mS_lmul, mS_land, mS_lor, mS_lxor, mS_ldiv, mS_lrem, mS_lneg, mS_lshl, mS_lushr, mS_lcmp, mS_i2l, mS_l2i, mS_i2b, mS_dup_i, mS_dup_r, mS_dup2, mS_pop, mS_if_eq, mS_if_ne, mS_if_lt, mS_if_ge, mS_if_gt, mS_if_le, mS_icmp_eq, mS_icmp_ne, mS_icmp_lt, mS_icmp_ge, mS_icmp_gt, mS_icmp_le, mS_goto, mS_tsw, mS_lsw, mS_getfield, mS_putfield, mS_iaload, mS_iaload0, mS_baload, mS_laload, mS_laload1, mS_iastore, mS_bastore, mS_lastore, mS_alen, mS_alen0, mS_alen1, mS_newa_byte, mS_newa_int, mS_newa_long, mS_throw, mS_new, mS_oinit, mS_ireturn, mS_zreturn, mS_lreturn, mS_return, mS_mmin, mS_mmax, mS_mabs, mRun_go, mGo_t, mGo_f, mAt, mPut, mSt1, mSt2, mKill, mFit, mEnt, mPad, mSw, Nat.reduceAdd, Nat.reduceSub, Nat.reduceMod, Nat.reduceLT, Nat.reduceLeDiff, List.length_cons, List.length_nil, true_and, and_true, Option.some.injEq, Nat.zero_add, Classical.not_not, cmp_lt, cmp_ge, cmp_eq, cmp_gt, cmp_le, mAfter_v, mAfter_i, mAfter_l, mBack, mBk, mFrom, mRnC_l, mRnC_r, mRn_i, mRn_l, mRn_r, mRn_n, mRn_f, List.map_cons, List.map_nil, List.cons_append, List.nil_append, List.append_nil, Option.getD_some, Nat.add_zero, TX1_nearestWhole_0]
        rw [i_52, wb_shr (by omega) (by decide), lN_i]
        simp (disch := omega) only [i_0, i_1, i_2, i_3, i_4, i_5, i_6, i_7, i_8, i_9, i_10, i_11, i_12, i_13, i_15, i_16, i_27, i_28, i_31, i_32, i_52, i_54, i_56, i_63, i_64, i_88, i_128, i_255, i_256, i_257, i_2048, i_4000, i_65521, i_1048576, i_1075, nI_ofNat, nI_lt_iff, nI_le_iff, nI_eq_iff, nI_add, pk_mul, pk_sub, pk_div, pk_rem, nI_clamp, Nat.add_sub_cancel, Nat.reduceAdd, Nat.reduceSub, Nat.reduceMul, Nat.reduceDiv, Nat.reduceMod, Nat.reduceLT, Nat.reduceLeDiff, Nat.reduceEqDiff, Nat.add_zero, Nat.zero_add, n_rem, not_false_eq_true, not_true_eq_false, true_and, and_true, true_or, or_true, true_implies, false_implies, Nat.not_lt_zero, Nat.zero_le]
        exact ⟨fun h => absurd h (by omega), fun _ => hq⟩
    · have hf : (u % 2 ^ 52 + 2 ^ 52) < 2 ^ 53 := by omega
      generalize hF : u % 2 ^ 52 + 2 ^ 52 = F at hf
      have fo : lN (u % 2 ^ 52) ||| lN (2 ^ 52) = lN F := by
        rw [← hF, Nat.add_comm, wb_or (by omega) (by omega)]
        congr 1
        rw [Nat.or_comm, show (2 : Nat) ^ 52 = 2 ^ 52 * 1 from rfl, ← Nat.two_pow_add_eq_or_of_lt (by omega)]
      have a1 : F % 2 ^ 27 * 5 ^ e ≤ 2 ^ 27 * 30517578125 := Nat.mul_le_mul (by omega) h5l
      have a2 : F / 2 ^ 27 * 5 ^ e ≤ 2 ^ 26 * 30517578125 := Nat.mul_le_mul (by omega) h5l
      have eP : (F / 2 ^ 27 * 5 ^ e + F % 2 ^ 27 * 5 ^ e / 2 ^ 27) * 2 ^ 27 + F % 2 ^ 27 * 5 ^ e % 2 ^ 27 = F * 5 ^ e := by
        have b1 := Nat.div_add_mod (F % 2 ^ 27 * 5 ^ e) (2 ^ 27)
        have b2 := Nat.div_add_mod F (2 ^ 27)
        have b3 : F * 5 ^ e = 2 ^ 27 * (F / 2 ^ 27 * 5 ^ e) + F % 2 ^ 27 * 5 ^ e := by
          rw [← Nat.mul_assoc, ← Nat.add_mul, b2]
        omega
      obtain ⟨r, r1, r2, r3, r4⟩ := c_shiftedRight (X := X) (d := d) (hi := F / 2 ^ 27 * 5 ^ e + F % 2 ^ 27 * 5 ^ e / 2 ^ 27) (lo := F % 2 ^ 27 * 5 ^ e % 2 ^ 27) (cnt := 1074 - u / 2 ^ 52 - e) (by omega) (by omega) (by omega)
      rw [eP] at r2 r3
      have hnw : nwN u e = (F * 5 ^ e / 2 ^ (1074 - u / 2 ^ 52 - e) + 1) / 2 := by
        unfold nwN
        rw [if_neg c1, if_neg c2, hF]
      refine ⟨(r + 1) / 2, by omega, fun h => ?_, fun h => ?_, fun Q hq => ?_⟩
      · rw [hnw]
        rcases Nat.lt_or_ge (F * 5 ^ e / 2 ^ (1074 - u / 2 ^ 52 - e)) (2 ^ 53) with z | z
        · rw [r2 z]
        · have := r3 z; omega
      · rw [hnw] at h ⊢
        rcases Nat.lt_or_ge (F * 5 ^ e / 2 ^ (1074 - u / 2 ^ 52 - e)) (2 ^ 53) with z | z
        · rw [r2 z]
        · omega
      · refine mCall_in pX1_nearestWhole 80 rfl ?_
        simp only [mS_iload_n, mS_iload, mS_lload_n, mS_lload, mS_aload_n, mS_aload, mS_istore_n, mS_istore, mS_lstore_n, mS_lstore, mS_astore_n, mS_astore, mS_iinc, mS_iconst, mS_bipush, mS_sipush, mS_lconst, mS_ldc, mS_ldc_w, mS_ldc2_w, mS_getstatic, mS_iadd, mS_isub, mS_imul, mS_iand, mS_ior, mS_ixor, mS_ishl, mS_ishr, mS_iushr, mS_idiv, mS_irem, mS_ladd, mS_lsub, mS_lmul, mS_land, mS_lor, mS_lxor, mS_ldiv, mS_lrem, mS_lneg, mS_lshl, mS_lushr, mS_lcmp, mS_i2l, mS_l2i, mS_i2b, mS_dup_i, mS_dup_r, mS_dup2, mS_pop, mS_if_eq, mS_if_ne, mS_if_lt, mS_if_ge, mS_if_gt, mS_if_le, mS_icmp_eq, mS_icmp_ne, mS_icmp_lt, mS_icmp_ge, mS_icmp_gt, mS_icmp_le, mS_goto, mS_tsw, mS_lsw, mS_getfield, mS_putfield, mS_iaload, mS_iaload0, mS_baload, mS_laload, mS_laload1, mS_iastore, mS_bastore, mS_lastore, mS_alen, mS_alen0, mS_alen1, mS_newa_byte, mS_newa_int, mS_newa_long, mS_throw, mS_new, mS_oinit, mS_ireturn, mS_zreturn, mS_lreturn, mS_return, mS_mmin, mS_mmax, mS_mabs, mRun_go, mGo_t, mGo_f, mAt, mPut, mSt1, mSt2, mKill, mFit, mEnt, mPad, mSw, Nat.reduceAdd, Nat.reduceSub, Nat.reduceMod, Nat.reduceLT, Nat.reduceLeDiff, List.length_cons, List.length_nil, true_and, and_true, Option.some.injEq, Nat.zero_add, Classical.not_not, cmp_lt, cmp_ge, cmp_eq, cmp_gt, cmp_le, mAfter_v, mAfter_i, mAfter_l, mBack, mBk, mFrom, mRnC_l, mRnC_r, mRn_i, mRn_l, mRn_r, mRn_n, mRn_f, List.map_cons, List.map_nil, List.cons_append, List.nil_append, List.append_nil, Option.getD_some, Nat.add_zero, TX1_nearestWhole_0]
        rw [i_52, wb_shr (by omega) (by decide), lN_i, l_52m, wb_mask (by omega) (by decide), l_52, fo, l_27, wb_mask (by omega) (by decide)]
        simp (disch := omega) only [i_0, i_1, i_2, i_3, i_4, i_5, i_6, i_7, i_8, i_9, i_10, i_11, i_12, i_13, i_15, i_16, i_27, i_28, i_31, i_32, i_52, i_54, i_56, i_63, i_64, i_88, i_128, i_255, i_256, i_257, i_2048, i_4000, i_65521, i_1048576, i_1075, nI_ofNat, nI_lt_iff, nI_le_iff, nI_eq_iff, nI_add, pk_mul, pk_sub, pk_div, pk_rem, nI_clamp, Nat.add_sub_cancel, Nat.reduceAdd, Nat.reduceSub, Nat.reduceMul, Nat.reduceDiv, Nat.reduceMod, Nat.reduceLT, Nat.reduceLeDiff, Nat.reduceEqDiff, Nat.add_zero, Nat.zero_add, n_rem, not_false_eq_true, not_true_eq_false, true_and, and_true, true_or, or_true, true_implies, false_implies, Nat.not_lt_zero, Nat.zero_le]
        refine ⟨fun _ => ?_, fun h => absurd h (by omega)⟩
        (refine mWP_s 80 (by simp only [TX1_nearestWhole_0]; rfl) [] [.long (lN (F % 2 ^ 27))] (c_fiveTo (d := d) he) rfl rfl rfl rfl rfl (Nat.le_of_ble_eq_true rfl) rfl rfl rfl ?_; simp only [mS_iload_n, mS_iload, mS_lload_n, mS_lload, mS_aload_n, mS_aload, mS_istore_n, mS_istore, mS_lstore_n, mS_lstore, mS_astore_n, mS_astore, mS_iinc, mS_iconst, mS_bipush, mS_sipush, mS_lconst, mS_ldc, mS_ldc_w, mS_ldc2_w, mS_getstatic, mS_iadd, mS_isub, mS_imul, mS_iand, mS_ior, mS_ixor, mS_ishl, mS_ishr, mS_iushr, mS_idiv, mS_irem, mS_ladd, mS_lsub, mS_lmul, mS_land, mS_lor, mS_lxor, mS_ldiv, mS_lrem, mS_lneg, mS_lshl, mS_lushr, mS_lcmp, mS_i2l, mS_l2i, mS_i2b, mS_dup_i, mS_dup_r, mS_dup2, mS_pop, mS_if_eq, mS_if_ne, mS_if_lt, mS_if_ge, mS_if_gt, mS_if_le, mS_icmp_eq, mS_icmp_ne, mS_icmp_lt, mS_icmp_ge, mS_icmp_gt, mS_icmp_le, mS_goto, mS_tsw, mS_lsw, mS_getfield, mS_putfield, mS_iaload, mS_iaload0, mS_baload, mS_laload, mS_laload1, mS_iastore, mS_bastore, mS_lastore, mS_alen, mS_alen0, mS_alen1, mS_newa_byte, mS_newa_int, mS_newa_long, mS_throw, mS_new, mS_oinit, mS_ireturn, mS_zreturn, mS_lreturn, mS_return, mS_mmin, mS_mmax, mS_mabs, mRun_go, mGo_t, mGo_f, mAt, mPut, mSt1, mSt2, mKill, mFit, mEnt, mPad, mSw, Nat.reduceAdd, Nat.reduceSub, Nat.reduceMod, Nat.reduceLT, Nat.reduceLeDiff, List.length_cons, List.length_nil, true_and, and_true, Option.some.injEq, Nat.zero_add, Classical.not_not, cmp_lt, cmp_ge, cmp_eq, cmp_gt, cmp_le, mAfter_v, mAfter_i, mAfter_l, mBack, mBk, mFrom, mRnC_l, mRnC_r, mRn_i, mRn_l, mRn_r, mRn_n, mRn_f, List.map_cons, List.map_nil, List.cons_append, List.nil_append, List.append_nil, Option.getD_some, Nat.add_zero, TX1_nearestWhole_0])
        (refine mWP_s 80 (by simp only [TX1_nearestWhole_0]; rfl) [] [.long ((lN F).toUInt64 >>> ((27 : Int32).toInt64.toUInt64 &&& Int64.toUInt64 63)).toInt64] (c_fiveTo (d := d) he) rfl rfl rfl rfl rfl (Nat.le_of_ble_eq_true rfl) rfl rfl rfl ?_; simp only [mS_iload_n, mS_iload, mS_lload_n, mS_lload, mS_aload_n, mS_aload, mS_istore_n, mS_istore, mS_lstore_n, mS_lstore, mS_astore_n, mS_astore, mS_iinc, mS_iconst, mS_bipush, mS_sipush, mS_lconst, mS_ldc, mS_ldc_w, mS_ldc2_w, mS_getstatic, mS_iadd, mS_isub, mS_imul, mS_iand, mS_ior, mS_ixor, mS_ishl, mS_ishr, mS_iushr, mS_idiv, mS_irem, mS_ladd, mS_lsub, mS_lmul, mS_land, mS_lor, mS_lxor, mS_ldiv, mS_lrem, mS_lneg, mS_lshl, mS_lushr, mS_lcmp, mS_i2l, mS_l2i, mS_i2b, mS_dup_i, mS_dup_r, mS_dup2, mS_pop, mS_if_eq, mS_if_ne, mS_if_lt, mS_if_ge, mS_if_gt, mS_if_le, mS_icmp_eq, mS_icmp_ne, mS_icmp_lt, mS_icmp_ge, mS_icmp_gt, mS_icmp_le, mS_goto, mS_tsw, mS_lsw, mS_getfield, mS_putfield, mS_iaload, mS_iaload0, mS_baload, mS_laload, mS_laload1, mS_iastore, mS_bastore, mS_lastore, mS_alen, mS_alen0, mS_alen1, mS_newa_byte, mS_newa_int, mS_newa_long, mS_throw, mS_new, mS_oinit, mS_ireturn, mS_zreturn, mS_lreturn, mS_return, mS_mmin, mS_mmax, mS_mabs, mRun_go, mGo_t, mGo_f, mAt, mPut, mSt1, mSt2, mKill, mFit, mEnt, mPad, mSw, Nat.reduceAdd, Nat.reduceSub, Nat.reduceMod, Nat.reduceLT, Nat.reduceLeDiff, List.length_cons, List.length_nil, true_and, and_true, Option.some.injEq, Nat.zero_add, Classical.not_not, cmp_lt, cmp_ge, cmp_eq, cmp_gt, cmp_le, mAfter_v, mAfter_i, mAfter_l, mBack, mBk, mFrom, mRnC_l, mRnC_r, mRn_i, mRn_l, mRn_r, mRn_n, mRn_f, List.map_cons, List.map_nil, List.cons_append, List.nil_append, List.append_nil, Option.getD_some, Nat.add_zero, TX1_nearestWhole_0])
        rw [i_27, lN_mul, wb_shr (by omega) (by decide), wb_shr (by omega) (by decide), lN_mul, lN_add, l_27, wb_mask (by omega) (by decide), show 1075 - u / 2 ^ 52 - e - 1 = 1074 - u / 2 ^ 52 - e from by omega]
        (refine mWP_s 80 (by simp only [TX1_nearestWhole_0]; rfl) [] [] (r4) rfl rfl rfl rfl rfl (Nat.le_of_ble_eq_true rfl) rfl rfl rfl ?_; simp only [mS_iload_n, mS_iload, mS_lload_n, mS_lload, mS_aload_n, mS_aload, mS_istore_n, mS_istore, mS_lstore_n, mS_lstore, mS_astore_n, mS_astore, mS_iinc, mS_iconst, mS_bipush, mS_sipush, mS_lconst, mS_ldc, mS_ldc_w, mS_ldc2_w, mS_getstatic, mS_iadd, mS_isub, mS_imul, mS_iand, mS_ior, mS_ixor, mS_ishl, mS_ishr, mS_iushr, mS_idiv, mS_irem, mS_ladd, mS_lsub, mS_lmul, mS_land, mS_lor, mS_lxor, mS_ldiv, mS_lrem, mS_lneg, mS_lshl, mS_lushr, mS_lcmp, mS_i2l, mS_l2i, mS_i2b, mS_dup_i, mS_dup_r, mS_dup2, mS_pop, mS_if_eq, mS_if_ne, mS_if_lt, mS_if_ge, mS_if_gt, mS_if_le, mS_icmp_eq, mS_icmp_ne, mS_icmp_lt, mS_icmp_ge, mS_icmp_gt, mS_icmp_le, mS_goto, mS_tsw, mS_lsw, mS_getfield, mS_putfield, mS_iaload, mS_iaload0, mS_baload, mS_laload, mS_laload1, mS_iastore, mS_bastore, mS_lastore, mS_alen, mS_alen0, mS_alen1, mS_newa_byte, mS_newa_int, mS_newa_long, mS_throw, mS_new, mS_oinit, mS_ireturn, mS_zreturn, mS_lreturn, mS_return, mS_mmin, mS_mmax, mS_mabs, mRun_go, mGo_t, mGo_f, mAt, mPut, mSt1, mSt2, mKill, mFit, mEnt, mPad, mSw, Nat.reduceAdd, Nat.reduceSub, Nat.reduceMod, Nat.reduceLT, Nat.reduceLeDiff, List.length_cons, List.length_nil, true_and, and_true, Option.some.injEq, Nat.zero_add, Classical.not_not, cmp_lt, cmp_ge, cmp_eq, cmp_gt, cmp_le, mAfter_v, mAfter_i, mAfter_l, mBack, mBk, mFrom, mRnC_l, mRnC_r, mRn_i, mRn_l, mRn_r, mRn_n, mRn_f, List.map_cons, List.map_nil, List.cons_append, List.nil_append, List.append_nil, Option.getD_some, Nat.add_zero, TX1_nearestWhole_0])
        rw [i_1, l_1, lN_add, wb_shr (by omega) (by decide)]
        exact hq
theorem c_scale {X : mX0} {d e : Nat} (he : e ≤ 15) (x : Int64) (Q : mQ) (hq : Q (.inl (some (.long (sc x e)))) [] 0 0) : mCall mP X (d + 4) 8 [.long x, .int (nI e)] [] Q := by
  refine mCall_in pX1_scale 80 rfl ?_
  simp only [mS_iload_n, mS_iload, mS_lload_n, mS_lload, mS_aload_n, mS_aload, mS_istore_n, mS_istore, mS_lstore_n, mS_lstore, mS_astore_n, mS_astore, mS_iinc, mS_iconst, mS_bipush, mS_sipush, mS_lconst, mS_ldc, mS_ldc_w, mS_ldc2_w, mS_getstatic, mS_iadd, mS_isub, mS_imul, mS_iand, mS_ior, mS_ixor, mS_ishl, mS_ishr, mS_iushr, mS_idiv, mS_irem, mS_ladd, mS_lsub, mS_lmul, mS_land, mS_lor, mS_lxor, mS_ldiv, mS_lrem, mS_lneg, mS_lshl, mS_lushr, mS_lcmp, mS_i2l, mS_l2i, mS_i2b, mS_dup_i, mS_dup_r, mS_dup2, mS_pop, mS_if_eq, mS_if_ne, mS_if_lt, mS_if_ge, mS_if_gt, mS_if_le, mS_icmp_eq, mS_icmp_ne, mS_icmp_lt, mS_icmp_ge, mS_icmp_gt, mS_icmp_le, mS_goto, mS_tsw, mS_lsw, mS_getfield, mS_putfield, mS_iaload, mS_iaload0, mS_baload, mS_laload, mS_laload1, mS_iastore, mS_bastore, mS_lastore, mS_alen, mS_alen0, mS_alen1, mS_newa_byte, mS_newa_int, mS_newa_long, mS_throw, mS_new, mS_oinit, mS_ireturn, mS_zreturn, mS_lreturn, mS_return, mS_mmin, mS_mmax, mS_mabs, mRun_go, mGo_t, mGo_f, mAt, mPut, mSt1, mSt2, mKill, mFit, mEnt, mPad, mSw, Nat.reduceAdd, Nat.reduceSub, Nat.reduceMod, Nat.reduceLT, Nat.reduceLeDiff, List.length_cons, List.length_nil, true_and, and_true, Option.some.injEq, Nat.zero_add, Classical.not_not, cmp_lt, cmp_ge, cmp_eq, cmp_gt, cmp_le, mAfter_v, mAfter_i, mAfter_l, mBack, mBk, mFrom, mRnC_l, mRnC_r, mRn_i, mRn_l, mRn_r, mRn_n, mRn_f, List.map_cons, List.map_nil, List.cons_append, List.nil_append, List.append_nil, Option.getD_some, Nat.add_zero, TX1_scale_0, and63 x]
  unfold sc at hq
  refine ⟨fun h0 => ?_, fun h0 => ?_⟩
  · rw [if_neg h0] at hq
    have hu : uL x % 2 ^ 63 < 2 ^ 63 := Nat.mod_lt _ (by decide)
    generalize uL x % 2 ^ 63 = u at hq hu
    obtain ⟨r, r0, r1, r2, r3⟩ := c_nearestWhole (X := X) (d := d + 1) hu he
    (refine mWP_s 80 (by simp only [TX1_scale_0]; rfl) [] [] (r3) rfl rfl rfl rfl rfl (Nat.le_of_ble_eq_true rfl) rfl rfl rfl ?_; simp only [mS_iload_n, mS_iload, mS_lload_n, mS_lload, mS_aload_n, mS_aload, mS_istore_n, mS_istore, mS_lstore_n, mS_lstore, mS_astore_n, mS_astore, mS_iinc, mS_iconst, mS_bipush, mS_sipush, mS_lconst, mS_ldc, mS_ldc_w, mS_ldc2_w, mS_getstatic, mS_iadd, mS_isub, mS_imul, mS_iand, mS_ior, mS_ixor, mS_ishl, mS_ishr, mS_iushr, mS_idiv, mS_irem, mS_ladd, mS_lsub, mS_lmul, mS_land, mS_lor, mS_lxor, mS_ldiv, mS_lrem, mS_lneg, mS_lshl, mS_lushr, mS_lcmp, mS_i2l, mS_l2i, mS_i2b, mS_dup_i, mS_dup_r, mS_dup2, mS_pop, mS_if_eq, mS_if_ne, mS_if_lt, mS_if_ge, mS_if_gt, mS_if_le, mS_icmp_eq, mS_icmp_ne, mS_icmp_lt, mS_icmp_ge, mS_icmp_gt, mS_icmp_le, mS_goto, mS_tsw, mS_lsw, mS_getfield, mS_putfield, mS_iaload, mS_iaload0, mS_baload, mS_laload, mS_laload1, mS_iastore, mS_bastore, mS_lastore, mS_alen, mS_alen0, mS_alen1, mS_newa_byte, mS_newa_int, mS_newa_long, mS_throw, mS_new, mS_oinit, mS_ireturn, mS_zreturn, mS_lreturn, mS_return, mS_mmin, mS_mmax, mS_mabs, mRun_go, mGo_t, mGo_f, mAt, mPut, mSt1, mSt2, mKill, mFit, mEnt, mPad, mSw, Nat.reduceAdd, Nat.reduceSub, Nat.reduceMod, Nat.reduceLT, Nat.reduceLeDiff, List.length_cons, List.length_nil, true_and, and_true, Option.some.injEq, Nat.zero_add, Classical.not_not, cmp_lt, cmp_ge, cmp_eq, cmp_gt, cmp_le, mAfter_v, mAfter_i, mAfter_l, mBack, mBk, mFrom, mRnC_l, mRnC_r, mRn_i, mRn_l, mRn_r, mRn_n, mRn_f, List.map_cons, List.map_nil, List.cons_append, List.nil_append, List.append_nil, Option.getD_some, Nat.add_zero, TX1_scale_0])
    simp (disch := omega) only [i_0, i_1, i_2, i_3, i_4, i_5, i_6, i_7, i_8, i_9, i_10, i_11, i_12, i_13, i_15, i_16, i_27, i_28, i_31, i_32, i_52, i_54, i_56, i_63, i_64, i_88, i_128, i_255, i_256, i_257, i_2048, i_4000, i_65521, i_1048576, i_1075, nI_ofNat, nI_lt_iff, nI_le_iff, nI_eq_iff, nI_add, pk_mul, pk_sub, pk_div, pk_rem, nI_clamp, Nat.add_sub_cancel, Nat.reduceAdd, Nat.reduceSub, Nat.reduceMul, Nat.reduceDiv, Nat.reduceMod, Nat.reduceLT, Nat.reduceLeDiff, Nat.reduceEqDiff, Nat.add_zero, Nat.zero_add, n_rem, not_false_eq_true, not_true_eq_false, true_and, and_true, true_or, or_true, true_implies, false_implies, Nat.not_lt_zero, Nat.zero_le, l_0, l_1, l_2, l_10, l_52, l_53, l_52m, lLT, lEQ, lN_add, lN_mul, lN_sub, pk_lDiv, lRem2, n_rem, cmp_lt, cmp_ge, cmp_eq, cmp_gt, cmp_le]
    unfold scN at hq
    refine ⟨fun h => ?_, fun hp => ⟨fun h => ?_, fun hl => ?_⟩⟩
    · rw [if_neg (fun c => by have := r2 c.2.1; omega)] at hq
      exact hq
    · rw [if_neg (fun c => by have := r2 c.2.1; omega)] at hq
      exact hq
    · have e1 := r1 hl
      (refine mWP_s 80 (by simp only [TX1_scale_0]; rfl) [] [] (c_nearest (d := d) he (lN r) (by rw [pk_lT (by omega)]; omega) (by rw [pk_lT (by omega)]; omega)) rfl rfl rfl rfl rfl (Nat.le_of_ble_eq_true rfl) rfl rfl rfl ?_; simp only [mS_iload_n, mS_iload, mS_lload_n, mS_lload, mS_aload_n, mS_aload, mS_istore_n, mS_istore, mS_lstore_n, mS_lstore, mS_astore_n, mS_astore, mS_iinc, mS_iconst, mS_bipush, mS_sipush, mS_lconst, mS_ldc, mS_ldc_w, mS_ldc2_w, mS_getstatic, mS_iadd, mS_isub, mS_imul, mS_iand, mS_ior, mS_ixor, mS_ishl, mS_ishr, mS_iushr, mS_idiv, mS_irem, mS_ladd, mS_lsub, mS_lmul, mS_land, mS_lor, mS_lxor, mS_ldiv, mS_lrem, mS_lneg, mS_lshl, mS_lushr, mS_lcmp, mS_i2l, mS_l2i, mS_i2b, mS_dup_i, mS_dup_r, mS_dup2, mS_pop, mS_if_eq, mS_if_ne, mS_if_lt, mS_if_ge, mS_if_gt, mS_if_le, mS_icmp_eq, mS_icmp_ne, mS_icmp_lt, mS_icmp_ge, mS_icmp_gt, mS_icmp_le, mS_goto, mS_tsw, mS_lsw, mS_getfield, mS_putfield, mS_iaload, mS_iaload0, mS_baload, mS_laload, mS_laload1, mS_iastore, mS_bastore, mS_lastore, mS_alen, mS_alen0, mS_alen1, mS_newa_byte, mS_newa_int, mS_newa_long, mS_throw, mS_new, mS_oinit, mS_ireturn, mS_zreturn, mS_lreturn, mS_return, mS_mmin, mS_mmax, mS_mabs, mRun_go, mGo_t, mGo_f, mAt, mPut, mSt1, mSt2, mKill, mFit, mEnt, mPad, mSw, Nat.reduceAdd, Nat.reduceSub, Nat.reduceMod, Nat.reduceLT, Nat.reduceLeDiff, List.length_cons, List.length_nil, true_and, and_true, Option.some.injEq, Nat.zero_add, Classical.not_not, cmp_lt, cmp_ge, cmp_eq, cmp_gt, cmp_le, mAfter_v, mAfter_i, mAfter_l, mBack, mBk, mFrom, mRnC_l, mRnC_r, mRn_i, mRn_l, mRn_r, mRn_n, mRn_f, List.map_cons, List.map_nil, List.cons_append, List.nil_append, List.append_nil, Option.getD_some, Nat.add_zero, TX1_scale_0])
      have e2 : nrS (lN r) e = lN (nr r e) := by
        unfold nrS
        rw [if_neg (by rw [l_0, lLT (by omega) (by omega)]; omega), uL_lN (by omega)]
      obtain ⟨t, hT⟩ := isT_ex (e := e) hp hl
      have hb := (bitsT_lt he hp hT).2.2
      rw [← nr_eq hT] at hb
      rw [e2, lEQ (by omega) (by omega)]
      refine ⟨fun h => ?_, fun h => ?_⟩
      · rw [← e1, if_pos ⟨hp, hl, h⟩] at hq
        refine ⟨fun hs => ?_, fun hs => ?_⟩
        · simp only [if_neg hs] at hq
          exact hq
        · simp only [if_pos hs] at hq
          exact hq
      · rw [← e1, if_neg (fun c => h c.2.2)] at hq
        exact hq
  · rw [if_pos h0] at hq
    exact hq
theorem c_mscale {X : mX0} {d e : Nat} (he : e ≤ 15) (x : Int64) (Q : mQ) (hq : Q (.inl (some (.long (sc x e)))) [] 0 0) : mCall mP X (d + 3) 102 [.long x, .int (nI e)] [] Q := by
  unfold sc at hq
  by_cases h0 : x = 0
  · rw [if_pos h0] at hq
    refine mCall_in pX9_scale 80 rfl ?_
    simp only [mS_iload_n, mS_iload, mS_lload_n, mS_lload, mS_aload_n, mS_aload, mS_istore_n, mS_istore, mS_lstore_n, mS_lstore, mS_astore_n, mS_astore, mS_iinc, mS_iconst, mS_bipush, mS_sipush, mS_lconst, mS_ldc, mS_ldc_w, mS_ldc2_w, mS_getstatic, mS_iadd, mS_isub, mS_imul, mS_iand, mS_ior, mS_ixor, mS_ishl, mS_ishr, mS_iushr, mS_idiv, mS_irem, mS_ladd, mS_lsub, mS_lmul, mS_land, mS_lor, mS_lxor, mS_ldiv, mS_lrem, mS_lneg, mS_lshl, mS_lushr, mS_lcmp, mS_i2l, mS_l2i, mS_i2b, mS_dup_i, mS_dup_r, mS_dup2, mS_pop, mS_if_eq, mS_if_ne, mS_if_lt, mS_if_ge, mS_if_gt, mS_if_le, mS_icmp_eq, mS_icmp_ne, mS_icmp_lt, mS_icmp_ge, mS_icmp_gt, mS_icmp_le, mS_goto, mS_tsw, mS_lsw, mS_getfield, mS_putfield, mS_iaload, mS_iaload0, mS_baload, mS_laload, mS_laload1, mS_iastore, mS_bastore, mS_lastore, mS_alen, mS_alen0, mS_alen1, mS_newa_byte, mS_newa_int, mS_newa_long, mS_throw, mS_new, mS_oinit, mS_ireturn, mS_zreturn, mS_lreturn, mS_return, mS_mmin, mS_mmax, mS_mabs, mRun_go, mGo_t, mGo_f, mAt, mPut, mSt1, mSt2, mKill, mFit, mEnt, mPad, mSw, Nat.reduceAdd, Nat.reduceSub, Nat.reduceMod, Nat.reduceLT, Nat.reduceLeDiff, List.length_cons, List.length_nil, true_and, and_true, Option.some.injEq, Nat.zero_add, Classical.not_not, cmp_lt, cmp_ge, cmp_eq, cmp_gt, cmp_le, mAfter_v, mAfter_i, mAfter_l, mBack, mBk, mFrom, mRnC_l, mRnC_r, mRn_i, mRn_l, mRn_r, mRn_n, mRn_f, List.map_cons, List.map_nil, List.cons_append, List.nil_append, List.append_nil, Option.getD_some, Nat.add_zero, TX9_scale_0, TX9_scale_1, and63 x]
    exact ⟨fun h => absurd h0 h, fun _ => hq⟩
  rw [if_neg h0] at hq
  have hu : uL x % 2 ^ 63 < 2 ^ 63 := Nat.mod_lt _ (by decide)
  have nb : ∀ k, 0 < k → k < 2 ^ 52 → nr k e < 2 ^ 63 := by
    intro k hp hl
    obtain ⟨t, hT⟩ := isT_ex (e := e) hp hl
    have hb := (bitsT_lt he hp hT).2.2
    rw [← nr_eq hT] at hb
    exact hb
  have A := and63 x
  generalize uL x % 2 ^ 63 = u at hq hu A
  by_cases hu0 : u = 0
  · have hn : scN u e = none := by
      unfold scN
      rw [if_neg]
      rintro ⟨a, b, c⟩
      obtain ⟨t, hT⟩ := isT_ex (e := e) a b
      have hb := bitsT_lt he a hT
      have hl := isT_le he a hT
      rw [nr_eq hT] at c
      unfold bitsT at c
      omega
    rw [hn] at hq
    refine mCall_in pX9_scale 80 rfl ?_
    simp only [mS_iload_n, mS_iload, mS_lload_n, mS_lload, mS_aload_n, mS_aload, mS_istore_n, mS_istore, mS_lstore_n, mS_lstore, mS_astore_n, mS_astore, mS_iinc, mS_iconst, mS_bipush, mS_sipush, mS_lconst, mS_ldc, mS_ldc_w, mS_ldc2_w, mS_getstatic, mS_iadd, mS_isub, mS_imul, mS_iand, mS_ior, mS_ixor, mS_ishl, mS_ishr, mS_iushr, mS_idiv, mS_irem, mS_ladd, mS_lsub, mS_lmul, mS_land, mS_lor, mS_lxor, mS_ldiv, mS_lrem, mS_lneg, mS_lshl, mS_lushr, mS_lcmp, mS_i2l, mS_l2i, mS_i2b, mS_dup_i, mS_dup_r, mS_dup2, mS_pop, mS_if_eq, mS_if_ne, mS_if_lt, mS_if_ge, mS_if_gt, mS_if_le, mS_icmp_eq, mS_icmp_ne, mS_icmp_lt, mS_icmp_ge, mS_icmp_gt, mS_icmp_le, mS_goto, mS_tsw, mS_lsw, mS_getfield, mS_putfield, mS_iaload, mS_iaload0, mS_baload, mS_laload, mS_laload1, mS_iastore, mS_bastore, mS_lastore, mS_alen, mS_alen0, mS_alen1, mS_newa_byte, mS_newa_int, mS_newa_long, mS_throw, mS_new, mS_oinit, mS_ireturn, mS_zreturn, mS_lreturn, mS_return, mS_mmin, mS_mmax, mS_mabs, mRun_go, mGo_t, mGo_f, mAt, mPut, mSt1, mSt2, mKill, mFit, mEnt, mPad, mSw, Nat.reduceAdd, Nat.reduceSub, Nat.reduceMod, Nat.reduceLT, Nat.reduceLeDiff, List.length_cons, List.length_nil, true_and, and_true, Option.some.injEq, Nat.zero_add, Classical.not_not, cmp_lt, cmp_ge, cmp_eq, cmp_gt, cmp_le, mAfter_v, mAfter_i, mAfter_l, mBack, mBk, mFrom, mRnC_l, mRnC_r, mRn_i, mRn_l, mRn_r, mRn_n, mRn_f, List.map_cons, List.map_nil, List.cons_append, List.nil_append, List.append_nil, Option.getD_some, Nat.add_zero, TX9_scale_0, TX9_scale_1, A]
    rw [hu0]
    exact ⟨fun _ => ⟨fun h => absurd rfl h, fun _ => hq⟩, fun h => absurd h h0⟩
  have fin : ∀ lo hi, hi = lo + 1 → hi ≤ 2 ^ 52 → (lo = 0 ∨ nr lo e < u) → (hi = 2 ^ 52 ∨ u ≤ nr hi e) → (hi ≠ 2 ^ 52 ∧ nr hi e = u → scN u e = some hi) ∧ (¬ (hi ≠ 2 ^ 52 ∧ nr hi e = u) → scN u e = none) := by
    intro lo hi h1 h2 h3 h4
    refine ⟨fun ⟨a, b⟩ => ?_, fun hn => ?_⟩
    · have := nwN_eq (k := hi) he (by omega) (by omega)
      rw [b] at this
      unfold scN
      rw [this, if_pos ⟨by omega, by omega, b⟩]
    · unfold scN
      rw [if_neg]
      rintro ⟨a, b, c⟩
      generalize nwN u e = k at a b c
      apply hn
      have hlk : lo < k := by
        rcases Nat.lt_or_ge lo k with z | z
        · exact z
        · rcases h3 with y | y
          · omega
          · have := nr_mono he a z (by omega)
            omega
      rcases h4 with y | y
      · omega
      · have := nr_mono (k := hi) (k' := k) he (by omega) (by omega) b
        exact ⟨by omega, by omega⟩
  have loop : ∀ (j lo hi : Nat) (y1 y2 : Value), hi - lo ≤ j → lo < hi → hi ≤ 2 ^ 52 → (lo = 0 ∨ nr lo e < u) → (hi = 2 ^ 52 ∨ u ≤ nr hi e) →
      mWP (d + 2) X (mCall mP X (d + 2)) (kX9_scale, 11, []) Q 32 [.long x, mU, .int (nI e), .long (lN u), mU, .long (lN lo), mU, .long (lN hi), mU, y1, y2] [] [] 0 0 := by
    intro j
    induction j with
    | zero => intro lo hi y1 y2 h1 h2; omega
    | succ j ih =>
      intro lo hi y1 y2 h1 h2 h3 h4 h5
      (refine mWP_st 80 ?_; simp only [mS_iload_n, mS_iload, mS_lload_n, mS_lload, mS_aload_n, mS_aload, mS_istore_n, mS_istore, mS_lstore_n, mS_lstore, mS_astore_n, mS_astore, mS_iinc, mS_iconst, mS_bipush, mS_sipush, mS_lconst, mS_ldc, mS_ldc_w, mS_ldc2_w, mS_getstatic, mS_iadd, mS_isub, mS_imul, mS_iand, mS_ior, mS_ixor, mS_ishl, mS_ishr, mS_iushr, mS_idiv, mS_irem, mS_ladd, mS_lsub, mS_lmul, mS_land, mS_lor, mS_lxor, mS_ldiv, mS_lrem, mS_lneg, mS_lshl, mS_lushr, mS_lcmp, mS_i2l, mS_l2i, mS_i2b, mS_dup_i, mS_dup_r, mS_dup2, mS_pop, mS_if_eq, mS_if_ne, mS_if_lt, mS_if_ge, mS_if_gt, mS_if_le, mS_icmp_eq, mS_icmp_ne, mS_icmp_lt, mS_icmp_ge, mS_icmp_gt, mS_icmp_le, mS_goto, mS_tsw, mS_lsw, mS_getfield, mS_putfield, mS_iaload, mS_iaload0, mS_baload, mS_laload, mS_laload1, mS_iastore, mS_bastore, mS_lastore, mS_alen, mS_alen0, mS_alen1, mS_newa_byte, mS_newa_int, mS_newa_long, mS_throw, mS_new, mS_oinit, mS_ireturn, mS_zreturn, mS_lreturn, mS_return, mS_mmin, mS_mmax, mS_mabs, mRun_go, mGo_t, mGo_f, mAt, mPut, mSt1, mSt2, mKill, mFit, mEnt, mPad, mSw, Nat.reduceAdd, Nat.reduceSub, Nat.reduceMod, Nat.reduceLT, Nat.reduceLeDiff, List.length_cons, List.length_nil, true_and, and_true, Option.some.injEq, Nat.zero_add, Classical.not_not, cmp_lt, cmp_ge, cmp_eq, cmp_gt, cmp_le, mAfter_v, mAfter_i, mAfter_l, mBack, mBk, mFrom, mRnC_l, mRnC_r, mRn_i, mRn_l, mRn_r, mRn_n, mRn_f, List.map_cons, List.map_nil, List.cons_append, List.nil_append, List.append_nil, Option.getD_some, Nat.add_zero, TX9_scale_0, TX9_scale_1, mSt_row])
      simp (disch := omega) only [i_0, i_1, i_2, i_3, i_4, i_5, i_6, i_7, i_8, i_9, i_10, i_11, i_12, i_13, i_15, i_16, i_27, i_28, i_31, i_32, i_52, i_54, i_56, i_63, i_64, i_88, i_128, i_255, i_256, i_257, i_2048, i_4000, i_65521, i_1048576, i_1075, nI_ofNat, nI_lt_iff, nI_le_iff, nI_eq_iff, nI_add, pk_mul, pk_sub, pk_div, pk_rem, nI_clamp, Nat.add_sub_cancel, Nat.reduceAdd, Nat.reduceSub, Nat.reduceMul, Nat.reduceDiv, Nat.reduceMod, Nat.reduceLT, Nat.reduceLeDiff, Nat.reduceEqDiff, Nat.add_zero, Nat.zero_add, n_rem, not_false_eq_true, not_true_eq_false, true_and, and_true, true_or, or_true, true_implies, false_implies, Nat.not_lt_zero, Nat.zero_le, l_0, l_1, l_2, l_10, l_52, l_53, l_52m, lLT, lEQ, lN_add, lN_mul, lN_sub, pk_lDiv, lRem2, n_rem, cmp_lt, cmp_ge, cmp_eq, cmp_gt, cmp_le]
      refine ⟨fun h => ?_, fun h => ?_⟩
      · obtain ⟨f1, f2⟩ := fin lo hi (by omega) h3 h4 h5
        refine ⟨fun h6 => ?_, fun h6 => ?_⟩
        · rw [f2 (fun c => c.1 h6)] at hq
          exact hq
        · (refine mWP_s 80 (by simp only [TX9_scale_0, TX9_scale_1]; rfl) [] [] (c_mnearest (d := d) he (k := hi) (by omega)) rfl rfl rfl rfl rfl (Nat.le_of_ble_eq_true rfl) rfl rfl rfl ?_; simp only [mS_iload_n, mS_iload, mS_lload_n, mS_lload, mS_aload_n, mS_aload, mS_istore_n, mS_istore, mS_lstore_n, mS_lstore, mS_astore_n, mS_astore, mS_iinc, mS_iconst, mS_bipush, mS_sipush, mS_lconst, mS_ldc, mS_ldc_w, mS_ldc2_w, mS_getstatic, mS_iadd, mS_isub, mS_imul, mS_iand, mS_ior, mS_ixor, mS_ishl, mS_ishr, mS_iushr, mS_idiv, mS_irem, mS_ladd, mS_lsub, mS_lmul, mS_land, mS_lor, mS_lxor, mS_ldiv, mS_lrem, mS_lneg, mS_lshl, mS_lushr, mS_lcmp, mS_i2l, mS_l2i, mS_i2b, mS_dup_i, mS_dup_r, mS_dup2, mS_pop, mS_if_eq, mS_if_ne, mS_if_lt, mS_if_ge, mS_if_gt, mS_if_le, mS_icmp_eq, mS_icmp_ne, mS_icmp_lt, mS_icmp_ge, mS_icmp_gt, mS_icmp_le, mS_goto, mS_tsw, mS_lsw, mS_getfield, mS_putfield, mS_iaload, mS_iaload0, mS_baload, mS_laload, mS_laload1, mS_iastore, mS_bastore, mS_lastore, mS_alen, mS_alen0, mS_alen1, mS_newa_byte, mS_newa_int, mS_newa_long, mS_throw, mS_new, mS_oinit, mS_ireturn, mS_zreturn, mS_lreturn, mS_return, mS_mmin, mS_mmax, mS_mabs, mRun_go, mGo_t, mGo_f, mAt, mPut, mSt1, mSt2, mKill, mFit, mEnt, mPad, mSw, Nat.reduceAdd, Nat.reduceSub, Nat.reduceMod, Nat.reduceLT, Nat.reduceLeDiff, List.length_cons, List.length_nil, true_and, and_true, Option.some.injEq, Nat.zero_add, Classical.not_not, cmp_lt, cmp_ge, cmp_eq, cmp_gt, cmp_le, mAfter_v, mAfter_i, mAfter_l, mBack, mBk, mFrom, mRnC_l, mRnC_r, mRn_i, mRn_l, mRn_r, mRn_n, mRn_f, List.map_cons, List.map_nil, List.cons_append, List.nil_append, List.append_nil, Option.getD_some, Nat.add_zero, TX9_scale_0, TX9_scale_1])
          rw [lEQ (nb hi (by omega) (by omega)) (by omega)]
          refine ⟨fun h7 => ?_, fun h7 => ?_⟩
          · rw [f1 ⟨h6, h7⟩] at hq
            refine ⟨fun hs => ?_, fun hs => ?_⟩
            · simp only [if_neg hs] at hq
              exact hq
            · simp only [if_pos hs] at hq
              exact hq
          · rw [f2 (fun c => h7 c.2)] at hq
            exact hq
      · (refine mWP_s 80 (by simp only [TX9_scale_0, TX9_scale_1]; rfl) [] [] (c_mnearest (d := d) he (k := (lo + hi) / 2) (by omega)) rfl rfl rfl rfl rfl (Nat.le_of_ble_eq_true rfl) rfl rfl rfl ?_; simp only [mS_iload_n, mS_iload, mS_lload_n, mS_lload, mS_aload_n, mS_aload, mS_istore_n, mS_istore, mS_lstore_n, mS_lstore, mS_astore_n, mS_astore, mS_iinc, mS_iconst, mS_bipush, mS_sipush, mS_lconst, mS_ldc, mS_ldc_w, mS_ldc2_w, mS_getstatic, mS_iadd, mS_isub, mS_imul, mS_iand, mS_ior, mS_ixor, mS_ishl, mS_ishr, mS_iushr, mS_idiv, mS_irem, mS_ladd, mS_lsub, mS_lmul, mS_land, mS_lor, mS_lxor, mS_ldiv, mS_lrem, mS_lneg, mS_lshl, mS_lushr, mS_lcmp, mS_i2l, mS_l2i, mS_i2b, mS_dup_i, mS_dup_r, mS_dup2, mS_pop, mS_if_eq, mS_if_ne, mS_if_lt, mS_if_ge, mS_if_gt, mS_if_le, mS_icmp_eq, mS_icmp_ne, mS_icmp_lt, mS_icmp_ge, mS_icmp_gt, mS_icmp_le, mS_goto, mS_tsw, mS_lsw, mS_getfield, mS_putfield, mS_iaload, mS_iaload0, mS_baload, mS_laload, mS_laload1, mS_iastore, mS_bastore, mS_lastore, mS_alen, mS_alen0, mS_alen1, mS_newa_byte, mS_newa_int, mS_newa_long, mS_throw, mS_new, mS_oinit, mS_ireturn, mS_zreturn, mS_lreturn, mS_return, mS_mmin, mS_mmax, mS_mabs, mRun_go, mGo_t, mGo_f, mAt, mPut, mSt1, mSt2, mKill, mFit, mEnt, mPad, mSw, Nat.reduceAdd, Nat.reduceSub, Nat.reduceMod, Nat.reduceLT, Nat.reduceLeDiff, List.length_cons, List.length_nil, true_and, and_true, Option.some.injEq, Nat.zero_add, Classical.not_not, cmp_lt, cmp_ge, cmp_eq, cmp_gt, cmp_le, mAfter_v, mAfter_i, mAfter_l, mBack, mBk, mFrom, mRnC_l, mRnC_r, mRn_i, mRn_l, mRn_r, mRn_n, mRn_f, List.map_cons, List.map_nil, List.cons_append, List.nil_append, List.append_nil, Option.getD_some, Nat.add_zero, TX9_scale_0, TX9_scale_1])
        rw [lLT (nb _ (by omega) (by omega)) (by omega)]
        refine ⟨fun h7 => ?_, fun h7 => ?_⟩
        · exact ih lo ((lo + hi) / 2) _ _ (by omega) (by omega) (by omega) h4 (Or.inr (by omega))
        · exact ih ((lo + hi) / 2) hi _ _ (by omega) (by omega) (by omega) (Or.inr h7) h5
  refine mCall_in pX9_scale 80 rfl ?_
  simp only [mS_iload_n, mS_iload, mS_lload_n, mS_lload, mS_aload_n, mS_aload, mS_istore_n, mS_istore, mS_lstore_n, mS_lstore, mS_astore_n, mS_astore, mS_iinc, mS_iconst, mS_bipush, mS_sipush, mS_lconst, mS_ldc, mS_ldc_w, mS_ldc2_w, mS_getstatic, mS_iadd, mS_isub, mS_imul, mS_iand, mS_ior, mS_ixor, mS_ishl, mS_ishr, mS_iushr, mS_idiv, mS_irem, mS_ladd, mS_lsub, mS_lmul, mS_land, mS_lor, mS_lxor, mS_ldiv, mS_lrem, mS_lneg, mS_lshl, mS_lushr, mS_lcmp, mS_i2l, mS_l2i, mS_i2b, mS_dup_i, mS_dup_r, mS_dup2, mS_pop, mS_if_eq, mS_if_ne, mS_if_lt, mS_if_ge, mS_if_gt, mS_if_le, mS_icmp_eq, mS_icmp_ne, mS_icmp_lt, mS_icmp_ge, mS_icmp_gt, mS_icmp_le, mS_goto, mS_tsw, mS_lsw, mS_getfield, mS_putfield, mS_iaload, mS_iaload0, mS_baload, mS_laload, mS_laload1, mS_iastore, mS_bastore, mS_lastore, mS_alen, mS_alen0, mS_alen1, mS_newa_byte, mS_newa_int, mS_newa_long, mS_throw, mS_new, mS_oinit, mS_ireturn, mS_zreturn, mS_lreturn, mS_return, mS_mmin, mS_mmax, mS_mabs, mRun_go, mGo_t, mGo_f, mAt, mPut, mSt1, mSt2, mKill, mFit, mEnt, mPad, mSw, Nat.reduceAdd, Nat.reduceSub, Nat.reduceMod, Nat.reduceLT, Nat.reduceLeDiff, List.length_cons, List.length_nil, true_and, and_true, Option.some.injEq, Nat.zero_add, Classical.not_not, cmp_lt, cmp_ge, cmp_eq, cmp_gt, cmp_le, mAfter_v, mAfter_i, mAfter_l, mBack, mBk, mFrom, mRnC_l, mRnC_r, mRn_i, mRn_l, mRn_r, mRn_n, mRn_f, List.map_cons, List.map_nil, List.cons_append, List.nil_append, List.append_nil, Option.getD_some, Nat.add_zero, TX9_scale_0, TX9_scale_1, A]
  refine ⟨fun _ => ⟨fun _ => ?_, fun h => ?_⟩, fun h => absurd h h0⟩
  · exact loop (2 ^ 52) 0 (2 ^ 52) mU mU (by omega) (by decide) (by omega) (Or.inl rfl) (Or.inl rfl)
  · rw [l_0, lEQ (by omega) (by decide)] at h
    exact absurd h hu0
