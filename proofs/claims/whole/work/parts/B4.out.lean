/-! OUT of the class: a block by its best way -/
theorem blkB_len {w : Nat → Int64} {n i way : Nat} {C : List Nat} (h : blkB w n i way = some C) (hn : n ≤ 64) : C.length ≤ 6000 := by
  unfold blkB at h
  split at h
  · rw [Option.some.injEq] at h
    rw [← h, List.length_append, bitsN_len, plainB_len]
    omega
  split at h
  · split at h
    · rename_i e he
      rw [Option.some.injEq] at h
      have h1 := widF_le (w := w) (e := e) (i0 := i) n i 0 (by omega)
      have h2 := Nat.mul_le_mul h1 hn
      rw [← h]
      simp only [List.length_append, bitsN_len, decB_len]
      omega
    · cases h
  split at h
  · rw [Option.some.injEq] at h
    have h1 := headsB_len (w := w) (n - 1) (i + 1)
    have h2 : (52 - tailF w n i 52) * n ≤ 52 * 64 := Nat.mul_le_mul (by omega) hn
    rw [← h]
    simp only [List.length_append, bitsN_len, fracB_len]
    omega
  split at h
  · rw [Option.some.injEq] at h
    have h1 := restsB_len (w := w) (kind := 2) (s := strN w n i) n i (0, 0) (by decide)
    rw [← h]
    simp only [List.length_append, bitsN_len]
    omega
  · rw [Option.some.injEq] at h
    have h1 := restsB_len (w := w) (kind := way) (s := 0) n i (0, 0) (by decide)
    rw [← h]
    simp only [List.length_append, bitsN_len]
    omega
theorem blkB_none {w : Nat → Int64} {n i way : Nat} (h : blkB w n i way = none) : way = 6 ∧ powF w n i 16 0 = none := by
  unfold blkB at h
  split at h
  · cases h
  split at h
  · rename_i h6
    refine ⟨h6, ?_⟩
    cases hp : powF w n i 16 0 with
    | none => rfl
    | some e => rw [hp] at h; cases h
  split at h
  · cases h
  split at h
  · cases h
  · cases h
/-- a block's bits by a way, as it is told -/
noncomputable def bitI (w : Nat → Int64) (n i way : Nat) : Int32 := match blkB w n i way with
  | some C => nI C.length
  | none => -1
/-- the best way: j more from way on -/
noncomputable def wayF (w : Nat → Int64) (n i : Nat) : Nat → Nat → Nat → Nat → Nat
  | 0, _, best, _ => best
  | j + 1, way, best, least => match blkB w n i way with
    | some C => if C.length < least then wayF w n i j (way + 1) way C.length else wayF w n i j (way + 1) best least
    | none => wayF w n i j (way + 1) best least
noncomputable def wayN (w : Nat → Int64) (n i : Nat) : Nat := wayF w n i 8 0 0 (2 ^ 20)
theorem wayF_some {w : Nat → Int64} {n i : Nat} : ∀ j way best C, way + j = 8 → best < 8 → blkB w n i best = some C → wayF w n i j way best C.length < 8 ∧ ∃ C', blkB w n i (wayF w n i j way best C.length) = some C' ∧ C'.length ≤ C.length
  | 0, way, best, C, _, hb, h => ⟨hb, C, h, Nat.le_refl _⟩
  | j + 1, way, best, C, hj, hb, h => by
    unfold wayF
    cases hw : blkB w n i way with
    | none => exact wayF_some j (way + 1) best C (by omega) hb h
    | some D =>
      simp only
      by_cases hl : D.length < C.length
      · rw [if_pos hl]
        obtain ⟨a, C', b, c⟩ := wayF_some j (way + 1) way D (by omega) (by omega) hw
        exact ⟨a, C', b, by omega⟩
      · rw [if_neg hl]
        exact wayF_some j (way + 1) best C (by omega) hb h
theorem blkB_0 {w : Nat → Int64} {n i : Nat} : blkB w n i 0 = some (bitsN 0 3 ++ plainB w n i) := by
  unfold blkB
  rw [if_pos rfl]
theorem blkB_0l {w : Nat → Int64} {n i : Nat} : (bitsN 0 3 ++ plainB w n i).length = 3 + 64 * n := by rw [List.length_append, bitsN_len, plainB_len]
theorem wayN_1 {w : Nat → Int64} {n i : Nat} (hn : n ≤ 64) : wayN w n i = wayF w n i 7 1 0 (3 + 64 * n) := by
  unfold wayN
  rw [wayF, blkB_0]
  simp only
  rw [blkB_0l, if_pos (by omega)]
/-- the bits that are put of a block -/
noncomputable def blkC (w : Nat → Int64) (n i : Nat) : List Nat := (blkB w n i (wayN w n i)).getD []
theorem blkC_some {w : Nat → Int64} {n i : Nat} (hn : n ≤ 64) : wayN w n i < 8 ∧ blkB w n i (wayN w n i) = some (blkC w n i) ∧ (blkC w n i).length ≤ 3 + 64 * n := by
  have h := wayF_some (w := w) (n := n) (i := i) 7 1 0 _ (by omega) (by omega) blkB_0
  rw [blkB_0l, ← wayN_1 hn] at h
  obtain ⟨a, C', b, c⟩ := h
  unfold blkC
  rw [b]
  exact ⟨a, rfl, c⟩
/-- OUT's data: the bytes, the blocks' bits and ways, what the meter and the encoder hold -/
abbrev outT : Type := (Nat → Int32) × (Nat → Int32) × (Nat → Int32) × (Nat → Int32) × List Nat × Int32 × Int32 × Int32 × (Nat × Nat) × (Nat → Int64)
abbrev encAt (b : Nat) (st pw wd : Int32) (al : Nat × Nat) (fo : Nat → Int64) : mH := [.inr (2, [.ref (b + 1), .ref (b + 2), .int st, .int pw, .int wd]), winC al.1 al.2, .inl (.long, 64, .inr (.inl fo))]
abbrev outAt (b : Nat) (O : outT) (B : List Nat) (nb : Nat) : mH := [.inr (3, [.ref (b + 1), .ref (b + 3), .ref (b + 5), .ref (b + 8), .ref (b + 9), .int (nI nb)]), .inr (0, [.ref (b + 1 + 1), .int (nI B.length)]), .inl (.int, 2148, .inl O.1), .inr (0, [.ref (b + 3 + 1), .int (nI O.2.2.2.2.1.length)]), .inl (.int, 0, .inl O.2.2.2.1), .inr (2, [.ref (b + 5 + 1), .ref (b + 5 + 2), .int O.2.2.2.2.2.1, .int O.2.2.2.2.2.2.1, .int O.2.2.2.2.2.2.2.1]), winC O.2.2.2.2.2.2.2.2.1.1 O.2.2.2.2.2.2.2.2.1.2, .inl (.long, 64, .inr (.inl O.2.2.2.2.2.2.2.2.2)), .inl (.int, 2048, .inl O.2.1), .inl (.int, 256, .inl O.2.2.1)]
theorem c_packBlock {X : mX0} {d n i0 N nb : Nat} {w : Nat → Int64} {R : rowT} {O : outT} {B : List Nat} (hR : rowOk N w R) (hn : i0 + n ≤ N) (hn2 : n ≤ 64) (hn1 : 1 ≤ n) (hnb : nb < 256) (hB : B.length < 2 ^ 20) (hf : sinkOk 2148 O.1 B) :
    ∃ O' : outT, sinkOk 2148 O'.1 (B ++ blkC w n i0) ∧ (∀ v, v < 8 → O'.2.1 (8 * nb + v) = bitI w n i0 v) ∧ (∀ q, q < 8 * nb → O'.2.1 q = O.2.1 q) ∧ O'.2.2.1 nb = nI (wayN w n i0) ∧ (∀ q, q < nb → O'.2.2.1 q = O.2.2.1 q) ∧
      ∀ Q : mQ, Q (.inl none) (outAt 0 O' (B ++ blkC w n i0) (nb + 1) ++ rowAt 10 R) 0 0 → mCall mP X (d + 7) 36 [.ref 0, .ref 10, .int (nI i0), .int (nI (i0 + n))] (outAt 0 O B nb ++ rowAt 10 R) Q := by
  have hN := hR.2.1
  obtain ⟨hw8, hwC, hwl⟩ := blkC_some (w := w) (n := n) (i := i0) hn2
  obtain ⟨fm1, al1, Bm1, hm1, ks⟩ := c_planStride (X := X) (d := d + 1) (st := O.2.2.2.2.2.1) (pw := O.2.2.2.2.2.2.1) (wd := O.2.2.2.2.2.2.2.1) (al := O.2.2.2.2.2.2.2.2.1) (fo := O.2.2.2.2.2.2.2.2.2) (f := O.2.2.2.1) (B := O.2.2.2.2.1) hR hn hn2
  obtain ⟨pw, wd, fo, he, kd⟩ := c_planDecimal (X := X) (d := d) (st := nI (strN w n i0)) (pw := O.2.2.2.2.2.2.1) (wd := O.2.2.2.2.2.2.2.1) (al := al1) (fo := O.2.2.2.2.2.2.2.2.2) hR hn hn2
  have loop : ∀ (j way best least : Nat) (bc fm : Nat → Int32) (Bm : List Nat) (al : Nat × Nat), way + j = 8 → wayF w n i0 j way best least = wayN w n i0 → best < 8 → least ≤ 2 ^ 20 → Bm.length + 6000 * j ≤ 60000 → ∃ O' : outT, sinkOk 2148 O'.1 (B ++ blkC w n i0) ∧ (∀ v, way ≤ v → v < 8 → O'.2.1 (8 * nb + v) = bitI w n i0 v) ∧ (∀ q, q < 8 * nb + way → O'.2.1 q = bc q) ∧ O'.2.2.1 nb = nI (wayN w n i0) ∧ (∀ q, q < nb → O'.2.2.1 q = O.2.2.1 q) ∧
      ∀ (y : Value) (Q : mQ), Q (.inl none) (outAt 0 O' (B ++ blkC w n i0) (nb + 1) ++ rowAt 10 R) 0 0 → mWP (d + 6) X (mCall mP X (d + 6)) (kX4_packBlock, 8, []) Q 45 [.ref 0, .ref 10, .int (nI i0), .int (nI (i0 + n)), .int (nI best), .int (nI least), .int (nI way), y] [] (outAt 0 (O.1, bc, O.2.2.1, fm, Bm, nI (strN w n i0), pw, wd, al, fo) B nb ++ rowAt 10 R) 0 0 := by
    intro j
    induction j with
    | zero =>
      intro way best least bc fm Bm al hj hE hb hl hBm
      have hE' : best = wayN w n i0 := hE
      subst hE'
      obtain ⟨f1, al1, g1, k1⟩ := c_write (X := X) (d := d + 1) (cap := 2148) (al := al) (f := O.1) (B := B) hR hn hn2 hn1 he hw8 hwC (by omega) (by decide) hf
      refine ⟨(f1, bc, upd O.2.2.1 nb (nI (wayN w n i0)), fm, Bm, nI (strN w n i0), pw, wd, al1, fo), g1, fun v h1 h2 => absurd h1 (by omega), fun q hq => rfl, pk_us, fun q hq => pk_un (by omega), fun y Q hq => ?_⟩
      (refine mWP_st 80 ?_; simp only [mS_iload_n, mS_iload, mS_lload_n, mS_lload, mS_aload_n, mS_aload, mS_istore_n, mS_istore, mS_lstore_n, mS_lstore, mS_astore_n, mS_astore, mS_iinc, mS_iconst, mS_bipush, mS_sipush, mS_lconst, mS_ldc, mS_ldc_w, mS_ldc2_w, mS_getstatic, mS_iadd, mS_isub, mS_imul, mS_iand, mS_ior, mS_ixor, mS_ishl, mS_ishr, mS_iushr, mS_idiv, mS_irem, mS_ladd, mS_lsub, mS_lmul, mS_land, mS_lor, mS_lxor, mS_ldiv, mS_lrem, mS_lneg, mS_lshl, mS_lushr, mS_lcmp, mS_i2l, mS_l2i, mS_i2b, mS_dup_i, mS_dup_r, mS_dup2, mS_pop, mS_if_eq, mS_if_ne, mS_if_lt, mS_if_ge, mS_if_gt, mS_if_le, mS_icmp_eq, mS_icmp_ne, mS_icmp_lt, mS_icmp_ge, mS_icmp_gt, mS_icmp_le, mS_goto, mS_tsw, mS_lsw, mS_getfield, mS_putfield, mS_iaload, mS_iaload0, mS_baload, mS_laload, mS_laload1, mS_iastore, mS_bastore, mS_lastore, mS_alen, mS_alen0, mS_alen1, mS_newa_byte, mS_newa_int, mS_newa_long, mS_throw, mS_new, mS_oinit, mS_ireturn, mS_zreturn, mS_lreturn, mS_return, mS_mmin, mS_mmax, mS_mabs, mRun_go, mGo_t, mGo_f, mAt, mPut, mSt1, mSt2, mKill, mFit, mEnt, mPad, mSw, Nat.reduceAdd, Nat.reduceSub, Nat.reduceMod, Nat.reduceLT, Nat.reduceLeDiff, List.length_cons, List.length_nil, true_and, and_true, Option.some.injEq, Nat.zero_add, Classical.not_not, cmp_lt, cmp_ge, cmp_eq, cmp_gt, cmp_le, mAfter_v, mAfter_i, mAfter_l, mBack, mBk, mFrom, mRnC_l, mRnC_r, mRn_i, mRn_l, mRn_r, mRn_n, mRn_f, List.map_cons, List.map_nil, List.cons_append, List.nil_append, List.append_nil, Option.getD_some, Nat.add_zero, TX4_packBlock_0, TX4_packBlock_1, mSt_row])
      simp (disch := omega) only [i_0, i_1, i_2, i_3, i_4, i_5, i_6, i_7, i_8, i_9, i_10, i_11, i_12, i_13, i_15, i_16, i_27, i_28, i_31, i_32, i_52, i_54, i_56, i_63, i_64, i_88, i_128, i_255, i_256, i_257, i_2048, i_4000, i_65521, i_1048576, i_1075, nI_ofNat, nI_lt_iff, nI_le_iff, nI_eq_iff, nI_add, pk_mul, pk_sub, pk_div, pk_rem, nI_clamp, Nat.add_sub_cancel, Nat.reduceAdd, Nat.reduceSub, Nat.reduceMul, Nat.reduceDiv, Nat.reduceMod, Nat.reduceLT, Nat.reduceLeDiff, Nat.reduceEqDiff, Nat.add_zero, Nat.zero_add, n_rem, not_false_eq_true, not_true_eq_false, true_and, and_true, true_or, or_true, true_implies, false_implies, Nat.not_lt_zero, Nat.zero_le]
      refine ⟨fun _ => ⟨vp_in_nI (by omega) (by omega), ?_⟩, fun h => absurd h (by omega)⟩
      (refine mWP_v 80 (by simp only [TX4_packBlock_0, TX4_packBlock_1]; rfl) [5, 6, 7, 10, 11, 12, 13, 14, 15, 1, 2] [] (k1) rfl rfl rfl rfl rfl (Nat.le_of_ble_eq_true rfl) rfl rfl rfl rfl rfl ?_; simp only [mS_iload_n, mS_iload, mS_lload_n, mS_lload, mS_aload_n, mS_aload, mS_istore_n, mS_istore, mS_lstore_n, mS_lstore, mS_astore_n, mS_astore, mS_iinc, mS_iconst, mS_bipush, mS_sipush, mS_lconst, mS_ldc, mS_ldc_w, mS_ldc2_w, mS_getstatic, mS_iadd, mS_isub, mS_imul, mS_iand, mS_ior, mS_ixor, mS_ishl, mS_ishr, mS_iushr, mS_idiv, mS_irem, mS_ladd, mS_lsub, mS_lmul, mS_land, mS_lor, mS_lxor, mS_ldiv, mS_lrem, mS_lneg, mS_lshl, mS_lushr, mS_lcmp, mS_i2l, mS_l2i, mS_i2b, mS_dup_i, mS_dup_r, mS_dup2, mS_pop, mS_if_eq, mS_if_ne, mS_if_lt, mS_if_ge, mS_if_gt, mS_if_le, mS_icmp_eq, mS_icmp_ne, mS_icmp_lt, mS_icmp_ge, mS_icmp_gt, mS_icmp_le, mS_goto, mS_tsw, mS_lsw, mS_getfield, mS_putfield, mS_iaload, mS_iaload0, mS_baload, mS_laload, mS_laload1, mS_iastore, mS_bastore, mS_lastore, mS_alen, mS_alen0, mS_alen1, mS_newa_byte, mS_newa_int, mS_newa_long, mS_throw, mS_new, mS_oinit, mS_ireturn, mS_zreturn, mS_lreturn, mS_return, mS_mmin, mS_mmax, mS_mabs, mRun_go, mGo_t, mGo_f, mAt, mPut, mSt1, mSt2, mKill, mFit, mEnt, mPad, mSw, Nat.reduceAdd, Nat.reduceSub, Nat.reduceMod, Nat.reduceLT, Nat.reduceLeDiff, List.length_cons, List.length_nil, true_and, and_true, Option.some.injEq, Nat.zero_add, Classical.not_not, cmp_lt, cmp_ge, cmp_eq, cmp_gt, cmp_le, mAfter_v, mAfter_i, mAfter_l, mBack, mBk, mFrom, mRnC_l, mRnC_r, mRn_i, mRn_l, mRn_r, mRn_n, mRn_f, List.map_cons, List.map_nil, List.cons_append, List.nil_append, List.append_nil, Option.getD_some, Nat.add_zero, TX4_packBlock_0, TX4_packBlock_1])
      exact hq
    | succ j ih =>
      intro way best least bc fm Bm al hj hE hb hl hBm
      unfold wayF at hE
      cases hw : blkB w n i0 way with
      | none =>
        rw [hw] at hE
        obtain ⟨h6, hp⟩ := blkB_none hw
        subst h6
        obtain ⟨O', a1, a2, a3, a4, a5, k1⟩ := ih (6 + 1) best least (upd bc (nb * 8 + 6) (-1)) fm Bm al (by omega) hE hb hl (by omega)
        refine ⟨O', a1, fun v h1 h2 => ?_, fun q hq => ?_, a4, a5, fun y Q hq => ?_⟩
        · by_cases hv : v = 6
          · rw [hv, a3 _ (by omega), show 8 * nb + 6 = nb * 8 + 6 from by omega, pk_us]
            unfold bitI
            rw [hw]
          · exact a2 v (by omega) h2
        · rw [a3 q (by omega), pk_un (by omega)]
        · (refine mWP_st 80 ?_; simp only [mS_iload_n, mS_iload, mS_lload_n, mS_lload, mS_aload_n, mS_aload, mS_istore_n, mS_istore, mS_lstore_n, mS_lstore, mS_astore_n, mS_astore, mS_iinc, mS_iconst, mS_bipush, mS_sipush, mS_lconst, mS_ldc, mS_ldc_w, mS_ldc2_w, mS_getstatic, mS_iadd, mS_isub, mS_imul, mS_iand, mS_ior, mS_ixor, mS_ishl, mS_ishr, mS_iushr, mS_idiv, mS_irem, mS_ladd, mS_lsub, mS_lmul, mS_land, mS_lor, mS_lxor, mS_ldiv, mS_lrem, mS_lneg, mS_lshl, mS_lushr, mS_lcmp, mS_i2l, mS_l2i, mS_i2b, mS_dup_i, mS_dup_r, mS_dup2, mS_pop, mS_if_eq, mS_if_ne, mS_if_lt, mS_if_ge, mS_if_gt, mS_if_le, mS_icmp_eq, mS_icmp_ne, mS_icmp_lt, mS_icmp_ge, mS_icmp_gt, mS_icmp_le, mS_goto, mS_tsw, mS_lsw, mS_getfield, mS_putfield, mS_iaload, mS_iaload0, mS_baload, mS_laload, mS_laload1, mS_iastore, mS_bastore, mS_lastore, mS_alen, mS_alen0, mS_alen1, mS_newa_byte, mS_newa_int, mS_newa_long, mS_throw, mS_new, mS_oinit, mS_ireturn, mS_zreturn, mS_lreturn, mS_return, mS_mmin, mS_mmax, mS_mabs, mRun_go, mGo_t, mGo_f, mAt, mPut, mSt1, mSt2, mKill, mFit, mEnt, mPad, mSw, Nat.reduceAdd, Nat.reduceSub, Nat.reduceMod, Nat.reduceLT, Nat.reduceLeDiff, List.length_cons, List.length_nil, true_and, and_true, Option.some.injEq, Nat.zero_add, Classical.not_not, cmp_lt, cmp_ge, cmp_eq, cmp_gt, cmp_le, mAfter_v, mAfter_i, mAfter_l, mBack, mBk, mFrom, mRnC_l, mRnC_r, mRn_i, mRn_l, mRn_r, mRn_n, mRn_f, List.map_cons, List.map_nil, List.cons_append, List.nil_append, List.append_nil, Option.getD_some, Nat.add_zero, TX4_packBlock_0, TX4_packBlock_1, mSt_row])
          simp (disch := omega) only [i_0, i_1, i_2, i_3, i_4, i_5, i_6, i_7, i_8, i_9, i_10, i_11, i_12, i_13, i_15, i_16, i_27, i_28, i_31, i_32, i_52, i_54, i_56, i_63, i_64, i_88, i_128, i_255, i_256, i_257, i_2048, i_4000, i_65521, i_1048576, i_1075, nI_ofNat, nI_lt_iff, nI_le_iff, nI_eq_iff, nI_add, pk_mul, pk_sub, pk_div, pk_rem, nI_clamp, Nat.add_sub_cancel, Nat.reduceAdd, Nat.reduceSub, Nat.reduceMul, Nat.reduceDiv, Nat.reduceMod, Nat.reduceLT, Nat.reduceLeDiff, Nat.reduceEqDiff, Nat.add_zero, Nat.zero_add, n_rem, not_false_eq_true, not_true_eq_false, true_and, and_true, true_or, or_true, true_implies, false_implies, Nat.not_lt_zero, Nat.zero_le]
          (refine mWP_v 80 (by simp only [TX4_packBlock_0, TX4_packBlock_1]; rfl) [5, 6, 7, 10, 11, 12, 13, 14, 15, 3, 4] [] (c_writeNo (N := N) (d := d + 5) (cap := 0) (R := R) (st := nI (strN w n i0)) (al := al) (f := fm) (B := Bm) he hp) rfl rfl rfl rfl rfl (Nat.le_of_ble_eq_true rfl) rfl rfl rfl rfl rfl ?_; simp only [mS_iload_n, mS_iload, mS_lload_n, mS_lload, mS_aload_n, mS_aload, mS_istore_n, mS_istore, mS_lstore_n, mS_lstore, mS_astore_n, mS_astore, mS_iinc, mS_iconst, mS_bipush, mS_sipush, mS_lconst, mS_ldc, mS_ldc_w, mS_ldc2_w, mS_getstatic, mS_iadd, mS_isub, mS_imul, mS_iand, mS_ior, mS_ixor, mS_ishl, mS_ishr, mS_iushr, mS_idiv, mS_irem, mS_ladd, mS_lsub, mS_lmul, mS_land, mS_lor, mS_lxor, mS_ldiv, mS_lrem, mS_lneg, mS_lshl, mS_lushr, mS_lcmp, mS_i2l, mS_l2i, mS_i2b, mS_dup_i, mS_dup_r, mS_dup2, mS_pop, mS_if_eq, mS_if_ne, mS_if_lt, mS_if_ge, mS_if_gt, mS_if_le, mS_icmp_eq, mS_icmp_ne, mS_icmp_lt, mS_icmp_ge, mS_icmp_gt, mS_icmp_le, mS_goto, mS_tsw, mS_lsw, mS_getfield, mS_putfield, mS_iaload, mS_iaload0, mS_baload, mS_laload, mS_laload1, mS_iastore, mS_bastore, mS_lastore, mS_alen, mS_alen0, mS_alen1, mS_newa_byte, mS_newa_int, mS_newa_long, mS_throw, mS_new, mS_oinit, mS_ireturn, mS_zreturn, mS_lreturn, mS_return, mS_mmin, mS_mmax, mS_mabs, mRun_go, mGo_t, mGo_f, mAt, mPut, mSt1, mSt2, mKill, mFit, mEnt, mPad, mSw, Nat.reduceAdd, Nat.reduceSub, Nat.reduceMod, Nat.reduceLT, Nat.reduceLeDiff, List.length_cons, List.length_nil, true_and, and_true, Option.some.injEq, Nat.zero_add, Classical.not_not, cmp_lt, cmp_ge, cmp_eq, cmp_gt, cmp_le, mAfter_v, mAfter_i, mAfter_l, mBack, mBk, mFrom, mRnC_l, mRnC_r, mRn_i, mRn_l, mRn_r, mRn_n, mRn_f, List.map_cons, List.map_nil, List.cons_append, List.nil_append, List.append_nil, Option.getD_some, Nat.add_zero, TX4_packBlock_0, TX4_packBlock_1])
          simp (disch := omega) only [i_0, i_1, i_2, i_3, i_4, i_5, i_6, i_7, i_8, i_9, i_10, i_11, i_12, i_13, i_15, i_16, i_27, i_28, i_31, i_32, i_52, i_54, i_56, i_63, i_64, i_88, i_128, i_255, i_256, i_257, i_2048, i_4000, i_65521, i_1048576, i_1075, nI_ofNat, nI_lt_iff, nI_le_iff, nI_eq_iff, nI_add, pk_mul, pk_sub, pk_div, pk_rem, nI_clamp, Nat.add_sub_cancel, Nat.reduceAdd, Nat.reduceSub, Nat.reduceMul, Nat.reduceDiv, Nat.reduceMod, Nat.reduceLT, Nat.reduceLeDiff, Nat.reduceEqDiff, Nat.add_zero, Nat.zero_add, n_rem, not_false_eq_true, not_true_eq_false, true_and, and_true, true_or, or_true, true_implies, false_implies, Nat.not_lt_zero, Nat.zero_le]
          exact ⟨vp_in_nI (by omega) (by omega), k1 _ Q hq⟩
      | some C =>
        rw [hw] at hE
        simp only at hE
        have hC := blkB_len hw hn2
        obtain ⟨f1, al1, -, k1⟩ := c_write (X := X) (d := d + 1) (cap := 0) (al := al) (f := fm) (B := Bm) hR hn hn2 hn1 he (show way < 8 by omega) hw (by omega) (by decide) (fun i _ h => absurd h (by omega))
        have hne : ¬ nI C.length = -1 := by
          intro h
          have := congrArg Int32.toInt h
          rw [nI_toInt (by omega)] at this
          revert this
          show (C.length : Int) = -1 → False
          omega
        have spec : ∀ O' : outT, (∀ v, way + 1 ≤ v → v < 8 → O'.2.1 (8 * nb + v) = bitI w n i0 v) → (∀ q, q < 8 * nb + (way + 1) → O'.2.1 q = upd bc (nb * 8 + way) (nI C.length) q) → (∀ v, way ≤ v → v < 8 → O'.2.1 (8 * nb + v) = bitI w n i0 v) ∧ (∀ q, q < 8 * nb + way → O'.2.1 q = bc q) := by
          intro O' a2 a3
          refine ⟨fun v h1 h2 => ?_, fun q hq => ?_⟩
          · by_cases hv : v = way
            · rw [hv, a3 _ (by omega), show 8 * nb + way = nb * 8 + way from by omega, pk_us]
              unfold bitI
              rw [hw]
            · exact a2 v (by omega) h2
          · rw [a3 q (by omega), pk_un (by omega)]
        by_cases hc : C.length < least
        · rw [if_pos hc] at hE
          obtain ⟨O', a1, a2, a3, a4, a5, k2⟩ := ih (way + 1) way C.length (upd bc (nb * 8 + way) (nI C.length)) f1 (Bm ++ C) al1 (by omega) hE (by omega) (by omega) (by rw [List.length_append]; omega)
          refine ⟨O', a1, (spec O' a2 a3).1, (spec O' a2 a3).2, a4, a5, fun y Q hq => ?_⟩
          (refine mWP_st 80 ?_; simp only [mS_iload_n, mS_iload, mS_lload_n, mS_lload, mS_aload_n, mS_aload, mS_istore_n, mS_istore, mS_lstore_n, mS_lstore, mS_astore_n, mS_astore, mS_iinc, mS_iconst, mS_bipush, mS_sipush, mS_lconst, mS_ldc, mS_ldc_w, mS_ldc2_w, mS_getstatic, mS_iadd, mS_isub, mS_imul, mS_iand, mS_ior, mS_ixor, mS_ishl, mS_ishr, mS_iushr, mS_idiv, mS_irem, mS_ladd, mS_lsub, mS_lmul, mS_land, mS_lor, mS_lxor, mS_ldiv, mS_lrem, mS_lneg, mS_lshl, mS_lushr, mS_lcmp, mS_i2l, mS_l2i, mS_i2b, mS_dup_i, mS_dup_r, mS_dup2, mS_pop, mS_if_eq, mS_if_ne, mS_if_lt, mS_if_ge, mS_if_gt, mS_if_le, mS_icmp_eq, mS_icmp_ne, mS_icmp_lt, mS_icmp_ge, mS_icmp_gt, mS_icmp_le, mS_goto, mS_tsw, mS_lsw, mS_getfield, mS_putfield, mS_iaload, mS_iaload0, mS_baload, mS_laload, mS_laload1, mS_iastore, mS_bastore, mS_lastore, mS_alen, mS_alen0, mS_alen1, mS_newa_byte, mS_newa_int, mS_newa_long, mS_throw, mS_new, mS_oinit, mS_ireturn, mS_zreturn, mS_lreturn, mS_return, mS_mmin, mS_mmax, mS_mabs, mRun_go, mGo_t, mGo_f, mAt, mPut, mSt1, mSt2, mKill, mFit, mEnt, mPad, mSw, Nat.reduceAdd, Nat.reduceSub, Nat.reduceMod, Nat.reduceLT, Nat.reduceLeDiff, List.length_cons, List.length_nil, true_and, and_true, Option.some.injEq, Nat.zero_add, Classical.not_not, cmp_lt, cmp_ge, cmp_eq, cmp_gt, cmp_le, mAfter_v, mAfter_i, mAfter_l, mBack, mBk, mFrom, mRnC_l, mRnC_r, mRn_i, mRn_l, mRn_r, mRn_n, mRn_f, List.map_cons, List.map_nil, List.cons_append, List.nil_append, List.append_nil, Option.getD_some, Nat.add_zero, TX4_packBlock_0, TX4_packBlock_1, mSt_row])
          simp (disch := omega) only [i_0, i_1, i_2, i_3, i_4, i_5, i_6, i_7, i_8, i_9, i_10, i_11, i_12, i_13, i_15, i_16, i_27, i_28, i_31, i_32, i_52, i_54, i_56, i_63, i_64, i_88, i_128, i_255, i_256, i_257, i_2048, i_4000, i_65521, i_1048576, i_1075, nI_ofNat, nI_lt_iff, nI_le_iff, nI_eq_iff, nI_add, pk_mul, pk_sub, pk_div, pk_rem, nI_clamp, Nat.add_sub_cancel, Nat.reduceAdd, Nat.reduceSub, Nat.reduceMul, Nat.reduceDiv, Nat.reduceMod, Nat.reduceLT, Nat.reduceLeDiff, Nat.reduceEqDiff, Nat.add_zero, Nat.zero_add, n_rem, not_false_eq_true, not_true_eq_false, true_and, and_true, true_or, or_true, true_implies, false_implies, Nat.not_lt_zero, Nat.zero_le]
          refine ⟨fun h => absurd h (by omega), fun _ => ?_⟩
          (refine mWP_v 80 (by simp only [TX4_packBlock_0, TX4_packBlock_1]; rfl) [5, 6, 7, 10, 11, 12, 13, 14, 15, 3, 4] [] (k1) rfl rfl rfl rfl rfl (Nat.le_of_ble_eq_true rfl) rfl rfl rfl rfl rfl ?_; simp only [mS_iload_n, mS_iload, mS_lload_n, mS_lload, mS_aload_n, mS_aload, mS_istore_n, mS_istore, mS_lstore_n, mS_lstore, mS_astore_n, mS_astore, mS_iinc, mS_iconst, mS_bipush, mS_sipush, mS_lconst, mS_ldc, mS_ldc_w, mS_ldc2_w, mS_getstatic, mS_iadd, mS_isub, mS_imul, mS_iand, mS_ior, mS_ixor, mS_ishl, mS_ishr, mS_iushr, mS_idiv, mS_irem, mS_ladd, mS_lsub, mS_lmul, mS_land, mS_lor, mS_lxor, mS_ldiv, mS_lrem, mS_lneg, mS_lshl, mS_lushr, mS_lcmp, mS_i2l, mS_l2i, mS_i2b, mS_dup_i, mS_dup_r, mS_dup2, mS_pop, mS_if_eq, mS_if_ne, mS_if_lt, mS_if_ge, mS_if_gt, mS_if_le, mS_icmp_eq, mS_icmp_ne, mS_icmp_lt, mS_icmp_ge, mS_icmp_gt, mS_icmp_le, mS_goto, mS_tsw, mS_lsw, mS_getfield, mS_putfield, mS_iaload, mS_iaload0, mS_baload, mS_laload, mS_laload1, mS_iastore, mS_bastore, mS_lastore, mS_alen, mS_alen0, mS_alen1, mS_newa_byte, mS_newa_int, mS_newa_long, mS_throw, mS_new, mS_oinit, mS_ireturn, mS_zreturn, mS_lreturn, mS_return, mS_mmin, mS_mmax, mS_mabs, mRun_go, mGo_t, mGo_f, mAt, mPut, mSt1, mSt2, mKill, mFit, mEnt, mPad, mSw, Nat.reduceAdd, Nat.reduceSub, Nat.reduceMod, Nat.reduceLT, Nat.reduceLeDiff, List.length_cons, List.length_nil, true_and, and_true, Option.some.injEq, Nat.zero_add, Classical.not_not, cmp_lt, cmp_ge, cmp_eq, cmp_gt, cmp_le, mAfter_v, mAfter_i, mAfter_l, mBack, mBk, mFrom, mRnC_l, mRnC_r, mRn_i, mRn_l, mRn_r, mRn_n, mRn_f, List.map_cons, List.map_nil, List.cons_append, List.nil_append, List.append_nil, Option.getD_some, Nat.add_zero, TX4_packBlock_0, TX4_packBlock_1])
          simp (disch := omega) only [i_0, i_1, i_2, i_3, i_4, i_5, i_6, i_7, i_8, i_9, i_10, i_11, i_12, i_13, i_15, i_16, i_27, i_28, i_31, i_32, i_52, i_54, i_56, i_63, i_64, i_88, i_128, i_255, i_256, i_257, i_2048, i_4000, i_65521, i_1048576, i_1075, nI_ofNat, nI_lt_iff, nI_le_iff, nI_eq_iff, nI_add, pk_mul, pk_sub, pk_div, pk_rem, nI_clamp, Nat.add_sub_cancel, Nat.reduceAdd, Nat.reduceSub, Nat.reduceMul, Nat.reduceDiv, Nat.reduceMod, Nat.reduceLT, Nat.reduceLeDiff, Nat.reduceEqDiff, Nat.add_zero, Nat.zero_add, n_rem, not_false_eq_true, not_true_eq_false, true_and, and_true, true_or, or_true, true_implies, false_implies, Nat.not_lt_zero, Nat.zero_le]
          refine ⟨vp_in_nI (by omega) (by omega), fun h => absurd h hne, fun _ => ⟨fun h => absurd h (by omega), fun _ => k2 _ Q hq⟩⟩
        · rw [if_neg hc] at hE
          obtain ⟨O', a1, a2, a3, a4, a5, k2⟩ := ih (way + 1) best least (upd bc (nb * 8 + way) (nI C.length)) f1 (Bm ++ C) al1 (by omega) hE hb hl (by rw [List.length_append]; omega)
          refine ⟨O', a1, (spec O' a2 a3).1, (spec O' a2 a3).2, a4, a5, fun y Q hq => ?_⟩
          (refine mWP_st 80 ?_; simp only [mS_iload_n, mS_iload, mS_lload_n, mS_lload, mS_aload_n, mS_aload, mS_istore_n, mS_istore, mS_lstore_n, mS_lstore, mS_astore_n, mS_astore, mS_iinc, mS_iconst, mS_bipush, mS_sipush, mS_lconst, mS_ldc, mS_ldc_w, mS_ldc2_w, mS_getstatic, mS_iadd, mS_isub, mS_imul, mS_iand, mS_ior, mS_ixor, mS_ishl, mS_ishr, mS_iushr, mS_idiv, mS_irem, mS_ladd, mS_lsub, mS_lmul, mS_land, mS_lor, mS_lxor, mS_ldiv, mS_lrem, mS_lneg, mS_lshl, mS_lushr, mS_lcmp, mS_i2l, mS_l2i, mS_i2b, mS_dup_i, mS_dup_r, mS_dup2, mS_pop, mS_if_eq, mS_if_ne, mS_if_lt, mS_if_ge, mS_if_gt, mS_if_le, mS_icmp_eq, mS_icmp_ne, mS_icmp_lt, mS_icmp_ge, mS_icmp_gt, mS_icmp_le, mS_goto, mS_tsw, mS_lsw, mS_getfield, mS_putfield, mS_iaload, mS_iaload0, mS_baload, mS_laload, mS_laload1, mS_iastore, mS_bastore, mS_lastore, mS_alen, mS_alen0, mS_alen1, mS_newa_byte, mS_newa_int, mS_newa_long, mS_throw, mS_new, mS_oinit, mS_ireturn, mS_zreturn, mS_lreturn, mS_return, mS_mmin, mS_mmax, mS_mabs, mRun_go, mGo_t, mGo_f, mAt, mPut, mSt1, mSt2, mKill, mFit, mEnt, mPad, mSw, Nat.reduceAdd, Nat.reduceSub, Nat.reduceMod, Nat.reduceLT, Nat.reduceLeDiff, List.length_cons, List.length_nil, true_and, and_true, Option.some.injEq, Nat.zero_add, Classical.not_not, cmp_lt, cmp_ge, cmp_eq, cmp_gt, cmp_le, mAfter_v, mAfter_i, mAfter_l, mBack, mBk, mFrom, mRnC_l, mRnC_r, mRn_i, mRn_l, mRn_r, mRn_n, mRn_f, List.map_cons, List.map_nil, List.cons_append, List.nil_append, List.append_nil, Option.getD_some, Nat.add_zero, TX4_packBlock_0, TX4_packBlock_1, mSt_row])
          simp (disch := omega) only [i_0, i_1, i_2, i_3, i_4, i_5, i_6, i_7, i_8, i_9, i_10, i_11, i_12, i_13, i_15, i_16, i_27, i_28, i_31, i_32, i_52, i_54, i_56, i_63, i_64, i_88, i_128, i_255, i_256, i_257, i_2048, i_4000, i_65521, i_1048576, i_1075, nI_ofNat, nI_lt_iff, nI_le_iff, nI_eq_iff, nI_add, pk_mul, pk_sub, pk_div, pk_rem, nI_clamp, Nat.add_sub_cancel, Nat.reduceAdd, Nat.reduceSub, Nat.reduceMul, Nat.reduceDiv, Nat.reduceMod, Nat.reduceLT, Nat.reduceLeDiff, Nat.reduceEqDiff, Nat.add_zero, Nat.zero_add, n_rem, not_false_eq_true, not_true_eq_false, true_and, and_true, true_or, or_true, true_implies, false_implies, Nat.not_lt_zero, Nat.zero_le]
          refine ⟨fun h => absurd h (by omega), fun _ => ?_⟩
          (refine mWP_v 80 (by simp only [TX4_packBlock_0, TX4_packBlock_1]; rfl) [5, 6, 7, 10, 11, 12, 13, 14, 15, 3, 4] [] (k1) rfl rfl rfl rfl rfl (Nat.le_of_ble_eq_true rfl) rfl rfl rfl rfl rfl ?_; simp only [mS_iload_n, mS_iload, mS_lload_n, mS_lload, mS_aload_n, mS_aload, mS_istore_n, mS_istore, mS_lstore_n, mS_lstore, mS_astore_n, mS_astore, mS_iinc, mS_iconst, mS_bipush, mS_sipush, mS_lconst, mS_ldc, mS_ldc_w, mS_ldc2_w, mS_getstatic, mS_iadd, mS_isub, mS_imul, mS_iand, mS_ior, mS_ixor, mS_ishl, mS_ishr, mS_iushr, mS_idiv, mS_irem, mS_ladd, mS_lsub, mS_lmul, mS_land, mS_lor, mS_lxor, mS_ldiv, mS_lrem, mS_lneg, mS_lshl, mS_lushr, mS_lcmp, mS_i2l, mS_l2i, mS_i2b, mS_dup_i, mS_dup_r, mS_dup2, mS_pop, mS_if_eq, mS_if_ne, mS_if_lt, mS_if_ge, mS_if_gt, mS_if_le, mS_icmp_eq, mS_icmp_ne, mS_icmp_lt, mS_icmp_ge, mS_icmp_gt, mS_icmp_le, mS_goto, mS_tsw, mS_lsw, mS_getfield, mS_putfield, mS_iaload, mS_iaload0, mS_baload, mS_laload, mS_laload1, mS_iastore, mS_bastore, mS_lastore, mS_alen, mS_alen0, mS_alen1, mS_newa_byte, mS_newa_int, mS_newa_long, mS_throw, mS_new, mS_oinit, mS_ireturn, mS_zreturn, mS_lreturn, mS_return, mS_mmin, mS_mmax, mS_mabs, mRun_go, mGo_t, mGo_f, mAt, mPut, mSt1, mSt2, mKill, mFit, mEnt, mPad, mSw, Nat.reduceAdd, Nat.reduceSub, Nat.reduceMod, Nat.reduceLT, Nat.reduceLeDiff, List.length_cons, List.length_nil, true_and, and_true, Option.some.injEq, Nat.zero_add, Classical.not_not, cmp_lt, cmp_ge, cmp_eq, cmp_gt, cmp_le, mAfter_v, mAfter_i, mAfter_l, mBack, mBk, mFrom, mRnC_l, mRnC_r, mRn_i, mRn_l, mRn_r, mRn_n, mRn_f, List.map_cons, List.map_nil, List.cons_append, List.nil_append, List.append_nil, Option.getD_some, Nat.add_zero, TX4_packBlock_0, TX4_packBlock_1])
          simp (disch := omega) only [i_0, i_1, i_2, i_3, i_4, i_5, i_6, i_7, i_8, i_9, i_10, i_11, i_12, i_13, i_15, i_16, i_27, i_28, i_31, i_32, i_52, i_54, i_56, i_63, i_64, i_88, i_128, i_255, i_256, i_257, i_2048, i_4000, i_65521, i_1048576, i_1075, nI_ofNat, nI_lt_iff, nI_le_iff, nI_eq_iff, nI_add, pk_mul, pk_sub, pk_div, pk_rem, nI_clamp, Nat.add_sub_cancel, Nat.reduceAdd, Nat.reduceSub, Nat.reduceMul, Nat.reduceDiv, Nat.reduceMod, Nat.reduceLT, Nat.reduceLeDiff, Nat.reduceEqDiff, Nat.add_zero, Nat.zero_add, n_rem, not_false_eq_true, not_true_eq_false, true_and, and_true, true_or, or_true, true_implies, false_implies, Nat.not_lt_zero, Nat.zero_le]
          refine ⟨vp_in_nI (by omega) (by omega), fun h => absurd h hne, fun _ => ⟨fun _ => k2 _ Q hq, fun h => absurd h (by omega)⟩⟩
  obtain ⟨O', a1, a2, a3, a4, a5, k1⟩ := loop 8 0 0 (2 ^ 20) O.2.1 fm1 Bm1 al1 (by omega) rfl (by omega) (by omega) (by omega)
  refine ⟨O', a1, fun v hv => a2 v (by omega) hv, fun q hq => a3 q (by omega), a4, a5, fun Q hq => ?_⟩
  refine mCall_in pX4_packBlock 80 rfl ?_
  simp only [mS_iload_n, mS_iload, mS_lload_n, mS_lload, mS_aload_n, mS_aload, mS_istore_n, mS_istore, mS_lstore_n, mS_lstore, mS_astore_n, mS_astore, mS_iinc, mS_iconst, mS_bipush, mS_sipush, mS_lconst, mS_ldc, mS_ldc_w, mS_ldc2_w, mS_getstatic, mS_iadd, mS_isub, mS_imul, mS_iand, mS_ior, mS_ixor, mS_ishl, mS_ishr, mS_iushr, mS_idiv, mS_irem, mS_ladd, mS_lsub, mS_lmul, mS_land, mS_lor, mS_lxor, mS_ldiv, mS_lrem, mS_lneg, mS_lshl, mS_lushr, mS_lcmp, mS_i2l, mS_l2i, mS_i2b, mS_dup_i, mS_dup_r, mS_dup2, mS_pop, mS_if_eq, mS_if_ne, mS_if_lt, mS_if_ge, mS_if_gt, mS_if_le, mS_icmp_eq, mS_icmp_ne, mS_icmp_lt, mS_icmp_ge, mS_icmp_gt, mS_icmp_le, mS_goto, mS_tsw, mS_lsw, mS_getfield, mS_putfield, mS_iaload, mS_iaload0, mS_baload, mS_laload, mS_laload1, mS_iastore, mS_bastore, mS_lastore, mS_alen, mS_alen0, mS_alen1, mS_newa_byte, mS_newa_int, mS_newa_long, mS_throw, mS_new, mS_oinit, mS_ireturn, mS_zreturn, mS_lreturn, mS_return, mS_mmin, mS_mmax, mS_mabs, mRun_go, mGo_t, mGo_f, mAt, mPut, mSt1, mSt2, mKill, mFit, mEnt, mPad, mSw, Nat.reduceAdd, Nat.reduceSub, Nat.reduceMod, Nat.reduceLT, Nat.reduceLeDiff, List.length_cons, List.length_nil, true_and, and_true, Option.some.injEq, Nat.zero_add, Classical.not_not, cmp_lt, cmp_ge, cmp_eq, cmp_gt, cmp_le, mAfter_v, mAfter_i, mAfter_l, mBack, mBk, mFrom, mRnC_l, mRnC_r, mRn_i, mRn_l, mRn_r, mRn_n, mRn_f, List.map_cons, List.map_nil, List.cons_append, List.nil_append, List.append_nil, Option.getD_some, Nat.add_zero, TX4_packBlock_0, TX4_packBlock_1]
  simp (disch := omega) only [i_0, i_1, i_2, i_3, i_4, i_5, i_6, i_7, i_8, i_9, i_10, i_11, i_12, i_13, i_15, i_16, i_27, i_28, i_31, i_32, i_52, i_54, i_56, i_63, i_64, i_88, i_128, i_255, i_256, i_257, i_2048, i_4000, i_65521, i_1048576, i_1075, nI_ofNat, nI_lt_iff, nI_le_iff, nI_eq_iff, nI_add, pk_mul, pk_sub, pk_div, pk_rem, nI_clamp, Nat.add_sub_cancel, Nat.reduceAdd, Nat.reduceSub, Nat.reduceMul, Nat.reduceDiv, Nat.reduceMod, Nat.reduceLT, Nat.reduceLeDiff, Nat.reduceEqDiff, Nat.add_zero, Nat.zero_add, n_rem, not_false_eq_true, not_true_eq_false, true_and, and_true, true_or, or_true, true_implies, false_implies, Nat.not_lt_zero, Nat.zero_le]
  refine ⟨fun _ => ?_, fun h => absurd hnb h⟩
  (refine mWP_v 80 (by simp only [TX4_packBlock_0, TX4_packBlock_1]; rfl) [5, 6, 7, 10, 11, 12, 13, 14, 15, 3, 4] [] (ks) rfl rfl rfl rfl rfl (Nat.le_of_ble_eq_true rfl) rfl rfl rfl rfl rfl ?_; simp only [mS_iload_n, mS_iload, mS_lload_n, mS_lload, mS_aload_n, mS_aload, mS_istore_n, mS_istore, mS_lstore_n, mS_lstore, mS_astore_n, mS_astore, mS_iinc, mS_iconst, mS_bipush, mS_sipush, mS_lconst, mS_ldc, mS_ldc_w, mS_ldc2_w, mS_getstatic, mS_iadd, mS_isub, mS_imul, mS_iand, mS_ior, mS_ixor, mS_ishl, mS_ishr, mS_iushr, mS_idiv, mS_irem, mS_ladd, mS_lsub, mS_lmul, mS_land, mS_lor, mS_lxor, mS_ldiv, mS_lrem, mS_lneg, mS_lshl, mS_lushr, mS_lcmp, mS_i2l, mS_l2i, mS_i2b, mS_dup_i, mS_dup_r, mS_dup2, mS_pop, mS_if_eq, mS_if_ne, mS_if_lt, mS_if_ge, mS_if_gt, mS_if_le, mS_icmp_eq, mS_icmp_ne, mS_icmp_lt, mS_icmp_ge, mS_icmp_gt, mS_icmp_le, mS_goto, mS_tsw, mS_lsw, mS_getfield, mS_putfield, mS_iaload, mS_iaload0, mS_baload, mS_laload, mS_laload1, mS_iastore, mS_bastore, mS_lastore, mS_alen, mS_alen0, mS_alen1, mS_newa_byte, mS_newa_int, mS_newa_long, mS_throw, mS_new, mS_oinit, mS_ireturn, mS_zreturn, mS_lreturn, mS_return, mS_mmin, mS_mmax, mS_mabs, mRun_go, mGo_t, mGo_f, mAt, mPut, mSt1, mSt2, mKill, mFit, mEnt, mPad, mSw, Nat.reduceAdd, Nat.reduceSub, Nat.reduceMod, Nat.reduceLT, Nat.reduceLeDiff, List.length_cons, List.length_nil, true_and, and_true, Option.some.injEq, Nat.zero_add, Classical.not_not, cmp_lt, cmp_ge, cmp_eq, cmp_gt, cmp_le, mAfter_v, mAfter_i, mAfter_l, mBack, mBk, mFrom, mRnC_l, mRnC_r, mRn_i, mRn_l, mRn_r, mRn_n, mRn_f, List.map_cons, List.map_nil, List.cons_append, List.nil_append, List.append_nil, Option.getD_some, Nat.add_zero, TX4_packBlock_0, TX4_packBlock_1])
  (refine mWP_v 80 (by simp only [TX4_packBlock_0, TX4_packBlock_1]; rfl) [5, 6, 7, 10, 11, 12, 13, 14, 15] [] (kd) rfl rfl rfl rfl rfl (Nat.le_of_ble_eq_true rfl) rfl rfl rfl rfl rfl ?_; simp only [mS_iload_n, mS_iload, mS_lload_n, mS_lload, mS_aload_n, mS_aload, mS_istore_n, mS_istore, mS_lstore_n, mS_lstore, mS_astore_n, mS_astore, mS_iinc, mS_iconst, mS_bipush, mS_sipush, mS_lconst, mS_ldc, mS_ldc_w, mS_ldc2_w, mS_getstatic, mS_iadd, mS_isub, mS_imul, mS_iand, mS_ior, mS_ixor, mS_ishl, mS_ishr, mS_iushr, mS_idiv, mS_irem, mS_ladd, mS_lsub, mS_lmul, mS_land, mS_lor, mS_lxor, mS_ldiv, mS_lrem, mS_lneg, mS_lshl, mS_lushr, mS_lcmp, mS_i2l, mS_l2i, mS_i2b, mS_dup_i, mS_dup_r, mS_dup2, mS_pop, mS_if_eq, mS_if_ne, mS_if_lt, mS_if_ge, mS_if_gt, mS_if_le, mS_icmp_eq, mS_icmp_ne, mS_icmp_lt, mS_icmp_ge, mS_icmp_gt, mS_icmp_le, mS_goto, mS_tsw, mS_lsw, mS_getfield, mS_putfield, mS_iaload, mS_iaload0, mS_baload, mS_laload, mS_laload1, mS_iastore, mS_bastore, mS_lastore, mS_alen, mS_alen0, mS_alen1, mS_newa_byte, mS_newa_int, mS_newa_long, mS_throw, mS_new, mS_oinit, mS_ireturn, mS_zreturn, mS_lreturn, mS_return, mS_mmin, mS_mmax, mS_mabs, mRun_go, mGo_t, mGo_f, mAt, mPut, mSt1, mSt2, mKill, mFit, mEnt, mPad, mSw, Nat.reduceAdd, Nat.reduceSub, Nat.reduceMod, Nat.reduceLT, Nat.reduceLeDiff, List.length_cons, List.length_nil, true_and, and_true, Option.some.injEq, Nat.zero_add, Classical.not_not, cmp_lt, cmp_ge, cmp_eq, cmp_gt, cmp_le, mAfter_v, mAfter_i, mAfter_l, mBack, mBk, mFrom, mRnC_l, mRnC_r, mRn_i, mRn_l, mRn_r, mRn_n, mRn_f, List.map_cons, List.map_nil, List.cons_append, List.nil_append, List.append_nil, Option.getD_some, Nat.add_zero, TX4_packBlock_0, TX4_packBlock_1])
  exact k1 mU Q hq
theorem c_obegin {X : mX0} {d v sz nb : Nat} {O : outT} {B : List Nat} (hv : v ≤ 256) (hs : sz ≤ 64) : ∃ O' : outT, sinkOk 2148 O'.1 (bitsN v 9 ++ bitsN sz 7) ∧ ∀ Q : mQ, Q (.inl none) (outAt 0 O' (bitsN v 9 ++ bitsN sz 7) 0) 0 0 → mCall mP X (d + 3) 35 [.ref 0, .int (nI v), .int (nI sz)] (outAt 0 O B nb) Q := by
  obtain ⟨f1, g1, k1⟩ := c_put (X := X) (d := d) (v := v) (w := 9) (cap := 2148) (f := O.1) (B := []) (by omega) (by decide) (by simp) (by decide) sinkOk_nil
  obtain ⟨f2, g2, k2⟩ := c_put (X := X) (d := d) (v := sz) (w := 7) (cap := 2148) (f := f1) (B := [] ++ bitsN v 9) (by omega) (by decide) (by simp [bitsN_len]) (by decide) g1
  refine ⟨(f2, O.2), g2, fun Q hq => ?_⟩
  refine mCall_in pX4_begin 80 rfl ?_
  simp only [mS_iload_n, mS_iload, mS_lload_n, mS_lload, mS_aload_n, mS_aload, mS_istore_n, mS_istore, mS_lstore_n, mS_lstore, mS_astore_n, mS_astore, mS_iinc, mS_iconst, mS_bipush, mS_sipush, mS_lconst, mS_ldc, mS_ldc_w, mS_ldc2_w, mS_getstatic, mS_iadd, mS_isub, mS_imul, mS_iand, mS_ior, mS_ixor, mS_ishl, mS_ishr, mS_iushr, mS_idiv, mS_irem, mS_ladd, mS_lsub, mS_lmul, mS_land, mS_lor, mS_lxor, mS_ldiv, mS_lrem, mS_lneg, mS_lshl, mS_lushr, mS_lcmp, mS_i2l, mS_l2i, mS_i2b, mS_dup_i, mS_dup_r, mS_dup2, mS_pop, mS_if_eq, mS_if_ne, mS_if_lt, mS_if_ge, mS_if_gt, mS_if_le, mS_icmp_eq, mS_icmp_ne, mS_icmp_lt, mS_icmp_ge, mS_icmp_gt, mS_icmp_le, mS_goto, mS_tsw, mS_lsw, mS_getfield, mS_putfield, mS_iaload, mS_iaload0, mS_baload, mS_laload, mS_laload1, mS_iastore, mS_bastore, mS_lastore, mS_alen, mS_alen0, mS_alen1, mS_newa_byte, mS_newa_int, mS_newa_long, mS_throw, mS_new, mS_oinit, mS_ireturn, mS_zreturn, mS_lreturn, mS_return, mS_mmin, mS_mmax, mS_mabs, mRun_go, mGo_t, mGo_f, mAt, mPut, mSt1, mSt2, mKill, mFit, mEnt, mPad, mSw, Nat.reduceAdd, Nat.reduceSub, Nat.reduceMod, Nat.reduceLT, Nat.reduceLeDiff, List.length_cons, List.length_nil, true_and, and_true, Option.some.injEq, Nat.zero_add, Classical.not_not, cmp_lt, cmp_ge, cmp_eq, cmp_gt, cmp_le, mAfter_v, mAfter_i, mAfter_l, mBack, mBk, mFrom, mRnC_l, mRnC_r, mRn_i, mRn_l, mRn_r, mRn_n, mRn_f, List.map_cons, List.map_nil, List.cons_append, List.nil_append, List.append_nil, Option.getD_some, Nat.add_zero, TX4_begin_0]
  (refine mWP_v 80 (by simp only [TX4_begin_0]; rfl) [1, 2] [] (c_restart (d := d + 1) (m := nI B.length) (cap := 2148) (f := O.1)) rfl rfl rfl rfl rfl (Nat.le_of_ble_eq_true rfl) rfl rfl rfl rfl rfl ?_; simp only [mS_iload_n, mS_iload, mS_lload_n, mS_lload, mS_aload_n, mS_aload, mS_istore_n, mS_istore, mS_lstore_n, mS_lstore, mS_astore_n, mS_astore, mS_iinc, mS_iconst, mS_bipush, mS_sipush, mS_lconst, mS_ldc, mS_ldc_w, mS_ldc2_w, mS_getstatic, mS_iadd, mS_isub, mS_imul, mS_iand, mS_ior, mS_ixor, mS_ishl, mS_ishr, mS_iushr, mS_idiv, mS_irem, mS_ladd, mS_lsub, mS_lmul, mS_land, mS_lor, mS_lxor, mS_ldiv, mS_lrem, mS_lneg, mS_lshl, mS_lushr, mS_lcmp, mS_i2l, mS_l2i, mS_i2b, mS_dup_i, mS_dup_r, mS_dup2, mS_pop, mS_if_eq, mS_if_ne, mS_if_lt, mS_if_ge, mS_if_gt, mS_if_le, mS_icmp_eq, mS_icmp_ne, mS_icmp_lt, mS_icmp_ge, mS_icmp_gt, mS_icmp_le, mS_goto, mS_tsw, mS_lsw, mS_getfield, mS_putfield, mS_iaload, mS_iaload0, mS_baload, mS_laload, mS_laload1, mS_iastore, mS_bastore, mS_lastore, mS_alen, mS_alen0, mS_alen1, mS_newa_byte, mS_newa_int, mS_newa_long, mS_throw, mS_new, mS_oinit, mS_ireturn, mS_zreturn, mS_lreturn, mS_return, mS_mmin, mS_mmax, mS_mabs, mRun_go, mGo_t, mGo_f, mAt, mPut, mSt1, mSt2, mKill, mFit, mEnt, mPad, mSw, Nat.reduceAdd, Nat.reduceSub, Nat.reduceMod, Nat.reduceLT, Nat.reduceLeDiff, List.length_cons, List.length_nil, true_and, and_true, Option.some.injEq, Nat.zero_add, Classical.not_not, cmp_lt, cmp_ge, cmp_eq, cmp_gt, cmp_le, mAfter_v, mAfter_i, mAfter_l, mBack, mBk, mFrom, mRnC_l, mRnC_r, mRn_i, mRn_l, mRn_r, mRn_n, mRn_f, List.map_cons, List.map_nil, List.cons_append, List.nil_append, List.append_nil, Option.getD_some, Nat.add_zero, TX4_begin_0])
  rw [nI_l (by omega)]
  (refine mWP_v 80 (by simp only [TX4_begin_0]; rfl) [1, 2] [] (k1) rfl rfl rfl rfl rfl (Nat.le_of_ble_eq_true rfl) rfl rfl rfl rfl rfl ?_; simp only [mS_iload_n, mS_iload, mS_lload_n, mS_lload, mS_aload_n, mS_aload, mS_istore_n, mS_istore, mS_lstore_n, mS_lstore, mS_astore_n, mS_astore, mS_iinc, mS_iconst, mS_bipush, mS_sipush, mS_lconst, mS_ldc, mS_ldc_w, mS_ldc2_w, mS_getstatic, mS_iadd, mS_isub, mS_imul, mS_iand, mS_ior, mS_ixor, mS_ishl, mS_ishr, mS_iushr, mS_idiv, mS_irem, mS_ladd, mS_lsub, mS_lmul, mS_land, mS_lor, mS_lxor, mS_ldiv, mS_lrem, mS_lneg, mS_lshl, mS_lushr, mS_lcmp, mS_i2l, mS_l2i, mS_i2b, mS_dup_i, mS_dup_r, mS_dup2, mS_pop, mS_if_eq, mS_if_ne, mS_if_lt, mS_if_ge, mS_if_gt, mS_if_le, mS_icmp_eq, mS_icmp_ne, mS_icmp_lt, mS_icmp_ge, mS_icmp_gt, mS_icmp_le, mS_goto, mS_tsw, mS_lsw, mS_getfield, mS_putfield, mS_iaload, mS_iaload0, mS_baload, mS_laload, mS_laload1, mS_iastore, mS_bastore, mS_lastore, mS_alen, mS_alen0, mS_alen1, mS_newa_byte, mS_newa_int, mS_newa_long, mS_throw, mS_new, mS_oinit, mS_ireturn, mS_zreturn, mS_lreturn, mS_return, mS_mmin, mS_mmax, mS_mabs, mRun_go, mGo_t, mGo_f, mAt, mPut, mSt1, mSt2, mKill, mFit, mEnt, mPad, mSw, Nat.reduceAdd, Nat.reduceSub, Nat.reduceMod, Nat.reduceLT, Nat.reduceLeDiff, List.length_cons, List.length_nil, true_and, and_true, Option.some.injEq, Nat.zero_add, Classical.not_not, cmp_lt, cmp_ge, cmp_eq, cmp_gt, cmp_le, mAfter_v, mAfter_i, mAfter_l, mBack, mBk, mFrom, mRnC_l, mRnC_r, mRn_i, mRn_l, mRn_r, mRn_n, mRn_f, List.map_cons, List.map_nil, List.cons_append, List.nil_append, List.append_nil, Option.getD_some, Nat.add_zero, TX4_begin_0])
  rw [nI_l (by omega)]
  (refine mWP_v 80 (by simp only [TX4_begin_0]; rfl) [1, 2] [] (k2) rfl rfl rfl rfl rfl (Nat.le_of_ble_eq_true rfl) rfl rfl rfl rfl rfl ?_; simp only [mS_iload_n, mS_iload, mS_lload_n, mS_lload, mS_aload_n, mS_aload, mS_istore_n, mS_istore, mS_lstore_n, mS_lstore, mS_astore_n, mS_astore, mS_iinc, mS_iconst, mS_bipush, mS_sipush, mS_lconst, mS_ldc, mS_ldc_w, mS_ldc2_w, mS_getstatic, mS_iadd, mS_isub, mS_imul, mS_iand, mS_ior, mS_ixor, mS_ishl, mS_ishr, mS_iushr, mS_idiv, mS_irem, mS_ladd, mS_lsub, mS_lmul, mS_land, mS_lor, mS_lxor, mS_ldiv, mS_lrem, mS_lneg, mS_lshl, mS_lushr, mS_lcmp, mS_i2l, mS_l2i, mS_i2b, mS_dup_i, mS_dup_r, mS_dup2, mS_pop, mS_if_eq, mS_if_ne, mS_if_lt, mS_if_ge, mS_if_gt, mS_if_le, mS_icmp_eq, mS_icmp_ne, mS_icmp_lt, mS_icmp_ge, mS_icmp_gt, mS_icmp_le, mS_goto, mS_tsw, mS_lsw, mS_getfield, mS_putfield, mS_iaload, mS_iaload0, mS_baload, mS_laload, mS_laload1, mS_iastore, mS_bastore, mS_lastore, mS_alen, mS_alen0, mS_alen1, mS_newa_byte, mS_newa_int, mS_newa_long, mS_throw, mS_new, mS_oinit, mS_ireturn, mS_zreturn, mS_lreturn, mS_return, mS_mmin, mS_mmax, mS_mabs, mRun_go, mGo_t, mGo_f, mAt, mPut, mSt1, mSt2, mKill, mFit, mEnt, mPad, mSw, Nat.reduceAdd, Nat.reduceSub, Nat.reduceMod, Nat.reduceLT, Nat.reduceLeDiff, List.length_cons, List.length_nil, true_and, and_true, Option.some.injEq, Nat.zero_add, Classical.not_not, cmp_lt, cmp_ge, cmp_eq, cmp_gt, cmp_le, mAfter_v, mAfter_i, mAfter_l, mBack, mBk, mFrom, mRnC_l, mRnC_r, mRn_i, mRn_l, mRn_r, mRn_n, mRn_f, List.map_cons, List.map_nil, List.cons_append, List.nil_append, List.append_nil, Option.getD_some, Nat.add_zero, TX4_begin_0])
  exact hq
theorem c_chosenWay {X : mX0} {d b nb : Nat} {O : outT} {B : List Nat} (hb : b < nb) (hnb : nb ≤ 256) (Q : mQ) (hq : Q (.inl (some (.int (O.2.2.1 b)))) (outAt 0 O B nb) 0 0) : mCall mP X (d + 1) 37 [.ref 0, .int (nI b)] (outAt 0 O B nb) Q := by
  refine mCall_in pX4_chosenWay 80 rfl ?_
  simp only [mS_iload_n, mS_iload, mS_lload_n, mS_lload, mS_aload_n, mS_aload, mS_istore_n, mS_istore, mS_lstore_n, mS_lstore, mS_astore_n, mS_astore, mS_iinc, mS_iconst, mS_bipush, mS_sipush, mS_lconst, mS_ldc, mS_ldc_w, mS_ldc2_w, mS_getstatic, mS_iadd, mS_isub, mS_imul, mS_iand, mS_ior, mS_ixor, mS_ishl, mS_ishr, mS_iushr, mS_idiv, mS_irem, mS_ladd, mS_lsub, mS_lmul, mS_land, mS_lor, mS_lxor, mS_ldiv, mS_lrem, mS_lneg, mS_lshl, mS_lushr, mS_lcmp, mS_i2l, mS_l2i, mS_i2b, mS_dup_i, mS_dup_r, mS_dup2, mS_pop, mS_if_eq, mS_if_ne, mS_if_lt, mS_if_ge, mS_if_gt, mS_if_le, mS_icmp_eq, mS_icmp_ne, mS_icmp_lt, mS_icmp_ge, mS_icmp_gt, mS_icmp_le, mS_goto, mS_tsw, mS_lsw, mS_getfield, mS_putfield, mS_iaload, mS_iaload0, mS_baload, mS_laload, mS_laload1, mS_iastore, mS_bastore, mS_lastore, mS_alen, mS_alen0, mS_alen1, mS_newa_byte, mS_newa_int, mS_newa_long, mS_throw, mS_new, mS_oinit, mS_ireturn, mS_zreturn, mS_lreturn, mS_return, mS_mmin, mS_mmax, mS_mabs, mRun_go, mGo_t, mGo_f, mAt, mPut, mSt1, mSt2, mKill, mFit, mEnt, mPad, mSw, Nat.reduceAdd, Nat.reduceSub, Nat.reduceMod, Nat.reduceLT, Nat.reduceLeDiff, List.length_cons, List.length_nil, true_and, and_true, Option.some.injEq, Nat.zero_add, Classical.not_not, cmp_lt, cmp_ge, cmp_eq, cmp_gt, cmp_le, mAfter_v, mAfter_i, mAfter_l, mBack, mBk, mFrom, mRnC_l, mRnC_r, mRn_i, mRn_l, mRn_r, mRn_n, mRn_f, List.map_cons, List.map_nil, List.cons_append, List.nil_append, List.append_nil, Option.getD_some, Nat.add_zero, TX4_chosenWay_0]
  simp (disch := omega) only [i_0, i_1, i_2, i_3, i_4, i_5, i_6, i_7, i_8, i_9, i_10, i_11, i_12, i_13, i_15, i_16, i_27, i_28, i_31, i_32, i_52, i_54, i_56, i_63, i_64, i_88, i_128, i_255, i_256, i_257, i_2048, i_4000, i_65521, i_1048576, i_1075, nI_ofNat, nI_lt_iff, nI_le_iff, nI_eq_iff, nI_add, pk_mul, pk_sub, pk_div, pk_rem, nI_clamp, Nat.add_sub_cancel, Nat.reduceAdd, Nat.reduceSub, Nat.reduceMul, Nat.reduceDiv, Nat.reduceMod, Nat.reduceLT, Nat.reduceLeDiff, Nat.reduceEqDiff, Nat.add_zero, Nat.zero_add, n_rem, not_false_eq_true, not_true_eq_false, true_and, and_true, true_or, or_true, true_implies, false_implies, Nat.not_lt_zero, Nat.zero_le]
  exact ⟨fun h => absurd h (by omega), fun _ => ⟨vp_in_nI (by omega) (by omega), hq⟩⟩
theorem c_bitsBy {X : mX0} {d b v nb : Nat} {O : outT} {B : List Nat} (hb : b < nb) (hnb : nb ≤ 256) (hv : v < 8) (Q : mQ) (hq : Q (.inl (some (.int (O.2.1 (8 * b + v))))) (outAt 0 O B nb) 0 0) : mCall mP X (d + 1) 38 [.ref 0, .int (nI b), .int (nI v)] (outAt 0 O B nb) Q := by
  refine mCall_in pX4_bitsBy 80 rfl ?_
  rw [show 8 * b + v = b * 8 + v from by omega] at hq
  simp only [mS_iload_n, mS_iload, mS_lload_n, mS_lload, mS_aload_n, mS_aload, mS_istore_n, mS_istore, mS_lstore_n, mS_lstore, mS_astore_n, mS_astore, mS_iinc, mS_iconst, mS_bipush, mS_sipush, mS_lconst, mS_ldc, mS_ldc_w, mS_ldc2_w, mS_getstatic, mS_iadd, mS_isub, mS_imul, mS_iand, mS_ior, mS_ixor, mS_ishl, mS_ishr, mS_iushr, mS_idiv, mS_irem, mS_ladd, mS_lsub, mS_lmul, mS_land, mS_lor, mS_lxor, mS_ldiv, mS_lrem, mS_lneg, mS_lshl, mS_lushr, mS_lcmp, mS_i2l, mS_l2i, mS_i2b, mS_dup_i, mS_dup_r, mS_dup2, mS_pop, mS_if_eq, mS_if_ne, mS_if_lt, mS_if_ge, mS_if_gt, mS_if_le, mS_icmp_eq, mS_icmp_ne, mS_icmp_lt, mS_icmp_ge, mS_icmp_gt, mS_icmp_le, mS_goto, mS_tsw, mS_lsw, mS_getfield, mS_putfield, mS_iaload, mS_iaload0, mS_baload, mS_laload, mS_laload1, mS_iastore, mS_bastore, mS_lastore, mS_alen, mS_alen0, mS_alen1, mS_newa_byte, mS_newa_int, mS_newa_long, mS_throw, mS_new, mS_oinit, mS_ireturn, mS_zreturn, mS_lreturn, mS_return, mS_mmin, mS_mmax, mS_mabs, mRun_go, mGo_t, mGo_f, mAt, mPut, mSt1, mSt2, mKill, mFit, mEnt, mPad, mSw, Nat.reduceAdd, Nat.reduceSub, Nat.reduceMod, Nat.reduceLT, Nat.reduceLeDiff, List.length_cons, List.length_nil, true_and, and_true, Option.some.injEq, Nat.zero_add, Classical.not_not, cmp_lt, cmp_ge, cmp_eq, cmp_gt, cmp_le, mAfter_v, mAfter_i, mAfter_l, mBack, mBk, mFrom, mRnC_l, mRnC_r, mRn_i, mRn_l, mRn_r, mRn_n, mRn_f, List.map_cons, List.map_nil, List.cons_append, List.nil_append, List.append_nil, Option.getD_some, Nat.add_zero, TX4_bitsBy_0]
  simp (disch := omega) only [i_0, i_1, i_2, i_3, i_4, i_5, i_6, i_7, i_8, i_9, i_10, i_11, i_12, i_13, i_15, i_16, i_27, i_28, i_31, i_32, i_52, i_54, i_56, i_63, i_64, i_88, i_128, i_255, i_256, i_257, i_2048, i_4000, i_65521, i_1048576, i_1075, nI_ofNat, nI_lt_iff, nI_le_iff, nI_eq_iff, nI_add, pk_mul, pk_sub, pk_div, pk_rem, nI_clamp, Nat.add_sub_cancel, Nat.reduceAdd, Nat.reduceSub, Nat.reduceMul, Nat.reduceDiv, Nat.reduceMod, Nat.reduceLT, Nat.reduceLeDiff, Nat.reduceEqDiff, Nat.add_zero, Nat.zero_add, n_rem, not_false_eq_true, not_true_eq_false, true_and, and_true, true_or, or_true, true_implies, false_implies, Nat.not_lt_zero, Nat.zero_le]
  exact ⟨fun h => absurd h (by omega), fun _ => ⟨fun h => absurd h (by omega), fun _ => ⟨vp_in_nI (by omega) (by omega), hq⟩⟩⟩
/-- how many blocks; the bits of all the blocks from b on; OUT before its end -/
def nbF (N sz : Nat) : Nat := (N + sz - 1) / sz
noncomputable def packB (w : Nat → Int64) (N sz : Nat) : Nat → Nat → List Nat
  | 0, _ => []
  | j + 1, b => blkC w (min sz (N - b * sz)) (b * sz) ++ packB w N sz j (b + 1)
theorem nbF_lt {N sz b : Nat} (hs : 1 ≤ sz) : b < nbF N sz ↔ b * sz < N := by
  unfold nbF
  rw [← Nat.succ_le_iff, Nat.le_div_iff_mul_le (by omega), Nat.succ_mul]
  omega
theorem nbF_le {N sz : Nat} (hs : 1 ≤ sz) : nbF N sz ≤ N := by
  rcases Nat.lt_or_ge N (nbF N sz) with h | h
  · have := (nbF_lt hs).mp h
    have h2 : N * 1 ≤ N * sz := Nat.mul_le_mul_left _ hs
    omega
  · exact h
theorem packB_len {w : Nat → Int64} {N sz : Nat} (hs : 1 ≤ sz) (hs2 : sz ≤ 64) : ∀ j b, b + j = nbF N sz → (packB w N sz j b).length ≤ 67 * (N - b * sz)
  | 0, b, h => by simp [packB]
  | j + 1, b, h => by
    have h1 := packB_len (w := w) (N := N) hs hs2 j (b + 1) (by omega)
    have h2 := (nbF_lt (N := N) (b := b) hs).mp (by omega)
    have h3 := (blkC_some (w := w) (n := min sz (N - b * sz)) (i := b * sz) (by omega)).2.2
    rw [show (b + 1) * sz = b * sz + sz from Nat.succ_mul b sz] at h1
    unfold packB
    rw [List.length_append]
    omega
noncomputable def outB (w : Nat → Int64) (N sz : Nat) : List Nat := bitsN N 9 ++ bitsN sz 7 ++ packB w N sz (nbF N sz) 0
theorem outB_len {w : Nat → Int64} {N sz : Nat} (hs : 1 ≤ sz) (hs2 : sz ≤ 64) : (outB w N sz).length ≤ 16 + 67 * N := by
  have := packB_len (w := w) (N := N) hs hs2 (nbF N sz) 0 (by omega)
  unfold outB
  rw [List.length_append, List.length_append, bitsN_len, bitsN_len]
  omega
