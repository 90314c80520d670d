/-! zeros ahead and behind: the JDK's methods and the model's loops -/
def nlzF : Nat → Nat → Nat
  | 0, _ => 0
  | k + 1, v => if v / 2 ^ k % 2 = 1 then 0 else 1 + nlzF k v
def ntzF : Nat → Nat → Nat
  | 0, _ => 0
  | k + 1, v => if v % 2 = 1 then 0 else 1 + ntzF k (v / 2)
theorem pow_s (k : Nat) : 2 ^ (k + 1) = 2 * 2 ^ k := by rw [Nat.pow_succ, Nat.mul_comm]
theorem nlzF_eq : ∀ k z v, z ≤ k → v < 2 ^ (k - z) → (z < k → 2 ^ (k - z - 1) ≤ v) → nlzF k v = z
  | 0, z, v, hz, _, _ => by unfold nlzF; omega
  | k + 1, 0, v, hz, h1, h2 => by
    have h3 := h2 (by omega)
    rw [Nat.sub_zero, pow_s] at h1
    rw [show k + 1 - 0 - 1 = k from by omega] at h3
    have : v / 2 ^ k = 1 := Nat.div_eq_of_lt_le (by omega) (by omega)
    unfold nlzF
    rw [this, if_pos (by decide)]
  | k + 1, z + 1, v, hz, h1, h2 => by
    rw [show k + 1 - (z + 1) = k - z from by omega] at h1
    have hv : v < 2 ^ k := Nat.lt_of_lt_of_le h1 (Nat.pow_le_pow_right (by decide) (by omega))
    unfold nlzF
    rw [Nat.div_eq_of_lt hv, if_neg (by decide), nlzF_eq k z v (by omega) h1 (fun hz' => by
      have := h2 (by omega)
      rw [show k + 1 - (z + 1) - 1 = k - z - 1 from by omega] at this
      exact this)]
    omega
theorem nlzF_sp : ∀ k v, v < 2 ^ k → nlzF k v ≤ k ∧ v < 2 ^ (k - nlzF k v) ∧ (nlzF k v < k → 2 ^ (k - nlzF k v - 1) ≤ v)
  | 0, v, h => by unfold nlzF; exact ⟨by omega, h, fun h => absurd h (by omega)⟩
  | k + 1, v, h => by
    unfold nlzF
    by_cases e : v / 2 ^ k % 2 = 1
    · rw [if_pos e]
      refine ⟨by omega, h, fun _ => ?_⟩
      rw [show k + 1 - 0 - 1 = k from by omega]
      rcases Nat.lt_or_ge v (2 ^ k) with z | z
      · rw [Nat.div_eq_of_lt z] at e
        exact absurd e (by decide)
      · exact z
    · rw [if_neg e]
      have hv : v < 2 ^ k := by
        rcases Nat.lt_or_ge v (2 ^ k) with z | z
        · exact z
        · rw [pow_s] at h
          have : v / 2 ^ k = 1 := Nat.div_eq_of_lt_le (by omega) (by omega)
          rw [this] at e
          exact absurd rfl e
      obtain ⟨a, b, c⟩ := nlzF_sp k v hv
      refine ⟨by omega, ?_, fun hk => ?_⟩
      · rw [show k + 1 - (1 + nlzF k v) = k - nlzF k v from by omega]; exact b
      · rw [show k + 1 - (1 + nlzF k v) - 1 = k - nlzF k v - 1 from by omega]; exact c (by omega)
theorem ntzF_0 : ∀ k, ntzF k 0 = k
  | 0 => rfl
  | k + 1 => by unfold ntzF; rw [if_neg (by decide), show 0 / 2 = 0 from rfl, ntzF_0 k]; omega
theorem ntzF_eq : ∀ k t v, t < k → v % 2 ^ t = 0 → v / 2 ^ t % 2 = 1 → ntzF k v = t
  | 0, t, v, h, _, _ => by omega
  | k + 1, 0, v, h, h1, h2 => by
    unfold ntzF
    rw [if_pos (by simpa using h2)]
  | k + 1, t + 1, v, h, h1, h2 => by
    have e : v % 2 = 0 := by
      have : v % 2 ^ (t + 1) % 2 = v % 2 := Nat.mod_mod_of_dvd _ ⟨2 ^ t, by rw [pow_s]⟩
      omega
    have e2 : v / 2 % 2 ^ t = 0 := by
      have := Nat.mod_mul_right_div_self v 2 (2 ^ t)
      rw [← pow_s, h1] at this
      rw [← this]
    have e3 : v / 2 / 2 ^ t % 2 = 1 := by rw [Nat.div_div_eq_div_mul, ← pow_s]; exact h2
    unfold ntzF
    rw [if_neg (by omega), ntzF_eq k t (v / 2) (by omega) e2 e3]
    omega
theorem ntzF_sp : ∀ k v, v ≠ 0 → v < 2 ^ k → ntzF k v < k ∧ v % 2 ^ ntzF k v = 0 ∧ v / 2 ^ ntzF k v % 2 = 1
  | 0, v, h0, h => by simp at h; omega
  | k + 1, v, h0, h => by
    unfold ntzF
    by_cases e : v % 2 = 1
    · rw [if_pos e]
      exact ⟨by omega, Nat.mod_one v, by rw [Nat.pow_zero, Nat.div_one]; exact e⟩
    · rw [if_neg e]
      rw [pow_s] at h
      obtain ⟨a, b, c⟩ := ntzF_sp k (v / 2) (by omega) (by omega)
      refine ⟨by omega, ?_, ?_⟩
      · rw [Nat.add_comm, pow_s, Nat.mod_mul, b]
        omega
      · rw [Nat.add_comm, pow_s, ← Nat.div_div_eq_div_mul]; exact c
theorem ush (n k : Nat) (hn : n < 2 ^ 32) (hk : k < 32) : ((nI n).toUInt32 >>> ((nI k).toUInt32 &&& Int32.toUInt32 31)).toInt32 = nI (n / 2 ^ k) := pk_ushrN hn (nI k) k (by
  have : ∀ k : Fin 32, (((nI k.val).toUInt32 &&& Int32.toUInt32 31).toBitVec % 32).toNat = k.val := by decide +kernel
  exact this ⟨k, hk⟩)
theorem ush16 {n : Nat} (hn : n < 2 ^ 32) : ((nI n).toUInt32 >>> ((nI 16).toUInt32 &&& Int32.toUInt32 (nI 31))).toInt32 = nI (n / 65536) := ush n 16 hn (by decide)
theorem ush8 {n : Nat} (hn : n < 2 ^ 32) : ((nI n).toUInt32 >>> ((nI 8).toUInt32 &&& Int32.toUInt32 (nI 31))).toInt32 = nI (n / 256) := ush n 8 hn (by decide)
theorem ush4 {n : Nat} (hn : n < 2 ^ 32) : ((nI n).toUInt32 >>> ((nI 4).toUInt32 &&& Int32.toUInt32 (nI 31))).toInt32 = nI (n / 16) := ush n 4 hn (by decide)
theorem ush2 {n : Nat} (hn : n < 2 ^ 32) : ((nI n).toUInt32 >>> ((nI 2).toUInt32 &&& Int32.toUInt32 (nI 31))).toInt32 = nI (n / 4) := ush n 2 hn (by decide)
theorem ush1 {n : Nat} (hn : n < 2 ^ 32) : ((nI n).toUInt32 >>> ((nI 1).toUInt32 &&& Int32.toUInt32 (nI 31))).toInt32 = nI (n / 2) := ush n 1 hn (by decide)
theorem i_m16 {n : Nat} (h : 16 ≤ n) : nI n + (-16) = nI (n - 16) := by rw [show (-16 : Int32) = -(nI 16) from rfl, ← Int32.sub_eq_add_neg, pk_sub h]
theorem i_m8 {n : Nat} (h : 8 ≤ n) : nI n + (-8) = nI (n - 8) := by rw [show (-8 : Int32) = -(nI 8) from rfl, ← Int32.sub_eq_add_neg, pk_sub h]
theorem i_m4 {n : Nat} (h : 4 ≤ n) : nI n + (-4) = nI (n - 4) := by rw [show (-4 : Int32) = -(nI 4) from rfl, ← Int32.sub_eq_add_neg, pk_sub h]
theorem i_m2 {n : Nat} (h : 2 ≤ n) : nI n + (-2) = nI (n - 2) := by rw [show (-2 : Int32) = -(nI 2) from rfl, ← Int32.sub_eq_add_neg, pk_sub h]
theorem i_65536 : (65536 : Int32) = nI 65536 := by rfl
theorem nI_hi {n : Nat} (h1 : 2 ^ 31 ≤ n) (h2 : n < 2 ^ 32) : (nI n).toInt = (n : Int) - 2 ^ 32 := by
  have e : (nI n).toInt = (BitVec.ofNat 32 n).toInt := rfl
  rw [e, BitVec.toInt_eq_toNat_cond, BitVec.toNat_ofNat, Nat.mod_eq_of_lt h2, if_neg (by omega)]
  rfl
theorem c_nlz32 {X : mX0} {d u : Nat} (hu : u < 2 ^ 32) (Q : mQ) (hq : Q (.inl (some (.int (nI (nlzF 32 u))))) [] 0 0) : mCall mP X (d + 1) 142 [.int (nI u)] [] Q := by
  have hqq : ∀ y : Int32, y = nI (nlzF 32 u) → Q (.inl (some (.int y))) [] 0 0 := fun y e => by rw [e]; exact hq
  refine mCall_in pJ6_numberOfLeadingZeros_0f7a4 80 rfl ?_
  simp only [mS_iload_n, mS_iload, mS_lload_n, mS_lload, mS_aload_n, mS_aload, mS_istore_n, mS_istore, mS_lstore_n, mS_lstore, mS_astore_n, mS_astore, mS_iinc, mS_iconst, mS_bipush, mS_sipush, mS_lconst, mS_ldc, mS_ldc_w, mS_ldc2_w, mS_getstatic, mS_iadd, mS_isub, mS_imul, mS_iand, mS_ior, mS_ixor, mS_ishl, mS_ishr, mS_iushr, mS_idiv, mS_irem, mS_ladd, mS_lsub, mS_lmul, mS_land, mS_lor, mS_lxor, mS_ldiv, mS_lrem, mS_lneg, mS_lshl, mS_lushr, mS_lcmp, mS_i2l, mS_l2i, mS_i2b, mS_dup_i, mS_dup_r, mS_dup2, mS_pop, mS_if_eq, mS_if_ne, mS_if_lt, mS_if_ge, mS_if_gt, mS_if_le, mS_icmp_eq, mS_icmp_ne, mS_icmp_lt, mS_icmp_ge, mS_icmp_gt, mS_icmp_le, mS_goto, mS_tsw, mS_lsw, mS_getfield, mS_putfield, mS_iaload, mS_iaload0, mS_baload, mS_laload, mS_laload1, mS_iastore, mS_bastore, mS_lastore, mS_alen, mS_alen0, mS_alen1, mS_newa_byte, mS_newa_int, mS_newa_long, mS_throw, mS_new, mS_oinit, mS_ireturn, mS_zreturn, mS_lreturn, mS_return, mS_mmin, mS_mmax, mS_mabs, mRun_go, mGo_t, mGo_f, mAt, mPut, mSt1, mSt2, mKill, mFit, mEnt, mPad, mSw, Nat.reduceAdd, Nat.reduceSub, Nat.reduceMod, Nat.reduceLT, Nat.reduceLeDiff, List.length_cons, List.length_nil, true_and, and_true, Option.some.injEq, Nat.zero_add, Classical.not_not, cmp_lt, cmp_ge, cmp_eq, cmp_gt, cmp_le, mAfter_v, mAfter_i, mAfter_l, mBack, mBk, mFrom, mRnC_l, mRnC_r, mRn_i, mRn_l, mRn_r, mRn_n, mRn_f, List.map_cons, List.map_nil, List.cons_append, List.nil_append, List.append_nil, Option.getD_some, Nat.add_zero, TJ6_numberOfLeadingZeros_0f7a4_0]
  rcases Nat.lt_or_ge u (2 ^ 31) with hs | hs
  · simp (disch := omega) only [i_0, i_1, i_2, i_3, i_4, i_5, i_6, i_7, i_8, i_9, i_10, i_11, i_12, i_13, i_15, i_16, i_27, i_28, i_31, i_32, i_52, i_54, i_56, i_63, i_64, i_88, i_128, i_255, i_256, i_257, i_2048, i_4000, i_65521, i_1048576, i_1075, nI_ofNat, nI_lt_iff, nI_le_iff, nI_eq_iff, nI_add, pk_mul, pk_sub, pk_div, pk_rem, nI_clamp, Nat.add_sub_cancel, Nat.reduceAdd, Nat.reduceSub, Nat.reduceMul, Nat.reduceDiv, Nat.reduceMod, Nat.reduceLT, Nat.reduceLeDiff, Nat.reduceEqDiff, Nat.add_zero, Nat.zero_add, n_rem, not_false_eq_true, not_true_eq_false, true_and, and_true, true_or, or_true, true_implies, false_implies, Nat.not_lt_zero, Nat.zero_le, ush16, ush8, ush4, ush2, ush1, i_m16, i_m8, i_m4, i_m2, i_65536]
    refine ⟨fun h0 => ?_, fun h0 => ⟨fun h => absurd h (by omega), fun h => ?_⟩⟩
    · refine ⟨fun h1 => ?_, fun h1 => ?_⟩
      · refine ⟨fun h2 => ?_, fun h2 => ?_⟩
        · refine ⟨fun h3 => ?_, fun h3 => ?_⟩
          · refine ⟨fun h4 => ?_, fun h4 => ?_⟩
            · refine hqq _ ?_
              rcases (show u / 2 = 0 ∨ u / 2 = 1 from by omega) with e | e
              · have l1 : u < 2 := by omega
                have l2 : 1 ≤ u := by omega
                rw [e, nlzF_eq 32 31 u (by decide) l1 (fun _ => l2)]
                exact pk_sub (by decide)
              · have l1 : u < 4 := by omega
                have l2 : 2 ≤ u := by omega
                rw [e, nlzF_eq 32 30 u (by decide) l1 (fun _ => l2)]
                exact pk_sub (by decide)
            · refine hqq _ ?_
              rcases (show u / 4 / 2 = 0 ∨ u / 4 / 2 = 1 from by omega) with e | e
              · have l1 : u < 8 := by omega
                have l2 : 4 ≤ u := by omega
                rw [e, nlzF_eq 32 29 u (by decide) l1 (fun _ => l2)]
                exact pk_sub (by decide)
              · have l1 : u < 16 := by omega
                have l2 : 8 ≤ u := by omega
                rw [e, nlzF_eq 32 28 u (by decide) l1 (fun _ => l2)]
                exact pk_sub (by decide)
          · refine ⟨fun h4 => ?_, fun h4 => ?_⟩
            · refine hqq _ ?_
              rcases (show u / 16 / 2 = 0 ∨ u / 16 / 2 = 1 from by omega) with e | e
              · have l1 : u < 32 := by omega
                have l2 : 16 ≤ u := by omega
                rw [e, nlzF_eq 32 27 u (by decide) l1 (fun _ => l2)]
                exact pk_sub (by decide)
              · have l1 : u < 64 := by omega
                have l2 : 32 ≤ u := by omega
                rw [e, nlzF_eq 32 26 u (by decide) l1 (fun _ => l2)]
                exact pk_sub (by decide)
            · refine hqq _ ?_
              rcases (show u / 16 / 4 / 2 = 0 ∨ u / 16 / 4 / 2 = 1 from by omega) with e | e
              · have l1 : u < 128 := by omega
                have l2 : 64 ≤ u := by omega
                rw [e, nlzF_eq 32 25 u (by decide) l1 (fun _ => l2)]
                exact pk_sub (by decide)
              · have l1 : u < 256 := by omega
                have l2 : 128 ≤ u := by omega
                rw [e, nlzF_eq 32 24 u (by decide) l1 (fun _ => l2)]
                exact pk_sub (by decide)
        · refine ⟨fun h3 => ?_, fun h3 => ?_⟩
          · refine ⟨fun h4 => ?_, fun h4 => ?_⟩
            · refine hqq _ ?_
              rcases (show u / 256 / 2 = 0 ∨ u / 256 / 2 = 1 from by omega) with e | e
              · have l1 : u < 512 := by omega
                have l2 : 256 ≤ u := by omega
                rw [e, nlzF_eq 32 23 u (by decide) l1 (fun _ => l2)]
                exact pk_sub (by decide)
              · have l1 : u < 1024 := by omega
                have l2 : 512 ≤ u := by omega
                rw [e, nlzF_eq 32 22 u (by decide) l1 (fun _ => l2)]
                exact pk_sub (by decide)
            · refine hqq _ ?_
              rcases (show u / 256 / 4 / 2 = 0 ∨ u / 256 / 4 / 2 = 1 from by omega) with e | e
              · have l1 : u < 2048 := by omega
                have l2 : 1024 ≤ u := by omega
                rw [e, nlzF_eq 32 21 u (by decide) l1 (fun _ => l2)]
                exact pk_sub (by decide)
              · have l1 : u < 4096 := by omega
                have l2 : 2048 ≤ u := by omega
                rw [e, nlzF_eq 32 20 u (by decide) l1 (fun _ => l2)]
                exact pk_sub (by decide)
          · refine ⟨fun h4 => ?_, fun h4 => ?_⟩
            · refine hqq _ ?_
              rcases (show u / 256 / 16 / 2 = 0 ∨ u / 256 / 16 / 2 = 1 from by omega) with e | e
              · have l1 : u < 8192 := by omega
                have l2 : 4096 ≤ u := by omega
                rw [e, nlzF_eq 32 19 u (by decide) l1 (fun _ => l2)]
                exact pk_sub (by decide)
              · have l1 : u < 16384 := by omega
                have l2 : 8192 ≤ u := by omega
                rw [e, nlzF_eq 32 18 u (by decide) l1 (fun _ => l2)]
                exact pk_sub (by decide)
            · refine hqq _ ?_
              rcases (show u / 256 / 16 / 4 / 2 = 0 ∨ u / 256 / 16 / 4 / 2 = 1 from by omega) with e | e
              · have l1 : u < 32768 := by omega
                have l2 : 16384 ≤ u := by omega
                rw [e, nlzF_eq 32 17 u (by decide) l1 (fun _ => l2)]
                exact pk_sub (by decide)
              · have l1 : u < 65536 := by omega
                have l2 : 32768 ≤ u := by omega
                rw [e, nlzF_eq 32 16 u (by decide) l1 (fun _ => l2)]
                exact pk_sub (by decide)
      · refine ⟨fun h2 => ?_, fun h2 => ?_⟩
        · refine ⟨fun h3 => ?_, fun h3 => ?_⟩
          · refine ⟨fun h4 => ?_, fun h4 => ?_⟩
            · refine hqq _ ?_
              rcases (show u / 65536 / 2 = 0 ∨ u / 65536 / 2 = 1 from by omega) with e | e
              · have l1 : u < 131072 := by omega
                have l2 : 65536 ≤ u := by omega
                rw [e, nlzF_eq 32 15 u (by decide) l1 (fun _ => l2)]
                exact pk_sub (by decide)
              · have l1 : u < 262144 := by omega
                have l2 : 131072 ≤ u := by omega
                rw [e, nlzF_eq 32 14 u (by decide) l1 (fun _ => l2)]
                exact pk_sub (by decide)
            · refine hqq _ ?_
              rcases (show u / 65536 / 4 / 2 = 0 ∨ u / 65536 / 4 / 2 = 1 from by omega) with e | e
              · have l1 : u < 524288 := by omega
                have l2 : 262144 ≤ u := by omega
                rw [e, nlzF_eq 32 13 u (by decide) l1 (fun _ => l2)]
                exact pk_sub (by decide)
              · have l1 : u < 1048576 := by omega
                have l2 : 524288 ≤ u := by omega
                rw [e, nlzF_eq 32 12 u (by decide) l1 (fun _ => l2)]
                exact pk_sub (by decide)
          · refine ⟨fun h4 => ?_, fun h4 => ?_⟩
            · refine hqq _ ?_
              rcases (show u / 65536 / 16 / 2 = 0 ∨ u / 65536 / 16 / 2 = 1 from by omega) with e | e
              · have l1 : u < 2097152 := by omega
                have l2 : 1048576 ≤ u := by omega
                rw [e, nlzF_eq 32 11 u (by decide) l1 (fun _ => l2)]
                exact pk_sub (by decide)
              · have l1 : u < 4194304 := by omega
                have l2 : 2097152 ≤ u := by omega
                rw [e, nlzF_eq 32 10 u (by decide) l1 (fun _ => l2)]
                exact pk_sub (by decide)
            · refine hqq _ ?_
              rcases (show u / 65536 / 16 / 4 / 2 = 0 ∨ u / 65536 / 16 / 4 / 2 = 1 from by omega) with e | e
              · have l1 : u < 8388608 := by omega
                have l2 : 4194304 ≤ u := by omega
                rw [e, nlzF_eq 32 9 u (by decide) l1 (fun _ => l2)]
                exact pk_sub (by decide)
              · have l1 : u < 16777216 := by omega
                have l2 : 8388608 ≤ u := by omega
                rw [e, nlzF_eq 32 8 u (by decide) l1 (fun _ => l2)]
                exact pk_sub (by decide)
        · refine ⟨fun h3 => ?_, fun h3 => ?_⟩
          · refine ⟨fun h4 => ?_, fun h4 => ?_⟩
            · refine hqq _ ?_
              rcases (show u / 65536 / 256 / 2 = 0 ∨ u / 65536 / 256 / 2 = 1 from by omega) with e | e
              · have l1 : u < 33554432 := by omega
                have l2 : 16777216 ≤ u := by omega
                rw [e, nlzF_eq 32 7 u (by decide) l1 (fun _ => l2)]
                exact pk_sub (by decide)
              · have l1 : u < 67108864 := by omega
                have l2 : 33554432 ≤ u := by omega
                rw [e, nlzF_eq 32 6 u (by decide) l1 (fun _ => l2)]
                exact pk_sub (by decide)
            · refine hqq _ ?_
              rcases (show u / 65536 / 256 / 4 / 2 = 0 ∨ u / 65536 / 256 / 4 / 2 = 1 from by omega) with e | e
              · have l1 : u < 134217728 := by omega
                have l2 : 67108864 ≤ u := by omega
                rw [e, nlzF_eq 32 5 u (by decide) l1 (fun _ => l2)]
                exact pk_sub (by decide)
              · have l1 : u < 268435456 := by omega
                have l2 : 134217728 ≤ u := by omega
                rw [e, nlzF_eq 32 4 u (by decide) l1 (fun _ => l2)]
                exact pk_sub (by decide)
          · refine ⟨fun h4 => ?_, fun h4 => ?_⟩
            · refine hqq _ ?_
              rcases (show u / 65536 / 256 / 16 / 2 = 0 ∨ u / 65536 / 256 / 16 / 2 = 1 from by omega) with e | e
              · have l1 : u < 536870912 := by omega
                have l2 : 268435456 ≤ u := by omega
                rw [e, nlzF_eq 32 3 u (by decide) l1 (fun _ => l2)]
                exact pk_sub (by decide)
              · have l1 : u < 1073741824 := by omega
                have l2 : 536870912 ≤ u := by omega
                rw [e, nlzF_eq 32 2 u (by decide) l1 (fun _ => l2)]
                exact pk_sub (by decide)
            · refine hqq _ ?_
              rcases (show u / 65536 / 256 / 16 / 4 / 2 = 0 ∨ u / 65536 / 256 / 16 / 4 / 2 = 1 from by omega) with e | e
              · have l1 : u < 2147483648 := by omega
                have l2 : 1073741824 ≤ u := by omega
                rw [e, nlzF_eq 32 1 u (by decide) l1 (fun _ => l2)]
                exact pk_sub (by decide)
              · have l1 : u < 4294967296 := by omega
                have l2 : 2147483648 ≤ u := by omega
                rw [e, nlzF_eq 32 0 u (by decide) l1 (fun _ => l2)]
                exact pk_sub (by decide)
    · refine hqq _ ?_
      rw [show u = 0 from by omega]
      decide +kernel
  · refine ⟨fun h => absurd h ?_, fun h => ⟨fun h0 => hqq _ ?_, fun h0 => absurd h0 ?_⟩⟩
    · rw [Int32.lt_iff_toInt_lt, nI_hi hs hu, i_z]
      omega
    · rw [nlzF_eq 32 0 u (by decide) (by omega) (fun _ => by omega)]
      rfl
    · intro e
      have := congrArg Int32.toInt e
      rw [nI_hi hs hu, i_z] at this
      omega
theorem hiL {v : Nat} (hv : v < 2 ^ 64) : (((lN v).toUInt64 >>> ((32 : Int32).toInt64.toUInt64 &&& Int64.toUInt64 63)).toInt64).toInt32 = nI (v / 2 ^ 32) := by
  rw [i_32, wb_shr hv (by decide), lN_i]
theorem loL (v : Nat) : (lN v).toInt32 = nI (v % 2 ^ 32) := by
  rw [lN_i]
  apply Int32.toBitVec_inj.1
  show BitVec.ofNat 32 v = BitVec.ofNat 32 (v % 2 ^ 32)
  apply BitVec.eq_of_toNat_eq
  simp
theorem nI_z {u : Nat} (hu : u < 2 ^ 32) : (nI u = 0) = (u = 0) := propext ⟨fun h => by
  have := congrArg (fun x : Int32 => x.toBitVec.toNat) h
  have e : (nI u).toBitVec.toNat = u := pk_tn hu
  simp only [e] at this
  exact this, fun h => by rw [h]; rfl⟩
theorem nlz_hi {v : Nat} (h : ¬ v / 2 ^ 32 = 0) (hv : v < 2 ^ 64) : nlzF 32 (v / 2 ^ 32) = nlzF 64 v := by
  obtain ⟨a, b, c⟩ := nlzF_sp 32 (v / 2 ^ 32) (by omega)
  have c' : nlzF 32 (v / 2 ^ 32) < 32 := by
    rcases Nat.lt_or_ge (nlzF 32 (v / 2 ^ 32)) 32 with z | z
    · exact z
    · rw [show 32 - nlzF 32 (v / 2 ^ 32) = 0 from by omega] at b
      omega
  have d := c c'
  refine (nlzF_eq 64 _ v (by omega) ?_ (fun _ => ?_)).symm
  · rw [show 64 - nlzF 32 (v / 2 ^ 32) = (32 - nlzF 32 (v / 2 ^ 32)) + 32 from by omega, Nat.pow_add]
    exact (Nat.div_lt_iff_lt_mul (by decide)).mp b
  · rw [show 64 - nlzF 32 (v / 2 ^ 32) - 1 = (32 - nlzF 32 (v / 2 ^ 32) - 1) + 32 from by omega, Nat.pow_add]
    exact (Nat.le_div_iff_mul_le (by decide)).mp d
theorem nlz_lo {v : Nat} (h : v / 2 ^ 32 = 0) : 32 + nlzF 32 (v % 2 ^ 32) = nlzF 64 v := by
  have e : v % 2 ^ 32 = v := Nat.mod_eq_of_lt (by omega)
  rw [e]
  obtain ⟨a, b, c⟩ := nlzF_sp 32 v (by omega)
  refine (nlzF_eq 64 _ v (by omega) ?_ (fun hz => ?_)).symm
  · rw [show 64 - (32 + nlzF 32 v) = 32 - nlzF 32 v from by omega]; exact b
  · rw [show 64 - (32 + nlzF 32 v) - 1 = 32 - nlzF 32 v - 1 from by omega]; exact c (by omega)
theorem c_nlz {X : mX0} {d v : Nat} (hv : v < 2 ^ 64) (Q : mQ) (hq : Q (.inl (some (.int (nI (nlzF 64 v))))) [] 0 0) : mCall mP X (d + 2) 144 [.long (lN v)] [] Q := by
  refine mCall_in pJ13_numberOfLeadingZeros_95d88 80 rfl ?_
  simp only [mS_iload_n, mS_iload, mS_lload_n, mS_lload, mS_aload_n, mS_aload, mS_istore_n, mS_istore, mS_lstore_n, mS_lstore, mS_astore_n, mS_astore, mS_iinc, mS_iconst, mS_bipush, mS_sipush, mS_lconst, mS_ldc, mS_ldc_w, mS_ldc2_w, mS_getstatic, mS_iadd, mS_isub, mS_imul, mS_iand, mS_ior, mS_ixor, mS_ishl, mS_ishr, mS_iushr, mS_idiv, mS_irem, mS_ladd, mS_lsub, mS_lmul, mS_land, mS_lor, mS_lxor, mS_ldiv, mS_lrem, mS_lneg, mS_lshl, mS_lushr, mS_lcmp, mS_i2l, mS_l2i, mS_i2b, mS_dup_i, mS_dup_r, mS_dup2, mS_pop, mS_if_eq, mS_if_ne, mS_if_lt, mS_if_ge, mS_if_gt, mS_if_le, mS_icmp_eq, mS_icmp_ne, mS_icmp_lt, mS_icmp_ge, mS_icmp_gt, mS_icmp_le, mS_goto, mS_tsw, mS_lsw, mS_getfield, mS_putfield, mS_iaload, mS_iaload0, mS_baload, mS_laload, mS_laload1, mS_iastore, mS_bastore, mS_lastore, mS_alen, mS_alen0, mS_alen1, mS_newa_byte, mS_newa_int, mS_newa_long, mS_throw, mS_new, mS_oinit, mS_ireturn, mS_zreturn, mS_lreturn, mS_return, mS_mmin, mS_mmax, mS_mabs, mRun_go, mGo_t, mGo_f, mAt, mPut, mSt1, mSt2, mKill, mFit, mEnt, mPad, mSw, Nat.reduceAdd, Nat.reduceSub, Nat.reduceMod, Nat.reduceLT, Nat.reduceLeDiff, List.length_cons, List.length_nil, true_and, and_true, Option.some.injEq, Nat.zero_add, Classical.not_not, cmp_lt, cmp_ge, cmp_eq, cmp_gt, cmp_le, mAfter_v, mAfter_i, mAfter_l, mBack, mBk, mFrom, mRnC_l, mRnC_r, mRn_i, mRn_l, mRn_r, mRn_n, mRn_f, List.map_cons, List.map_nil, List.cons_append, List.nil_append, List.append_nil, Option.getD_some, Nat.add_zero, TJ13_numberOfLeadingZeros_95d88_0, hiL hv, loL v, nI_z (show v / 2 ^ 32 < 2 ^ 32 from by omega)]
  refine ⟨fun h => ?_, fun h => ?_⟩
  · (refine mWP_s 80 (by simp only [TJ13_numberOfLeadingZeros_95d88_0]; rfl) [] [] (c_nlz32 (d := d) (u := v / 2 ^ 32) (by omega)) rfl rfl rfl rfl rfl (Nat.le_of_ble_eq_true rfl) rfl rfl rfl ?_; simp only [mS_iload_n, mS_iload, mS_lload_n, mS_lload, mS_aload_n, mS_aload, mS_istore_n, mS_istore, mS_lstore_n, mS_lstore, mS_astore_n, mS_astore, mS_iinc, mS_iconst, mS_bipush, mS_sipush, mS_lconst, mS_ldc, mS_ldc_w, mS_ldc2_w, mS_getstatic, mS_iadd, mS_isub, mS_imul, mS_iand, mS_ior, mS_ixor, mS_ishl, mS_ishr, mS_iushr, mS_idiv, mS_irem, mS_ladd, mS_lsub, mS_lmul, mS_land, mS_lor, mS_lxor, mS_ldiv, mS_lrem, mS_lneg, mS_lshl, mS_lushr, mS_lcmp, mS_i2l, mS_l2i, mS_i2b, mS_dup_i, mS_dup_r, mS_dup2, mS_pop, mS_if_eq, mS_if_ne, mS_if_lt, mS_if_ge, mS_if_gt, mS_if_le, mS_icmp_eq, mS_icmp_ne, mS_icmp_lt, mS_icmp_ge, mS_icmp_gt, mS_icmp_le, mS_goto, mS_tsw, mS_lsw, mS_getfield, mS_putfield, mS_iaload, mS_iaload0, mS_baload, mS_laload, mS_laload1, mS_iastore, mS_bastore, mS_lastore, mS_alen, mS_alen0, mS_alen1, mS_newa_byte, mS_newa_int, mS_newa_long, mS_throw, mS_new, mS_oinit, mS_ireturn, mS_zreturn, mS_lreturn, mS_return, mS_mmin, mS_mmax, mS_mabs, mRun_go, mGo_t, mGo_f, mAt, mPut, mSt1, mSt2, mKill, mFit, mEnt, mPad, mSw, Nat.reduceAdd, Nat.reduceSub, Nat.reduceMod, Nat.reduceLT, Nat.reduceLeDiff, List.length_cons, List.length_nil, true_and, and_true, Option.some.injEq, Nat.zero_add, Classical.not_not, cmp_lt, cmp_ge, cmp_eq, cmp_gt, cmp_le, mAfter_v, mAfter_i, mAfter_l, mBack, mBk, mFrom, mRnC_l, mRnC_r, mRn_i, mRn_l, mRn_r, mRn_n, mRn_f, List.map_cons, List.map_nil, List.cons_append, List.nil_append, List.append_nil, Option.getD_some, Nat.add_zero, TJ13_numberOfLeadingZeros_95d88_0])
    rw [nlz_hi h hv]
    exact hq
  · (refine mWP_s 80 (by simp only [TJ13_numberOfLeadingZeros_95d88_0]; rfl) [] [.int 32] (c_nlz32 (d := d) (u := v % 2 ^ 32) (by omega)) rfl rfl rfl rfl rfl (Nat.le_of_ble_eq_true rfl) rfl rfl rfl ?_; simp only [mS_iload_n, mS_iload, mS_lload_n, mS_lload, mS_aload_n, mS_aload, mS_istore_n, mS_istore, mS_lstore_n, mS_lstore, mS_astore_n, mS_astore, mS_iinc, mS_iconst, mS_bipush, mS_sipush, mS_lconst, mS_ldc, mS_ldc_w, mS_ldc2_w, mS_getstatic, mS_iadd, mS_isub, mS_imul, mS_iand, mS_ior, mS_ixor, mS_ishl, mS_ishr, mS_iushr, mS_idiv, mS_irem, mS_ladd, mS_lsub, mS_lmul, mS_land, mS_lor, mS_lxor, mS_ldiv, mS_lrem, mS_lneg, mS_lshl, mS_lushr, mS_lcmp, mS_i2l, mS_l2i, mS_i2b, mS_dup_i, mS_dup_r, mS_dup2, mS_pop, mS_if_eq, mS_if_ne, mS_if_lt, mS_if_ge, mS_if_gt, mS_if_le, mS_icmp_eq, mS_icmp_ne, mS_icmp_lt, mS_icmp_ge, mS_icmp_gt, mS_icmp_le, mS_goto, mS_tsw, mS_lsw, mS_getfield, mS_putfield, mS_iaload, mS_iaload0, mS_baload, mS_laload, mS_laload1, mS_iastore, mS_bastore, mS_lastore, mS_alen, mS_alen0, mS_alen1, mS_newa_byte, mS_newa_int, mS_newa_long, mS_throw, mS_new, mS_oinit, mS_ireturn, mS_zreturn, mS_lreturn, mS_return, mS_mmin, mS_mmax, mS_mabs, mRun_go, mGo_t, mGo_f, mAt, mPut, mSt1, mSt2, mKill, mFit, mEnt, mPad, mSw, Nat.reduceAdd, Nat.reduceSub, Nat.reduceMod, Nat.reduceLT, Nat.reduceLeDiff, List.length_cons, List.length_nil, true_and, and_true, Option.some.injEq, Nat.zero_add, Classical.not_not, cmp_lt, cmp_ge, cmp_eq, cmp_gt, cmp_le, mAfter_v, mAfter_i, mAfter_l, mBack, mBk, mFrom, mRnC_l, mRnC_r, mRn_i, mRn_l, mRn_r, mRn_n, mRn_f, List.map_cons, List.map_nil, List.cons_append, List.nil_append, List.append_nil, Option.getD_some, Nat.add_zero, TJ13_numberOfLeadingZeros_95d88_0])
    rw [i_32, nI_add, nlz_lo h]
    exact hq
theorem and_tz {u t q : Nat} (hu : u < 2 ^ 32) (e : u = 2 ^ t * (2 * q + 1)) : (2 ^ 32 - (u + 1)) &&& (u - 1) = 2 ^ t - 1 := by
  apply Nat.eq_of_testBit_eq
  intro i
  have hp : 0 < 2 ^ t := Nat.pow_pos (by decide)
  have e1 : u - 1 = 2 ^ t * (2 * q) + (2 ^ t - 1) := by rw [e, Nat.mul_add]; omega
  have e2 : u = 2 ^ t * (2 * q + 1) + 0 := e
  rw [Nat.testBit_and, Nat.testBit_two_pow_sub_succ hu, e1, Nat.testBit_two_pow_mul_add _ (by omega), Nat.testBit_two_pow_sub_one, e2, Nat.testBit_two_pow_mul_add _ hp]
  rcases Nat.lt_or_ge i t with z | z
  · have ht : i < 32 := by
      rcases Nat.lt_or_ge i 32 with y | y
      · exact y
      · have : 2 ^ 32 ≤ 2 ^ t := Nat.pow_le_pow_right (by decide) (by omega)
        have : 2 ^ t * 1 ≤ 2 ^ t * (2 * q + 1) := Nat.mul_le_mul_left _ (by omega)
        omega
    simp [z, ht]
  · rw [if_neg (by omega), if_neg (by omega)]
    rcases Nat.lt_or_ge t i with y | y
    · have a1 : (2 * q + 1).testBit (i - t) = q.testBit (i - t - 1) := by
        rw [show i - t = (i - t - 1) + 1 from by omega, Nat.testBit_succ, show (2 * q + 1) / 2 = q from by omega]
        rfl
      have a2 : (2 * q).testBit (i - t) = q.testBit (i - t - 1) := by
        rw [show i - t = (i - t - 1) + 1 from by omega, Nat.testBit_succ, show (2 * q) / 2 = q from by omega]
        rfl
      rw [a1, a2, decide_eq_false (by omega : ¬ i < t)]
      cases q.testBit (i - t - 1) <;> simp
    · rw [show i - t = 0 from by omega, decide_eq_false (by omega : ¬ i < t)]
      simp [Nat.testBit_zero]
theorem nI_not {u : Nat} (hu : u < 2 ^ 32) : nI u ^^^ (-1) = nI (2 ^ 32 - (u + 1)) := by
  rw [show (-1 : Int32) = nI (2 ^ 32 - 1) from rfl, nx_xor]
  congr 1
  apply Nat.eq_of_testBit_eq
  intro i
  rw [Nat.testBit_xor, Nat.testBit_two_pow_sub_one, Nat.testBit_two_pow_sub_succ hu]
  rcases Nat.lt_or_ge i 32 with z | z
  · simp [z]
  · rw [Nat.testBit_lt_two_pow (Nat.lt_of_lt_of_le hu (Nat.pow_le_pow_right (by decide) z))]
    simp
theorem c_ntz32 {X : mX0} {d u : Nat} (hu : u < 2 ^ 32) (Q : mQ) (hq : Q (.inl (some (.int (nI (ntzF 32 u))))) [] 0 0) : mCall mP X (d + 1) 143 [.int (nI u)] [] Q := by
  refine mCall_in pJ6_numberOfTrailingZeros_0f7a4 80 rfl ?_
  simp only [mS_iload_n, mS_iload, mS_lload_n, mS_lload, mS_aload_n, mS_aload, mS_istore_n, mS_istore, mS_lstore_n, mS_lstore, mS_astore_n, mS_astore, mS_iinc, mS_iconst, mS_bipush, mS_sipush, mS_lconst, mS_ldc, mS_ldc_w, mS_ldc2_w, mS_getstatic, mS_iadd, mS_isub, mS_imul, mS_iand, mS_ior, mS_ixor, mS_ishl, mS_ishr, mS_iushr, mS_idiv, mS_irem, mS_ladd, mS_lsub, mS_lmul, mS_land, mS_lor, mS_lxor, mS_ldiv, mS_lrem, mS_lneg, mS_lshl, mS_lushr, mS_lcmp, mS_i2l, mS_l2i, mS_i2b, mS_dup_i, mS_dup_r, mS_dup2, mS_pop, mS_if_eq, mS_if_ne, mS_if_lt, mS_if_ge, mS_if_gt, mS_if_le, mS_icmp_eq, mS_icmp_ne, mS_icmp_lt, mS_icmp_ge, mS_icmp_gt, mS_icmp_le, mS_goto, mS_tsw, mS_lsw, mS_getfield, mS_putfield, mS_iaload, mS_iaload0, mS_baload, mS_laload, mS_laload1, mS_iastore, mS_bastore, mS_lastore, mS_alen, mS_alen0, mS_alen1, mS_newa_byte, mS_newa_int, mS_newa_long, mS_throw, mS_new, mS_oinit, mS_ireturn, mS_zreturn, mS_lreturn, mS_return, mS_mmin, mS_mmax, mS_mabs, mRun_go, mGo_t, mGo_f, mAt, mPut, mSt1, mSt2, mKill, mFit, mEnt, mPad, mSw, Nat.reduceAdd, Nat.reduceSub, Nat.reduceMod, Nat.reduceLT, Nat.reduceLeDiff, List.length_cons, List.length_nil, true_and, and_true, Option.some.injEq, Nat.zero_add, Classical.not_not, cmp_lt, cmp_ge, cmp_eq, cmp_gt, cmp_le, mAfter_v, mAfter_i, mAfter_l, mBack, mBk, mFrom, mRnC_l, mRnC_r, mRn_i, mRn_l, mRn_r, mRn_n, mRn_f, List.map_cons, List.map_nil, List.cons_append, List.nil_append, List.append_nil, Option.getD_some, Nat.add_zero, TJ6_numberOfTrailingZeros_0f7a4_0]
  by_cases h00 : u = 0
  · subst h00
    rw [ntzF_0] at hq
    have e : (nI 0 ^^^ (-1)) &&& (nI 0 - 1) = -1 := by decide +kernel
    rw [e]
    refine ⟨fun h => absurd h (by decide), fun _ => ?_⟩
    rw [show (-1 : Int32) &&& 32 = nI 32 from by decide +kernel]
    exact hq
  · obtain ⟨t1, t2, t3⟩ := ntzF_sp 32 u h00 hu
    generalize ht : ntzF 32 u = t at t1 t2 t3 hq
    have hqq : ∀ y : Int32, y = nI t → Q (.inl (some (.int y))) [] 0 0 := fun y e => by rw [e]; exact hq
    have eu : u = 2 ^ t * (2 * (u / 2 ^ t / 2) + 1) := by
      have a := Nat.div_add_mod u (2 ^ t)
      have b : 2 * (u / 2 ^ t / 2) + 1 = u / 2 ^ t := by omega
      rw [b]
      omega
    have e : (nI u ^^^ (-1)) &&& (nI u - 1) = nI (2 ^ t - 1) := by
      rw [nI_not hu, show (1 : Int32) = nI 1 from rfl, pk_sub (by omega), nx_and, and_tz hu eu]
    rw [e]
    have hy : 2 ^ t - 1 < 2 ^ 31 := by
      have : 2 ^ t ≤ 2 ^ 31 := Nat.pow_le_pow_right (by decide) (by omega)
      omega
    generalize hY : 2 ^ t - 1 = y at hy
    simp (disch := omega) only [i_0, i_1, i_2, i_3, i_4, i_5, i_6, i_7, i_8, i_9, i_10, i_11, i_12, i_13, i_15, i_16, i_27, i_28, i_31, i_32, i_52, i_54, i_56, i_63, i_64, i_88, i_128, i_255, i_256, i_257, i_2048, i_4000, i_65521, i_1048576, i_1075, nI_ofNat, nI_lt_iff, nI_le_iff, nI_eq_iff, nI_add, pk_mul, pk_sub, pk_div, pk_rem, nI_clamp, Nat.add_sub_cancel, Nat.reduceAdd, Nat.reduceSub, Nat.reduceMul, Nat.reduceDiv, Nat.reduceMod, Nat.reduceLT, Nat.reduceLeDiff, Nat.reduceEqDiff, Nat.add_zero, Nat.zero_add, n_rem, not_false_eq_true, not_true_eq_false, true_and, and_true, true_or, or_true, true_implies, false_implies, Nat.not_lt_zero, Nat.zero_le, ush16, ush8, ush4, ush2, ush1, i_65536]
    refine ⟨fun h0 => ?_, fun h0 => ?_⟩
    · have h9 : 1 ≤ t := by
        rcases Nat.lt_or_ge t 1 with z | z
        · rw [show t = 0 from by omega] at hY
          simp at hY
          omega
        · exact z
      subst hY
      refine ⟨fun h1 => ?_, fun h1 => ?_⟩
      · refine ⟨fun h2 => ?_, fun h2 => ?_⟩
        · refine ⟨fun h3 => ?_, fun h3 => ?_⟩
          · refine ⟨fun h4 => ?_, fun h4 => ?_⟩
            · refine hqq _ ?_
              have key : ∀ t : Fin 32, (2 ^ t.val - 1) ≤ 65536 → (2 ^ t.val - 1) ≤ 256 → (2 ^ t.val - 1) ≤ 16 → (2 ^ t.val - 1) ≤ 4 → 1 ≤ t.val → 1 + (2 ^ t.val - 1) / 2 = t.val := by decide +kernel
              simp (disch := omega) only [i_0, i_1, i_2, i_3, i_4, i_5, i_6, i_7, i_8, i_9, i_10, i_11, i_12, i_13, i_15, i_16, i_27, i_28, i_31, i_32, i_52, i_54, i_56, i_63, i_64, i_88, i_128, i_255, i_256, i_257, i_2048, i_4000, i_65521, i_1048576, i_1075, nI_ofNat, nI_lt_iff, nI_le_iff, nI_eq_iff, nI_add, pk_mul, pk_sub, pk_div, pk_rem, nI_clamp, Nat.add_sub_cancel, Nat.reduceAdd, Nat.reduceSub, Nat.reduceMul, Nat.reduceDiv, Nat.reduceMod, Nat.reduceLT, Nat.reduceLeDiff, Nat.reduceEqDiff, Nat.add_zero, Nat.zero_add, n_rem, not_false_eq_true, not_true_eq_false, true_and, and_true, true_or, or_true, true_implies, false_implies, Nat.not_lt_zero, Nat.zero_le]
              exact key ⟨t, by omega⟩ h1 h2 h3 h4 h9
            · refine hqq _ ?_
              have key : ∀ t : Fin 32, (2 ^ t.val - 1) ≤ 65536 → (2 ^ t.val - 1) ≤ 256 → (2 ^ t.val - 1) ≤ 16 → ¬ (2 ^ t.val - 1) ≤ 4 → 1 ≤ t.val → 3 + (2 ^ t.val - 1) / 4 / 2 = t.val := by decide +kernel
              simp (disch := omega) only [i_0, i_1, i_2, i_3, i_4, i_5, i_6, i_7, i_8, i_9, i_10, i_11, i_12, i_13, i_15, i_16, i_27, i_28, i_31, i_32, i_52, i_54, i_56, i_63, i_64, i_88, i_128, i_255, i_256, i_257, i_2048, i_4000, i_65521, i_1048576, i_1075, nI_ofNat, nI_lt_iff, nI_le_iff, nI_eq_iff, nI_add, pk_mul, pk_sub, pk_div, pk_rem, nI_clamp, Nat.add_sub_cancel, Nat.reduceAdd, Nat.reduceSub, Nat.reduceMul, Nat.reduceDiv, Nat.reduceMod, Nat.reduceLT, Nat.reduceLeDiff, Nat.reduceEqDiff, Nat.add_zero, Nat.zero_add, n_rem, not_false_eq_true, not_true_eq_false, true_and, and_true, true_or, or_true, true_implies, false_implies, Nat.not_lt_zero, Nat.zero_le]
              exact key ⟨t, by omega⟩ h1 h2 h3 h4 h9
          · refine ⟨fun h4 => ?_, fun h4 => ?_⟩
            · refine hqq _ ?_
              have key : ∀ t : Fin 32, (2 ^ t.val - 1) ≤ 65536 → (2 ^ t.val - 1) ≤ 256 → ¬ (2 ^ t.val - 1) ≤ 16 → (2 ^ t.val - 1) / 16 ≤ 4 → 1 ≤ t.val → 5 + (2 ^ t.val - 1) / 16 / 2 = t.val := by decide +kernel
              simp (disch := omega) only [i_0, i_1, i_2, i_3, i_4, i_5, i_6, i_7, i_8, i_9, i_10, i_11, i_12, i_13, i_15, i_16, i_27, i_28, i_31, i_32, i_52, i_54, i_56, i_63, i_64, i_88, i_128, i_255, i_256, i_257, i_2048, i_4000, i_65521, i_1048576, i_1075, nI_ofNat, nI_lt_iff, nI_le_iff, nI_eq_iff, nI_add, pk_mul, pk_sub, pk_div, pk_rem, nI_clamp, Nat.add_sub_cancel, Nat.reduceAdd, Nat.reduceSub, Nat.reduceMul, Nat.reduceDiv, Nat.reduceMod, Nat.reduceLT, Nat.reduceLeDiff, Nat.reduceEqDiff, Nat.add_zero, Nat.zero_add, n_rem, not_false_eq_true, not_true_eq_false, true_and, and_true, true_or, or_true, true_implies, false_implies, Nat.not_lt_zero, Nat.zero_le]
              exact key ⟨t, by omega⟩ h1 h2 h3 h4 h9
            · refine hqq _ ?_
              have key : ∀ t : Fin 32, (2 ^ t.val - 1) ≤ 65536 → (2 ^ t.val - 1) ≤ 256 → ¬ (2 ^ t.val - 1) ≤ 16 → ¬ (2 ^ t.val - 1) / 16 ≤ 4 → 1 ≤ t.val → 7 + (2 ^ t.val - 1) / 16 / 4 / 2 = t.val := by decide +kernel
              simp (disch := omega) only [i_0, i_1, i_2, i_3, i_4, i_5, i_6, i_7, i_8, i_9, i_10, i_11, i_12, i_13, i_15, i_16, i_27, i_28, i_31, i_32, i_52, i_54, i_56, i_63, i_64, i_88, i_128, i_255, i_256, i_257, i_2048, i_4000, i_65521, i_1048576, i_1075, nI_ofNat, nI_lt_iff, nI_le_iff, nI_eq_iff, nI_add, pk_mul, pk_sub, pk_div, pk_rem, nI_clamp, Nat.add_sub_cancel, Nat.reduceAdd, Nat.reduceSub, Nat.reduceMul, Nat.reduceDiv, Nat.reduceMod, Nat.reduceLT, Nat.reduceLeDiff, Nat.reduceEqDiff, Nat.add_zero, Nat.zero_add, n_rem, not_false_eq_true, not_true_eq_false, true_and, and_true, true_or, or_true, true_implies, false_implies, Nat.not_lt_zero, Nat.zero_le]
              exact key ⟨t, by omega⟩ h1 h2 h3 h4 h9
        · refine ⟨fun h3 => ?_, fun h3 => ?_⟩
          · refine ⟨fun h4 => ?_, fun h4 => ?_⟩
            · refine hqq _ ?_
              have key : ∀ t : Fin 32, (2 ^ t.val - 1) ≤ 65536 → ¬ (2 ^ t.val - 1) ≤ 256 → (2 ^ t.val - 1) / 256 ≤ 16 → (2 ^ t.val - 1) / 256 ≤ 4 → 1 ≤ t.val → 9 + (2 ^ t.val - 1) / 256 / 2 = t.val := by decide +kernel
              simp (disch := omega) only [i_0, i_1, i_2, i_3, i_4, i_5, i_6, i_7, i_8, i_9, i_10, i_11, i_12, i_13, i_15, i_16, i_27, i_28, i_31, i_32, i_52, i_54, i_56, i_63, i_64, i_88, i_128, i_255, i_256, i_257, i_2048, i_4000, i_65521, i_1048576, i_1075, nI_ofNat, nI_lt_iff, nI_le_iff, nI_eq_iff, nI_add, pk_mul, pk_sub, pk_div, pk_rem, nI_clamp, Nat.add_sub_cancel, Nat.reduceAdd, Nat.reduceSub, Nat.reduceMul, Nat.reduceDiv, Nat.reduceMod, Nat.reduceLT, Nat.reduceLeDiff, Nat.reduceEqDiff, Nat.add_zero, Nat.zero_add, n_rem, not_false_eq_true, not_true_eq_false, true_and, and_true, true_or, or_true, true_implies, false_implies, Nat.not_lt_zero, Nat.zero_le]
              exact key ⟨t, by omega⟩ h1 h2 h3 h4 h9
            · refine hqq _ ?_
              have key : ∀ t : Fin 32, (2 ^ t.val - 1) ≤ 65536 → ¬ (2 ^ t.val - 1) ≤ 256 → (2 ^ t.val - 1) / 256 ≤ 16 → ¬ (2 ^ t.val - 1) / 256 ≤ 4 → 1 ≤ t.val → 11 + (2 ^ t.val - 1) / 256 / 4 / 2 = t.val := by decide +kernel
              simp (disch := omega) only [i_0, i_1, i_2, i_3, i_4, i_5, i_6, i_7, i_8, i_9, i_10, i_11, i_12, i_13, i_15, i_16, i_27, i_28, i_31, i_32, i_52, i_54, i_56, i_63, i_64, i_88, i_128, i_255, i_256, i_257, i_2048, i_4000, i_65521, i_1048576, i_1075, nI_ofNat, nI_lt_iff, nI_le_iff, nI_eq_iff, nI_add, pk_mul, pk_sub, pk_div, pk_rem, nI_clamp, Nat.add_sub_cancel, Nat.reduceAdd, Nat.reduceSub, Nat.reduceMul, Nat.reduceDiv, Nat.reduceMod, Nat.reduceLT, Nat.reduceLeDiff, Nat.reduceEqDiff, Nat.add_zero, Nat.zero_add, n_rem, not_false_eq_true, not_true_eq_false, true_and, and_true, true_or, or_true, true_implies, false_implies, Nat.not_lt_zero, Nat.zero_le]
              exact key ⟨t, by omega⟩ h1 h2 h3 h4 h9
          · refine ⟨fun h4 => ?_, fun h4 => ?_⟩
            · refine hqq _ ?_
              have key : ∀ t : Fin 32, (2 ^ t.val - 1) ≤ 65536 → ¬ (2 ^ t.val - 1) ≤ 256 → ¬ (2 ^ t.val - 1) / 256 ≤ 16 → (2 ^ t.val - 1) / 256 / 16 ≤ 4 → 1 ≤ t.val → 13 + (2 ^ t.val - 1) / 256 / 16 / 2 = t.val := by decide +kernel
              simp (disch := omega) only [i_0, i_1, i_2, i_3, i_4, i_5, i_6, i_7, i_8, i_9, i_10, i_11, i_12, i_13, i_15, i_16, i_27, i_28, i_31, i_32, i_52, i_54, i_56, i_63, i_64, i_88, i_128, i_255, i_256, i_257, i_2048, i_4000, i_65521, i_1048576, i_1075, nI_ofNat, nI_lt_iff, nI_le_iff, nI_eq_iff, nI_add, pk_mul, pk_sub, pk_div, pk_rem, nI_clamp, Nat.add_sub_cancel, Nat.reduceAdd, Nat.reduceSub, Nat.reduceMul, Nat.reduceDiv, Nat.reduceMod, Nat.reduceLT, Nat.reduceLeDiff, Nat.reduceEqDiff, Nat.add_zero, Nat.zero_add, n_rem, not_false_eq_true, not_true_eq_false, true_and, and_true, true_or, or_true, true_implies, false_implies, Nat.not_lt_zero, Nat.zero_le]
              exact key ⟨t, by omega⟩ h1 h2 h3 h4 h9
            · refine hqq _ ?_
              have key : ∀ t : Fin 32, (2 ^ t.val - 1) ≤ 65536 → ¬ (2 ^ t.val - 1) ≤ 256 → ¬ (2 ^ t.val - 1) / 256 ≤ 16 → ¬ (2 ^ t.val - 1) / 256 / 16 ≤ 4 → 1 ≤ t.val → 15 + (2 ^ t.val - 1) / 256 / 16 / 4 / 2 = t.val := by decide +kernel
              simp (disch := omega) only [i_0, i_1, i_2, i_3, i_4, i_5, i_6, i_7, i_8, i_9, i_10, i_11, i_12, i_13, i_15, i_16, i_27, i_28, i_31, i_32, i_52, i_54, i_56, i_63, i_64, i_88, i_128, i_255, i_256, i_257, i_2048, i_4000, i_65521, i_1048576, i_1075, nI_ofNat, nI_lt_iff, nI_le_iff, nI_eq_iff, nI_add, pk_mul, pk_sub, pk_div, pk_rem, nI_clamp, Nat.add_sub_cancel, Nat.reduceAdd, Nat.reduceSub, Nat.reduceMul, Nat.reduceDiv, Nat.reduceMod, Nat.reduceLT, Nat.reduceLeDiff, Nat.reduceEqDiff, Nat.add_zero, Nat.zero_add, n_rem, not_false_eq_true, not_true_eq_false, true_and, and_true, true_or, or_true, true_implies, false_implies, Nat.not_lt_zero, Nat.zero_le]
              exact key ⟨t, by omega⟩ h1 h2 h3 h4 h9
      · refine ⟨fun h2 => ?_, fun h2 => ?_⟩
        · refine ⟨fun h3 => ?_, fun h3 => ?_⟩
          · refine ⟨fun h4 => ?_, fun h4 => ?_⟩
            · refine hqq _ ?_
              have key : ∀ t : Fin 32, ¬ (2 ^ t.val - 1) ≤ 65536 → (2 ^ t.val - 1) / 65536 ≤ 256 → (2 ^ t.val - 1) / 65536 ≤ 16 → (2 ^ t.val - 1) / 65536 ≤ 4 → 1 ≤ t.val → 17 + (2 ^ t.val - 1) / 65536 / 2 = t.val := by decide +kernel
              simp (disch := omega) only [i_0, i_1, i_2, i_3, i_4, i_5, i_6, i_7, i_8, i_9, i_10, i_11, i_12, i_13, i_15, i_16, i_27, i_28, i_31, i_32, i_52, i_54, i_56, i_63, i_64, i_88, i_128, i_255, i_256, i_257, i_2048, i_4000, i_65521, i_1048576, i_1075, nI_ofNat, nI_lt_iff, nI_le_iff, nI_eq_iff, nI_add, pk_mul, pk_sub, pk_div, pk_rem, nI_clamp, Nat.add_sub_cancel, Nat.reduceAdd, Nat.reduceSub, Nat.reduceMul, Nat.reduceDiv, Nat.reduceMod, Nat.reduceLT, Nat.reduceLeDiff, Nat.reduceEqDiff, Nat.add_zero, Nat.zero_add, n_rem, not_false_eq_true, not_true_eq_false, true_and, and_true, true_or, or_true, true_implies, false_implies, Nat.not_lt_zero, Nat.zero_le]
              exact key ⟨t, by omega⟩ h1 h2 h3 h4 h9
            · refine hqq _ ?_
              have key : ∀ t : Fin 32, ¬ (2 ^ t.val - 1) ≤ 65536 → (2 ^ t.val - 1) / 65536 ≤ 256 → (2 ^ t.val - 1) / 65536 ≤ 16 → ¬ (2 ^ t.val - 1) / 65536 ≤ 4 → 1 ≤ t.val → 19 + (2 ^ t.val - 1) / 65536 / 4 / 2 = t.val := by decide +kernel
              simp (disch := omega) only [i_0, i_1, i_2, i_3, i_4, i_5, i_6, i_7, i_8, i_9, i_10, i_11, i_12, i_13, i_15, i_16, i_27, i_28, i_31, i_32, i_52, i_54, i_56, i_63, i_64, i_88, i_128, i_255, i_256, i_257, i_2048, i_4000, i_65521, i_1048576, i_1075, nI_ofNat, nI_lt_iff, nI_le_iff, nI_eq_iff, nI_add, pk_mul, pk_sub, pk_div, pk_rem, nI_clamp, Nat.add_sub_cancel, Nat.reduceAdd, Nat.reduceSub, Nat.reduceMul, Nat.reduceDiv, Nat.reduceMod, Nat.reduceLT, Nat.reduceLeDiff, Nat.reduceEqDiff, Nat.add_zero, Nat.zero_add, n_rem, not_false_eq_true, not_true_eq_false, true_and, and_true, true_or, or_true, true_implies, false_implies, Nat.not_lt_zero, Nat.zero_le]
              exact key ⟨t, by omega⟩ h1 h2 h3 h4 h9
          · refine ⟨fun h4 => ?_, fun h4 => ?_⟩
            · refine hqq _ ?_
              have key : ∀ t : Fin 32, ¬ (2 ^ t.val - 1) ≤ 65536 → (2 ^ t.val - 1) / 65536 ≤ 256 → ¬ (2 ^ t.val - 1) / 65536 ≤ 16 → (2 ^ t.val - 1) / 65536 / 16 ≤ 4 → 1 ≤ t.val → 21 + (2 ^ t.val - 1) / 65536 / 16 / 2 = t.val := by decide +kernel
              simp (disch := omega) only [i_0, i_1, i_2, i_3, i_4, i_5, i_6, i_7, i_8, i_9, i_10, i_11, i_12, i_13, i_15, i_16, i_27, i_28, i_31, i_32, i_52, i_54, i_56, i_63, i_64, i_88, i_128, i_255, i_256, i_257, i_2048, i_4000, i_65521, i_1048576, i_1075, nI_ofNat, nI_lt_iff, nI_le_iff, nI_eq_iff, nI_add, pk_mul, pk_sub, pk_div, pk_rem, nI_clamp, Nat.add_sub_cancel, Nat.reduceAdd, Nat.reduceSub, Nat.reduceMul, Nat.reduceDiv, Nat.reduceMod, Nat.reduceLT, Nat.reduceLeDiff, Nat.reduceEqDiff, Nat.add_zero, Nat.zero_add, n_rem, not_false_eq_true, not_true_eq_false, true_and, and_true, true_or, or_true, true_implies, false_implies, Nat.not_lt_zero, Nat.zero_le]
              exact key ⟨t, by omega⟩ h1 h2 h3 h4 h9
            · refine hqq _ ?_
              have key : ∀ t : Fin 32, ¬ (2 ^ t.val - 1) ≤ 65536 → (2 ^ t.val - 1) / 65536 ≤ 256 → ¬ (2 ^ t.val - 1) / 65536 ≤ 16 → ¬ (2 ^ t.val - 1) / 65536 / 16 ≤ 4 → 1 ≤ t.val → 23 + (2 ^ t.val - 1) / 65536 / 16 / 4 / 2 = t.val := by decide +kernel
              simp (disch := omega) only [i_0, i_1, i_2, i_3, i_4, i_5, i_6, i_7, i_8, i_9, i_10, i_11, i_12, i_13, i_15, i_16, i_27, i_28, i_31, i_32, i_52, i_54, i_56, i_63, i_64, i_88, i_128, i_255, i_256, i_257, i_2048, i_4000, i_65521, i_1048576, i_1075, nI_ofNat, nI_lt_iff, nI_le_iff, nI_eq_iff, nI_add, pk_mul, pk_sub, pk_div, pk_rem, nI_clamp, Nat.add_sub_cancel, Nat.reduceAdd, Nat.reduceSub, Nat.reduceMul, Nat.reduceDiv, Nat.reduceMod, Nat.reduceLT, Nat.reduceLeDiff, Nat.reduceEqDiff, Nat.add_zero, Nat.zero_add, n_rem, not_false_eq_true, not_true_eq_false, true_and, and_true, true_or, or_true, true_implies, false_implies, Nat.not_lt_zero, Nat.zero_le]
              exact key ⟨t, by omega⟩ h1 h2 h3 h4 h9
        · refine ⟨fun h3 => ?_, fun h3 => ?_⟩
          · refine ⟨fun h4 => ?_, fun h4 => ?_⟩
            · refine hqq _ ?_
              have key : ∀ t : Fin 32, ¬ (2 ^ t.val - 1) ≤ 65536 → ¬ (2 ^ t.val - 1) / 65536 ≤ 256 → (2 ^ t.val - 1) / 65536 / 256 ≤ 16 → (2 ^ t.val - 1) / 65536 / 256 ≤ 4 → 1 ≤ t.val → 25 + (2 ^ t.val - 1) / 65536 / 256 / 2 = t.val := by decide +kernel
              simp (disch := omega) only [i_0, i_1, i_2, i_3, i_4, i_5, i_6, i_7, i_8, i_9, i_10, i_11, i_12, i_13, i_15, i_16, i_27, i_28, i_31, i_32, i_52, i_54, i_56, i_63, i_64, i_88, i_128, i_255, i_256, i_257, i_2048, i_4000, i_65521, i_1048576, i_1075, nI_ofNat, nI_lt_iff, nI_le_iff, nI_eq_iff, nI_add, pk_mul, pk_sub, pk_div, pk_rem, nI_clamp, Nat.add_sub_cancel, Nat.reduceAdd, Nat.reduceSub, Nat.reduceMul, Nat.reduceDiv, Nat.reduceMod, Nat.reduceLT, Nat.reduceLeDiff, Nat.reduceEqDiff, Nat.add_zero, Nat.zero_add, n_rem, not_false_eq_true, not_true_eq_false, true_and, and_true, true_or, or_true, true_implies, false_implies, Nat.not_lt_zero, Nat.zero_le]
              exact key ⟨t, by omega⟩ h1 h2 h3 h4 h9
            · refine hqq _ ?_
              have key : ∀ t : Fin 32, ¬ (2 ^ t.val - 1) ≤ 65536 → ¬ (2 ^ t.val - 1) / 65536 ≤ 256 → (2 ^ t.val - 1) / 65536 / 256 ≤ 16 → ¬ (2 ^ t.val - 1) / 65536 / 256 ≤ 4 → 1 ≤ t.val → 27 + (2 ^ t.val - 1) / 65536 / 256 / 4 / 2 = t.val := by decide +kernel
              simp (disch := omega) only [i_0, i_1, i_2, i_3, i_4, i_5, i_6, i_7, i_8, i_9, i_10, i_11, i_12, i_13, i_15, i_16, i_27, i_28, i_31, i_32, i_52, i_54, i_56, i_63, i_64, i_88, i_128, i_255, i_256, i_257, i_2048, i_4000, i_65521, i_1048576, i_1075, nI_ofNat, nI_lt_iff, nI_le_iff, nI_eq_iff, nI_add, pk_mul, pk_sub, pk_div, pk_rem, nI_clamp, Nat.add_sub_cancel, Nat.reduceAdd, Nat.reduceSub, Nat.reduceMul, Nat.reduceDiv, Nat.reduceMod, Nat.reduceLT, Nat.reduceLeDiff, Nat.reduceEqDiff, Nat.add_zero, Nat.zero_add, n_rem, not_false_eq_true, not_true_eq_false, true_and, and_true, true_or, or_true, true_implies, false_implies, Nat.not_lt_zero, Nat.zero_le]
              exact key ⟨t, by omega⟩ h1 h2 h3 h4 h9
          · refine ⟨fun h4 => ?_, fun h4 => ?_⟩
            · refine hqq _ ?_
              have key : ∀ t : Fin 32, ¬ (2 ^ t.val - 1) ≤ 65536 → ¬ (2 ^ t.val - 1) / 65536 ≤ 256 → ¬ (2 ^ t.val - 1) / 65536 / 256 ≤ 16 → (2 ^ t.val - 1) / 65536 / 256 / 16 ≤ 4 → 1 ≤ t.val → 29 + (2 ^ t.val - 1) / 65536 / 256 / 16 / 2 = t.val := by decide +kernel
              simp (disch := omega) only [i_0, i_1, i_2, i_3, i_4, i_5, i_6, i_7, i_8, i_9, i_10, i_11, i_12, i_13, i_15, i_16, i_27, i_28, i_31, i_32, i_52, i_54, i_56, i_63, i_64, i_88, i_128, i_255, i_256, i_257, i_2048, i_4000, i_65521, i_1048576, i_1075, nI_ofNat, nI_lt_iff, nI_le_iff, nI_eq_iff, nI_add, pk_mul, pk_sub, pk_div, pk_rem, nI_clamp, Nat.add_sub_cancel, Nat.reduceAdd, Nat.reduceSub, Nat.reduceMul, Nat.reduceDiv, Nat.reduceMod, Nat.reduceLT, Nat.reduceLeDiff, Nat.reduceEqDiff, Nat.add_zero, Nat.zero_add, n_rem, not_false_eq_true, not_true_eq_false, true_and, and_true, true_or, or_true, true_implies, false_implies, Nat.not_lt_zero, Nat.zero_le]
              exact key ⟨t, by omega⟩ h1 h2 h3 h4 h9
            · refine hqq _ ?_
              have key : ∀ t : Fin 32, ¬ (2 ^ t.val - 1) ≤ 65536 → ¬ (2 ^ t.val - 1) / 65536 ≤ 256 → ¬ (2 ^ t.val - 1) / 65536 / 256 ≤ 16 → ¬ (2 ^ t.val - 1) / 65536 / 256 / 16 ≤ 4 → 1 ≤ t.val → 31 + (2 ^ t.val - 1) / 65536 / 256 / 16 / 4 / 2 = t.val := by decide +kernel
              simp (disch := omega) only [i_0, i_1, i_2, i_3, i_4, i_5, i_6, i_7, i_8, i_9, i_10, i_11, i_12, i_13, i_15, i_16, i_27, i_28, i_31, i_32, i_52, i_54, i_56, i_63, i_64, i_88, i_128, i_255, i_256, i_257, i_2048, i_4000, i_65521, i_1048576, i_1075, nI_ofNat, nI_lt_iff, nI_le_iff, nI_eq_iff, nI_add, pk_mul, pk_sub, pk_div, pk_rem, nI_clamp, Nat.add_sub_cancel, Nat.reduceAdd, Nat.reduceSub, Nat.reduceMul, Nat.reduceDiv, Nat.reduceMod, Nat.reduceLT, Nat.reduceLeDiff, Nat.reduceEqDiff, Nat.add_zero, Nat.zero_add, n_rem, not_false_eq_true, not_true_eq_false, true_and, and_true, true_or, or_true, true_implies, false_implies, Nat.not_lt_zero, Nat.zero_le]
              exact key ⟨t, by omega⟩ h1 h2 h3 h4 h9
    · refine hqq _ ?_
      have : t = 0 := by
        rcases Nat.lt_or_ge t 1 with z | z
        · omega
        · have : 2 ^ 1 ≤ 2 ^ t := Nat.pow_le_pow_right (by decide) z
          omega
      rw [this, show y = 0 from by omega]
      decide +kernel
theorem ntz_lo {v : Nat} (h : ¬ v % 2 ^ 32 = 0) : ntzF 32 (v % 2 ^ 32) = ntzF 64 v := by
  obtain ⟨a, b, c⟩ := ntzF_sp 32 (v % 2 ^ 32) h (Nat.mod_lt _ (by decide))
  generalize ntzF 32 (v % 2 ^ 32) = t at a b c
  have e : (2 : Nat) ^ 32 = 2 ^ t * 2 ^ (32 - t) := by rw [← Nat.pow_add]; congr 1; omega
  have e2 : (2 : Nat) ^ (32 - t) = 2 * 2 ^ (31 - t) := by rw [← pow_s]; congr 1; omega
  refine (ntzF_eq 64 t v (by omega) ?_ ?_).symm
  · rw [← b, e, Nat.mod_mul_right_mod]
  · rw [← c, e, Nat.mod_mul_right_div_self, e2, Nat.mod_mul_right_mod]
theorem ntz_hi {v : Nat} (h : v % 2 ^ 32 = 0) (hv : v < 2 ^ 64) : 32 + ntzF 32 (v / 2 ^ 32) = ntzF 64 v := by
  by_cases h0 : v / 2 ^ 32 = 0
  · rw [h0, show v = 0 from by omega, ntzF_0, ntzF_0]
  · obtain ⟨a, b, c⟩ := ntzF_sp 32 (v / 2 ^ 32) h0 (by omega)
    generalize ntzF 32 (v / 2 ^ 32) = t at a b c
    refine (ntzF_eq 64 (32 + t) v (by omega) ?_ ?_).symm
    · rw [Nat.pow_add, Nat.mod_mul, h, b]
    · rw [Nat.pow_add, ← Nat.div_div_eq_div_mul]; exact c
theorem c_ntz {X : mX0} {d v : Nat} (hv : v < 2 ^ 64) (Q : mQ) (hq : Q (.inl (some (.int (nI (ntzF 64 v))))) [] 0 0) : mCall mP X (d + 2) 145 [.long (lN v)] [] Q := by
  refine mCall_in pJ13_numberOfTrailingZeros_95d88 80 rfl ?_
  simp only [mS_iload_n, mS_iload, mS_lload_n, mS_lload, mS_aload_n, mS_aload, mS_istore_n, mS_istore, mS_lstore_n, mS_lstore, mS_astore_n, mS_astore, mS_iinc, mS_iconst, mS_bipush, mS_sipush, mS_lconst, mS_ldc, mS_ldc_w, mS_ldc2_w, mS_getstatic, mS_iadd, mS_isub, mS_imul, mS_iand, mS_ior, mS_ixor, mS_ishl, mS_ishr, mS_iushr, mS_idiv, mS_irem, mS_ladd, mS_lsub, mS_lmul, mS_land, mS_lor, mS_lxor, mS_ldiv, mS_lrem, mS_lneg, mS_lshl, mS_lushr, mS_lcmp, mS_i2l, mS_l2i, mS_i2b, mS_dup_i, mS_dup_r, mS_dup2, mS_pop, mS_if_eq, mS_if_ne, mS_if_lt, mS_if_ge, mS_if_gt, mS_if_le, mS_icmp_eq, mS_icmp_ne, mS_icmp_lt, mS_icmp_ge, mS_icmp_gt, mS_icmp_le, mS_goto, mS_tsw, mS_lsw, mS_getfield, mS_putfield, mS_iaload, mS_iaload0, mS_baload, mS_laload, mS_laload1, mS_iastore, mS_bastore, mS_lastore, mS_alen, mS_alen0, mS_alen1, mS_newa_byte, mS_newa_int, mS_newa_long, mS_throw, mS_new, mS_oinit, mS_ireturn, mS_zreturn, mS_lreturn, mS_return, mS_mmin, mS_mmax, mS_mabs, mRun_go, mGo_t, mGo_f, mAt, mPut, mSt1, mSt2, mKill, mFit, mEnt, mPad, mSw, Nat.reduceAdd, Nat.reduceSub, Nat.reduceMod, Nat.reduceLT, Nat.reduceLeDiff, List.length_cons, List.length_nil, true_and, and_true, Option.some.injEq, Nat.zero_add, Classical.not_not, cmp_lt, cmp_ge, cmp_eq, cmp_gt, cmp_le, mAfter_v, mAfter_i, mAfter_l, mBack, mBk, mFrom, mRnC_l, mRnC_r, mRn_i, mRn_l, mRn_r, mRn_n, mRn_f, List.map_cons, List.map_nil, List.cons_append, List.nil_append, List.append_nil, Option.getD_some, Nat.add_zero, TJ13_numberOfTrailingZeros_95d88_0, hiL hv, loL v, nI_z (show v % 2 ^ 32 < 2 ^ 32 from by omega)]
  refine ⟨fun h => ?_, fun h => ?_⟩
  · (refine mWP_s 80 (by simp only [TJ13_numberOfTrailingZeros_95d88_0]; rfl) [] [] (c_ntz32 (d := d) (u := v % 2 ^ 32) (by omega)) rfl rfl rfl rfl rfl (Nat.le_of_ble_eq_true rfl) rfl rfl rfl ?_; simp only [mS_iload_n, mS_iload, mS_lload_n, mS_lload, mS_aload_n, mS_aload, mS_istore_n, mS_istore, mS_lstore_n, mS_lstore, mS_astore_n, mS_astore, mS_iinc, mS_iconst, mS_bipush, mS_sipush, mS_lconst, mS_ldc, mS_ldc_w, mS_ldc2_w, mS_getstatic, mS_iadd, mS_isub, mS_imul, mS_iand, mS_ior, mS_ixor, mS_ishl, mS_ishr, mS_iushr, mS_idiv, mS_irem, mS_ladd, mS_lsub, mS_lmul, mS_land, mS_lor, mS_lxor, mS_ldiv, mS_lrem, mS_lneg, mS_lshl, mS_lushr, mS_lcmp, mS_i2l, mS_l2i, mS_i2b, mS_dup_i, mS_dup_r, mS_dup2, mS_pop, mS_if_eq, mS_if_ne, mS_if_lt, mS_if_ge, mS_if_gt, mS_if_le, mS_icmp_eq, mS_icmp_ne, mS_icmp_lt, mS_icmp_ge, mS_icmp_gt, mS_icmp_le, mS_goto, mS_tsw, mS_lsw, mS_getfield, mS_putfield, mS_iaload, mS_iaload0, mS_baload, mS_laload, mS_laload1, mS_iastore, mS_bastore, mS_lastore, mS_alen, mS_alen0, mS_alen1, mS_newa_byte, mS_newa_int, mS_newa_long, mS_throw, mS_new, mS_oinit, mS_ireturn, mS_zreturn, mS_lreturn, mS_return, mS_mmin, mS_mmax, mS_mabs, mRun_go, mGo_t, mGo_f, mAt, mPut, mSt1, mSt2, mKill, mFit, mEnt, mPad, mSw, Nat.reduceAdd, Nat.reduceSub, Nat.reduceMod, Nat.reduceLT, Nat.reduceLeDiff, List.length_cons, List.length_nil, true_and, and_true, Option.some.injEq, Nat.zero_add, Classical.not_not, cmp_lt, cmp_ge, cmp_eq, cmp_gt, cmp_le, mAfter_v, mAfter_i, mAfter_l, mBack, mBk, mFrom, mRnC_l, mRnC_r, mRn_i, mRn_l, mRn_r, mRn_n, mRn_f, List.map_cons, List.map_nil, List.cons_append, List.nil_append, List.append_nil, Option.getD_some, Nat.add_zero, TJ13_numberOfTrailingZeros_95d88_0])
    rw [ntz_lo h]
    exact hq
  · (refine mWP_s 80 (by simp only [TJ13_numberOfTrailingZeros_95d88_0]; rfl) [] [.int 32] (c_ntz32 (d := d) (u := v / 2 ^ 32) (by omega)) rfl rfl rfl rfl rfl (Nat.le_of_ble_eq_true rfl) rfl rfl rfl ?_; simp only [mS_iload_n, mS_iload, mS_lload_n, mS_lload, mS_aload_n, mS_aload, mS_istore_n, mS_istore, mS_lstore_n, mS_lstore, mS_astore_n, mS_astore, mS_iinc, mS_iconst, mS_bipush, mS_sipush, mS_lconst, mS_ldc, mS_ldc_w, mS_ldc2_w, mS_getstatic, mS_iadd, mS_isub, mS_imul, mS_iand, mS_ior, mS_ixor, mS_ishl, mS_ishr, mS_iushr, mS_idiv, mS_irem, mS_ladd, mS_lsub, mS_lmul, mS_land, mS_lor, mS_lxor, mS_ldiv, mS_lrem, mS_lneg, mS_lshl, mS_lushr, mS_lcmp, mS_i2l, mS_l2i, mS_i2b, mS_dup_i, mS_dup_r, mS_dup2, mS_pop, mS_if_eq, mS_if_ne, mS_if_lt, mS_if_ge, mS_if_gt, mS_if_le, mS_icmp_eq, mS_icmp_ne, mS_icmp_lt, mS_icmp_ge, mS_icmp_gt, mS_icmp_le, mS_goto, mS_tsw, mS_lsw, mS_getfield, mS_putfield, mS_iaload, mS_iaload0, mS_baload, mS_laload, mS_laload1, mS_iastore, mS_bastore, mS_lastore, mS_alen, mS_alen0, mS_alen1, mS_newa_byte, mS_newa_int, mS_newa_long, mS_throw, mS_new, mS_oinit, mS_ireturn, mS_zreturn, mS_lreturn, mS_return, mS_mmin, mS_mmax, mS_mabs, mRun_go, mGo_t, mGo_f, mAt, mPut, mSt1, mSt2, mKill, mFit, mEnt, mPad, mSw, Nat.reduceAdd, Nat.reduceSub, Nat.reduceMod, Nat.reduceLT, Nat.reduceLeDiff, List.length_cons, List.length_nil, true_and, and_true, Option.some.injEq, Nat.zero_add, Classical.not_not, cmp_lt, cmp_ge, cmp_eq, cmp_gt, cmp_le, mAfter_v, mAfter_i, mAfter_l, mBack, mBk, mFrom, mRnC_l, mRnC_r, mRn_i, mRn_l, mRn_r, mRn_n, mRn_f, List.map_cons, List.map_nil, List.cons_append, List.nil_append, List.append_nil, Option.getD_some, Nat.add_zero, TJ13_numberOfTrailingZeros_95d88_0])
    rw [i_32, nI_add, ntz_hi h hv]
    exact hq
theorem lN_z {n : Nat} (hn : n < 2 ^ 64) : (lN n = 0) = (n = 0) := propext ⟨fun h => by have := uL_0.mp h; rw [uL_lN hn] at this; exact this, fun h => by rw [h]; rfl⟩
theorem c_ahead {X : mX0} {d v : Nat} (hv : v < 2 ^ 64) (Q : mQ) (hq : Q (.inl (some (.int (nI (nlzF 64 v))))) [] 0 0) : mCall mP X (d + 1) 111 [.long (lN v)] [] Q := by
  have loop : ∀ j n, n + j = 64 → n + nlzF j v = nlzF 64 v → mWP d X (mCall mP X d) (kX9_ahead, 3, []) Q 2 [.long (lN v), mU, .int (nI n)] [] [] 0 0 := by
    intro j
    induction j with
    | zero =>
      intro n hn he
      (refine mWP_st 80 ?_; simp only [mS_iload_n, mS_iload, mS_lload_n, mS_lload, mS_aload_n, mS_aload, mS_istore_n, mS_istore, mS_lstore_n, mS_lstore, mS_astore_n, mS_astore, mS_iinc, mS_iconst, mS_bipush, mS_sipush, mS_lconst, mS_ldc, mS_ldc_w, mS_ldc2_w, mS_getstatic, mS_iadd, mS_isub, mS_imul, mS_iand, mS_ior, mS_ixor, mS_ishl, mS_ishr, mS_iushr, mS_idiv, mS_irem, mS_ladd, mS_lsub, mS_lmul, mS_land, mS_lor, mS_lxor, mS_ldiv, mS_lrem, mS_lneg, mS_lshl, mS_lushr, mS_lcmp, mS_i2l, mS_l2i, mS_i2b, mS_dup_i, mS_dup_r, mS_dup2, mS_pop, mS_if_eq, mS_if_ne, mS_if_lt, mS_if_ge, mS_if_gt, mS_if_le, mS_icmp_eq, mS_icmp_ne, mS_icmp_lt, mS_icmp_ge, mS_icmp_gt, mS_icmp_le, mS_goto, mS_tsw, mS_lsw, mS_getfield, mS_putfield, mS_iaload, mS_iaload0, mS_baload, mS_laload, mS_laload1, mS_iastore, mS_bastore, mS_lastore, mS_alen, mS_alen0, mS_alen1, mS_newa_byte, mS_newa_int, mS_newa_long, mS_throw, mS_new, mS_oinit, mS_ireturn, mS_zreturn, mS_lreturn, mS_return, mS_mmin, mS_mmax, mS_mabs, mRun_go, mGo_t, mGo_f, mAt, mPut, mSt1, mSt2, mKill, mFit, mEnt, mPad, mSw, Nat.reduceAdd, Nat.reduceSub, Nat.reduceMod, Nat.reduceLT, Nat.reduceLeDiff, List.length_cons, List.length_nil, true_and, and_true, Option.some.injEq, Nat.zero_add, Classical.not_not, cmp_lt, cmp_ge, cmp_eq, cmp_gt, cmp_le, mAfter_v, mAfter_i, mAfter_l, mBack, mBk, mFrom, mRnC_l, mRnC_r, mRn_i, mRn_l, mRn_r, mRn_n, mRn_f, List.map_cons, List.map_nil, List.cons_append, List.nil_append, List.append_nil, Option.getD_some, Nat.add_zero, TX9_ahead_0, mSt_row])
      simp (disch := omega) only [i_0, i_1, i_2, i_3, i_4, i_5, i_6, i_7, i_8, i_9, i_10, i_11, i_12, i_13, i_15, i_16, i_27, i_28, i_31, i_32, i_52, i_54, i_56, i_63, i_64, i_88, i_128, i_255, i_256, i_257, i_2048, i_4000, i_65521, i_1048576, i_1075, nI_ofNat, nI_lt_iff, nI_le_iff, nI_eq_iff, nI_add, pk_mul, pk_sub, pk_div, pk_rem, nI_clamp, Nat.add_sub_cancel, Nat.reduceAdd, Nat.reduceSub, Nat.reduceMul, Nat.reduceDiv, Nat.reduceMod, Nat.reduceLT, Nat.reduceLeDiff, Nat.reduceEqDiff, Nat.add_zero, Nat.zero_add, n_rem, not_false_eq_true, not_true_eq_false, true_and, and_true, true_or, or_true, true_implies, false_implies, Nat.not_lt_zero, Nat.zero_le]
      refine ⟨fun _ => ?_, fun h => absurd h (by omega)⟩
      rw [← he] at hq
      exact hq
    | succ j ih =>
      intro n hn he
      (refine mWP_st 80 ?_; simp only [mS_iload_n, mS_iload, mS_lload_n, mS_lload, mS_aload_n, mS_aload, mS_istore_n, mS_istore, mS_lstore_n, mS_lstore, mS_astore_n, mS_astore, mS_iinc, mS_iconst, mS_bipush, mS_sipush, mS_lconst, mS_ldc, mS_ldc_w, mS_ldc2_w, mS_getstatic, mS_iadd, mS_isub, mS_imul, mS_iand, mS_ior, mS_ixor, mS_ishl, mS_ishr, mS_iushr, mS_idiv, mS_irem, mS_ladd, mS_lsub, mS_lmul, mS_land, mS_lor, mS_lxor, mS_ldiv, mS_lrem, mS_lneg, mS_lshl, mS_lushr, mS_lcmp, mS_i2l, mS_l2i, mS_i2b, mS_dup_i, mS_dup_r, mS_dup2, mS_pop, mS_if_eq, mS_if_ne, mS_if_lt, mS_if_ge, mS_if_gt, mS_if_le, mS_icmp_eq, mS_icmp_ne, mS_icmp_lt, mS_icmp_ge, mS_icmp_gt, mS_icmp_le, mS_goto, mS_tsw, mS_lsw, mS_getfield, mS_putfield, mS_iaload, mS_iaload0, mS_baload, mS_laload, mS_laload1, mS_iastore, mS_bastore, mS_lastore, mS_alen, mS_alen0, mS_alen1, mS_newa_byte, mS_newa_int, mS_newa_long, mS_throw, mS_new, mS_oinit, mS_ireturn, mS_zreturn, mS_lreturn, mS_return, mS_mmin, mS_mmax, mS_mabs, mRun_go, mGo_t, mGo_f, mAt, mPut, mSt1, mSt2, mKill, mFit, mEnt, mPad, mSw, Nat.reduceAdd, Nat.reduceSub, Nat.reduceMod, Nat.reduceLT, Nat.reduceLeDiff, List.length_cons, List.length_nil, true_and, and_true, Option.some.injEq, Nat.zero_add, Classical.not_not, cmp_lt, cmp_ge, cmp_eq, cmp_gt, cmp_le, mAfter_v, mAfter_i, mAfter_l, mBack, mBk, mFrom, mRnC_l, mRnC_r, mRn_i, mRn_l, mRn_r, mRn_n, mRn_f, List.map_cons, List.map_nil, List.cons_append, List.nil_append, List.append_nil, Option.getD_some, Nat.add_zero, TX9_ahead_0, mSt_row, cmp_eq])
      simp (disch := omega) only [i_0, i_1, i_2, i_3, i_4, i_5, i_6, i_7, i_8, i_9, i_10, i_11, i_12, i_13, i_15, i_16, i_27, i_28, i_31, i_32, i_52, i_54, i_56, i_63, i_64, i_88, i_128, i_255, i_256, i_257, i_2048, i_4000, i_65521, i_1048576, i_1075, nI_ofNat, nI_lt_iff, nI_le_iff, nI_eq_iff, nI_add, pk_mul, pk_sub, pk_div, pk_rem, nI_clamp, Nat.add_sub_cancel, Nat.reduceAdd, Nat.reduceSub, Nat.reduceMul, Nat.reduceDiv, Nat.reduceMod, Nat.reduceLT, Nat.reduceLeDiff, Nat.reduceEqDiff, Nat.add_zero, Nat.zero_add, n_rem, not_false_eq_true, not_true_eq_false, true_and, and_true, true_or, or_true, true_implies, false_implies, Nat.not_lt_zero, Nat.zero_le]
      refine ⟨fun h => absurd h (by omega), fun _ => ?_⟩
      rw [show (63 : Int64).toUInt64 = Int64.toUInt64 63 from rfl, show 63 - n = j from by omega, wb_bit hv (by omega), lN_z (by omega)]
      rw [show nlzF (j + 1) v = if v / 2 ^ j % 2 = 1 then 0 else 1 + nlzF j v from rfl] at he
      refine ⟨fun h => ?_, fun h => ?_⟩
      · rw [if_pos (by omega)] at he
        rw [← he] at hq
        exact hq
      · rw [if_neg (by omega)] at he
        exact ih (n + 1) (by omega) (by omega)
  refine mCall_in pX9_ahead 80 rfl ?_
  simp only [mS_iload_n, mS_iload, mS_lload_n, mS_lload, mS_aload_n, mS_aload, mS_istore_n, mS_istore, mS_lstore_n, mS_lstore, mS_astore_n, mS_astore, mS_iinc, mS_iconst, mS_bipush, mS_sipush, mS_lconst, mS_ldc, mS_ldc_w, mS_ldc2_w, mS_getstatic, mS_iadd, mS_isub, mS_imul, mS_iand, mS_ior, mS_ixor, mS_ishl, mS_ishr, mS_iushr, mS_idiv, mS_irem, mS_ladd, mS_lsub, mS_lmul, mS_land, mS_lor, mS_lxor, mS_ldiv, mS_lrem, mS_lneg, mS_lshl, mS_lushr, mS_lcmp, mS_i2l, mS_l2i, mS_i2b, mS_dup_i, mS_dup_r, mS_dup2, mS_pop, mS_if_eq, mS_if_ne, mS_if_lt, mS_if_ge, mS_if_gt, mS_if_le, mS_icmp_eq, mS_icmp_ne, mS_icmp_lt, mS_icmp_ge, mS_icmp_gt, mS_icmp_le, mS_goto, mS_tsw, mS_lsw, mS_getfield, mS_putfield, mS_iaload, mS_iaload0, mS_baload, mS_laload, mS_laload1, mS_iastore, mS_bastore, mS_lastore, mS_alen, mS_alen0, mS_alen1, mS_newa_byte, mS_newa_int, mS_newa_long, mS_throw, mS_new, mS_oinit, mS_ireturn, mS_zreturn, mS_lreturn, mS_return, mS_mmin, mS_mmax, mS_mabs, mRun_go, mGo_t, mGo_f, mAt, mPut, mSt1, mSt2, mKill, mFit, mEnt, mPad, mSw, Nat.reduceAdd, Nat.reduceSub, Nat.reduceMod, Nat.reduceLT, Nat.reduceLeDiff, List.length_cons, List.length_nil, true_and, and_true, Option.some.injEq, Nat.zero_add, Classical.not_not, cmp_lt, cmp_ge, cmp_eq, cmp_gt, cmp_le, mAfter_v, mAfter_i, mAfter_l, mBack, mBk, mFrom, mRnC_l, mRnC_r, mRn_i, mRn_l, mRn_r, mRn_n, mRn_f, List.map_cons, List.map_nil, List.cons_append, List.nil_append, List.append_nil, Option.getD_some, Nat.add_zero, TX9_ahead_0]
  exact loop 64 0 (by omega) (by omega)
theorem c_mbehind {X : mX0} {d v : Nat} (hv : v < 2 ^ 64) (Q : mQ) (hq : Q (.inl (some (.int (nI (ntzF 64 v))))) [] 0 0) : mCall mP X (d + 1) 112 [.long (lN v)] [] Q := by
  have loop : ∀ j n, n + j = 64 → n + ntzF j (v / 2 ^ n) = ntzF 64 v → mWP d X (mCall mP X d) (kX9_behind, 3, []) Q 2 [.long (lN v), mU, .int (nI n)] [] [] 0 0 := by
    intro j
    induction j with
    | zero =>
      intro n hn he
      (refine mWP_st 80 ?_; simp only [mS_iload_n, mS_iload, mS_lload_n, mS_lload, mS_aload_n, mS_aload, mS_istore_n, mS_istore, mS_lstore_n, mS_lstore, mS_astore_n, mS_astore, mS_iinc, mS_iconst, mS_bipush, mS_sipush, mS_lconst, mS_ldc, mS_ldc_w, mS_ldc2_w, mS_getstatic, mS_iadd, mS_isub, mS_imul, mS_iand, mS_ior, mS_ixor, mS_ishl, mS_ishr, mS_iushr, mS_idiv, mS_irem, mS_ladd, mS_lsub, mS_lmul, mS_land, mS_lor, mS_lxor, mS_ldiv, mS_lrem, mS_lneg, mS_lshl, mS_lushr, mS_lcmp, mS_i2l, mS_l2i, mS_i2b, mS_dup_i, mS_dup_r, mS_dup2, mS_pop, mS_if_eq, mS_if_ne, mS_if_lt, mS_if_ge, mS_if_gt, mS_if_le, mS_icmp_eq, mS_icmp_ne, mS_icmp_lt, mS_icmp_ge, mS_icmp_gt, mS_icmp_le, mS_goto, mS_tsw, mS_lsw, mS_getfield, mS_putfield, mS_iaload, mS_iaload0, mS_baload, mS_laload, mS_laload1, mS_iastore, mS_bastore, mS_lastore, mS_alen, mS_alen0, mS_alen1, mS_newa_byte, mS_newa_int, mS_newa_long, mS_throw, mS_new, mS_oinit, mS_ireturn, mS_zreturn, mS_lreturn, mS_return, mS_mmin, mS_mmax, mS_mabs, mRun_go, mGo_t, mGo_f, mAt, mPut, mSt1, mSt2, mKill, mFit, mEnt, mPad, mSw, Nat.reduceAdd, Nat.reduceSub, Nat.reduceMod, Nat.reduceLT, Nat.reduceLeDiff, List.length_cons, List.length_nil, true_and, and_true, Option.some.injEq, Nat.zero_add, Classical.not_not, cmp_lt, cmp_ge, cmp_eq, cmp_gt, cmp_le, mAfter_v, mAfter_i, mAfter_l, mBack, mBk, mFrom, mRnC_l, mRnC_r, mRn_i, mRn_l, mRn_r, mRn_n, mRn_f, List.map_cons, List.map_nil, List.cons_append, List.nil_append, List.append_nil, Option.getD_some, Nat.add_zero, TX9_behind_0, mSt_row])
      simp (disch := omega) only [i_0, i_1, i_2, i_3, i_4, i_5, i_6, i_7, i_8, i_9, i_10, i_11, i_12, i_13, i_15, i_16, i_27, i_28, i_31, i_32, i_52, i_54, i_56, i_63, i_64, i_88, i_128, i_255, i_256, i_257, i_2048, i_4000, i_65521, i_1048576, i_1075, nI_ofNat, nI_lt_iff, nI_le_iff, nI_eq_iff, nI_add, pk_mul, pk_sub, pk_div, pk_rem, nI_clamp, Nat.add_sub_cancel, Nat.reduceAdd, Nat.reduceSub, Nat.reduceMul, Nat.reduceDiv, Nat.reduceMod, Nat.reduceLT, Nat.reduceLeDiff, Nat.reduceEqDiff, Nat.add_zero, Nat.zero_add, n_rem, not_false_eq_true, not_true_eq_false, true_and, and_true, true_or, or_true, true_implies, false_implies, Nat.not_lt_zero, Nat.zero_le]
      refine ⟨fun _ => ?_, fun h => absurd h (by omega)⟩
      rw [← he] at hq
      exact hq
    | succ j ih =>
      intro n hn he
      (refine mWP_st 80 ?_; simp only [mS_iload_n, mS_iload, mS_lload_n, mS_lload, mS_aload_n, mS_aload, mS_istore_n, mS_istore, mS_lstore_n, mS_lstore, mS_astore_n, mS_astore, mS_iinc, mS_iconst, mS_bipush, mS_sipush, mS_lconst, mS_ldc, mS_ldc_w, mS_ldc2_w, mS_getstatic, mS_iadd, mS_isub, mS_imul, mS_iand, mS_ior, mS_ixor, mS_ishl, mS_ishr, mS_iushr, mS_idiv, mS_irem, mS_ladd, mS_lsub, mS_lmul, mS_land, mS_lor, mS_lxor, mS_ldiv, mS_lrem, mS_lneg, mS_lshl, mS_lushr, mS_lcmp, mS_i2l, mS_l2i, mS_i2b, mS_dup_i, mS_dup_r, mS_dup2, mS_pop, mS_if_eq, mS_if_ne, mS_if_lt, mS_if_ge, mS_if_gt, mS_if_le, mS_icmp_eq, mS_icmp_ne, mS_icmp_lt, mS_icmp_ge, mS_icmp_gt, mS_icmp_le, mS_goto, mS_tsw, mS_lsw, mS_getfield, mS_putfield, mS_iaload, mS_iaload0, mS_baload, mS_laload, mS_laload1, mS_iastore, mS_bastore, mS_lastore, mS_alen, mS_alen0, mS_alen1, mS_newa_byte, mS_newa_int, mS_newa_long, mS_throw, mS_new, mS_oinit, mS_ireturn, mS_zreturn, mS_lreturn, mS_return, mS_mmin, mS_mmax, mS_mabs, mRun_go, mGo_t, mGo_f, mAt, mPut, mSt1, mSt2, mKill, mFit, mEnt, mPad, mSw, Nat.reduceAdd, Nat.reduceSub, Nat.reduceMod, Nat.reduceLT, Nat.reduceLeDiff, List.length_cons, List.length_nil, true_and, and_true, Option.some.injEq, Nat.zero_add, Classical.not_not, cmp_lt, cmp_ge, cmp_eq, cmp_gt, cmp_le, mAfter_v, mAfter_i, mAfter_l, mBack, mBk, mFrom, mRnC_l, mRnC_r, mRn_i, mRn_l, mRn_r, mRn_n, mRn_f, List.map_cons, List.map_nil, List.cons_append, List.nil_append, List.append_nil, Option.getD_some, Nat.add_zero, TX9_behind_0, mSt_row, cmp_eq])
      simp (disch := omega) only [i_0, i_1, i_2, i_3, i_4, i_5, i_6, i_7, i_8, i_9, i_10, i_11, i_12, i_13, i_15, i_16, i_27, i_28, i_31, i_32, i_52, i_54, i_56, i_63, i_64, i_88, i_128, i_255, i_256, i_257, i_2048, i_4000, i_65521, i_1048576, i_1075, nI_ofNat, nI_lt_iff, nI_le_iff, nI_eq_iff, nI_add, pk_mul, pk_sub, pk_div, pk_rem, nI_clamp, Nat.add_sub_cancel, Nat.reduceAdd, Nat.reduceSub, Nat.reduceMul, Nat.reduceDiv, Nat.reduceMod, Nat.reduceLT, Nat.reduceLeDiff, Nat.reduceEqDiff, Nat.add_zero, Nat.zero_add, n_rem, not_false_eq_true, not_true_eq_false, true_and, and_true, true_or, or_true, true_implies, false_implies, Nat.not_lt_zero, Nat.zero_le]
      refine ⟨fun h => absurd h (by omega), fun _ => ?_⟩
      rw [wb_bit hv (by omega), lN_z (by omega)]
      rw [show ntzF (j + 1) (v / 2 ^ n) = if v / 2 ^ n % 2 = 1 then 0 else 1 + ntzF j (v / 2 ^ n / 2) from rfl] at he
      refine ⟨fun h => ?_, fun h => ?_⟩
      · rw [if_pos (by omega)] at he
        rw [← he] at hq
        exact hq
      · rw [if_neg (by omega), Nat.div_div_eq_div_mul, show 2 ^ n * 2 = 2 ^ (n + 1) from (Nat.pow_succ ..).symm] at he
        exact ih (n + 1) (by omega) (by omega)
  refine mCall_in pX9_behind 80 rfl ?_
  simp only [mS_iload_n, mS_iload, mS_lload_n, mS_lload, mS_aload_n, mS_aload, mS_istore_n, mS_istore, mS_lstore_n, mS_lstore, mS_astore_n, mS_astore, mS_iinc, mS_iconst, mS_bipush, mS_sipush, mS_lconst, mS_ldc, mS_ldc_w, mS_ldc2_w, mS_getstatic, mS_iadd, mS_isub, mS_imul, mS_iand, mS_ior, mS_ixor, mS_ishl, mS_ishr, mS_iushr, mS_idiv, mS_irem, mS_ladd, mS_lsub, mS_lmul, mS_land, mS_lor, mS_lxor, mS_ldiv, mS_lrem, mS_lneg, mS_lshl, mS_lushr, mS_lcmp, mS_i2l, mS_l2i, mS_i2b, mS_dup_i, mS_dup_r, mS_dup2, mS_pop, mS_if_eq, mS_if_ne, mS_if_lt, mS_if_ge, mS_if_gt, mS_if_le, mS_icmp_eq, mS_icmp_ne, mS_icmp_lt, mS_icmp_ge, mS_icmp_gt, mS_icmp_le, mS_goto, mS_tsw, mS_lsw, mS_getfield, mS_putfield, mS_iaload, mS_iaload0, mS_baload, mS_laload, mS_laload1, mS_iastore, mS_bastore, mS_lastore, mS_alen, mS_alen0, mS_alen1, mS_newa_byte, mS_newa_int, mS_newa_long, mS_throw, mS_new, mS_oinit, mS_ireturn, mS_zreturn, mS_lreturn, mS_return, mS_mmin, mS_mmax, mS_mabs, mRun_go, mGo_t, mGo_f, mAt, mPut, mSt1, mSt2, mKill, mFit, mEnt, mPad, mSw, Nat.reduceAdd, Nat.reduceSub, Nat.reduceMod, Nat.reduceLT, Nat.reduceLeDiff, List.length_cons, List.length_nil, true_and, and_true, Option.some.injEq, Nat.zero_add, Classical.not_not, cmp_lt, cmp_ge, cmp_eq, cmp_gt, cmp_le, mAfter_v, mAfter_i, mAfter_l, mBack, mBk, mFrom, mRnC_l, mRnC_r, mRn_i, mRn_l, mRn_r, mRn_n, mRn_f, List.map_cons, List.map_nil, List.cons_append, List.nil_append, List.append_nil, Option.getD_some, Nat.add_zero, TX9_behind_0]
  exact loop 64 0 (by omega) (by simp)
