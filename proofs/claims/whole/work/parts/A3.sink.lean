/-! bits in bytes: sinks and the tape -/
theorem nx_or (a b : Nat) : nI a ||| nI b = nI (a ||| b) := by
  apply Int32.toBitVec_inj.1
  show BitVec.ofNat 32 a ||| BitVec.ofNat 32 b = BitVec.ofNat 32 (a ||| b)
  apply BitVec.eq_of_getLsbD_eq
  intro i hi
  simp [hi]
/-- the low bits of a number, the highest first -/
def bitsN (v : Nat) : Nat → List Nat
  | 0 => []
  | w + 1 => (v / 2 ^ w % 2) :: bitsN v w
theorem bitsN_len (v w : Nat) : (bitsN v w).length = w := by
  induction w with
  | zero => rfl
  | succ w ih => simp [bitsN, ih]
/-- the first r bits of byte i -/
def pV (B : List Nat) (i : Nat) : Nat → Nat
  | 0 => 0
  | r + 1 => pV B i r + B.getD (8 * i + r) 0 % 2 * 2 ^ (7 - r)
theorem pV_b (B : List Nat) (i : Nat) : ∀ r, r ≤ 8 → 2 ^ (8 - r) ∣ pV B i r ∧ pV B i r + 2 ^ (8 - r) ≤ 256
  | 0, _ => ⟨⟨0, rfl⟩, by simp [pV]⟩
  | r + 1, h => by
    obtain ⟨⟨q, h1⟩, h2⟩ := pV_b B i r (by omega)
    have e : 2 ^ (8 - r) = 2 ^ (7 - r) * 2 := by rw [← Nat.pow_succ]; congr 1; omega
    have e' : 8 - (r + 1) = 7 - r := by omega
    show 2 ^ (8 - (r + 1)) ∣ pV B i r + B.getD (8 * i + r) 0 % 2 * 2 ^ (7 - r) ∧ pV B i r + B.getD (8 * i + r) 0 % 2 * 2 ^ (7 - r) + 2 ^ (8 - (r + 1)) ≤ 256
    rw [e']
    rw [e] at h1 h2
    constructor
    · rw [h1]
      exact Nat.dvd_add ⟨2 * q, by rw [Nat.mul_assoc]⟩ ⟨_, Nat.mul_comm _ _⟩
    · have : B.getD (8 * i + r) 0 % 2 < 2 := Nat.mod_lt _ (by decide)
      rcases Nat.lt_or_ge (B.getD (8 * i + r) 0 % 2) 1 with z | z
      · rw [show B.getD (8 * i + r) 0 % 2 = 0 from by omega]; omega
      · rw [show B.getD (8 * i + r) 0 % 2 = 1 from by omega]; omega
theorem pV_lt (B : List Nat) (i : Nat) : pV B i 8 < 256 := by
  have := (pV_b B i 8 (Nat.le_refl 8)).2
  omega
theorem pV_end {B : List Nat} {i r : Nat} (h : B.length ≤ 8 * i + r) : ∀ k, pV B i (r + k) = pV B i r
  | 0 => rfl
  | k + 1 => by
    show pV B i (r + k) + B.getD (8 * i + (r + k)) 0 % 2 * 2 ^ (7 - (r + k)) = pV B i r
    rw [pV_end h k, List.getD_eq_getElem?_getD, List.getElem?_eq_none (by omega)]
    simp
theorem pV_app {B C : List Nat} {i : Nat} : ∀ r, 8 * i + r ≤ B.length → pV (B ++ C) i r = pV B i r
  | 0, _ => rfl
  | r + 1, h => by
    show pV (B ++ C) i r + (B ++ C).getD (8 * i + r) 0 % 2 * 2 ^ (7 - r) = pV B i r + B.getD (8 * i + r) 0 % 2 * 2 ^ (7 - r)
    rw [pV_app r (by omega), List.getD_eq_getElem?_getD, List.getD_eq_getElem?_getD, List.getElem?_append_left (by omega)]
theorem pV_snoc {B : List Nat} {i r b : Nat} (h : B.length = 8 * i + r) (hr : r < 8) : pV (B ++ [b]) i 8 = pV B i 8 + b % 2 * 2 ^ (7 - r) := by
  have e1 := pV_end (B := B ++ [b]) (i := i) (r := r + 1) (by simp; omega) (7 - r)
  have e2 := pV_end (B := B) (i := i) (r := r) (by omega) (8 - r)
  rw [show r + 1 + (7 - r) = 8 from by omega] at e1
  rw [show r + (8 - r) = 8 from by omega] at e2
  rw [e1, e2]
  show pV (B ++ [b]) i r + (B ++ [b]).getD (8 * i + r) 0 % 2 * 2 ^ (7 - r) = _
  rw [pV_app r (by omega), List.getD_eq_getElem?_getD, List.getElem?_append_right (by omega), show 8 * i + r - B.length = 0 from by omega]
  simp
/-- a byte as the machine has it in an array of bytes -/
def sb (a : Nat) : Int32 := (nI a).toInt8.toInt32
set_option maxRecDepth 100000 in
theorem or_bit : ∀ r : Fin 8, ∀ a : Fin 256, a.val % 2 ^ (8 - r.val) = 0 → ∀ b : Fin 2, nI a.val ||| (nI b.val <<< (nI (7 - r.val) &&& 31)) = nI (a.val + b.val * 2 ^ (7 - r.val)) ∧ ((sb a.val ||| (nI b.val <<< (nI (7 - r.val) &&& 31))).toInt8.toInt32).toInt8.toInt32 = sb (a.val + b.val * 2 ^ (7 - r.val)) := by decide +kernel
set_option maxRecDepth 100000 in
theorem shr_bit : ∀ a : Fin 256, ∀ r : Fin 8, (nI a.val >>> (nI (7 - r.val) &&& 31)) &&& 1 = nI (a.val / 2 ^ (7 - r.val) % 2) ∧ (sb a.val >>> (nI (7 - r.val) &&& 31)) &&& 1 = nI (a.val / 2 ^ (7 - r.val) % 2) := by decide +kernel
set_option maxRecDepth 100000 in
theorem sb_and : ∀ a : Fin 256, sb a.val &&& 255 = nI a.val := by decide +kernel
theorem pV_or {B : List Nat} {i r b : Nat} (h : B.length = 8 * i + r) (hr : r < 8) (hb : b < 2) : nI (pV B i 8) ||| (nI b <<< (nI (7 - r) &&& 31)) = nI (pV (B ++ [b]) i 8) ∧ ((sb (pV B i 8) ||| (nI b <<< (nI (7 - r) &&& 31))).toInt8.toInt32).toInt8.toInt32 = sb (pV (B ++ [b]) i 8) := by
  have e2 := pV_end (B := B) (i := i) (r := r) (by omega) (8 - r)
  rw [show r + (8 - r) = 8 from by omega] at e2
  have h1 := (pV_b B i r (by omega)).1
  rw [pV_snoc h hr, Nat.mod_eq_of_lt hb]
  have q := or_bit ⟨r, hr⟩ ⟨pV B i 8, pV_lt B i⟩ (by show pV B i 8 % 2 ^ (8 - r) = 0; rw [e2]; exact Nat.mod_eq_zero_of_dvd h1) ⟨b, hb⟩
  exact q
/-- the class's bytes hold these bits -/
def sinkOk (cap : Nat) (f : Nat → Int32) (B : List Nat) : Prop := ∀ i, 8 * i < B.length → i < cap → f i = nI (pV B i 8)
/-- the model's -/
def outOk (f : Nat → Int32) (B : List Nat) : Prop := ∀ i, 8 * i < B.length → f i = sb (pV B i 8)
theorem sinkOk_nil {cap : Nat} {f : Nat → Int32} : sinkOk cap f [] := fun i hi => absurd hi (by simp)
theorem outOk_nil {f : Nat → Int32} : outOk f [] := fun i hi => absurd hi (by simp)
theorem sinkOk_bit {cap b : Nat} {f f' : Nat → Int32} {B : List Nat} (h : sinkOk cap f B) (hf : ∀ i, i ≠ B.length / 8 → f' i = f i) (hx : B.length / 8 < cap → f' (B.length / 8) = nI (pV (B ++ [b]) (B.length / 8) 8)) : sinkOk cap f' (B ++ [b]) := by
  intro i hi hc
  simp at hi
  by_cases e : i = B.length / 8
  · rw [e]; exact hx (by omega)
  · rw [hf i e, h i (by omega) hc, pV_app 8 (by omega)]
theorem outOk_bit {b : Nat} {f f' : Nat → Int32} {B : List Nat} (h : outOk f B) (hf : ∀ i, i ≠ B.length / 8 → f' i = f i) (hx : f' (B.length / 8) = sb (pV (B ++ [b]) (B.length / 8) 8)) : outOk f' (B ++ [b]) := by
  intro i hi
  simp at hi
  by_cases e : i = B.length / 8
  · rw [e]; exact hx
  · rw [hf i e, h i (by omega), pV_app 8 (by omega)]
theorem pV_0 {B : List Nat} {i : Nat} (h : B.length ≤ 8 * i) : pV B i 8 = 0 := pV_end (r := 0) (by omega) 8
/-- a SINK of the class -/
abbrev sinkC (b : Nat) (m : Int32) (cap : Nat) (f : Nat → Int32) : mH := [.inr (0, [.ref (b + 1), .int m]), .inl (.int, cap, .inl f)]
abbrev sinkAt (b cap : Nat) (f : Nat → Int32) (B : List Nat) : mH := sinkC b (nI B.length) cap f
theorem c_restart {X : mX0} {d cap : Nat} {f : Nat → Int32} {m : Int32} (Q : mQ) (hq : Q (.inl none) (sinkAt 0 cap f []) 0 0) : mCall mP X (d + 1) 1 [.ref 0] (sinkC 0 m cap f) Q := by
  refine mCall_in pX0_restart 50 rfl ?_
  simp only [mS_iload_n, mS_iload, mS_lload_n, mS_lload, mS_aload_n, mS_aload, mS_istore_n, mS_istore, mS_lstore_n, mS_lstore, mS_astore_n, mS_astore, mS_iinc, mS_iconst, mS_bipush, mS_sipush, mS_lconst, mS_ldc, mS_ldc_w, mS_ldc2_w, mS_getstatic, mS_iadd, mS_isub, mS_imul, mS_iand, mS_ior, mS_ixor, mS_ishl, mS_ishr, mS_iushr, mS_idiv, mS_irem, mS_ladd, mS_lsub, mS_lmul, mS_land, mS_lor, mS_lxor, mS_ldiv, mS_lrem, mS_lneg, mS_lshl, mS_lushr, mS_lcmp, mS_i2l, mS_l2i, mS_i2b, mS_dup_i, mS_dup_r, mS_dup2, mS_pop, mS_if_eq, mS_if_ne, mS_if_lt, mS_if_ge, mS_if_gt, mS_if_le, mS_icmp_eq, mS_icmp_ne, mS_icmp_lt, mS_icmp_ge, mS_icmp_gt, mS_icmp_le, mS_goto, mS_tsw, mS_lsw, mS_getfield, mS_putfield, mS_iaload, mS_iaload0, mS_baload, mS_laload, mS_laload1, mS_iastore, mS_bastore, mS_lastore, mS_alen, mS_alen0, mS_alen1, mS_newa_byte, mS_newa_int, mS_newa_long, mS_throw, mS_new, mS_oinit, mS_ireturn, mS_zreturn, mS_lreturn, mS_return, mS_mmin, mS_mmax, mS_mabs, mRun_go, mGo_t, mGo_f, mAt, mPut, mSt1, mSt2, mKill, mFit, mEnt, mPad, mSw, Nat.reduceAdd, Nat.reduceSub, Nat.reduceMod, Nat.reduceLT, Nat.reduceLeDiff, List.length_cons, List.length_nil, true_and, and_true, Option.some.injEq, Nat.zero_add, Classical.not_not, cmp_lt, cmp_ge, cmp_eq, cmp_gt, cmp_le, mAfter_v, mAfter_i, mAfter_l, mBack, mBk, mFrom, mRnC_l, mRnC_r, mRn_i, mRn_l, mRn_r, mRn_n, mRn_f, List.map_cons, List.map_nil, List.cons_append, List.nil_append, List.append_nil, Option.getD_some, Nat.add_zero, TX0_restart_0]
  exact hq
theorem c_byteLength {X : mX0} {d cap n : Nat} {f : Nat → Int32} (hn : n < 2 ^ 31) (Q : mQ) (hq : Q (.inl (some (.int (nI (n / 8))))) (sinkC 0 (nI n) cap f) 0 0) : mCall mP X (d + 1) 2 [.ref 0] (sinkC 0 (nI n) cap f) Q := by
  refine mCall_in pX0_byteLength 50 rfl ?_
  simp only [mS_iload_n, mS_iload, mS_lload_n, mS_lload, mS_aload_n, mS_aload, mS_istore_n, mS_istore, mS_lstore_n, mS_lstore, mS_astore_n, mS_astore, mS_iinc, mS_iconst, mS_bipush, mS_sipush, mS_lconst, mS_ldc, mS_ldc_w, mS_ldc2_w, mS_getstatic, mS_iadd, mS_isub, mS_imul, mS_iand, mS_ior, mS_ixor, mS_ishl, mS_ishr, mS_iushr, mS_idiv, mS_irem, mS_ladd, mS_lsub, mS_lmul, mS_land, mS_lor, mS_lxor, mS_ldiv, mS_lrem, mS_lneg, mS_lshl, mS_lushr, mS_lcmp, mS_i2l, mS_l2i, mS_i2b, mS_dup_i, mS_dup_r, mS_dup2, mS_pop, mS_if_eq, mS_if_ne, mS_if_lt, mS_if_ge, mS_if_gt, mS_if_le, mS_icmp_eq, mS_icmp_ne, mS_icmp_lt, mS_icmp_ge, mS_icmp_gt, mS_icmp_le, mS_goto, mS_tsw, mS_lsw, mS_getfield, mS_putfield, mS_iaload, mS_iaload0, mS_baload, mS_laload, mS_laload1, mS_iastore, mS_bastore, mS_lastore, mS_alen, mS_alen0, mS_alen1, mS_newa_byte, mS_newa_int, mS_newa_long, mS_throw, mS_new, mS_oinit, mS_ireturn, mS_zreturn, mS_lreturn, mS_return, mS_mmin, mS_mmax, mS_mabs, mRun_go, mGo_t, mGo_f, mAt, mPut, mSt1, mSt2, mKill, mFit, mEnt, mPad, mSw, Nat.reduceAdd, Nat.reduceSub, Nat.reduceMod, Nat.reduceLT, Nat.reduceLeDiff, List.length_cons, List.length_nil, true_and, and_true, Option.some.injEq, Nat.zero_add, Classical.not_not, cmp_lt, cmp_ge, cmp_eq, cmp_gt, cmp_le, mAfter_v, mAfter_i, mAfter_l, mBack, mBk, mFrom, mRnC_l, mRnC_r, mRn_i, mRn_l, mRn_r, mRn_n, mRn_f, List.map_cons, List.map_nil, List.cons_append, List.nil_append, List.append_nil, Option.getD_some, Nat.add_zero, TX0_byteLength_0]
  simp (disch := omega) only [i_0, i_1, i_2, i_3, i_4, i_5, i_6, i_7, i_8, i_9, i_10, i_11, i_12, i_13, i_15, i_16, i_27, i_28, i_31, i_32, i_52, i_54, i_56, i_63, i_64, i_88, i_128, i_255, i_256, i_257, i_2048, i_4000, i_65521, i_1048576, i_1075, nI_ofNat, nI_lt_iff, nI_le_iff, nI_eq_iff, nI_add, pk_mul, pk_sub, pk_div, pk_rem, nI_clamp, Nat.add_sub_cancel, Nat.reduceAdd, Nat.reduceSub, Nat.reduceMul, Nat.reduceDiv, Nat.reduceMod, Nat.reduceLT, Nat.reduceLeDiff, Nat.reduceEqDiff, Nat.add_zero, Nat.zero_add, n_rem, not_false_eq_true, not_true_eq_false, true_and, and_true, true_or, or_true, true_implies, false_implies, Nat.not_lt_zero, Nat.zero_le]
  exact hq
theorem c_putBit {X : mX0} {d cap b : Nat} {f : Nat → Int32} {m : Int32} {B : List Nat} (hB : B.length < 2 ^ 31) (hc : cap < 2 ^ 31) (hb : b < 2) (hf : sinkOk cap f B) : ∃ f', sinkOk cap f' (B ++ [b]) ∧ ∀ Q : mQ, Q (.inl none) (sinkC 0 m cap f') 0 0 → mCall mP X (d + 1) 4 [.ref 0, .int (nI B.length), .int (nI b)] (sinkC 0 m cap f) Q := by
  by_cases h1 : B.length / 8 < cap
  · by_cases h2 : B.length % 8 = 0
    · refine ⟨upd (upd f (B.length / 8) 0) (B.length / 8) (upd f (B.length / 8) 0 (B.length / 8) ||| (nI b <<< (nI (7 - B.length % 8) &&& 31))), ?_, fun Q hq => ?_⟩
      · refine sinkOk_bit hf (fun i hi => by rw [pk_un hi, pk_un hi]) (fun _ => ?_)
        rw [pk_us, pk_us]
        have := (pV_or (B := B) (i := B.length / 8) (r := B.length % 8) (b := b) (by omega) (by omega) hb).1
        rw [pV_0 (by omega)] at this
        exact this
      · refine mCall_in pX0_putBit 50 rfl ?_
        simp only [mS_iload_n, mS_iload, mS_lload_n, mS_lload, mS_aload_n, mS_aload, mS_istore_n, mS_istore, mS_lstore_n, mS_lstore, mS_astore_n, mS_astore, mS_iinc, mS_iconst, mS_bipush, mS_sipush, mS_lconst, mS_ldc, mS_ldc_w, mS_ldc2_w, mS_getstatic, mS_iadd, mS_isub, mS_imul, mS_iand, mS_ior, mS_ixor, mS_ishl, mS_ishr, mS_iushr, mS_idiv, mS_irem, mS_ladd, mS_lsub, mS_lmul, mS_land, mS_lor, mS_lxor, mS_ldiv, mS_lrem, mS_lneg, mS_lshl, mS_lushr, mS_lcmp, mS_i2l, mS_l2i, mS_i2b, mS_dup_i, mS_dup_r, mS_dup2, mS_pop, mS_if_eq, mS_if_ne, mS_if_lt, mS_if_ge, mS_if_gt, mS_if_le, mS_icmp_eq, mS_icmp_ne, mS_icmp_lt, mS_icmp_ge, mS_icmp_gt, mS_icmp_le, mS_goto, mS_tsw, mS_lsw, mS_getfield, mS_putfield, mS_iaload, mS_iaload0, mS_baload, mS_laload, mS_laload1, mS_iastore, mS_bastore, mS_lastore, mS_alen, mS_alen0, mS_alen1, mS_newa_byte, mS_newa_int, mS_newa_long, mS_throw, mS_new, mS_oinit, mS_ireturn, mS_zreturn, mS_lreturn, mS_return, mS_mmin, mS_mmax, mS_mabs, mRun_go, mGo_t, mGo_f, mAt, mPut, mSt1, mSt2, mKill, mFit, mEnt, mPad, mSw, Nat.reduceAdd, Nat.reduceSub, Nat.reduceMod, Nat.reduceLT, Nat.reduceLeDiff, List.length_cons, List.length_nil, true_and, and_true, Option.some.injEq, Nat.zero_add, Classical.not_not, cmp_lt, cmp_ge, cmp_eq, cmp_gt, cmp_le, mAfter_v, mAfter_i, mAfter_l, mBack, mBk, mFrom, mRnC_l, mRnC_r, mRn_i, mRn_l, mRn_r, mRn_n, mRn_f, List.map_cons, List.map_nil, List.cons_append, List.nil_append, List.append_nil, Option.getD_some, Nat.add_zero, TX0_putBit_0]
        simp (disch := omega) only [i_0, i_1, i_2, i_3, i_4, i_5, i_6, i_7, i_8, i_9, i_10, i_11, i_12, i_13, i_15, i_16, i_27, i_28, i_31, i_32, i_52, i_54, i_56, i_63, i_64, i_88, i_128, i_255, i_256, i_257, i_2048, i_4000, i_65521, i_1048576, i_1075, nI_ofNat, nI_lt_iff, nI_le_iff, nI_eq_iff, nI_add, pk_mul, pk_sub, pk_div, pk_rem, nI_clamp, Nat.add_sub_cancel, Nat.reduceAdd, Nat.reduceSub, Nat.reduceMul, Nat.reduceDiv, Nat.reduceMod, Nat.reduceLT, Nat.reduceLeDiff, Nat.reduceEqDiff, Nat.add_zero, Nat.zero_add, n_rem, not_false_eq_true, not_true_eq_false, true_and, and_true, true_or, or_true, true_implies, false_implies, Nat.not_lt_zero, Nat.zero_le]
        refine ⟨fun _ => ⟨fun h => absurd h2 h, fun _ => ⟨vp_in_nI h1 hc, vp_in_nI h1 hc, vp_in_nI h1 hc, ?_⟩⟩, fun h => absurd h1 h⟩
        exact hq
    · refine ⟨upd f (B.length / 8) (f (B.length / 8) ||| (nI b <<< (nI (7 - B.length % 8) &&& 31))), ?_, fun Q hq => ?_⟩
      · refine sinkOk_bit hf (fun i hi => by rw [pk_un hi]) (fun _ => ?_)
        rw [pk_us, hf _ (by omega) h1]
        exact (pV_or (B := B) (i := B.length / 8) (r := B.length % 8) (b := b) (by omega) (by omega) hb).1
      · refine mCall_in pX0_putBit 50 rfl ?_
        simp only [mS_iload_n, mS_iload, mS_lload_n, mS_lload, mS_aload_n, mS_aload, mS_istore_n, mS_istore, mS_lstore_n, mS_lstore, mS_astore_n, mS_astore, mS_iinc, mS_iconst, mS_bipush, mS_sipush, mS_lconst, mS_ldc, mS_ldc_w, mS_ldc2_w, mS_getstatic, mS_iadd, mS_isub, mS_imul, mS_iand, mS_ior, mS_ixor, mS_ishl, mS_ishr, mS_iushr, mS_idiv, mS_irem, mS_ladd, mS_lsub, mS_lmul, mS_land, mS_lor, mS_lxor, mS_ldiv, mS_lrem, mS_lneg, mS_lshl, mS_lushr, mS_lcmp, mS_i2l, mS_l2i, mS_i2b, mS_dup_i, mS_dup_r, mS_dup2, mS_pop, mS_if_eq, mS_if_ne, mS_if_lt, mS_if_ge, mS_if_gt, mS_if_le, mS_icmp_eq, mS_icmp_ne, mS_icmp_lt, mS_icmp_ge, mS_icmp_gt, mS_icmp_le, mS_goto, mS_tsw, mS_lsw, mS_getfield, mS_putfield, mS_iaload, mS_iaload0, mS_baload, mS_laload, mS_laload1, mS_iastore, mS_bastore, mS_lastore, mS_alen, mS_alen0, mS_alen1, mS_newa_byte, mS_newa_int, mS_newa_long, mS_throw, mS_new, mS_oinit, mS_ireturn, mS_zreturn, mS_lreturn, mS_return, mS_mmin, mS_mmax, mS_mabs, mRun_go, mGo_t, mGo_f, mAt, mPut, mSt1, mSt2, mKill, mFit, mEnt, mPad, mSw, Nat.reduceAdd, Nat.reduceSub, Nat.reduceMod, Nat.reduceLT, Nat.reduceLeDiff, List.length_cons, List.length_nil, true_and, and_true, Option.some.injEq, Nat.zero_add, Classical.not_not, cmp_lt, cmp_ge, cmp_eq, cmp_gt, cmp_le, mAfter_v, mAfter_i, mAfter_l, mBack, mBk, mFrom, mRnC_l, mRnC_r, mRn_i, mRn_l, mRn_r, mRn_n, mRn_f, List.map_cons, List.map_nil, List.cons_append, List.nil_append, List.append_nil, Option.getD_some, Nat.add_zero, TX0_putBit_0]
        simp (disch := omega) only [i_0, i_1, i_2, i_3, i_4, i_5, i_6, i_7, i_8, i_9, i_10, i_11, i_12, i_13, i_15, i_16, i_27, i_28, i_31, i_32, i_52, i_54, i_56, i_63, i_64, i_88, i_128, i_255, i_256, i_257, i_2048, i_4000, i_65521, i_1048576, i_1075, nI_ofNat, nI_lt_iff, nI_le_iff, nI_eq_iff, nI_add, pk_mul, pk_sub, pk_div, pk_rem, nI_clamp, Nat.add_sub_cancel, Nat.reduceAdd, Nat.reduceSub, Nat.reduceMul, Nat.reduceDiv, Nat.reduceMod, Nat.reduceLT, Nat.reduceLeDiff, Nat.reduceEqDiff, Nat.add_zero, Nat.zero_add, n_rem, not_false_eq_true, not_true_eq_false, true_and, and_true, true_or, or_true, true_implies, false_implies, Nat.not_lt_zero, Nat.zero_le]
        refine ⟨fun _ => ⟨fun _ => ⟨vp_in_nI h1 hc, vp_in_nI h1 hc, hq⟩, fun h => absurd h h2⟩, fun h => absurd h1 h⟩
  · refine ⟨f, sinkOk_bit hf (fun i hi => rfl) (fun h => absurd h h1), fun Q hq => ?_⟩
    refine mCall_in pX0_putBit 50 rfl ?_
    simp only [mS_iload_n, mS_iload, mS_lload_n, mS_lload, mS_aload_n, mS_aload, mS_istore_n, mS_istore, mS_lstore_n, mS_lstore, mS_astore_n, mS_astore, mS_iinc, mS_iconst, mS_bipush, mS_sipush, mS_lconst, mS_ldc, mS_ldc_w, mS_ldc2_w, mS_getstatic, mS_iadd, mS_isub, mS_imul, mS_iand, mS_ior, mS_ixor, mS_ishl, mS_ishr, mS_iushr, mS_idiv, mS_irem, mS_ladd, mS_lsub, mS_lmul, mS_land, mS_lor, mS_lxor, mS_ldiv, mS_lrem, mS_lneg, mS_lshl, mS_lushr, mS_lcmp, mS_i2l, mS_l2i, mS_i2b, mS_dup_i, mS_dup_r, mS_dup2, mS_pop, mS_if_eq, mS_if_ne, mS_if_lt, mS_if_ge, mS_if_gt, mS_if_le, mS_icmp_eq, mS_icmp_ne, mS_icmp_lt, mS_icmp_ge, mS_icmp_gt, mS_icmp_le, mS_goto, mS_tsw, mS_lsw, mS_getfield, mS_putfield, mS_iaload, mS_iaload0, mS_baload, mS_laload, mS_laload1, mS_iastore, mS_bastore, mS_lastore, mS_alen, mS_alen0, mS_alen1, mS_newa_byte, mS_newa_int, mS_newa_long, mS_throw, mS_new, mS_oinit, mS_ireturn, mS_zreturn, mS_lreturn, mS_return, mS_mmin, mS_mmax, mS_mabs, mRun_go, mGo_t, mGo_f, mAt, mPut, mSt1, mSt2, mKill, mFit, mEnt, mPad, mSw, Nat.reduceAdd, Nat.reduceSub, Nat.reduceMod, Nat.reduceLT, Nat.reduceLeDiff, List.length_cons, List.length_nil, true_and, and_true, Option.some.injEq, Nat.zero_add, Classical.not_not, cmp_lt, cmp_ge, cmp_eq, cmp_gt, cmp_le, mAfter_v, mAfter_i, mAfter_l, mBack, mBk, mFrom, mRnC_l, mRnC_r, mRn_i, mRn_l, mRn_r, mRn_n, mRn_f, List.map_cons, List.map_nil, List.cons_append, List.nil_append, List.append_nil, Option.getD_some, Nat.add_zero, TX0_putBit_0]
    simp (disch := omega) only [i_0, i_1, i_2, i_3, i_4, i_5, i_6, i_7, i_8, i_9, i_10, i_11, i_12, i_13, i_15, i_16, i_27, i_28, i_31, i_32, i_52, i_54, i_56, i_63, i_64, i_88, i_128, i_255, i_256, i_257, i_2048, i_4000, i_65521, i_1048576, i_1075, nI_ofNat, nI_lt_iff, nI_le_iff, nI_eq_iff, nI_add, pk_mul, pk_sub, pk_div, pk_rem, nI_clamp, Nat.add_sub_cancel, Nat.reduceAdd, Nat.reduceSub, Nat.reduceMul, Nat.reduceDiv, Nat.reduceMod, Nat.reduceLT, Nat.reduceLeDiff, Nat.reduceEqDiff, Nat.add_zero, Nat.zero_add, n_rem, not_false_eq_true, not_true_eq_false, true_and, and_true, true_or, or_true, true_implies, false_implies, Nat.not_lt_zero, Nat.zero_le]
    exact ⟨fun h => absurd h h1, fun _ => hq⟩
theorem c_put {X : mX0} {d cap v w : Nat} {f : Nat → Int32} {B : List Nat} (hv : v < 2 ^ 64) (hw : w ≤ 64) (hB : B.length + w < 2 ^ 31) (hc : cap < 2 ^ 31) (hf : sinkOk cap f B) : ∃ f', sinkOk cap f' (B ++ bitsN v w) ∧ ∀ Q : mQ, Q (.inl none) (sinkAt 0 cap f' (B ++ bitsN v w)) 0 0 → mCall mP X (d + 2) 3 [.ref 0, .long (lN v), .int (nI w)] (sinkAt 0 cap f B) Q := by
  have hL : (B ++ bitsN v w).length = B.length + w := by rw [List.length_append, bitsN_len]
  have loop : ∀ j C f, j ≤ w → C.length = B.length + (w - j) → C ++ bitsN v j = B ++ bitsN v w → sinkOk cap f C → ∃ f', sinkOk cap f' (B ++ bitsN v w) ∧ ∀ Q : mQ, Q (.inl none) (sinkC 0 (nI (B.length + w)) cap f') 0 0 →
      mWP (d + 1) X (mCall mP X (d + 1)) (kX0_put, 6, []) Q 19 [.ref 0, .long (lN v), mU, .int (nI w), .int (nI B.length), .int (nI (w - j))] [] (sinkC 0 (nI (B.length + w)) cap f) 0 0 := by
    intro j
    induction j with
    | zero =>
      intro C f hj hC hE hf
      refine ⟨f, by rw [← hE]; simpa [bitsN] using hf, fun Q hq => ?_⟩
      (refine mWP_st 80 ?_; simp only [mS_iload_n, mS_iload, mS_lload_n, mS_lload, mS_aload_n, mS_aload, mS_istore_n, mS_istore, mS_lstore_n, mS_lstore, mS_astore_n, mS_astore, mS_iinc, mS_iconst, mS_bipush, mS_sipush, mS_lconst, mS_ldc, mS_ldc_w, mS_ldc2_w, mS_getstatic, mS_iadd, mS_isub, mS_imul, mS_iand, mS_ior, mS_ixor, mS_ishl, mS_ishr, mS_iushr, mS_idiv, mS_irem, mS_ladd, mS_lsub, mS_lmul, mS_land, mS_lor, mS_lxor, mS_ldiv, mS_lrem, mS_lneg, mS_lshl, mS_lushr, mS_lcmp, mS_i2l, mS_l2i, mS_i2b, mS_dup_i, mS_dup_r, mS_dup2, mS_pop, mS_if_eq, mS_if_ne, mS_if_lt, mS_if_ge, mS_if_gt, mS_if_le, mS_icmp_eq, mS_icmp_ne, mS_icmp_lt, mS_icmp_ge, mS_icmp_gt, mS_icmp_le, mS_goto, mS_tsw, mS_lsw, mS_getfield, mS_putfield, mS_iaload, mS_iaload0, mS_baload, mS_laload, mS_laload1, mS_iastore, mS_bastore, mS_lastore, mS_alen, mS_alen0, mS_alen1, mS_newa_byte, mS_newa_int, mS_newa_long, mS_throw, mS_new, mS_oinit, mS_ireturn, mS_zreturn, mS_lreturn, mS_return, mS_mmin, mS_mmax, mS_mabs, mRun_go, mGo_t, mGo_f, mAt, mPut, mSt1, mSt2, mKill, mFit, mEnt, mPad, mSw, Nat.reduceAdd, Nat.reduceSub, Nat.reduceMod, Nat.reduceLT, Nat.reduceLeDiff, List.length_cons, List.length_nil, true_and, and_true, Option.some.injEq, Nat.zero_add, Classical.not_not, cmp_lt, cmp_ge, cmp_eq, cmp_gt, cmp_le, mAfter_v, mAfter_i, mAfter_l, mBack, mBk, mFrom, mRnC_l, mRnC_r, mRn_i, mRn_l, mRn_r, mRn_n, mRn_f, List.map_cons, List.map_nil, List.cons_append, List.nil_append, List.append_nil, Option.getD_some, Nat.add_zero, TX0_put_0, mSt_row])
      simp (disch := omega) only [i_0, i_1, i_2, i_3, i_4, i_5, i_6, i_7, i_8, i_9, i_10, i_11, i_12, i_13, i_15, i_16, i_27, i_28, i_31, i_32, i_52, i_54, i_56, i_63, i_64, i_88, i_128, i_255, i_256, i_257, i_2048, i_4000, i_65521, i_1048576, i_1075, nI_ofNat, nI_lt_iff, nI_le_iff, nI_eq_iff, nI_add, pk_mul, pk_sub, pk_div, pk_rem, nI_clamp, Nat.add_sub_cancel, Nat.reduceAdd, Nat.reduceSub, Nat.reduceMul, Nat.reduceDiv, Nat.reduceMod, Nat.reduceLT, Nat.reduceLeDiff, Nat.reduceEqDiff, Nat.add_zero, Nat.zero_add, n_rem, not_false_eq_true, not_true_eq_false, true_and, and_true, true_or, or_true, true_implies, false_implies, Nat.not_lt_zero, Nat.zero_le]
      exact ⟨fun _ => hq, fun h => absurd h (by omega)⟩
    | succ j ih =>
      intro C f hj hC hE hf
      by_cases h0 : cap = 0
      · subst h0
        refine ⟨f, fun i _ hi => absurd hi (by omega), fun Q hq => ?_⟩
        (refine mWP_st 80 ?_; simp only [mS_iload_n, mS_iload, mS_lload_n, mS_lload, mS_aload_n, mS_aload, mS_istore_n, mS_istore, mS_lstore_n, mS_lstore, mS_astore_n, mS_astore, mS_iinc, mS_iconst, mS_bipush, mS_sipush, mS_lconst, mS_ldc, mS_ldc_w, mS_ldc2_w, mS_getstatic, mS_iadd, mS_isub, mS_imul, mS_iand, mS_ior, mS_ixor, mS_ishl, mS_ishr, mS_iushr, mS_idiv, mS_irem, mS_ladd, mS_lsub, mS_lmul, mS_land, mS_lor, mS_lxor, mS_ldiv, mS_lrem, mS_lneg, mS_lshl, mS_lushr, mS_lcmp, mS_i2l, mS_l2i, mS_i2b, mS_dup_i, mS_dup_r, mS_dup2, mS_pop, mS_if_eq, mS_if_ne, mS_if_lt, mS_if_ge, mS_if_gt, mS_if_le, mS_icmp_eq, mS_icmp_ne, mS_icmp_lt, mS_icmp_ge, mS_icmp_gt, mS_icmp_le, mS_goto, mS_tsw, mS_lsw, mS_getfield, mS_putfield, mS_iaload, mS_iaload0, mS_baload, mS_laload, mS_laload1, mS_iastore, mS_bastore, mS_lastore, mS_alen, mS_alen0, mS_alen1, mS_newa_byte, mS_newa_int, mS_newa_long, mS_throw, mS_new, mS_oinit, mS_ireturn, mS_zreturn, mS_lreturn, mS_return, mS_mmin, mS_mmax, mS_mabs, mRun_go, mGo_t, mGo_f, mAt, mPut, mSt1, mSt2, mKill, mFit, mEnt, mPad, mSw, Nat.reduceAdd, Nat.reduceSub, Nat.reduceMod, Nat.reduceLT, Nat.reduceLeDiff, List.length_cons, List.length_nil, true_and, and_true, Option.some.injEq, Nat.zero_add, Classical.not_not, cmp_lt, cmp_ge, cmp_eq, cmp_gt, cmp_le, mAfter_v, mAfter_i, mAfter_l, mBack, mBk, mFrom, mRnC_l, mRnC_r, mRn_i, mRn_l, mRn_r, mRn_n, mRn_f, List.map_cons, List.map_nil, List.cons_append, List.nil_append, List.append_nil, Option.getD_some, Nat.add_zero, TX0_put_0, mSt_row])
        simp (disch := omega) only [i_0, i_1, i_2, i_3, i_4, i_5, i_6, i_7, i_8, i_9, i_10, i_11, i_12, i_13, i_15, i_16, i_27, i_28, i_31, i_32, i_52, i_54, i_56, i_63, i_64, i_88, i_128, i_255, i_256, i_257, i_2048, i_4000, i_65521, i_1048576, i_1075, nI_ofNat, nI_lt_iff, nI_le_iff, nI_eq_iff, nI_add, pk_mul, pk_sub, pk_div, pk_rem, nI_clamp, Nat.add_sub_cancel, Nat.reduceAdd, Nat.reduceSub, Nat.reduceMul, Nat.reduceDiv, Nat.reduceMod, Nat.reduceLT, Nat.reduceLeDiff, Nat.reduceEqDiff, Nat.add_zero, Nat.zero_add, n_rem, not_false_eq_true, not_true_eq_false, true_and, and_true, true_or, or_true, true_implies, false_implies, Nat.not_lt_zero, Nat.zero_le]
        exact ⟨fun _ => hq, fun _ => hq⟩
      · have hb : v / 2 ^ j % 2 < 2 := Nat.mod_lt _ (by decide)
        obtain ⟨f1, g1, g2⟩ := c_putBit (X := X) (d := d) (m := nI (B.length + w)) (B := C) (by omega) hc hb hf
        obtain ⟨f2, k1, k2⟩ := ih (C ++ [v / 2 ^ j % 2]) f1 (by omega) (by simp; omega) (by rw [List.append_assoc]; exact hE) g1
        refine ⟨f2, k1, fun Q hq => ?_⟩
        (refine mWP_st 80 ?_; simp only [mS_iload_n, mS_iload, mS_lload_n, mS_lload, mS_aload_n, mS_aload, mS_istore_n, mS_istore, mS_lstore_n, mS_lstore, mS_astore_n, mS_astore, mS_iinc, mS_iconst, mS_bipush, mS_sipush, mS_lconst, mS_ldc, mS_ldc_w, mS_ldc2_w, mS_getstatic, mS_iadd, mS_isub, mS_imul, mS_iand, mS_ior, mS_ixor, mS_ishl, mS_ishr, mS_iushr, mS_idiv, mS_irem, mS_ladd, mS_lsub, mS_lmul, mS_land, mS_lor, mS_lxor, mS_ldiv, mS_lrem, mS_lneg, mS_lshl, mS_lushr, mS_lcmp, mS_i2l, mS_l2i, mS_i2b, mS_dup_i, mS_dup_r, mS_dup2, mS_pop, mS_if_eq, mS_if_ne, mS_if_lt, mS_if_ge, mS_if_gt, mS_if_le, mS_icmp_eq, mS_icmp_ne, mS_icmp_lt, mS_icmp_ge, mS_icmp_gt, mS_icmp_le, mS_goto, mS_tsw, mS_lsw, mS_getfield, mS_putfield, mS_iaload, mS_iaload0, mS_baload, mS_laload, mS_laload1, mS_iastore, mS_bastore, mS_lastore, mS_alen, mS_alen0, mS_alen1, mS_newa_byte, mS_newa_int, mS_newa_long, mS_throw, mS_new, mS_oinit, mS_ireturn, mS_zreturn, mS_lreturn, mS_return, mS_mmin, mS_mmax, mS_mabs, mRun_go, mGo_t, mGo_f, mAt, mPut, mSt1, mSt2, mKill, mFit, mEnt, mPad, mSw, Nat.reduceAdd, Nat.reduceSub, Nat.reduceMod, Nat.reduceLT, Nat.reduceLeDiff, List.length_cons, List.length_nil, true_and, and_true, Option.some.injEq, Nat.zero_add, Classical.not_not, cmp_lt, cmp_ge, cmp_eq, cmp_gt, cmp_le, mAfter_v, mAfter_i, mAfter_l, mBack, mBk, mFrom, mRnC_l, mRnC_r, mRn_i, mRn_l, mRn_r, mRn_n, mRn_f, List.map_cons, List.map_nil, List.cons_append, List.nil_append, List.append_nil, Option.getD_some, Nat.add_zero, TX0_put_0, mSt_row])
        simp (disch := omega) only [i_0, i_1, i_2, i_3, i_4, i_5, i_6, i_7, i_8, i_9, i_10, i_11, i_12, i_13, i_15, i_16, i_27, i_28, i_31, i_32, i_52, i_54, i_56, i_63, i_64, i_88, i_128, i_255, i_256, i_257, i_2048, i_4000, i_65521, i_1048576, i_1075, nI_ofNat, nI_lt_iff, nI_le_iff, nI_eq_iff, nI_add, pk_mul, pk_sub, pk_div, pk_rem, nI_clamp, Nat.add_sub_cancel, Nat.reduceAdd, Nat.reduceSub, Nat.reduceMul, Nat.reduceDiv, Nat.reduceMod, Nat.reduceLT, Nat.reduceLeDiff, Nat.reduceEqDiff, Nat.add_zero, Nat.zero_add, n_rem, not_false_eq_true, not_true_eq_false, true_and, and_true, true_or, or_true, true_implies, false_implies, Nat.not_lt_zero, Nat.zero_le]
        refine ⟨fun h => absurd h (by omega), fun _ => ⟨fun h => absurd h (by omega), fun _ => ?_⟩⟩
        rw [show w - 1 - (w - (j + 1)) = j from by omega, wb_shr hv (by omega), lN_i, pk_and _ 1 rfl, nI_mod, show B.length + (w - (j + 1)) = C.length from by omega]
        (refine mWP_v 80 (by simp only [TX0_put_0]; rfl) [0, 1] [] (g2) rfl rfl rfl rfl rfl (Nat.le_of_ble_eq_true rfl) rfl rfl rfl rfl rfl ?_; simp only [mS_iload_n, mS_iload, mS_lload_n, mS_lload, mS_aload_n, mS_aload, mS_istore_n, mS_istore, mS_lstore_n, mS_lstore, mS_astore_n, mS_astore, mS_iinc, mS_iconst, mS_bipush, mS_sipush, mS_lconst, mS_ldc, mS_ldc_w, mS_ldc2_w, mS_getstatic, mS_iadd, mS_isub, mS_imul, mS_iand, mS_ior, mS_ixor, mS_ishl, mS_ishr, mS_iushr, mS_idiv, mS_irem, mS_ladd, mS_lsub, mS_lmul, mS_land, mS_lor, mS_lxor, mS_ldiv, mS_lrem, mS_lneg, mS_lshl, mS_lushr, mS_lcmp, mS_i2l, mS_l2i, mS_i2b, mS_dup_i, mS_dup_r, mS_dup2, mS_pop, mS_if_eq, mS_if_ne, mS_if_lt, mS_if_ge, mS_if_gt, mS_if_le, mS_icmp_eq, mS_icmp_ne, mS_icmp_lt, mS_icmp_ge, mS_icmp_gt, mS_icmp_le, mS_goto, mS_tsw, mS_lsw, mS_getfield, mS_putfield, mS_iaload, mS_iaload0, mS_baload, mS_laload, mS_laload1, mS_iastore, mS_bastore, mS_lastore, mS_alen, mS_alen0, mS_alen1, mS_newa_byte, mS_newa_int, mS_newa_long, mS_throw, mS_new, mS_oinit, mS_ireturn, mS_zreturn, mS_lreturn, mS_return, mS_mmin, mS_mmax, mS_mabs, mRun_go, mGo_t, mGo_f, mAt, mPut, mSt1, mSt2, mKill, mFit, mEnt, mPad, mSw, Nat.reduceAdd, Nat.reduceSub, Nat.reduceMod, Nat.reduceLT, Nat.reduceLeDiff, List.length_cons, List.length_nil, true_and, and_true, Option.some.injEq, Nat.zero_add, Classical.not_not, cmp_lt, cmp_ge, cmp_eq, cmp_gt, cmp_le, mAfter_v, mAfter_i, mAfter_l, mBack, mBk, mFrom, mRnC_l, mRnC_r, mRn_i, mRn_l, mRn_r, mRn_n, mRn_f, List.map_cons, List.map_nil, List.cons_append, List.nil_append, List.append_nil, Option.getD_some, Nat.add_zero, TX0_put_0])
        simp (disch := omega) only [i_0, i_1, i_2, i_3, i_4, i_5, i_6, i_7, i_8, i_9, i_10, i_11, i_12, i_13, i_15, i_16, i_27, i_28, i_31, i_32, i_52, i_54, i_56, i_63, i_64, i_88, i_128, i_255, i_256, i_257, i_2048, i_4000, i_65521, i_1048576, i_1075, nI_ofNat, nI_lt_iff, nI_le_iff, nI_eq_iff, nI_add, pk_mul, pk_sub, pk_div, pk_rem, nI_clamp, Nat.add_sub_cancel, Nat.reduceAdd, Nat.reduceSub, Nat.reduceMul, Nat.reduceDiv, Nat.reduceMod, Nat.reduceLT, Nat.reduceLeDiff, Nat.reduceEqDiff, Nat.add_zero, Nat.zero_add, n_rem, not_false_eq_true, not_true_eq_false, true_and, and_true, true_or, or_true, true_implies, false_implies, Nat.not_lt_zero, Nat.zero_le]
        rw [show w - (j + 1) + 1 = w - j from by omega]
        exact k2 Q hq
  obtain ⟨f', h1, h2⟩ := loop w B f (Nat.le_refl w) (by omega) rfl hf
  refine ⟨f', h1, fun Q hq => ?_⟩
  refine mCall_in pX0_put 50 rfl ?_
  simp only [mS_iload_n, mS_iload, mS_lload_n, mS_lload, mS_aload_n, mS_aload, mS_istore_n, mS_istore, mS_lstore_n, mS_lstore, mS_astore_n, mS_astore, mS_iinc, mS_iconst, mS_bipush, mS_sipush, mS_lconst, mS_ldc, mS_ldc_w, mS_ldc2_w, mS_getstatic, mS_iadd, mS_isub, mS_imul, mS_iand, mS_ior, mS_ixor, mS_ishl, mS_ishr, mS_iushr, mS_idiv, mS_irem, mS_ladd, mS_lsub, mS_lmul, mS_land, mS_lor, mS_lxor, mS_ldiv, mS_lrem, mS_lneg, mS_lshl, mS_lushr, mS_lcmp, mS_i2l, mS_l2i, mS_i2b, mS_dup_i, mS_dup_r, mS_dup2, mS_pop, mS_if_eq, mS_if_ne, mS_if_lt, mS_if_ge, mS_if_gt, mS_if_le, mS_icmp_eq, mS_icmp_ne, mS_icmp_lt, mS_icmp_ge, mS_icmp_gt, mS_icmp_le, mS_goto, mS_tsw, mS_lsw, mS_getfield, mS_putfield, mS_iaload, mS_iaload0, mS_baload, mS_laload, mS_laload1, mS_iastore, mS_bastore, mS_lastore, mS_alen, mS_alen0, mS_alen1, mS_newa_byte, mS_newa_int, mS_newa_long, mS_throw, mS_new, mS_oinit, mS_ireturn, mS_zreturn, mS_lreturn, mS_return, mS_mmin, mS_mmax, mS_mabs, mRun_go, mGo_t, mGo_f, mAt, mPut, mSt1, mSt2, mKill, mFit, mEnt, mPad, mSw, Nat.reduceAdd, Nat.reduceSub, Nat.reduceMod, Nat.reduceLT, Nat.reduceLeDiff, List.length_cons, List.length_nil, true_and, and_true, Option.some.injEq, Nat.zero_add, Classical.not_not, cmp_lt, cmp_ge, cmp_eq, cmp_gt, cmp_le, mAfter_v, mAfter_i, mAfter_l, mBack, mBk, mFrom, mRnC_l, mRnC_r, mRn_i, mRn_l, mRn_r, mRn_n, mRn_f, List.map_cons, List.map_nil, List.cons_append, List.nil_append, List.append_nil, Option.getD_some, Nat.add_zero, TX0_put_0]
  simp (disch := omega) only [i_0, i_1, i_2, i_3, i_4, i_5, i_6, i_7, i_8, i_9, i_10, i_11, i_12, i_13, i_15, i_16, i_27, i_28, i_31, i_32, i_52, i_54, i_56, i_63, i_64, i_88, i_128, i_255, i_256, i_257, i_2048, i_4000, i_65521, i_1048576, i_1075, nI_ofNat, nI_lt_iff, nI_le_iff, nI_eq_iff, nI_add, pk_mul, pk_sub, pk_div, pk_rem, nI_clamp, Nat.add_sub_cancel, Nat.reduceAdd, Nat.reduceSub, Nat.reduceMul, Nat.reduceDiv, Nat.reduceMod, Nat.reduceLT, Nat.reduceLeDiff, Nat.reduceEqDiff, Nat.add_zero, Nat.zero_add, n_rem, not_false_eq_true, not_true_eq_false, true_and, and_true, true_or, or_true, true_implies, false_implies, Nat.not_lt_zero, Nat.zero_le]
  rw [Nat.sub_self] at h2
  refine h2 Q ?_
  rw [← hL]
  exact hq
