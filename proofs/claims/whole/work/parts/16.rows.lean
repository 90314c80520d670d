section
variable {d : Nat} {X : mX0} {G : mG} {hs : mHd} {len : Nat} {cv : Value} {pc : Nat} {lo st : List Value} {h : mH} {c s : Nat} {K : mK} {Q : mQ}
theorem mS_iload_n (j : Nat) (k : Fin 4) : mStep d X G hs (.iload_n k) len ([j]) (cv) pc lo (st) h c s K Q = (match mAt lo j with | some (.int x) => K (pc + len) lo (.int x :: st) h c s | _ => False) := by rfl
theorem mS_iload (j kk : Nat) : mStep d X G hs (.iload kk) len ([j]) (cv) pc lo (st) h c s K Q = (match mAt lo j with | some (.int x) => K (pc + len) lo (.int x :: st) h c s | _ => False) := by rfl
theorem mS_lload_n (j : Nat) (k : Fin 4) : mStep d X G hs (.lload_n k) len ([j]) (cv) pc lo (st) h c s K Q = (match mAt lo j with | some (.long x) => K (pc + len) lo (.long x :: st) h c s | _ => False) := by rfl
theorem mS_lload (j kk : Nat) : mStep d X G hs (.lload kk) len ([j]) (cv) pc lo (st) h c s K Q = (match mAt lo j with | some (.long x) => K (pc + len) lo (.long x :: st) h c s | _ => False) := by rfl
theorem mS_aload_n (j : Nat) (k : Fin 4) : mStep d X G hs (.aload_n k) len ([j]) (cv) pc lo (st) h c s K Q = (match mAt lo j with | some (.ref x) => K (pc + len) lo (.ref x :: st) h c s | some (.float x) => K (pc + len) lo (.float x :: st) h c s | _ => False) := by rfl
theorem mS_aload (j kk : Nat) : mStep d X G hs (.aload kk) len ([j]) (cv) pc lo (st) h c s K Q = (match mAt lo j with | some (.ref x) => K (pc + len) lo (.ref x :: st) h c s | some (.float x) => K (pc + len) lo (.float x :: st) h c s | _ => False) := by rfl
theorem mS_istore_n (j : Nat) (k : Fin 4) (x : Int32) : mStep d X G hs (.istore_n k) len ([j]) (cv) pc lo (.int x :: st) h c s K Q = (j < lo.length ∧ K (pc + len) (mSt1 lo j (.int x)) st h c s) := by rfl
theorem mS_istore (j kk : Nat) (x : Int32) : mStep d X G hs (.istore kk) len ([j]) (cv) pc lo (.int x :: st) h c s K Q = (j < lo.length ∧ K (pc + len) (mSt1 lo j (.int x)) st h c s) := by rfl
theorem mS_lstore_n (j : Nat) (k : Fin 4) (x : Int64) : mStep d X G hs (.lstore_n k) len ([j]) (cv) pc lo (.long x :: st) h c s K Q = (j + 1 < lo.length ∧ K (pc + len) (mSt2 lo j (.long x)) st h c s) := by rfl
theorem mS_lstore (j kk : Nat) (x : Int64) : mStep d X G hs (.lstore kk) len ([j]) (cv) pc lo (.long x :: st) h c s K Q = (j + 1 < lo.length ∧ K (pc + len) (mSt2 lo j (.long x)) st h c s) := by rfl
theorem mS_astore_n (j : Nat) (k : Fin 4) (x : Nat) : mStep d X G hs (.astore_n k) len ([j]) (cv) pc lo (.ref x :: st) h c s K Q = (j < lo.length ∧ K (pc + len) (mSt1 lo j (.ref x)) st h c s) := by rfl
theorem mS_astore (j kk : Nat) (x : Nat) : mStep d X G hs (.astore kk) len ([j]) (cv) pc lo (.ref x :: st) h c s K Q = (j < lo.length ∧ K (pc + len) (mSt1 lo j (.ref x)) st h c s) := by rfl
theorem mS_iinc (j kk : Nat) (kn : Int) (n : Int32) : mStep d X G hs (.iinc kk kn) len ([j]) (.int n) pc lo (st) h c s K Q = (match mAt lo j with | some (.int x) => K (pc + len) (mSt1 lo j (.int (x + n))) st h c s | _ => False) := by
  simp only [mStep]
  split <;> first | rfl | (split <;> first | rfl | simp_all)
theorem mS_iconst (kn : Int) : mStep d X G hs (.iconst kn) len ([]) (cv) pc lo (st) h c s K Q = (K (pc + len) lo (cv :: st) h c s) := by rfl
theorem mS_bipush (kn : Int) : mStep d X G hs (.bipush kn) len ([]) (cv) pc lo (st) h c s K Q = (K (pc + len) lo (cv :: st) h c s) := by rfl
theorem mS_sipush (kn : Int) : mStep d X G hs (.sipush kn) len ([]) (cv) pc lo (st) h c s K Q = (K (pc + len) lo (cv :: st) h c s) := by rfl
theorem mS_lconst (k2 : Fin 2) : mStep d X G hs (.lconst k2) len ([]) (cv) pc lo (st) h c s K Q = (K (pc + len) lo (cv :: st) h c s) := by rfl
theorem mS_ldc (kk : Nat) : mStep d X G hs (.ldc kk) len ([]) (cv) pc lo (st) h c s K Q = (K (pc + len) lo (cv :: st) h c s) := by rfl
theorem mS_ldc_w (kk : Nat) : mStep d X G hs (.ldc_w kk) len ([]) (cv) pc lo (st) h c s K Q = (K (pc + len) lo (cv :: st) h c s) := by rfl
theorem mS_ldc2_w (kk : Nat) : mStep d X G hs (.ldc2_w kk) len ([]) (cv) pc lo (st) h c s K Q = (K (pc + len) lo (cv :: st) h c s) := by rfl
theorem mS_getstatic (kk : Nat) : mStep d X G hs (.getstatic kk) len ([]) (cv) pc lo (st) h c s K Q = (K (pc + len) lo (cv :: st) h c s) := by rfl
theorem mS_iadd (x y : Int32) : mStep d X G hs (.iadd) len ([]) (cv) pc lo (.int y :: .int x :: st) h c s K Q = (K (pc + len) lo (.int (x + y) :: st) h c s) := by rfl
theorem mS_isub (x y : Int32) : mStep d X G hs (.isub) len ([]) (cv) pc lo (.int y :: .int x :: st) h c s K Q = (K (pc + len) lo (.int (x - y) :: st) h c s) := by rfl
theorem mS_imul (x y : Int32) : mStep d X G hs (.imul) len ([]) (cv) pc lo (.int y :: .int x :: st) h c s K Q = (K (pc + len) lo (.int (x * y) :: st) h c s) := by rfl
theorem mS_iand (x y : Int32) : mStep d X G hs (.iand) len ([]) (cv) pc lo (.int y :: .int x :: st) h c s K Q = (K (pc + len) lo (.int (x &&& y) :: st) h c s) := by rfl
theorem mS_ior (x y : Int32) : mStep d X G hs (.ior) len ([]) (cv) pc lo (.int y :: .int x :: st) h c s K Q = (K (pc + len) lo (.int (x ||| y) :: st) h c s) := by rfl
theorem mS_ixor (x y : Int32) : mStep d X G hs (.ixor) len ([]) (cv) pc lo (.int y :: .int x :: st) h c s K Q = (K (pc + len) lo (.int (x ^^^ y) :: st) h c s) := by rfl
theorem mS_ishl (x y : Int32) : mStep d X G hs (.ishl) len ([]) (cv) pc lo (.int y :: .int x :: st) h c s K Q = (K (pc + len) lo (.int (x <<< (y &&& 31)) :: st) h c s) := by rfl
theorem mS_ishr (x y : Int32) : mStep d X G hs (.ishr) len ([]) (cv) pc lo (.int y :: .int x :: st) h c s K Q = (K (pc + len) lo (.int (x >>> (y &&& 31)) :: st) h c s) := by rfl
theorem mS_iushr (x y : Int32) : mStep d X G hs (.iushr) len ([]) (cv) pc lo (.int y :: .int x :: st) h c s K Q = (K (pc + len) lo (.int (x.toUInt32 >>> (y.toUInt32 &&& Int32.toUInt32 31)).toInt32 :: st) h c s) := by rfl
theorem mS_idiv (x y : Int32) : mStep d X G hs (.idiv) len ([]) (cv) pc lo (.int y :: .int x :: st) h c s K Q = (¬ y = 0 ∧ K (pc + len) lo (.int (x / y) :: st) h c s) := by rfl
theorem mS_irem (x y : Int32) : mStep d X G hs (.irem) len ([]) (cv) pc lo (.int y :: .int x :: st) h c s K Q = (¬ y = 0 ∧ K (pc + len) lo (.int (x - x / y * y) :: st) h c s) := by rfl
theorem mS_ladd (x y : Int64) : mStep d X G hs (.ladd) len ([]) (cv) pc lo (.long y :: .long x :: st) h c s K Q = (K (pc + len) lo (.long (x + y) :: st) h c s) := by rfl
theorem mS_lsub (x y : Int64) : mStep d X G hs (.lsub) len ([]) (cv) pc lo (.long y :: .long x :: st) h c s K Q = (K (pc + len) lo (.long (x - y) :: st) h c s) := by rfl
theorem mS_lmul (x y : Int64) : mStep d X G hs (.lmul) len ([]) (cv) pc lo (.long y :: .long x :: st) h c s K Q = (K (pc + len) lo (.long (x * y) :: st) h c s) := by rfl
theorem mS_land (x y : Int64) : mStep d X G hs (.land) len ([]) (cv) pc lo (.long y :: .long x :: st) h c s K Q = (K (pc + len) lo (.long (x &&& y) :: st) h c s) := by rfl
theorem mS_lor (x y : Int64) : mStep d X G hs (.lor) len ([]) (cv) pc lo (.long y :: .long x :: st) h c s K Q = (K (pc + len) lo (.long (x ||| y) :: st) h c s) := by rfl
theorem mS_lxor (x y : Int64) : mStep d X G hs (.lxor) len ([]) (cv) pc lo (.long y :: .long x :: st) h c s K Q = (K (pc + len) lo (.long (x ^^^ y) :: st) h c s) := by rfl
theorem mS_ldiv (x y : Int64) : mStep d X G hs (.ldiv) len ([]) (cv) pc lo (.long y :: .long x :: st) h c s K Q = (¬ y = 0 ∧ K (pc + len) lo (.long (x / y) :: st) h c s) := by rfl
theorem mS_lrem (x y : Int64) : mStep d X G hs (.lrem) len ([]) (cv) pc lo (.long y :: .long x :: st) h c s K Q = (¬ y = 0 ∧ K (pc + len) lo (.long (x - x / y * y) :: st) h c s) := by rfl
theorem mS_lneg (x : Int64) : mStep d X G hs (.lneg) len ([]) (cv) pc lo (.long x :: st) h c s K Q = (K (pc + len) lo (.long (-x) :: st) h c s) := by rfl
theorem mS_lshl (x : Int64) (y : Int32) : mStep d X G hs (.lshl) len ([]) (cv) pc lo (.int y :: .long x :: st) h c s K Q = (K (pc + len) lo (.long (x <<< (y.toInt64 &&& 63)) :: st) h c s) := by rfl
theorem mS_lushr (x : Int64) (y : Int32) : mStep d X G hs (.lushr) len ([]) (cv) pc lo (.int y :: .long x :: st) h c s K Q = (K (pc + len) lo (.long (x.toUInt64 >>> (y.toInt64.toUInt64 &&& Int64.toUInt64 63)).toInt64 :: st) h c s) := by rfl
theorem mS_lcmp (x y : Int64) : mStep d X G hs (.lcmp) len ([]) (cv) pc lo (.long y :: .long x :: st) h c s K Q = (K (pc + len) lo (.int (lg_cmp x y) :: st) h c s) := by rfl
theorem mS_i2l (x : Int32) : mStep d X G hs (.i2l) len ([]) (cv) pc lo (.int x :: st) h c s K Q = (K (pc + len) lo (.long x.toInt64 :: st) h c s) := by rfl
theorem mS_l2i (x : Int64) : mStep d X G hs (.l2i) len ([]) (cv) pc lo (.long x :: st) h c s K Q = (K (pc + len) lo (.int x.toInt32 :: st) h c s) := by rfl
theorem mS_i2b (x : Int32) : mStep d X G hs (.i2b) len ([]) (cv) pc lo (.int x :: st) h c s K Q = (K (pc + len) lo (.int x.toInt8.toInt32 :: st) h c s) := by rfl
theorem mS_dup_i (x : Int32) : mStep d X G hs (.dup) len ([]) (cv) pc lo (.int x :: st) h c s K Q = (K (pc + len) lo (.int x :: .int x :: st) h c s) := by rfl
theorem mS_dup_r (x : Nat) : mStep d X G hs (.dup) len ([]) (cv) pc lo (.ref x :: st) h c s K Q = (K (pc + len) lo (.ref x :: .ref x :: st) h c s) := by rfl
theorem mS_dup2 (x : Int32) (y : Nat) : mStep d X G hs (.dup2) len ([]) (cv) pc lo (.int x :: .ref y :: st) h c s K Q = (K (pc + len) lo (.int x :: .ref y :: .int x :: .ref y :: st) h c s) := by rfl
theorem mS_pop (x : Int32) : mStep d X G hs (.pop) len ([]) (cv) pc lo (.int x :: st) h c s K Q = (K (pc + len) lo st h c s) := by rfl
theorem mS_if_eq (off : Int) (t : Nat) (x : Int32) : mStep d X G hs (.ifCond .eq off) len ([t]) (cv) pc lo (.int x :: st) h c s K Q = (((x = 0) → K t lo st h c s) ∧ (¬ (x = 0) → K (pc + 3) lo st h c s)) := by rfl
theorem mS_if_ne (off : Int) (t : Nat) (x : Int32) : mStep d X G hs (.ifCond .ne off) len ([t]) (cv) pc lo (.int x :: st) h c s K Q = (((¬ x = 0) → K t lo st h c s) ∧ (¬ (¬ x = 0) → K (pc + 3) lo st h c s)) := by rfl
theorem mS_if_lt (off : Int) (t : Nat) (x : Int32) : mStep d X G hs (.ifCond .lt off) len ([t]) (cv) pc lo (.int x :: st) h c s K Q = (((x < 0) → K t lo st h c s) ∧ (¬ (x < 0) → K (pc + 3) lo st h c s)) := by rfl
theorem mS_if_ge (off : Int) (t : Nat) (x : Int32) : mStep d X G hs (.ifCond .ge off) len ([t]) (cv) pc lo (.int x :: st) h c s K Q = (((0 ≤ x) → K t lo st h c s) ∧ (¬ (0 ≤ x) → K (pc + 3) lo st h c s)) := by rfl
theorem mS_if_gt (off : Int) (t : Nat) (x : Int32) : mStep d X G hs (.ifCond .gt off) len ([t]) (cv) pc lo (.int x :: st) h c s K Q = (((0 < x) → K t lo st h c s) ∧ (¬ (0 < x) → K (pc + 3) lo st h c s)) := by rfl
theorem mS_if_le (off : Int) (t : Nat) (x : Int32) : mStep d X G hs (.ifCond .le off) len ([t]) (cv) pc lo (.int x :: st) h c s K Q = (((x ≤ 0) → K t lo st h c s) ∧ (¬ (x ≤ 0) → K (pc + 3) lo st h c s)) := by rfl
theorem mS_icmp_eq (off : Int) (t : Nat) (x y : Int32) : mStep d X G hs (.if_icmp .eq off) len ([t]) (cv) pc lo (.int y :: .int x :: st) h c s K Q = (((x = y) → K t lo st h c s) ∧ (¬ (x = y) → K (pc + 3) lo st h c s)) := by rfl
theorem mS_icmp_ne (off : Int) (t : Nat) (x y : Int32) : mStep d X G hs (.if_icmp .ne off) len ([t]) (cv) pc lo (.int y :: .int x :: st) h c s K Q = (((¬ x = y) → K t lo st h c s) ∧ (¬ (¬ x = y) → K (pc + 3) lo st h c s)) := by rfl
theorem mS_icmp_lt (off : Int) (t : Nat) (x y : Int32) : mStep d X G hs (.if_icmp .lt off) len ([t]) (cv) pc lo (.int y :: .int x :: st) h c s K Q = (((x < y) → K t lo st h c s) ∧ (¬ (x < y) → K (pc + 3) lo st h c s)) := by rfl
theorem mS_icmp_ge (off : Int) (t : Nat) (x y : Int32) : mStep d X G hs (.if_icmp .ge off) len ([t]) (cv) pc lo (.int y :: .int x :: st) h c s K Q = (((y ≤ x) → K t lo st h c s) ∧ (¬ (y ≤ x) → K (pc + 3) lo st h c s)) := by rfl
theorem mS_icmp_gt (off : Int) (t : Nat) (x y : Int32) : mStep d X G hs (.if_icmp .gt off) len ([t]) (cv) pc lo (.int y :: .int x :: st) h c s K Q = (((y < x) → K t lo st h c s) ∧ (¬ (y < x) → K (pc + 3) lo st h c s)) := by rfl
theorem mS_icmp_le (off : Int) (t : Nat) (x y : Int32) : mStep d X G hs (.if_icmp .le off) len ([t]) (cv) pc lo (.int y :: .int x :: st) h c s K Q = (((x ≤ y) → K t lo st h c s) ∧ (¬ (x ≤ y) → K (pc + 3) lo st h c s)) := by rfl
theorem mS_goto (off : Int) (t : Nat) : mStep d X G hs (.goto off) len ([t]) (cv) pc lo (st) h c s K Q = (K t lo st h c s) := by rfl
theorem mS_tsw (a1 a2 a3 : Int) (a4 : Array Int) (inf : List Nat) (x : Int32) : mStep d X G hs (.tableswitch a1 a2 a3 a4) len (inf) (cv) pc lo (.int x :: st) h c s K Q = (mSw x (fun q => K q lo st h c s) inf) := by rfl
theorem mS_lsw (a1 : Int) (a4 : Array (Int × Int)) (inf : List Nat) (x : Int32) : mStep d X G hs (.lookupswitch a1 a4) len (inf) (cv) pc lo (.int x :: st) h c s K Q = (mSw x (fun q => K q lo st h c s) inf) := by rfl
theorem mS_getfield (kk ci k a : Nat) : mStep d X G hs (.getfield kk) len ([ci, k]) (cv) pc lo (.ref a :: st) h c s K Q = (match mAt h a with | some (.inr (cj, fs)) => cj = ci ∧ (match mAt fs k with | some v => K (pc + len) lo (v :: st) h c s | none => False) | _ => False) := by rfl
theorem mS_putfield (kk ci k b a : Nat) (v : Value) : mStep d X G hs (.putfield kk) len ([ci, k, b]) (cv) pc lo (v :: .ref a :: st) h c s K Q = (match mAt h a with | some (.inr (cj, fs)) => cj = ci ∧ k < fs.length ∧ mFit (b % 10) v ∧ K (pc + len) lo st (mPut h a (.inr (ci, mPut fs k v))) c s | _ => False) := by rfl
theorem mS_iaload (a : Nat) (j : Int32) : mStep d X G hs (.iaload) len ([]) (cv) pc lo (.int j :: .ref a :: st) h c s K Q = (match mAt h a with | some (.inl (.int, n, .inl f)) => vp_in j n ∧ K (pc + len) lo (.int (f j.toNatClampNeg) :: st) h c s | _ => False) := by rfl
theorem mS_iaload0 (j : Int32) : mStep d X G hs (.iaload) len ([]) (cv) pc lo (.int j :: .float 0 :: st) h c s K Q = (vp_in j X.1 ∧ K (pc + len) lo (.int (X.2 j.toNatClampNeg) :: st) h c s) := by rfl
theorem mS_baload (a : Nat) (j : Int32) : mStep d X G hs (.baload) len ([]) (cv) pc lo (.int j :: .ref a :: st) h c s K Q = (match mAt h a with | some (.inl (.byte, n, .inl f)) => vp_in j n ∧ K (pc + len) lo (.int (f j.toNatClampNeg) :: st) h c s | _ => False) := by rfl
theorem mS_laload (a : Nat) (j : Int32) : mStep d X G hs (.laload) len ([]) (cv) pc lo (.int j :: .ref a :: st) h c s K Q = (match mAt h a with | some (.inl (.long, n, .inr (.inl f))) => vp_in j n ∧ K (pc + len) lo (.long (f j.toNatClampNeg) :: st) h c s | _ => False) := by rfl
theorem mS_laload1 (j : Int32) : mStep d X G hs (.laload) len ([]) (cv) pc lo (.int j :: .float 1 :: st) h c s K Q = (vp_in j 16 ∧ K (pc + len) lo (.long (mFive j.toNatClampNeg) :: st) h c s) := by rfl
theorem mS_iastore (a : Nat) (j x : Int32) : mStep d X G hs (.iastore) len ([]) (cv) pc lo (.int x :: .int j :: .ref a :: st) h c s K Q = (match mAt h a with | some (.inl (.int, n, .inl f)) => vp_in j n ∧ K (pc + len) lo st (mPut h a (.inl (.int, n, .inl (upd f j.toNatClampNeg x)))) c s | _ => False) := by rfl
theorem mS_bastore (a : Nat) (j x : Int32) : mStep d X G hs (.bastore) len ([]) (cv) pc lo (.int x :: .int j :: .ref a :: st) h c s K Q = (match mAt h a with | some (.inl (.byte, n, .inl f)) => vp_in j n ∧ K (pc + len) lo st (mPut h a (.inl (.byte, n, .inl (upd f j.toNatClampNeg x.toInt8.toInt32)))) c s | _ => False) := by rfl
theorem mS_lastore (a : Nat) (j : Int32) (x : Int64) : mStep d X G hs (.lastore) len ([]) (cv) pc lo (.long x :: .int j :: .ref a :: st) h c s K Q = (match mAt h a with | some (.inl (.long, n, .inr (.inl f))) => vp_in j n ∧ K (pc + len) lo st (mPut h a (.inl (.long, n, .inr (.inl (vp_updL f j.toNatClampNeg x))))) c s | _ => False) := by rfl
theorem mS_alen (a : Nat) : mStep d X G hs (.arraylength) len ([]) (cv) pc lo (.ref a :: st) h c s K Q = (match mAt h a with | some (.inl (.byte, n, _)) => K (pc + len) lo (.int (Int32.ofNat n) :: st) h c s | some (.inl (.int, n, _)) => K (pc + len) lo (.int (Int32.ofNat n) :: st) h c s | some (.inl (.long, n, _)) => K (pc + len) lo (.int (Int32.ofNat n) :: st) h c s | _ => False) := by rfl
theorem mS_alen0 : mStep d X G hs (.arraylength) len ([]) (cv) pc lo (.float 0 :: st) h c s K Q = (K (pc + len) lo (.int (Int32.ofNat X.1) :: st) h c s) := by rfl
theorem mS_alen1 : mStep d X G hs (.arraylength) len ([]) (cv) pc lo (.float 1 :: st) h c s K Q = (K (pc + len) lo (.int (Int32.ofNat 16) :: st) h c s) := by rfl
theorem mS_newa_byte (n : Int32) : mStep d X G hs (.newarray .byte) len ([]) (cv) pc lo (.int n :: st) h c s K Q = (¬ n < 0 ∧ n.toNatClampNeg ≤ 65536 ∧ (lo.all (mOk h.length) && st.all (mOk h.length) && h.all (mOkC h.length)) = true ∧ K (pc + len) lo (.ref h.length :: st) (h ++ [.inl (.byte, n.toNatClampNeg, .inl (fun _ => 0))]) (c + 1) (s + n.toNatClampNeg)) := by rfl
theorem mS_newa_int (n : Int32) : mStep d X G hs (.newarray .int) len ([]) (cv) pc lo (.int n :: st) h c s K Q = (¬ n < 0 ∧ n.toNatClampNeg ≤ 65536 ∧ (lo.all (mOk h.length) && st.all (mOk h.length) && h.all (mOkC h.length)) = true ∧ K (pc + len) lo (.ref h.length :: st) (h ++ [.inl (.int, n.toNatClampNeg, .inl (fun _ => 0))]) (c + 1) (s + n.toNatClampNeg)) := by rfl
theorem mS_newa_long (n : Int32) : mStep d X G hs (.newarray .long) len ([]) (cv) pc lo (.int n :: st) h c s K Q = (¬ n < 0 ∧ n.toNatClampNeg ≤ 65536 ∧ (lo.all (mOk h.length) && st.all (mOk h.length) && h.all (mOkC h.length)) = true ∧ K (pc + len) lo (.ref h.length :: st) (h ++ [.inl (.long, n.toNatClampNeg, .inr (.inl (fun _ => 0)))]) (c + 1) (s + n.toNatClampNeg)) := by rfl
theorem mS_throw (kk e : Nat) : mStep d X G hs (.new kk) len ([e]) (cv) pc lo (st) h c s K Q = (5 < d ∧ mCat st ≤ 8 ∧ mBare (pc + 9) hs = true ∧ Q (.inr e) h (c + 1) (s + 6)) := by rfl
theorem mS_new (kk ci t0 : Nat) (ts : List Nat) : mStep d X G hs (.new kk) len (ci :: t0 :: ts) (cv) pc lo (st) h c s K Q = ((lo.all (mOk h.length) && st.all (mOk h.length) && h.all (mOkC h.length)) = true ∧ K (pc + len) lo (.ref h.length :: st) (h ++ [.inr (ci, mDf 0 (t0 :: ts))]) (c + 1) (s + (t0 :: ts).length)) := by rfl
theorem mS_oinit (kk a : Nat) : mStep d X G hs (.invokespecial kk) len ([]) (cv) pc lo (.ref a :: st) h c s K Q = (0 < d ∧ mCat st ≤ 8 ∧ K (pc + len) lo st h c s) := by rfl
theorem mS_ireturn (x : Int32) : mStep d X G hs (.ireturn) len ([]) (cv) pc lo ([.int x]) h c s K Q = (Q (.inl (some (.int x))) h c s) := by rfl
theorem mS_zreturn (x : Int32) (j : Nat) : mStep d X G hs (.ireturn) len ([j]) (cv) pc lo ([.int x]) h c s K Q = ((x = 0 ∨ x = 1) ∧ Q (.inl (some (.int x))) h c s) := by rfl
theorem mS_lreturn (x : Int64) : mStep d X G hs (.lreturn) len ([]) (cv) pc lo ([.long x]) h c s K Q = (Q (.inl (some (.long x))) h c s) := by rfl
theorem mS_return : mStep d X G hs (.return_) len ([]) (cv) pc lo ([]) h c s K Q = (Q (.inl none) h c s) := by rfl
theorem mS_mmin (kk z1 : Nat) (x y : Int32) : mStep d X G hs (.invokestatic kk) len ([z1]) (cv) pc lo (.int y :: .int x :: st) h c s K Q = (0 < d ∧ mCat st ≤ 8 ∧ (y < x → K (pc + len) lo (.int y :: st) h c s) ∧ (¬ y < x → K (pc + len) lo (.int x :: st) h c s)) := by rfl
theorem mS_mmax (kk z1 z2 z3 z4 : Nat) (x y : Int32) : mStep d X G hs (.invokestatic kk) len ([z1, z2, z3, z4]) (cv) pc lo (.int y :: .int x :: st) h c s K Q = (0 < d ∧ mCat st ≤ 8 ∧ (x < y → K (pc + len) lo (.int y :: st) h c s) ∧ (¬ x < y → K (pc + len) lo (.int x :: st) h c s)) := by rfl
theorem mS_mabs (kk z1 z2 z3 z4 z5 : Nat) (x : Int64) : mStep d X G hs (.invokestatic kk) len ([z1, z2, z3, z4, z5]) (cv) pc lo (.long x :: st) h c s K Q = (0 < d ∧ mCat st ≤ 8 ∧ (0 < x → K (pc + len) lo (.long x :: st) h c s) ∧ (¬ 0 < x → K (pc + len) lo (.long (-x) :: st) h c s)) := by rfl
theorem mS_invs (kk y n : Nat) : mStep d X G hs (.invokestatic kk) len ([y, n]) (cv) pc lo (st) h c s K Q = (mInv G hs y n (fun _ _ _ => True) pc lo st h c s K Q) := by rfl
theorem mS_invi (kk y n : Nat) : mStep d X G hs (.invokespecial kk) len ([y, n]) (cv) pc lo (st) h c s K Q = (mInv G hs y n mRi pc lo st h c s K Q) := by rfl
theorem mS_invv (kk y n ci : Nat) : mStep d X G hs (.invokevirtual kk) len ([y, n, ci]) (cv) pc lo (st) h c s K Q = (mInv G hs y n (mRc ci) pc lo st h c s K Q) := by rfl
end
