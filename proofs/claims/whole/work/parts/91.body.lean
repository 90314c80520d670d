/-! a method's contract out of its run -/
def mNop : mI := (true, .nop, 0, [], .null)
def mRowsOk (Ts : List Cond) (mt : Nat → mMt) (t : mMt) (k : Nat → mI) : Prop :=
  ∀ pc, k pc = mNop ∨ (decode t.2.1 pc = .ok ((k pc).2.1, (k pc).2.2.1) ∧ okI t.1.cls Ts mt (t.1.name == "<init>") t.2.2.2.1 t.2.1 pc (k pc).2.1 (k pc).2.2.1 (k pc).2.2.2.1 (k pc).2.2.2.2)
def mHsOk (own : String) (Ts : List Cond) (cc : ByteArray) (L : Nat) : mHd → List (Nat × Nat × Nat × Nat) → Prop
  | [], [] => True
  | x :: hs, z :: hh => x.1 = z.1 ∧ x.2.1 = z.2.1 ∧ x.2.2.1 < 4 ∧ z.2.2.2 ≠ 0 ∧ Cond.classLink own z.2.2.2 (mEx x.2.2.1) ∈ Ts ∧ x.2.2.2.2 < L ∧
      ((∃ k : Fin 4, decode cc z.2.2.1 = .ok (.astore_n k, 1) ∧ (k : Nat) = x.2.2.2.2 ∧ x.2.2.2.1 = z.2.2.1 + 1) ∨ (decode cc z.2.2.1 = .ok (.astore x.2.2.2.2, 2) ∧ x.2.2.2.1 = z.2.2.1 + 2)) ∧ mHsOk own Ts cc L hs hh
  | _, _ => False
theorem mCov (a b c d pc : Nat) : covers (⟨a, b, c, d⟩ : ExceptionTableEntry) pc = (Nat.ble a pc && Nat.blt pc b) := by
  rw [Bool.eq_iff_iff]
  simp only [covers, Bool.and_eq_true, decide_eq_true_eq, Nat.ble_eq, Nat.blt_eq]
theorem mBare_ok {own : String} {Ts : List Cond} {cc : ByteArray} {L pc : Nat} : ∀ {hs : mHd} {hh : List (Nat × Nat × Nat × Nat)}, mHsOk own Ts cc L hs hh → mBare pc hs = true → ∀ x ∈ tableOf hh, covers x pc = false
  | [], [], _, _ => fun x hx => by cases hx
  | x :: hs, z :: hh, h, hb => by
    obtain ⟨h1, h2, -, -, -, -, -, h8⟩ := h
    simp only [mBare, Bool.and_eq_true, Bool.not_eq_true'] at hb
    intro y hy
    rcases List.mem_cons.mp hy with e | e
    · subst e
      rw [mCov, ← h1, ← h2]
      exact hb.1
    · exact mBare_ok h8 hb.2 y e
theorem mTake_ok {own : String} {Ts : List Cond} {cc : ByteArray} {L pc e0 pc' j : Nat} : ∀ {hs : mHd} {hh : List (Nat × Nat × Nat × Nat)}, mHsOk own Ts cc L hs hh → mTake pc e0 hs = some (pc', j) →
    ∃ (pre : List ExceptionTableEntry) (x : ExceptionTableEntry) (suf : List ExceptionTableEntry), tableOf hh = pre ++ x :: suf ∧ (∀ z ∈ pre, covers z pc = false ∨ (z.catchType ≠ 0 ∧ ∃ e1, e1 < 4 ∧ e0 ≠ e1 ∧ Cond.classLink own z.catchType (mEx e1) ∈ Ts)) ∧ covers x pc = true ∧ x.catchType ≠ 0 ∧ Cond.classLink own x.catchType (mEx e0) ∈ Ts ∧ j < L ∧
      ((∃ k : Fin 4, decode cc x.handlerPc = .ok (.astore_n k, 1) ∧ (k : Nat) = j ∧ pc' = x.handlerPc + 1) ∨ (decode cc x.handlerPc = .ok (.astore j, 2) ∧ pc' = x.handlerPc + 2))
  | [], [], _, ht => by cases ht
  | x :: hs, z :: hh, h, ht => by
    obtain ⟨h1, h2, h3, h4, h5, h6, h7, h8⟩ := h
    rw [mTake] at ht
    by_cases g : (Nat.ble x.1 pc && Nat.blt pc x.2.1 && Nat.beq x.2.2.1 e0) = true
    · rw [if_pos g] at ht
      simp only [Option.some.injEq, Prod.mk.injEq] at ht
      obtain ⟨t1, t2⟩ := ht
      simp only [Bool.and_eq_true] at g
      have ge : x.2.2.1 = e0 := Nat.eq_of_beq_eq_true g.2
      refine ⟨[], ⟨z.1, z.2.1, z.2.2.1, z.2.2.2⟩, tableOf hh, rfl, (fun y hy => by cases hy), ?_, h4, (by rw [← ge]; exact h5), (by rw [← t2]; exact h6), (by rw [← t1, ← t2]; exact h7)⟩
      rw [mCov, ← h1, ← h2, Bool.and_eq_true]
      exact g.1
    · rw [if_neg g] at ht
      obtain ⟨pre, y, suf, k1, k2, k3⟩ := mTake_ok h8 ht
      refine ⟨⟨z.1, z.2.1, z.2.2.1, z.2.2.2⟩ :: pre, y, suf, by rw [List.cons_append, ← k1]; rfl, fun w hw => ?_, k3⟩
      rcases List.mem_cons.mp hw with e | e
      · subst e
        by_cases gc : (Nat.ble x.1 pc && Nat.blt pc x.2.1) = true
        · refine Or.inr ⟨h4, x.2.2.1, h3, ?_, h5⟩
          intro he
          apply g
          rw [gc, ← he]
          simp
        · left
          rw [mCov, ← h1, ← h2]
          simpa only [Bool.not_eq_true] using gc
      · exact k2 w e
theorem mPad_at (n j : Nat) (v : Value) (h : mAt (mPad n) j = some v) : v = mU := by
  induction n generalizing j with
  | zero => cases h
  | succ n ih =>
    match j with
    | 0 => simpa [mPad, mAt] using h.symm
    | j + 1 => exact ih j h
theorem mPad_len (n : Nat) : (mPad n).length = n := by
  induction n with
  | zero => rfl
  | succ n ih => simp [mPad, ih]
theorem mEnt_len : ∀ (as : List Value) (L : Nat), mCat as ≤ L → as.all mNoD = true → (mEnt as L).length = L
  | [], L, _, _ => mPad_len L
  | v :: vs, L, h, hd => by
    simp only [List.all_cons, Bool.and_eq_true] at hd
    have h1 : v.category + mCat vs ≤ L := h
    cases v with
    | long x =>
      have h2 : 2 + mCat vs ≤ L := h1
      show (mEnt vs (L - 2)).length + 1 + 1 = L
      rw [mEnt_len vs (L - 2) (by omega) hd.2]
      omega
    | double x => exact absurd hd.1 (by simp [mNoD])
    | _ =>
      have h2 : 1 + mCat vs ≤ L := h1
      show (mEnt vs (L - 1)).length + 1 = L
      rw [mEnt_len vs (L - 1) (by omega) hd.2]
      omega
theorem mEnt_in (ad ro : Nat → Nat) : ∀ (as : List Value) (L i j : Nat) (v : Value), as.all mNoD = true → mAt (mEnt as L) j = some v → v ≠ mU → (i + j, mp ad ro v) ∈ lv_args i (as.map (mp ad ro))
  | [], L, i, j, v, _, h, hv => absurd (mPad_at L j v h) hv
  | w :: vs, L, i, j, v, hd, h, hv => by
    simp only [List.all_cons, Bool.and_eq_true] at hd
    cases w with
    | long x =>
      rw [List.map_cons]
      show _ ∈ (i, Value.long x) :: lv_args (i + 2) (vs.map (mp ad ro))
      match j, h with
      | 0, h => cases h; exact List.mem_cons_self
      | 1, h => cases h; exact absurd rfl hv
      | j + 2, h =>
        have := mEnt_in ad ro vs (L - 2) (i + 2) j v hd.2 h hv
        rw [show i + (j + 2) = i + 2 + j from by omega]
        exact List.mem_cons_of_mem _ this
    | double x => exact absurd hd.1 (by simp [mNoD])
    | int x =>
      rw [List.map_cons]
      show _ ∈ (i, Value.int x) :: lv_args (i + 1) (vs.map (mp ad ro))
      match j, h with
      | 0, h => cases h; exact List.mem_cons_self
      | j + 1, h =>
        have := mEnt_in ad ro vs (L - 1) (i + 1) j v hd.2 h hv
        rw [show i + (j + 1) = i + 1 + j from by omega]
        exact List.mem_cons_of_mem _ this
    | float x =>
      rw [List.map_cons]
      show _ ∈ (i, Value.ref (ro x.toNat)) :: lv_args (i + 1) (vs.map (mp ad ro))
      match j, h with
      | 0, h => cases h; exact List.mem_cons_self
      | j + 1, h =>
        have := mEnt_in ad ro vs (L - 1) (i + 1) j v hd.2 h hv
        rw [show i + (j + 1) = i + 1 + j from by omega]
        exact List.mem_cons_of_mem _ this
    | null =>
      rw [List.map_cons]
      show _ ∈ (i, Value.null) :: lv_args (i + 1) (vs.map (mp ad ro))
      match j, h with
      | 0, h => cases h; exact List.mem_cons_self
      | j + 1, h =>
        have := mEnt_in ad ro vs (L - 1) (i + 1) j v hd.2 h hv
        rw [show i + (j + 1) = i + 1 + j from by omega]
        exact List.mem_cons_of_mem _ this
    | ref x =>
      rw [List.map_cons]
      show _ ∈ (i, Value.ref (ad x)) :: lv_args (i + 1) (vs.map (mp ad ro))
      match j, h with
      | 0, h => cases h; exact List.mem_cons_self
      | j + 1, h =>
        have := mEnt_in ad ro vs (L - 1) (i + 1) j v hd.2 h hv
        rw [show i + (j + 1) = i + 1 + j from by omega]
        exact List.mem_cons_of_mem _ this
    | retAddr x =>
      rw [List.map_cons]
      show _ ∈ (i, Value.retAddr x) :: lv_args (i + 1) (vs.map (mp ad ro))
      match j, h with
      | 0, h => cases h; exact List.mem_cons_self
      | j + 1, h =>
        have := mEnt_in ad ro vs (L - 1) (i + 1) j v hd.2 h hv
        rw [show i + (j + 1) = i + 1 + j from by omega]
        exact List.mem_cons_of_mem _ this
theorem mSl_len (ad ro : Nat → Nat) (as : List Value) : (lg_sl (as.map (mp ad ro))).length = mCat as := by
  induction as with
  | nil => rfl
  | cons v vs ih =>
    have e1 : lg_sl ((v :: vs).map (mp ad ro)) = (if (mp ad ro v).category = 2 then [.val (mp ad ro v), .second] else [.val (mp ad ro v)]) ++ lg_sl (vs.map (mp ad ro)) := by simp [lg_sl]
    rw [e1, List.length_append, ih]
    show _ = v.category + mCat vs
    cases v <;> simp [mp, Value.category]
theorem mEnt_mL (ad ro : Nat → Nat) {as : List Value} {L : Nat} (h : mFitA as L = true) : mL ad ro ((lg_sl (as.map (mp ad ro)) ++ List.replicate (L - (lg_sl (as.map (mp ad ro))).length) Slot.unset).toArray) L (mEnt as L) := by
  simp only [mFitA, Bool.and_eq_true] at h
  have hc : mCat as ≤ L := Nat.le_of_ble_eq_true h.2
  refine ⟨_, lv_entry (as.map (mp ad ro)) (by rw [mSl_len]; exact hc), Nat.le_of_eq (mEnt_len as L hc h.1), fun j v hj hv => ?_⟩
  have := mEnt_in ad ro as L 0 j v h.1 hj hv
  rw [Nat.zero_add] at this
  exact this
