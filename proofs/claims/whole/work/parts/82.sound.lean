/-! what the small machine's values and cells are in the real heap: 'ad' says where a place lies, 'ro' where the two rows lie that are only read -/
def mp (ad ro : Nat → Nat) : Value → Value
  | .ref i => .ref (ad i)
  | .float k => .ref (ro k.toNat)
  | v => v
def mE (kA : FieldType → ClassId) (ad ro : Nat → Nat) : mC → va_E
  | .inl (ty, a) => .inl (kA ty, a)
  | .inr (ci, fs) => .inr (ci, fs.map (mp ad ro))
def mWs (kA : FieldType → ClassId) (ad ro : Nat → Nat) (h : mH) : va_W := h.mapIdx (fun i x => (ad i, mE kA ad ro x))
theorem mWs_get (kA : FieldType → ClassId) (ad ro : Nat → Nat) (h : mH) (i : Nat) : (mWs kA ad ro h)[i]? = (h[i]?).map (fun x => (ad i, mE kA ad ro x)) := by simp [mWs]
theorem mWs_at {kA : FieldType → ClassId} {ad ro : Nat → Nat} {h : mH} {i : Nat} {x : mC} (hi : mAt h i = some x) : (mWs kA ad ro h)[i]? = some (ad i, mE kA ad ro x) := by
  rw [mAt_eq] at hi
  rw [mWs_get, hi]; rfl
theorem mWs_len (kA : FieldType → ClassId) (ad ro : Nat → Nat) (h : mH) : (mWs kA ad ro h).length = h.length := by simp [mWs]
theorem mWs_put (kA : FieldType → ClassId) (ad ro : Nat → Nat) (h : mH) (i : Nat) (x : mC) : (mWs kA ad ro h).set i (ad i, mE kA ad ro x) = mWs kA ad ro (mPut h i x) := by
  rw [mPut_eq]
  apply List.ext_getElem?
  intro j
  rw [mWs_get, List.getElem?_set, List.getElem?_set, mWs_get, mWs_len]
  by_cases e : i = j
  · subst e
    by_cases g : i < h.length
    · simp [g]
    · simp [g]
  · simp [e]
/-- one more place -/
def mUp (ad : Nat → Nat) (n q : Nat) : Nat → Nat := fun i => if i = n then q else ad i
theorem mp_up {ad ro : Nat → Nat} {n q : Nat} {v : Value} (h : mOk n v = true) : mp (mUp ad n q) ro v = mp ad ro v := by
  cases v <;> simp [mp]
  rename_i i
  simp only [mOk] at h
  have h1 : i < n := Nat.le_of_ble_eq_true h
  simp [mUp, Nat.ne_of_lt h1]
theorem mp_up_l {ad ro : Nat → Nat} {n q : Nat} {l : List Value} (h : l.all (mOk n) = true) : l.map (mp (mUp ad n q) ro) = l.map (mp ad ro) :=
  List.map_congr_left (fun v hv => mp_up (List.all_eq_true.mp h v hv))
theorem mE_up {kA : FieldType → ClassId} {ad ro : Nat → Nat} {n q : Nat} {x : mC} (h : mOkC n x = true) : mE kA (mUp ad n q) ro x = mE kA ad ro x := by
  rcases x with ⟨ty, a⟩ | ⟨ci, fs⟩
  · rfl
  · show (Sum.inr (ci, fs.map (mp (mUp ad n q) ro)) : va_E) = Sum.inr (ci, fs.map (mp ad ro))
    rw [mp_up_l h]
theorem mWs_push {kA : FieldType → ClassId} {ad ro : Nat → Nat} {h : mH} {q : Nat} {x : mC} (hh : h.all (mOkC h.length) = true) : mWs kA (mUp ad h.length q) ro (h ++ [x]) = mWs kA ad ro h ++ [(q, mE kA (mUp ad h.length q) ro x)] := by
  apply List.ext_getElem?
  intro j
  rw [mWs_get]
  rcases Nat.lt_trichotomy j h.length with g | g | g
  · rw [List.getElem?_append_left g, List.getElem?_append_left (by rw [mWs_len]; exact g), mWs_get, List.getElem?_eq_getElem g]
    simp only [Option.map_some]
    rw [mE_up (List.all_eq_true.mp hh _ (List.getElem_mem g)), mUp, if_neg (Nat.ne_of_lt g)]
  · subst g
    simp [mUp, List.getElem?_append_right, mWs_len]
  · rw [List.getElem?_eq_none (by simp; omega), List.getElem?_eq_none (by simp [mWs_len]; omega)]; rfl
/-- the locals -/
def mL (ad ro : Nat → Nat) (ls : Array Slot) (nL : Nat) (lo : List Value) : Prop := ∃ l : List (Nat × Value), lv_has ls nL l ∧ lo.length ≤ nL ∧ ∀ (j : Nat) (v : Value), mAt lo j = some v → v ≠ mU → (j, mp ad ro v) ∈ l
theorem mL.at {ad ro : Nat → Nat} {ls : Array Slot} {nL : Nat} {lo : List Value} (h : mL ad ro ls nL lo) {j : Nat} {v : Value} (hj : mAt lo j = some v) (hv : v ≠ mU) : ls[j]? = some (.val (mp ad ro v)) := by
  obtain ⟨l, h1, -, h2⟩ := h
  exact h1.2.2 _ (h2 j v hj hv)
theorem mL.up {ad ro : Nat → Nat} {ls : Array Slot} {nL n q : Nat} {lo : List Value} (h : mL ad ro ls nL lo) (hk : lo.all (mOk n) = true) : mL (mUp ad n q) ro ls nL lo := by
  obtain ⟨l, h1, h0, h2⟩ := h
  refine ⟨l, h1, h0, fun j v hj hv => ?_⟩
  rw [mp_up]
  · exact h2 j v hj hv
  · rw [mAt_eq] at hj
    exact List.all_eq_true.mp hk v (List.mem_of_getElem? hj)
theorem mKill_ne {a v : Value} (h : mKill a = v) (hv : v ≠ mU) : a = v ∧ a.category = 1 := by
  cases a <;> simp_all [mKill, Value.category]
theorem mSt1_len (lo : List Value) (j : Nat) (v : Value) : (mSt1 lo j v).length = lo.length := by
  induction lo generalizing j with
  | nil => rfl
  | cons a l ih =>
    match j with
    | 0 => rfl
    | 1 => simp [mSt1, mPut_eq]
    | n + 2 => simp [mSt1, ih]
theorem mSt2_len (lo : List Value) (j : Nat) (v : Value) : (mSt2 lo j v).length = lo.length := by
  induction lo generalizing j with
  | nil => rfl
  | cons a l ih =>
    match j with
    | 0 => simp [mSt2, mPut_eq]
    | 1 => simp [mSt2, mPut_eq]
    | n + 2 => simp [mSt2, ih]
/-- what stands behind a store: the new one, or an old one that the store leaves -/
theorem mSt1_get (lo : List Value) (j : Nat) (v : Value) (i : Nat) (w : Value) (h : mAt (mSt1 lo j v) i = some w) (hw : w ≠ mU) : (i = j ∧ w = v) ∨ (i ≠ j ∧ mAt lo i = some w ∧ ¬ (i + 1 = j ∧ w.category = 2)) := by
  induction lo generalizing j i with
  | nil => simp [mSt1, mAt] at h
  | cons a l ih =>
    match j, i with
    | 0, 0 => simp [mSt1, mAt] at h; exact Or.inl ⟨rfl, h.symm⟩
    | 0, i + 1 => exact Or.inr ⟨by omega, by simpa [mSt1, mAt] using h, by omega⟩
    | 1, 0 =>
      simp [mSt1, mAt] at h
      obtain ⟨h1, h2⟩ := mKill_ne h hw
      exact Or.inr ⟨by omega, by simp [mAt, h1], fun q => by rw [h1] at h2; omega⟩
    | 1, i + 1 =>
      simp only [mSt1, mAt, mPut_eq, mAt_eq, List.getElem?_set] at h
      by_cases e : 0 = i
      · subst e
        by_cases g : 0 < l.length
        · simp [g] at h; exact Or.inl ⟨rfl, h.symm⟩
        · simp [g] at h
      · simp [e] at h
        exact Or.inr ⟨by omega, by simpa [mAt, mAt_eq] using h, by omega⟩
    | n + 2, 0 => exact Or.inr ⟨by omega, by simpa [mSt1, mAt] using h, by omega⟩
    | n + 2, i + 1 =>
      have h' : mAt (mSt1 l (n + 1) v) i = some w := by simpa [mSt1, mAt] using h
      rcases ih (n + 1) i h' with ⟨q1, q2⟩ | ⟨q1, q2, q3⟩
      · exact Or.inl ⟨by omega, q2⟩
      · exact Or.inr ⟨by omega, by simpa [mAt] using q2, fun q => q3 ⟨by omega, q.2⟩⟩
theorem mSt2_get (lo : List Value) (j : Nat) (v : Value) (i : Nat) (w : Value) (h : mAt (mSt2 lo j v) i = some w) (hw : w ≠ mU) : (i = j ∧ w = v) ∨ (i ≠ j ∧ i ≠ j + 1 ∧ mAt lo i = some w ∧ ¬ (i + 1 = j ∧ w.category = 2)) := by
  induction lo generalizing j i with
  | nil => simp [mSt2, mAt] at h
  | cons a l ih =>
    match j, i with
    | 0, 0 => simp [mSt2, mAt] at h; exact Or.inl ⟨rfl, h.symm⟩
    | 0, i + 1 =>
      simp only [mSt2, mAt, mPut_eq, mAt_eq, List.getElem?_set] at h
      by_cases e : 0 = i
      · subst e
        by_cases g : 0 < l.length
        · simp [g] at h; exact absurd h.symm hw
        · simp [g] at h
      · simp [e] at h
        exact Or.inr ⟨by omega, by omega, by simpa [mAt, mAt_eq] using h, by omega⟩
    | 1, 0 =>
      simp [mSt2, mAt] at h
      obtain ⟨h1, h2⟩ := mKill_ne h hw
      exact Or.inr ⟨by omega, by omega, by simp [mAt, h1], fun q => by rw [h1] at h2; omega⟩
    | 1, i + 1 =>
      simp only [mSt2, mAt, mPut_eq, mAt_eq, List.getElem?_set, List.length_set] at h
      by_cases e : 0 = i
      · subst e
        by_cases g : 0 < l.length
        · simp [g] at h; exact Or.inl ⟨rfl, h.symm⟩
        · simp [g] at h
      · by_cases e1 : 1 = i
        · subst e1
          by_cases g : 1 < l.length
          · simp [g] at h; exact absurd h.symm hw
          · simp [g] at h
        · simp [e, e1] at h
          exact Or.inr ⟨by omega, by omega, by simpa [mAt, mAt_eq] using h, by omega⟩
    | n + 2, 0 => exact Or.inr ⟨by omega, by omega, by simpa [mSt2, mAt] using h, by omega⟩
    | n + 2, i + 1 =>
      have h' : mAt (mSt2 l (n + 1) v) i = some w := by simpa [mSt2, mAt] using h
      rcases ih (n + 1) i h' with ⟨q1, q2⟩ | ⟨q1, q2, q3, q4⟩
      · exact Or.inl ⟨by omega, q2⟩
      · exact Or.inr ⟨by omega, by omega, by simpa [mAt] using q3, fun q => q4 ⟨by omega, q.2⟩⟩
theorem mp_cat {ad ro : Nat → Nat} (v : Value) : (mp ad ro v).category = v.category := by cases v <;> rfl
theorem mp_mU {ad ro : Nat → Nat} : mp ad ro mU = mU := rfl
theorem mL.st1 {ad ro : Nat → Nat} {ls' : Array Slot} {nL : Nat} {lo : List Value} {l : List (Nat × Value)} {j : Nat} {v : Value} (hlen : lo.length ≤ nL) (h2 : ∀ (j : Nat) (v : Value), mAt lo j = some v → v ≠ mU → (j, mp ad ro v) ∈ l)
    (h : lv_has ls' nL ((j, mp ad ro v) :: l.filter (fun q => !(q.1 == j) && !(q.1 + 1 == j && q.2.category == 2)))) : mL ad ro ls' nL (mSt1 lo j v) := by
  refine ⟨_, h, by rw [mSt1_len]; exact hlen, fun i w hi hw => ?_⟩
  rcases mSt1_get lo j v i w hi hw with ⟨q1, q2⟩ | ⟨q1, q2, q3⟩
  · subst q1; subst q2; exact List.mem_cons_self
  · refine List.mem_cons_of_mem _ (List.mem_filter.mpr ⟨h2 i w q2 hw, ?_⟩)
    simp only [mp_cat]
    by_cases e : i + 1 = j
    · have : ¬ w.category = 2 := fun z => q3 ⟨e, z⟩
      simp [q1, e, this]
    · simp [q1, e]
theorem mL.st2 {ad ro : Nat → Nat} {ls' : Array Slot} {nL : Nat} {lo : List Value} {l : List (Nat × Value)} {j : Nat} {v : Value} (hlen : lo.length ≤ nL) (h2 : ∀ (j : Nat) (v : Value), mAt lo j = some v → v ≠ mU → (j, mp ad ro v) ∈ l)
    (h : lv_has ls' nL ((j, mp ad ro v) :: l.filter (fun q => !(q.1 == j) && (!(q.1 == j + 1) && !(q.1 + 1 == j && q.2.category == 2))))) : mL ad ro ls' nL (mSt2 lo j v) := by
  refine ⟨_, h, by rw [mSt2_len]; exact hlen, fun i w hi hw => ?_⟩
  rcases mSt2_get lo j v i w hi hw with ⟨q1, q2⟩ | ⟨q1, q0, q2, q3⟩
  · subst q1; subst q2; exact List.mem_cons_self
  · refine List.mem_cons_of_mem _ (List.mem_filter.mpr ⟨h2 i w q2 hw, ?_⟩)
    simp only [mp_cat]
    by_cases e : i + 1 = j
    · have : ¬ w.category = 2 := fun z => q3 ⟨e, z⟩
      simp [q1, q0, e, this]
    · simp [q1, q0, e]
theorem mCat_eq (l : List Value) : mCat l = (l.map fun v => v.category).sum := by
  induction l with
  | nil => rfl
  | cons a l ih => simp [mCat, ih]
theorem mCat_mp (ad ro : Nat → Nat) (l : List Value) : ((l.map (mp ad ro)).map fun v => v.category).sum = mCat l := by
  rw [mCat_eq, List.map_map]
  congr 1
  exact List.map_congr_left (fun v _ => mp_cat v)
