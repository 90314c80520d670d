/-! a callee's cells in the caller's heap, and back -/
theorem mNin_ok {j : Nat} {l : List Nat} (h : mNin j l = true) : j ∉ l := by
  induction l with
  | nil => simp
  | cons a l ih =>
    simp only [mNin, Bool.and_eq_true, Bool.not_eq_true'] at h
    intro hm
    rcases List.mem_cons.mp hm with e | e
    · subst e; simp at h
    · exact ih h.2 e
theorem mNd_ok {l : List Nat} (h : mNd l = true) : ∀ (i j a : Nat), l[i]? = some a → l[j]? = some a → i = j := by
  induction l with
  | nil => intro i j a h1; simp at h1
  | cons b l ih =>
    simp only [mNd, Bool.and_eq_true] at h
    have hb := mNin_ok h.1
    intro i j a h1 h2
    match i, j with
    | 0, 0 => rfl
    | 0, j + 1 =>
      simp at h1 h2
      subst h1
      exact absurd (List.mem_of_getElem? h2) hb
    | i + 1, 0 =>
      simp at h1 h2
      subst h2
      exact absurd (List.mem_of_getElem? h1) hb
    | i + 1, j + 1 =>
      simp at h1 h2
      rw [ih h.2 i j a h1 h2]
theorem mBk_len (ρ' : List Nat) (h : mH) (ρ : List Nat) (S : mH) (hl : ρ.length ≤ S.length) : (mBk ρ' h ρ S).length = h.length + (S.length - ρ.length) := by
  induction ρ generalizing h S with
  | nil => simp [mBk]
  | cons j ρ ih =>
    match S, hl with
    | x :: S, hl =>
      simp only [List.length_cons] at hl
      rw [mBk, ih _ _ (by omega), mPut_eq, List.length_set]
      simp only [List.length_cons]
      omega
theorem mBk_old (ρ' : List Nat) (h : mH) (ρ : List Nat) (S : mH) {i : Nat} (hi : i < h.length) (hn : i ∉ ρ) : (mBk ρ' h ρ S)[i]? = h[i]? := by
  induction ρ generalizing h S with
  | nil => rw [mBk, List.getElem?_append_left hi]
  | cons j ρ ih =>
    match S with
    | [] => rfl
    | x :: S =>
      rw [mBk, ih _ _ (by rw [mPut_eq, List.length_set]; exact hi) (fun q => hn (List.mem_cons_of_mem _ q)), mPut_eq, List.getElem?_set_ne (fun e => hn (by rw [e]; exact List.mem_cons_self))]
theorem mBk_put (ρ' : List Nat) (h : mH) (ρ : List Nat) (S : mH) (hnd : mNd ρ = true) {i j : Nat} (hi : i < h.length) (hj : ρ[j]? = some i) (hl : ρ.length ≤ S.length) : (mBk ρ' h ρ S)[i]? = (S[j]?).map (mRnC ρ') := by
  induction ρ generalizing h S j with
  | nil => simp at hj
  | cons b ρ ih =>
    match S, hl with
    | x :: S, hl =>
      simp only [mNd, Bool.and_eq_true] at hnd
      simp only [List.length_cons] at hl
      match j, hj with
      | 0, hj =>
        simp at hj
        subst hj
        rw [mBk, mBk_old _ _ _ _ (by rw [mPut_eq, List.length_set]; exact hi) (mNin_ok hnd.1), mPut_eq, List.getElem?_set_self hi]
        rfl
      | j + 1, hj =>
        simp at hj
        rw [mBk, ih _ _ hnd.2 (by rw [mPut_eq, List.length_set]; exact hi) hj (by omega)]
        simp
theorem mBk_new (ρ' : List Nat) (h : mH) (ρ : List Nat) (S : mH) (hl : ρ.length ≤ S.length) (k : Nat) : (mBk ρ' h ρ S)[h.length + k]? = (S[ρ.length + k]?).map (mRnC ρ') := by
  induction ρ generalizing h S with
  | nil => simp [mBk, List.getElem?_append_right]
  | cons b ρ ih =>
    match S, hl with
    | x :: S, hl =>
      simp only [List.length_cons] at hl
      have := ih (mPut h b (mRnC ρ' x)) S (by omega)
      rw [mPut_eq, List.length_set] at this
      rw [mBk, mPut_eq, this]
      simp only [List.length_cons]
      rw [show ρ.length + 1 + k = (ρ.length + k) + 1 from by omega, List.getElem?_cons_succ]
theorem mFrom_get (n k i : Nat) : (mFrom n k)[i]? = if i < k then some (n + i) else none := by
  induction k generalizing n i with
  | zero => simp [mFrom]
  | succ k ih =>
    match i with
    | 0 => simp [mFrom]
    | i + 1 =>
      simp only [mFrom, List.getElem?_cons_succ, ih]
      by_cases g : i < k
      · simp [g, Nat.add_assoc, Nat.add_comm 1 i]
      · simp [g]
/-- where the callee's places lie -/
def mAd (ad : Nat → Nat) (ρ : List Nat) : Nat → Nat := fun i => ad ((mAt ρ i).getD 0)
theorem mp_rn (ad ro : Nat → Nat) (ρ : List Nat) (v : Value) : mp ad ro (mRn ρ v) = mp (mAd ad ρ) ro v := by cases v <;> rfl
theorem mp_rn_l (ad ro : Nat → Nat) (ρ : List Nat) (l : List Value) : (l.map (mRn ρ)).map (mp ad ro) = l.map (mp (mAd ad ρ) ro) := by
  rw [List.map_map]
  exact List.map_congr_left (fun v _ => mp_rn ad ro ρ v)
theorem mE_rn (kA : FieldType → ClassId) (ad ro : Nat → Nat) (ρ : List Nat) (x : mC) : mE kA ad ro (mRnC ρ x) = mE kA (mAd ad ρ) ro x := by
  rcases x with a | ⟨ci, fs⟩
  · rfl
  · show (Sum.inr (ci, (fs.map (mRn ρ)).map (mp ad ro)) : va_E) = Sum.inr (ci, fs.map (mp (mAd ad ρ) ro))
    rw [mp_rn_l]
theorem mE_same {kA : FieldType → ClassId} {ad ad' ro : Nat → Nat} {n : Nat} {x : mC} (h : mOkC n x = true) (he : ∀ i, i < n → ad' i = ad i) : mE kA ad' ro x = mE kA ad ro x := by
  rcases x with a | ⟨ci, fs⟩
  · rfl
  · show (Sum.inr (ci, fs.map (mp ad' ro)) : va_E) = Sum.inr (ci, fs.map (mp ad ro))
    congr 2
    refine List.map_congr_left (fun v hv => ?_)
    have hk := List.all_eq_true.mp h v hv
    cases v <;> simp [mp]
    rename_i i
    exact he i (Nat.le_of_ble_eq_true hk)
theorem mp_same {ad ad' ro : Nat → Nat} {n : Nat} {l : List Value} (h : l.all (mOk n) = true) (he : ∀ i, i < n → ad' i = ad i) : l.map (mp ad' ro) = l.map (mp ad ro) := by
  refine List.map_congr_left (fun v hv => ?_)
  have hk := List.all_eq_true.mp h v hv
  cases v <;> simp [mp]
  rename_i i
  exact he i (Nat.le_of_ble_eq_true hk)
theorem mPick {h : mH} {ρ : List Nat} {S : mH} (hp : ρ.map (fun j => mAt h j) = S.map (fun x => some (mRnC ρ x))) : ρ.length = S.length ∧ ∀ (i : Nat) (x : mC), S[i]? = some x → ∃ j, ρ[i]? = some j ∧ h[j]? = some (mRnC ρ x) := by
  refine ⟨by simpa using congrArg List.length hp, fun i x hx => ?_⟩
  have h1 : (ρ.map (fun j => mAt h j))[i]? = some (some (mRnC ρ x)) := by rw [hp, List.getElem?_map, hx]; rfl
  rw [List.getElem?_map] at h1
  cases hj : ρ[i]? with
  | none => rw [hj] at h1; cases h1
  | some j => rw [hj] at h1; exact ⟨j, rfl, by rw [← mAt_eq]; exact Option.some.inj h1⟩
/-- each cell of the callee's is one of the caller's -/
theorem mSub {kA : FieldType → ClassId} {ad ro : Nat → Nat} {h : mH} {ρ : List Nat} {S : mH} (hp : ρ.map (fun j => mAt h j) = S.map (fun x => some (mRnC ρ x))) {k : Nat} {q : Nat × va_E} (hk : (mWs kA (mAd ad ρ) ro S)[k]? = some q) : ∃ j, ρ[k]? = some j ∧ (mWs kA ad ro h)[j]? = some q := by
  rw [mWs_get] at hk
  cases hx : S[k]? with
  | none => rw [hx] at hk; cases hk
  | some x =>
    rw [hx] at hk
    cases hk
    obtain ⟨j, h1, h2⟩ := (mPick hp).2 k x hx
    refine ⟨j, h1, ?_⟩
    rw [mWs_get, h2]
    show some (ad j, mE kA ad ro (mRnC ρ x)) = some (mAd ad ρ k, mE kA (mAd ad ρ) ro x)
    rw [mE_rn]
    simp [mAd, mAt_eq, h1]
theorem mSub_P {D : va_G} {kA : FieldType → ClassId} {ad ro : Nat → Nat} {h : mH} {ρ : List Nat} {S : mH} {H : Heap} (hp : ρ.map (fun j => mAt h j) = S.map (fun x => some (mRnC ρ x))) (hP : va_P D mCl (mWs kA ad ro h) H) : va_P D mCl (mWs kA (mAd ad ρ) ro S) H := by
  intro k q hk
  obtain ⟨j, -, hj⟩ := mSub hp hk
  exact hP j q hj
theorem mSub_D {kA : FieldType → ClassId} {ad ro : Nat → Nat} {h : mH} {ρ : List Nat} {S : mH} {A : Nat → Prop} (hnd : mNd ρ = true) (hp : ρ.map (fun j => mAt h j) = S.map (fun x => some (mRnC ρ x))) (hD : va_D A (mWs kA ad ro h)) : va_D A (mWs kA (mAd ad ρ) ro S) := by
  refine ⟨fun i j x y hx hy hxy => ?_, fun k q hk => ?_⟩
  · obtain ⟨a, h1, h2⟩ := mSub hp hx
    obtain ⟨b, h3, h4⟩ := mSub hp hy
    have hab := hD.1 a b x y h2 h4 hxy
    subst hab
    exact mNd_ok hnd i j a h1 h3
  · obtain ⟨j, -, hj⟩ := mSub hp hk
    exact hD.2 j q hj
theorem mSub_A {kA : FieldType → ClassId} {ad ro : Nat → Nat} {h : mH} {ρ : List Nat} {S : mH} {A : Nat → Prop} {H0 H : Heap} {locs : List Loc} (hp : ρ.map (fun j => mAt h j) = S.map (fun x => some (mRnC ρ x))) (hD : va_D A (mWs kA ad ro h)) (hS : va_S A H0 H locs) (hA : ∀ q, H0.size ≤ q → A q) : ∀ q, va_A (mWs kA (mAd ad ρ) ro S) H.size q → A q := by
  rintro q (⟨k, e, hk⟩ | hq)
  · obtain ⟨j, -, hj⟩ := mSub hp hk
    exact hD.2 j (q, e) hj
  · exact hA q (Nat.le_trans hS.1 hq)
/-- where the caller's places lie behind the call -/
def mAdB (ad ad' : Nat → Nat) (n r : Nat) (grown : Bool) : Nat → Nat := fun i => if grown = true ∧ n ≤ i then ad' (r + (i - n)) else ad i
set_option maxHeartbeats 2000000 in
theorem mJoin {D : va_G} {kA : FieldType → ClassId} {ad ad' ro : Nat → Nat} {h : mH} {ρ : List Nat} {S S' : mH} {A : Nat → Prop} {H0 H H1 : Heap} {locs : List Loc} {grown : Bool} (hnd : mNd ρ = true) (hp : ρ.map (fun j => mAt h j) = S.map (fun x => some (mRnC ρ x)))
    (hP : va_P D mCl (mWs kA ad ro h) H) (hD : va_D A (mWs kA ad ro h)) (hS : va_S A H0 H locs) (hA : ∀ q, H0.size ≤ q → A q)
    (hle : ρ.length ≤ S'.length) (hok' : S'.all (mOkC S'.length) = true) (hg : (grown = false ∧ S'.length = ρ.length) ∨ (grown = true ∧ h.all (mOkC h.length) = true))
    (had : ∀ i, i < S.length → ad' i = mAd ad ρ i) (hP1 : va_P D mCl (mWs kA ad' ro S') H1) (hD1 : va_D (va_A (mWs kA (mAd ad ρ) ro S) H.size) (mWs kA ad' ro S')) (hk1 : ∀ q : Nat, q < H.size → ¬ va_A (mWs kA (mAd ad ρ) ro S) H.size q → H1[q]? = H[q]?) :
    va_P D mCl (mWs kA (mAdB ad ad' h.length ρ.length grown) ro (mBack h ρ S')) H1 ∧ va_D A (mWs kA (mAdB ad ad' h.length ρ.length grown) ro (mBack h ρ S')) := by
  obtain ⟨hlen, hpick⟩ := mPick hp
  have hF := mSub_A (ro := ro) hp hD hS hA
  have hsmall : ∀ (j : Nat), j < h.length → mAdB ad ad' h.length ρ.length grown j = ad j := fun j hj => by
    unfold mAdB
    rw [if_neg (by omega)]
  have hinρ : ∀ (i j : Nat), ρ[i]? = some j → j < h.length := fun i j hj => by
    have hi : i < ρ.length := (List.getElem?_eq_some_iff.mp hj).1
    obtain ⟨j', h1, h2⟩ := hpick i _ (List.getElem?_eq_getElem (by omega))
    rw [hj] at h1
    cases h1
    exact (List.getElem?_eq_some_iff.mp h2).1
  have hren : ∀ (k : Nat), k < S'.length → mAdB ad ad' h.length ρ.length grown ((mAt (ρ ++ mFrom h.length (S'.length - ρ.length)) k).getD 0) = ad' k := by
    intro k hk
    by_cases g : k < ρ.length
    · have h1 : (ρ ++ mFrom h.length (S'.length - ρ.length))[k]? = some ρ[k] := by rw [List.getElem?_append_left g, List.getElem?_eq_getElem g]
      rw [mAt_eq, h1]
      show mAdB ad ad' h.length ρ.length grown ρ[k] = ad' k
      rw [hsmall _ (hinρ k _ (List.getElem?_eq_getElem g)), had k (by omega)]
      simp [mAd, mAt_eq, List.getElem?_eq_getElem g]
    · have h1 : (ρ ++ mFrom h.length (S'.length - ρ.length))[k]? = some (h.length + (k - ρ.length)) := by
        rw [List.getElem?_append_right (by omega), mFrom_get, if_pos (by omega)]
      rw [mAt_eq, h1]
      show mAdB ad ad' h.length ρ.length grown (h.length + (k - ρ.length)) = ad' k
      unfold mAdB
      rcases hg with ⟨-, hg⟩ | ⟨hg, -⟩
      · omega
      · rw [if_pos ⟨hg, by omega⟩]
        congr 1
        omega
  have hcell : ∀ (k : Nat) (x : mC), S'[k]? = some x → mE kA (mAdB ad ad' h.length ρ.length grown) ro (mRnC (ρ ++ mFrom h.length (S'.length - ρ.length)) x) = mE kA ad' ro x := by
    intro k x hx
    rw [mE_rn]
    exact mE_same (n := S'.length) (List.all_eq_true.mp hok' x (List.mem_of_getElem? hx)) (fun i hi => hren i hi)
  have hblen := mBk_len (ρ ++ mFrom h.length (S'.length - ρ.length)) h ρ S' hle
  -- every cell of the new heap is an old one that stayed, or one of the callee's
  have key : ∀ (i : Nat) (q : Nat × va_E), (mWs kA (mAdB ad ad' h.length ρ.length grown) ro (mBack h ρ S'))[i]? = some q → (i ∉ ρ ∧ i < h.length ∧ (mWs kA ad ro h)[i]? = some q) ∨ (∃ k, (mWs kA ad' ro S')[k]? = some q ∧ (ρ[k]? = some i ∨ (h.length ≤ i ∧ k = ρ.length + (i - h.length)))) := by
    intro i q hi
    rw [mWs_get] at hi
    unfold mBack at hi
    by_cases g : i < h.length
    · by_cases gm : i ∈ ρ
      · obtain ⟨j, hj⟩ := List.getElem?_of_mem gm
        rw [mBk_put _ h ρ S' hnd g hj hle] at hi
        cases hx : S'[j]? with
        | none => rw [hx] at hi; cases hi
        | some x =>
          rw [hx] at hi
          simp only [Option.map_some] at hi
          rw [hcell j x hx, hsmall i g] at hi
          cases hi
          refine Or.inr ⟨j, ?_, Or.inl hj⟩
          rw [mWs_get, hx]
          simp only [Option.map_some]
          rw [had j (by rw [← hlen]; exact (List.getElem?_eq_some_iff.mp hj).1)]
          simp [mAd, mAt_eq, hj]
      · rw [mBk_old _ h ρ S' g gm] at hi
        refine Or.inl ⟨gm, g, ?_⟩
        rw [mWs_get]
        rw [List.getElem?_eq_getElem g] at hi ⊢
        simp only [Option.map_some] at hi ⊢
        rw [hsmall i g] at hi
        rcases hg with ⟨hg, -⟩ | ⟨-, hg⟩
        · have e0 : mAdB ad ad' h.length ρ.length grown = ad := by
            funext j
            unfold mAdB
            rw [if_neg (by rw [hg]; simp)]
          rw [e0] at hi
          exact hi
        · rw [mE_same (List.all_eq_true.mp hg _ (List.getElem_mem g)) hsmall] at hi
          exact hi
    · have e1 : i = h.length + (i - h.length) := by omega
      rw [e1, mBk_new _ h ρ S' hle] at hi
      cases hx : S'[ρ.length + (i - h.length)]? with
      | none => rw [hx] at hi; cases hi
      | some x =>
        have hk : ρ.length + (i - h.length) < S'.length := (List.getElem?_eq_some_iff.mp hx).1
        rw [hx] at hi
        simp only [Option.map_some] at hi
        rw [hcell _ x hx, ← e1] at hi
        cases hi
        refine Or.inr ⟨ρ.length + (i - h.length), ?_, Or.inr ⟨by omega, rfl⟩⟩
        rw [mWs_get, hx]
        simp only [Option.map_some]
        congr 2
        unfold mAdB
        rcases hg with ⟨-, hg⟩ | ⟨hg, -⟩
        · omega
        · rw [if_pos ⟨hg, by omega⟩]
  have hout : ∀ (i : Nat) (q : Nat × va_E), i ∉ ρ → (mWs kA ad ro h)[i]? = some q → q.1 < H.size ∧ ¬ va_A (mWs kA (mAd ad ρ) ro S) H.size q.1 := by
    intro i q hi hq
    have hlt := (hP i q hq).lt
    refine ⟨hlt, ?_⟩
    rintro (⟨k, e, hk⟩ | hz)
    · obtain ⟨j, h1, h2⟩ := mSub hp hk
      have := hD.1 i j q (q.1, e) hq h2 rfl
      subst this
      exact hi (List.mem_of_getElem? h1)
    · omega
  refine ⟨fun i q hi => ?_, fun i j x y hx hy hxy => ?_, fun i q hi => ?_⟩
  · rcases key i q hi with ⟨g1, -, g2⟩ | ⟨k, g, -⟩
    · obtain ⟨o1, o2⟩ := hout i q g1 g2
      exact (hP i q g2).kept (hk1 q.1 o1 o2)
    · exact hP1 k q g
  · rcases key i x hx with ⟨g1, g2, g3⟩ | ⟨k, g, gi⟩ <;> rcases key j y hy with ⟨f1, f2, f3⟩ | ⟨n, f, fi⟩
    · exact hD.1 i j x y g3 f3 hxy
    · exact absurd (by rw [hxy]; exact hD1.2 n y f) (hout i x g1 g3).2
    · exact absurd (by rw [← hxy]; exact hD1.2 k x g) (hout j y f1 f3).2
    · have hkn := hD1.1 k n x y g f hxy
      subst hkn
      rcases gi with gi | ⟨gi1, gi2⟩ <;> rcases fi with fi | ⟨fi1, fi2⟩
      · rw [gi] at fi; exact Option.some.inj fi
      · have := (List.getElem?_eq_some_iff.mp gi).1; omega
      · have := (List.getElem?_eq_some_iff.mp fi).1; omega
      · omega
  · rcases key i q hi with ⟨-, -, g2⟩ | ⟨k, g, -⟩
    · exact hD.2 i q g2
    · exact hF q.1 (hD1.2 k q g)
