/-! what a block's bits are, by each way -/
theorem pow_pos2 (k : Nat) : 0 < 2 ^ k := Nat.pow_pos (by decide)
theorem zz {v : Nat} (h0 : v ≠ 0) (hv : v < 2 ^ 64) : nlzF 64 v + ntzF 64 v ≤ 63 := by
  obtain ⟨a1, a2, a3⟩ := nlzF_sp 64 v hv
  obtain ⟨b1, b2, b3⟩ := ntzF_sp 64 v h0 hv
  rcases Nat.lt_or_ge (nlzF 64 v + ntzF 64 v) 64 with z | z
  · omega
  · exfalso
    have c : 2 ^ (64 - nlzF 64 v) ≤ 2 ^ ntzF 64 v := Nat.pow_le_pow_right (by decide) (by omega)
    rw [Nat.div_eq_of_lt (by omega)] at b3
    omega
/-- a rest's bits, and the WINDOW behind it -/
def restB (al : Nat × Nat) (v : Nat) : List Nat × (Nat × Nat) :=
  if v = 0 then (bitsN 0 1, al)
  else if 0 < al.2 ∧ al.1 ≤ nlzF 64 v ∧ 64 - al.1 - al.2 ≤ ntzF 64 v ∧ al.2 ≤ 12 + (64 - nlzF 64 v - ntzF 64 v) then (bitsN 1 1 ++ bitsN 0 1 ++ bitsN (v / 2 ^ (64 - al.1 - al.2)) al.2, al)
  else (bitsN 1 1 ++ bitsN 1 1 ++ bitsN (nlzF 64 v) 6 ++ bitsN (64 - nlzF 64 v - ntzF 64 v - 1) 6 ++ bitsN (v / 2 ^ ntzF 64 v) (64 - nlzF 64 v - ntzF 64 v), (nlzF 64 v, 64 - nlzF 64 v - ntzF 64 v))
theorem restB_len {al : Nat × Nat} {v : Nat} (h : al.1 + al.2 ≤ 64) : (restB al v).1.length ≤ 78 := by
  unfold restB
  split
  · simp [bitsN_len]
  · split
    · simp [bitsN_len]; omega
    · simp [bitsN_len]; omega
theorem restB_win {al : Nat × Nat} {v : Nat} (h : al.1 + al.2 ≤ 64) (hv : v < 2 ^ 64) : (restB al v).2.1 + (restB al v).2.2 ≤ 64 := by
  unfold restB
  split
  · exact h
  · split
    · exact h
    · rename_i h0 _
      have := zz h0 hv
      show nlzF 64 v + (64 - nlzF 64 v - ntzF 64 v) ≤ 64
      omega
/-- the rests of n values from i on -/
def restsB (w : Nat → Int64) (kind s : Nat) : Nat → Nat → Nat × Nat → List Nat
  | 0, _, _ => []
  | n + 1, i, al => (restB al (uL (w i ^^^ fore w i kind s))).1 ++ restsB w kind s n (i + 1) (restB al (uL (w i ^^^ fore w i kind s))).2
theorem restsB_len {w : Nat → Int64} {kind s : Nat} : ∀ (n i : Nat) (al : Nat × Nat), al.1 + al.2 ≤ 64 → (restsB w kind s n i al).length ≤ 78 * n
  | 0, _, _, _ => by simp [restsB]
  | n + 1, i, al, h => by
    have a := restB_len (v := uL (w i ^^^ fore w i kind s)) h
    have b := restsB_len (w := w) (kind := kind) (s := s) n (i + 1) _ (restB_win (v := uL (w i ^^^ fore w i kind s)) h (uL_lt _))
    unfold restsB
    rw [List.length_append]
    omega
def plainB (w : Nat → Int64) : Nat → Nat → List Nat
  | 0, _ => []
  | n + 1, i => bitsN (uL (w i)) 64 ++ plainB w n (i + 1)
theorem plainB_len {w : Nat → Int64} : ∀ n i, (plainB w n i).length = 64 * n
  | 0, _ => rfl
  | n + 1, i => by
    unfold plainB
    rw [List.length_append, bitsN_len, plainB_len n (i + 1)]
    omega
/-- the HEAD of a value -/
def hd12 (w : Nat → Int64) (i : Nat) : Nat := uL (w i) / 2 ^ 52
def headsB (w : Nat → Int64) : Nat → Nat → List Nat
  | 0, _ => []
  | n + 1, i => (if hd12 w i = hd12 w (i - 1) then bitsN 0 1 else bitsN 1 1 ++ bitsN (hd12 w i) 12) ++ headsB w n (i + 1)
theorem headsB_len {w : Nat → Int64} : ∀ n i, (headsB w n i).length ≤ 13 * n
  | 0, _ => by simp [headsB]
  | n + 1, i => by
    have := headsB_len (w := w) n (i + 1)
    unfold headsB
    rw [List.length_append]
    split
    · simp [bitsN_len]; omega
    · simp [bitsN_len]; omega
/-- the zeros behind all the fractions -/
def tailF (w : Nat → Int64) : Nat → Nat → Nat → Nat
  | 0, _, t => t
  | n + 1, i, t => tailF w n (i + 1) (if ntzF 64 (uL (w i) % 2 ^ 52) < t then ntzF 64 (uL (w i) % 2 ^ 52) else t)
theorem tailF_le {w : Nat → Int64} : ∀ n i t, tailF w n i t ≤ t
  | 0, _, _ => Nat.le_refl _
  | n + 1, i, t => by
    unfold tailF
    refine Nat.le_trans (tailF_le n (i + 1) _) ?_
    split <;> omega
def fracB (w : Nat → Int64) (t : Nat) : Nat → Nat → List Nat
  | 0, _ => []
  | n + 1, i => bitsN (uL (w i) / 2 ^ t) (52 - t) ++ fracB w t n (i + 1)
theorem fracB_len {w : Nat → Int64} {t : Nat} : ∀ n i, (fracB w t n i).length = (52 - t) * n
  | 0, _ => by simp [fracB]
  | n + 1, i => by
    unfold fracB
    rw [List.length_append, bitsN_len, fracB_len n (i + 1), Nat.mul_add]
    omega
/-- FOLDED -/
def codeL (z : Int64) : Int64 := if z < 0 then (-2) * z - 1 else 2 * z
/-- bits of a number without its zeros ahead -/
def bl (v : Nat) : Nat := 64 - nlzF 64 v
/-- the folded number of value i, in a block that begins at i0 -/
noncomputable def cod (w : Nat → Int64) (e i0 i : Nat) : Int64 := codeL (sc (w i) e - (if i = i0 then 0 else sc (w (i - 1)) e))
/-- the width of n folded numbers from i on: the greatest -/
noncomputable def widF (w : Nat → Int64) (e i0 : Nat) : Nat → Nat → Nat → Nat
  | 0, _, m => m
  | n + 1, i, m => widF w e i0 n (i + 1) (if m < bl (uL (cod w e i0 i)) then bl (uL (cod w e i0 i)) else m)
theorem widF_le {w : Nat → Int64} {e i0 : Nat} : ∀ n i m, m ≤ 64 → widF w e i0 n i m ≤ 64
  | 0, _, _, h => h
  | n + 1, i, m, h => by
    unfold widF
    refine widF_le n (i + 1) _ ?_
    split
    · unfold bl; omega
    · exact h
noncomputable def decB (w : Nat → Int64) (e wd i0 : Nat) : Nat → Nat → List Nat
  | 0, _ => []
  | n + 1, i => bitsN (uL (cod w e i0 i)) wd ++ decB w e wd i0 n (i + 1)
theorem decB_len {w : Nat → Int64} {e wd i0 : Nat} : ∀ n i, (decB w e wd i0 n i).length = wd * n
  | 0, _ => by simp [decB]
  | n + 1, i => by
    unfold decB
    rw [List.length_append, bitsN_len, decB_len n (i + 1), Nat.mul_add]
    omega
noncomputable def allSc (w : Nat → Int64) (e : Nat) : Nat → Nat → Bool
  | 0, _ => true
  | n + 1, i => !(sc (w i) e == -9223372036854775808) && allSc w e n (i + 1)
/-- the least power by which all of them are DECIMAL -/
noncomputable def powF (w : Nat → Int64) (n i : Nat) : Nat → Nat → Option Nat
  | 0, _ => none
  | j + 1, e => if allSc w e n i = true then some e else powF w n i j (e + 1)
theorem powF_le {w : Nat → Int64} {n i : Nat} : ∀ j e p, powF w n i j e = some p → p < e + j
  | 0, _, _, h => by simp [powF] at h
  | j + 1, e, p, h => by
    unfold powF at h
    split at h
    · simp at h; omega
    · have := powF_le j (e + 1) p h; omega
/-- the best stride: j more from s on -/
def strF (w : Nat → Int64) (n i : Nat) : Nat → Nat → Nat → Nat → Nat
  | 0, _, best, _ => best
  | j + 1, s, best, least => if (restsB w 2 s n i (0, 0)).length < least then strF w n i j (s + 1) s (restsB w 2 s n i (0, 0)).length else strF w n i j (s + 1) best least
def strN (w : Nat → Int64) (n i : Nat) : Nat := strF w n i 7 2 1 (restsB w 2 1 n i (0, 0)).length
theorem strF_le {w : Nat → Int64} {n i : Nat} : ∀ j s best least, 1 ≤ best → best ≤ 8 → 1 ≤ s → s + j ≤ 9 → 1 ≤ strF w n i j s best least ∧ strF w n i j s best least ≤ 8
  | 0, _, _, _, h1, h2, _, _ => ⟨h1, h2⟩
  | j + 1, s, best, least, h1, h2, h3, h4 => by
    unfold strF
    split
    · exact strF_le j (s + 1) s _ h3 (by omega) (by omega) (by omega)
    · exact strF_le j (s + 1) best _ h1 h2 (by omega) (by omega)
theorem strN_le {w : Nat → Int64} {n i : Nat} : 1 ≤ strN w n i ∧ strN w n i ≤ 8 := strF_le 7 2 1 _ (by omega) (by omega) (by omega) (by omega)
/-- a block by a way -/
noncomputable def blkB (w : Nat → Int64) (n i way : Nat) : Option (List Nat) :=
  if way = 0 then some (bitsN 0 3 ++ plainB w n i)
  else if way = 6 then (match powF w n i 16 0 with
    | some e => some (bitsN 6 3 ++ bitsN e 4 ++ bitsN (widF w e i n i 0) 6 ++ decB w e (widF w e i n i 0) i n i)
    | none => none)
  else if way = 7 then some (bitsN 7 3 ++ bitsN (hd12 w i) 12 ++ headsB w (n - 1) (i + 1) ++ bitsN (tailF w n i 52) 6 ++ fracB w (tailF w n i 52) n i)
  else if way = 2 then some (bitsN 2 3 ++ bitsN (strN w n i - 1) 3 ++ restsB w 2 (strN w n i) n i (0, 0))
  else some (bitsN way 3 ++ restsB w way 0 n i (0, 0))
theorem bitsN_mod {v : Nat} : ∀ {w m : Nat}, w ≤ m → bitsN (v % 2 ^ m) w = bitsN v w
  | 0, _, _ => rfl
  | w + 1, m, h => by
    unfold bitsN
    rw [bitsN_mod (w := w) (m := m) (by omega)]
    congr 1
    have e : (2 : Nat) ^ m = 2 ^ w * 2 ^ (m - w) := by rw [← Nat.pow_add]; congr 1; omega
    have e2 : (2 : Nat) ^ (m - w) = 2 * 2 ^ (m - w - 1) := by rw [← pow_s]; congr 1; omega
    rw [e, Nat.mod_mul_right_div_self, e2, Nat.mod_mul_right_mod]
theorem frac_eq {v t : Nat} (ht : t ≤ 52) : bitsN (v % 2 ^ 52 / 2 ^ t) (52 - t) = bitsN (v / 2 ^ t) (52 - t) := by
  rw [show (2 : Nat) ^ 52 = 2 ^ t * 2 ^ (52 - t) from by rw [← Nat.pow_add]; congr 1; omega, Nat.mod_mul_right_div_self, bitsN_mod (Nat.le_refl _)]
theorem fore_s {w : Nat → Int64} {i kind s s' : Nat} (h : kind ≠ 2) : fore w i kind s = fore w i kind s' := by
  unfold fore
  rw [if_neg h, if_neg h]
theorem restsB_s {w : Nat → Int64} {kind s s' : Nat} (h : kind ≠ 2) : ∀ n i al, restsB w kind s n i al = restsB w kind s' n i al
  | 0, _, _ => rfl
  | n + 1, i, al => by
    unfold restsB
    rw [fore_s (s' := s') h, restsB_s h n (i + 1)]
theorem lN_z' {n : Nat} (hn : n < 2 ^ 64) : (lN n = lN 0) = (n = 0) := lN_z hn
theorem lxor_u (x y : Int64) : ∃ v, v < 2 ^ 64 ∧ x ^^^ y = lN v ∧ uL (x ^^^ y) = v := ⟨uL (x ^^^ y), uL_lt _, (lN_uL _).symm, rfl⟩
theorem tb_mod {v t : Nat} : v % 2 ^ t = 0 ↔ ∀ j, j < t → v.testBit j = false := by
  constructor
  · intro h j hj
    have : (v % 2 ^ t).testBit j = false := by rw [h]; exact Nat.zero_testBit j
    rw [Nat.testBit_mod_two_pow, decide_eq_true hj, Bool.true_and] at this
    exact this
  · intro h
    apply Nat.eq_of_testBit_eq
    intro j
    rw [Nat.testBit_mod_two_pow, Nat.zero_testBit]
    by_cases hj : j < t
    · rw [h j hj]; simp
    · simp [hj]
theorem tb_div {v t : Nat} : v / 2 ^ t % 2 = 1 ↔ v.testBit t = true := by
  rw [Nat.testBit_eq_decide_div_mod_eq]
  simp
theorem ntz_or {a v : Nat} (ha : a ≠ 0) (ha2 : a < 2 ^ 64) (ht : ntzF 64 a ≤ 52) (hb : a.testBit 52 = true) : ntzF 64 (a ||| v) = if ntzF 64 (v % 2 ^ 52) < ntzF 64 a then ntzF 64 (v % 2 ^ 52) else ntzF 64 a := by
  obtain ⟨a1, a2, a3⟩ := ntzF_sp 64 a ha ha2
  rw [tb_mod] at a2
  rw [tb_div] at a3
  by_cases hv : v % 2 ^ 52 = 0
  · rw [hv, ntzF_0, if_neg (by omega)]
    rw [tb_mod] at hv
    refine ntzF_eq 64 _ _ a1 (tb_mod.mpr fun j hj => ?_) (tb_div.mpr ?_)
    · rw [Nat.testBit_or, a2 j hj, hv j (by omega)]; rfl
    · rw [Nat.testBit_or, a3]; rfl
  · obtain ⟨b1, b2, b3⟩ := ntzF_sp 64 (v % 2 ^ 52) hv (by omega)
    rw [tb_mod] at b2
    rw [tb_div] at b3
    have b4 : ntzF 64 (v % 2 ^ 52) < 52 := by
      rw [Nat.testBit_mod_two_pow] at b3
      simp at b3
      exact b3.1
    generalize ntzF 64 (v % 2 ^ 52) = t at b1 b2 b3 b4
    have vb : ∀ j, j < 52 → (v % 2 ^ 52).testBit j = v.testBit j := by
      intro j hj
      rw [Nat.testBit_mod_two_pow, decide_eq_true hj, Bool.true_and]
    by_cases hc : t < ntzF 64 a
    · rw [if_pos hc]
      refine ntzF_eq 64 _ _ b1 (tb_mod.mpr fun j hj => ?_) (tb_div.mpr ?_)
      · rw [Nat.testBit_or, a2 j (by omega), ← vb j (by omega), b2 j hj]; rfl
      · rw [Nat.testBit_or, ← vb t b4, b3]; simp
    · rw [if_neg hc]
      refine ntzF_eq 64 _ _ a1 (tb_mod.mpr fun j hj => ?_) (tb_div.mpr ?_)
      · rw [Nat.testBit_or, a2 j hj, ← vb j (by omega), b2 j (by omega)]; rfl
      · rw [Nat.testBit_or, a3]; rfl
