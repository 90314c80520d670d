/-! how a tape is read: the pure functions, shared by both sides -/
def sOk (len : Nat) (s : tS) : Prop := s.1 ≤ 8 * len ∧ s.2.1 ≤ 8
theorem tk_ok {g : Nat → Nat} {len w : Nat} {s : tS} (h : sOk len s) : sOk len (tk g len w s).2 := by
  unfold tk
  split
  · split
    · exact ⟨by assumption, h.2⟩
    · exact ⟨h.1, by show 1 ≤ 8; omega⟩
  · exact h
theorem tk_lt {g : Nat → Nat} {len w : Nat} {s : tS} : (tk g len w s).1 < 2 ^ w := by
  have h0 : 0 < 2 ^ w := Nat.pow_pos (by decide)
  unfold tk
  split
  · split
    · exact tkN_lt g _ w
    · exact h0
  · exact h0
theorem tk_f {g : Nat → Nat} {len w : Nat} {s : tS} (h : ¬ s.2.1 = 0) : tk g len w s = (0, s) := by
  unfold tk
  rw [if_neg h]
theorem tk_0 {g : Nat → Nat} {len w : Nat} {s : tS} (h : (tk g len w s).2.2.1 = 0) : s.2.1 = 0 := by
  by_cases h0 : s.2.1 = 0
  · exact h0
  · rw [tk_f h0] at h; exact h
theorem tk_at {g : Nat → Nat} {len w : Nat} {s : tS} (h : (tk g len w s).2.2.1 = 0) : (tk g len w s).2.1 = s.1 + w := by
  unfold tk at h ⊢
  split at h
  · rename_i h1
    rw [if_pos h1]
    split at h
    · rename_i h2
      rw [if_pos h2]
    · exact absurd h (by show ¬ 1 = 0; omega)
  · rename_i h1
    exact absurd h h1
theorem fl_f {c : Nat} {p : Int32} {s : tS} (h : ¬ s.2.1 = 0) : fl c p s = s := by
  unfold fl
  rw [if_neg h]
theorem fl_0 {c : Nat} {p : Int32} {s : tS} (h : s.2.1 = 0) : fl c p s = (s.1, c, p) := by
  unfold fl
  rw [if_pos h]
theorem fl_ok {c len : Nat} {p : Int32} {s : tS} (hc : c ≤ 8) (h : sOk len s) : sOk len (fl c p s) := by
  unfold fl
  split
  · exact ⟨h.1, hc⟩
  · exact h
theorem fl_n {c : Nat} {p : Int32} {s : tS} (hc : 1 ≤ c) : ¬ (fl c p s).2.1 = 0 := by
  unfold fl
  split
  · show ¬ c = 0; omega
  · assumption
/-- a rest with its own window; a rest behind its first bit -/
def rdWin (g : Nat → Nat) (len : Nat) (s : tS) : Nat × (Nat × Nat) × tS :=
  if 64 < (tk g len 6 s).1 + ((tk g len 6 (tk g len 6 s).2).1 + 1) then (0, (0, 0), fl 4 (nI s.1) (tk g len 6 (tk g len 6 s).2).2)
  else ((tk g len ((tk g len 6 (tk g len 6 s).2).1 + 1) (tk g len 6 (tk g len 6 s).2).2).1 * 2 ^ (64 - (tk g len 6 s).1 - ((tk g len 6 (tk g len 6 s).2).1 + 1)),
    ((tk g len 6 s).1, (tk g len 6 (tk g len 6 s).2).1 + 1),
    if (tk g len ((tk g len 6 (tk g len 6 s).2).1 + 1) (tk g len 6 (tk g len 6 s).2).2).1 % 2 = 0 ∨ (tk g len ((tk g len 6 (tk g len 6 s).2).1 + 1) (tk g len 6 (tk g len 6 s).2).2).1 / 2 ^ (tk g len 6 (tk g len 6 s).2).1 = 0 then fl 4 (nI s.1) (tk g len ((tk g len 6 (tk g len 6 s).2).1 + 1) (tk g len 6 (tk g len 6 s).2).2).2
    else (tk g len ((tk g len 6 (tk g len 6 s).2).1 + 1) (tk g len 6 (tk g len 6 s).2).2).2)
def rdRest (g : Nat → Nat) (len : Nat) (al : Nat × Nat) (s : tS) : Nat × (Nat × Nat) × tS :=
  if ¬ (tk g len 1 s).1 = 0 then rdWin g len (tk g len 1 s).2
  else if al.2 = 0 then (0, al, fl 3 (nI s.1) (tk g len 1 s).2)
  else ((tk g len al.2 (tk g len 1 s).2).1 * 2 ^ (64 - al.1 - al.2), al, (tk g len al.2 (tk g len 1 s).2).2)
def rd1 (g : Nat → Nat) (len : Nat) (al : Nat × Nat) (s : tS) : Nat × (Nat × Nat) × tS :=
  if (tk g len 1 s).1 = 0 then (0, al, (tk g len 1 s).2) else rdRest g len al (tk g len 1 s).2
/-- what has been read: the tape's state, the values, how many -/
abbrev rS : Type := tS × (Nat → Int64) × Nat
def rdRests (g : Nat → Nat) (len kind st : Nat) : Nat → Nat × Nat → rS → rS
  | 0, _, r => r
  | j + 1, al, r => if r.1.2.1 = 0 then (if (rd1 g len al r.1).2.2.2.1 = 0 then rdRests g len kind st j (rd1 g len al r.1).2.1 ((rd1 g len al r.1).2.2, vp_updL r.2.1 r.2.2 (lN (rd1 g len al r.1).1 ^^^ fore r.2.1 r.2.2 kind st), r.2.2 + 1) else ((rd1 g len al r.1).2.2, r.2)) else r
def rdPlain (g : Nat → Nat) (len : Nat) : Nat → rS → rS
  | 0, r => r
  | j + 1, r => if r.1.2.1 = 0 then (if (tk g len 64 r.1).2.2.1 = 0 then rdPlain g len j ((tk g len 64 r.1).2, vp_updL r.2.1 r.2.2 (lN (tk g len 64 r.1).1), r.2.2 + 1) else ((tk g len 64 r.1).2, r.2)) else r
/-- a folded number, unfolded -/
def unf (c : Nat) : Int64 := if c % 2 = 0 then lN (c / 2) else -(lN (c / 2)) - 1
noncomputable def rdTens (g : Nat → Nat) (len e wd : Nat) : Nat → Int64 → rS → rS
  | 0, _, r => r
  | j + 1, k, r => if r.1.2.1 = 0 then (
      if (tk g len wd r.1).2.2.1 = 0 then (
        if -(2 ^ 52) < (k + unf (tk g len wd r.1).1).toInt ∧ (k + unf (tk g len wd r.1).1).toInt < 2 ^ 52 then rdTens g len e wd j (k + unf (tk g len wd r.1).1) ((tk g len wd r.1).2, vp_updL r.2.1 r.2.2 (nrS (k + unf (tk g len wd r.1).1) e), r.2.2 + 1)
        else (fl 5 (nI r.1.1) (tk g len wd r.1).2, r.2))
      else ((tk g len wd r.1).2, r.2)) else r
def rdHead (g : Nat → Nat) (len i : Nat) (x : tS × (Nat → Int64)) : tS × (Nat → Int64) :=
  if i = 0 then ((tk g len 12 x.1).2, vp_updL x.2 i (lN (tk g len 12 x.1).1))
  else if (tk g len 1 x.1).1 = 0 then ((tk g len 1 x.1).2, vp_updL x.2 i (x.2 (i - 1)))
  else ((tk g len 12 (tk g len 1 x.1).2).2, vp_updL x.2 i (lN (tk g len 12 (tk g len 1 x.1).2).1))
def rdHeads (g : Nat → Nat) (len : Nat) : Nat → Nat → tS × (Nat → Int64) → tS × (Nat → Int64)
  | 0, _, x => x
  | j + 1, i, x => rdHeads g len j (i + 1) (rdHead g len i x)
def rdFracs (g : Nat → Nat) (len t : Nat) (h : Nat → Int64) : Nat → Nat → rS → rS
  | 0, _, r => r
  | j + 1, i, r => if r.1.2.1 = 0 then (if (tk g len (52 - t) r.1).2.2.1 = 0 then rdFracs g len t h j (i + 1) ((tk g len (52 - t) r.1).2, vp_updL r.2.1 r.2.2 ((h i <<< ((nI 52).toInt64 &&& 63)) ||| lN ((tk g len (52 - t) r.1).1 * 2 ^ t)), r.2.2 + 1) else ((tk g len (52 - t) r.1).2, r.2)) else r
/-- a FAULT where a number is too great -/
def flIf (b : Bool) (c : Nat) (p : Int32) (s : tS) : tS := if b = true then fl c p s else s
theorem flIf_ok {b : Bool} {c len : Nat} {p : Int32} {s : tS} (hc : c ≤ 8) (h : sOk len s) : sOk len (flIf b c p s) := by
  unfold flIf
  split
  · exact fl_ok hc h
  · exact h
noncomputable def rdTensB (g : Nat → Nat) (len n : Nat) (r : rS) : rS := rdTens g len (tk g len 4 r.1).1 (tk g len 6 (tk g len 4 r.1).2).1 n 0 (flIf (decide (54 < (tk g len 6 (tk g len 4 r.1).2).1)) 5 (nI (tk g len 4 r.1).2.1) (tk g len 6 (tk g len 4 r.1).2).2, r.2)
def rdFracB (g : Nat → Nat) (len n : Nat) (x : tS × (Nat → Int64)) (v : (Nat → Int64) × Nat) : rS := rdFracs g len (tk g len 6 x.1).1 x.2 n 0 (flIf (decide (52 < (tk g len 6 x.1).1)) 5 (nI x.1.1) (tk g len 6 x.1).2, v)
noncomputable def rdWay (g : Nat → Nat) (len n way : Nat) (r : rS) : rS :=
  if way = 0 then rdPlain g len n r
  else if way = 6 then rdTensB g len n r
  else if way = 7 then rdFracB g len n (rdHeads g len n 0 (r.1, fun _ => 0)) r.2
  else if way = 2 then rdRests g len 2 ((tk g len 3 r.1).1 + 1) n (0, 0) ((tk g len 3 r.1).2, r.2)
  else rdRests g len way 1 n (0, 0) r
noncomputable def rdBlock (g : Nat → Nat) (len n : Nat) (r : rS) : rS :=
  if (tk g len 3 r.1).2.2.1 = 0 then rdWay g len n (tk g len 3 r.1).1 ((tk g len 3 r.1).2, r.2) else ((tk g len 3 r.1).2, r.2)
noncomputable def rdBlocks (g : Nat → Nat) (len total size : Nat) : Nat → rS → rS
  | 0, r => r
  | j + 1, r => if r.1.2.1 = 0 ∧ r.2.2 < total then rdBlocks g len total size j (rdBlock g len (min size (total - r.2.2)) r) else r
def rdPad (g : Nat → Nat) (len : Nat) : Nat → tS → tS
  | 0, s => s
  | k + 1, s => rdPad g len k (flIf (decide (¬ (tk g len 1 s).1 = 0)) 6 (nI s.1) (tk g len 1 s).2)
def rdEnd (g : Nat → Nat) (len : Nat) (s : tS) : tS :=
  flIf (decide ((flIf (decide (¬ (tk g len 16 s).1 = ckF g (s.1 / 8))) 7 (nI s.1) (tk g len 16 s).2).1 < 8 * len)) 8 (nI (flIf (decide (¬ (tk g len 16 s).1 = ckF g (s.1 / 8))) 7 (nI s.1) (tk g len 16 s).2).1) (flIf (decide (¬ (tk g len 16 s).1 = ckF g (s.1 / 8))) 7 (nI s.1) (tk g len 16 s).2)
def tS0 : tS := (0, 0, -1)
def rdSt1 (g : Nat → Nat) (len : Nat) : tS := flIf (decide (256 < (tk g len 9 tS0).1)) 2 0 (tk g len 9 tS0).2
def rdSt2 (g : Nat → Nat) (len : Nat) : tS := flIf (decide ((tk g len 7 (rdSt1 g len)).1 < 1 ∨ 64 < (tk g len 7 (rdSt1 g len)).1)) 2 (nI 9) (tk g len 7 (rdSt1 g len)).2
def rdTot (g : Nat → Nat) (len : Nat) : Nat := (tk g len 9 tS0).1
def rdSiz (g : Nat → Nat) (len : Nat) : Nat := (tk g len 7 (rdSt1 g len)).1
noncomputable def rdBody (g : Nat → Nat) (len : Nat) : rS := rdBlocks g len (rdTot g len) (rdSiz g len) 256 (rdSt2 g len, (fun _ => 0), 0)
def rdFin (g : Nat → Nat) (len : Nat) (s : tS) : tS := rdEnd g len (rdPad g len ((8 - s.1 % 8) % 8) s)
/-- THE TAPE is read -/
noncomputable def rdOpen (g : Nat → Nat) (len : Nat) : rS := (rdFin g len (rdBody g len).1, (rdBody g len).2)
-- the tape's state stays one
theorem rdWin_ok {g : Nat → Nat} {len : Nat} {s : tS} (h : sOk len s) : sOk len (rdWin g len s).2.2 := by
  unfold rdWin
  split
  · exact fl_ok (by decide) (tk_ok (tk_ok h))
  · show sOk len (if _ then _ else _)
    split
    · exact fl_ok (by decide) (tk_ok (tk_ok (tk_ok h)))
    · exact tk_ok (tk_ok (tk_ok h))
theorem rdRest_ok {g : Nat → Nat} {len : Nat} {al : Nat × Nat} {s : tS} (h : sOk len s) : sOk len (rdRest g len al s).2.2 := by
  unfold rdRest
  split
  · exact rdWin_ok (tk_ok h)
  · split
    · exact fl_ok (by decide) (tk_ok h)
    · exact tk_ok (tk_ok h)
theorem rd1_ok {g : Nat → Nat} {len : Nat} {al : Nat × Nat} {s : tS} (h : sOk len s) : sOk len (rd1 g len al s).2.2 := by
  unfold rd1
  split
  · exact tk_ok h
  · exact rdRest_ok (tk_ok h)
theorem rdWin_al {g : Nat → Nat} {len : Nat} {s : tS} : (rdWin g len s).2.1.1 + (rdWin g len s).2.1.2 ≤ 64 := by
  unfold rdWin
  split
  · show 0 + 0 ≤ 64; omega
  · show (tk g len 6 s).1 + ((tk g len 6 (tk g len 6 s).2).1 + 1) ≤ 64; omega
theorem rd1_al {g : Nat → Nat} {len : Nat} {al : Nat × Nat} {s : tS} (h : al.1 + al.2 ≤ 64) : (rd1 g len al s).2.1.1 + (rd1 g len al s).2.1.2 ≤ 64 := by
  unfold rd1
  split
  · exact h
  · unfold rdRest
    split
    · exact rdWin_al
    · split
      · exact h
      · exact h
theorem rdRests_sp {g : Nat → Nat} {len kind st : Nat} : ∀ j al (r : rS), sOk len r.1 → sOk len (rdRests g len kind st j al r).1 ∧ ((rdRests g len kind st j al r).1.2.1 = 0 → (rdRests g len kind st j al r).2.2 = r.2.2 + j)
  | 0, _, r, h => ⟨h, fun _ => rfl⟩
  | j + 1, al, r, h => by
    unfold rdRests
    by_cases h0 : r.1.2.1 = 0
    · rw [if_pos h0]
      by_cases h1 : (rd1 g len al r.1).2.2.2.1 = 0
      · rw [if_pos h1]
        have := rdRests_sp (g := g) (kind := kind) (st := st) j (rd1 g len al r.1).2.1 ((rd1 g len al r.1).2.2, vp_updL r.2.1 r.2.2 (lN (rd1 g len al r.1).1 ^^^ fore r.2.1 r.2.2 kind st), r.2.2 + 1) (rd1_ok h)
        exact ⟨this.1, fun q => by rw [this.2 q]; show r.2.2 + 1 + j = _; omega⟩
      · rw [if_neg h1]
        exact ⟨rd1_ok h, fun q => absurd q h1⟩
    · rw [if_neg h0]
      exact ⟨h, fun q => absurd q h0⟩
theorem rdPlain_sp {g : Nat → Nat} {len : Nat} : ∀ j (r : rS), sOk len r.1 → sOk len (rdPlain g len j r).1 ∧ ((rdPlain g len j r).1.2.1 = 0 → (rdPlain g len j r).2.2 = r.2.2 + j)
  | 0, r, h => ⟨h, fun _ => rfl⟩
  | j + 1, r, h => by
    unfold rdPlain
    by_cases h0 : r.1.2.1 = 0
    · rw [if_pos h0]
      by_cases h1 : (tk g len 64 r.1).2.2.1 = 0
      · rw [if_pos h1]
        have := rdPlain_sp (g := g) j ((tk g len 64 r.1).2, vp_updL r.2.1 r.2.2 (lN (tk g len 64 r.1).1), r.2.2 + 1) (tk_ok h)
        exact ⟨this.1, fun q => by rw [this.2 q]; show r.2.2 + 1 + j = _; omega⟩
      · rw [if_neg h1]
        exact ⟨tk_ok h, fun q => absurd q h1⟩
    · rw [if_neg h0]
      exact ⟨h, fun q => absurd q h0⟩
theorem rdFracs_sp {g : Nat → Nat} {len t : Nat} {hh : Nat → Int64} : ∀ j i (r : rS), sOk len r.1 → sOk len (rdFracs g len t hh j i r).1 ∧ ((rdFracs g len t hh j i r).1.2.1 = 0 → (rdFracs g len t hh j i r).2.2 = r.2.2 + j)
  | 0, _, r, h => ⟨h, fun _ => rfl⟩
  | j + 1, i, r, h => by
    unfold rdFracs
    by_cases h0 : r.1.2.1 = 0
    · rw [if_pos h0]
      by_cases h1 : (tk g len (52 - t) r.1).2.2.1 = 0
      · rw [if_pos h1]
        have := rdFracs_sp (g := g) (t := t) (hh := hh) j (i + 1) ((tk g len (52 - t) r.1).2, vp_updL r.2.1 r.2.2 ((hh i <<< ((nI 52).toInt64 &&& 63)) ||| lN ((tk g len (52 - t) r.1).1 * 2 ^ t)), r.2.2 + 1) (tk_ok h)
        exact ⟨this.1, fun q => by rw [this.2 q]; show r.2.2 + 1 + j = _; omega⟩
      · rw [if_neg h1]
        exact ⟨tk_ok h, fun q => absurd q h1⟩
    · rw [if_neg h0]
      exact ⟨h, fun q => absurd q h0⟩
theorem rdTens_sp {g : Nat → Nat} {len e wd : Nat} : ∀ j k (r : rS), sOk len r.1 → sOk len (rdTens g len e wd j k r).1 ∧ ((rdTens g len e wd j k r).1.2.1 = 0 → (rdTens g len e wd j k r).2.2 = r.2.2 + j)
  | 0, _, r, h => ⟨h, fun _ => rfl⟩
  | j + 1, k, r, h => by
    unfold rdTens
    by_cases h0 : r.1.2.1 = 0
    · rw [if_pos h0]
      by_cases h1 : (tk g len wd r.1).2.2.1 = 0
      · rw [if_pos h1]
        split
        · have := rdTens_sp (g := g) (e := e) (wd := wd) j (k + unf (tk g len wd r.1).1) ((tk g len wd r.1).2, vp_updL r.2.1 r.2.2 (nrS (k + unf (tk g len wd r.1).1) e), r.2.2 + 1) (tk_ok h)
          exact ⟨this.1, fun q => by rw [this.2 q]; show r.2.2 + 1 + j = _; omega⟩
        · exact ⟨fl_ok (by decide) (tk_ok h), fun q => absurd q (fl_n (by decide))⟩
      · rw [if_neg h1]
        exact ⟨tk_ok h, fun q => absurd q h1⟩
    · rw [if_neg h0]
      exact ⟨h, fun q => absurd q h0⟩
theorem rdHead_ok {g : Nat → Nat} {len i : Nat} {x : tS × (Nat → Int64)} (h : sOk len x.1) : sOk len (rdHead g len i x).1 := by
  unfold rdHead
  split
  · exact tk_ok h
  · split
    · exact tk_ok h
    · exact tk_ok (tk_ok h)
theorem rdHeads_ok {g : Nat → Nat} {len : Nat} : ∀ j i (x : tS × (Nat → Int64)), sOk len x.1 → sOk len (rdHeads g len j i x).1
  | 0, _, _, h => h
  | j + 1, i, x, h => rdHeads_ok j (i + 1) _ (rdHead_ok h)
theorem rdWay_sp {g : Nat → Nat} {len n way : Nat} {r : rS} (h : sOk len r.1) : sOk len (rdWay g len n way r).1 ∧ ((rdWay g len n way r).1.2.1 = 0 → (rdWay g len n way r).2.2 = r.2.2 + n) := by
  unfold rdWay
  split
  · exact rdPlain_sp n r h
  split
  · exact rdTens_sp n 0 _ (flIf_ok (by decide) (tk_ok (tk_ok h)))
  split
  · exact rdFracs_sp n 0 _ (flIf_ok (by decide) (tk_ok (rdHeads_ok n 0 _ h)))
  split
  · exact rdRests_sp n (0, 0) _ (tk_ok h)
  · exact rdRests_sp n (0, 0) _ h
theorem rdBlock_sp {g : Nat → Nat} {len n : Nat} {r : rS} (h : sOk len r.1) : sOk len (rdBlock g len n r).1 ∧ ((rdBlock g len n r).1.2.1 = 0 → (rdBlock g len n r).2.2 = r.2.2 + n) := by
  unfold rdBlock
  split
  · exact rdWay_sp (tk_ok h)
  · rename_i h1
    exact ⟨tk_ok h, fun q => absurd q h1⟩
theorem rdBlocks_sp {g : Nat → Nat} {len total size : Nat} (hs : 1 ≤ size) : ∀ j (r : rS), sOk len r.1 → r.2.2 ≤ total → total ≤ r.2.2 + j → sOk len (rdBlocks g len total size j r).1 ∧ ((rdBlocks g len total size j r).1.2.1 = 0 → (rdBlocks g len total size j r).2.2 = total)
  | 0, r, h, h1, h2 => ⟨h, fun _ => by show r.2.2 = total; omega⟩
  | j + 1, r, h, h1, h2 => by
    unfold rdBlocks
    by_cases hc : r.1.2.1 = 0 ∧ r.2.2 < total
    · rw [if_pos hc]
      have hb := rdBlock_sp (g := g) (n := min size (total - r.2.2)) h
      by_cases hf : (rdBlock g len (min size (total - r.2.2)) r).1.2.1 = 0
      · have hn := hb.2 hf
        exact rdBlocks_sp hs j _ hb.1 (by omega) (by omega)
      · have hx : ∀ j, rdBlocks g len total size j (rdBlock g len (min size (total - r.2.2)) r) = rdBlock g len (min size (total - r.2.2)) r := by
          intro j
          cases j with
          | zero => rfl
          | succ j => unfold rdBlocks; rw [if_neg (fun q => hf q.1)]
        rw [hx]
        exact ⟨hb.1, fun q => absurd q hf⟩
    · rw [if_neg hc]
      exact ⟨h, fun q => by omega⟩
theorem flIf_f {b : Bool} {c : Nat} {p : Int32} {s : tS} (h : ¬ s.2.1 = 0) : flIf b c p s = s := by
  unfold flIf
  split
  · exact fl_f h
  · rfl
theorem rdPad_f {g : Nat → Nat} {len : Nat} {s : tS} (h : ¬ s.2.1 = 0) : ∀ k, rdPad g len k s = s
  | 0 => rfl
  | k + 1 => by
    unfold rdPad
    rw [tk_f h, flIf_f h, rdPad_f h k]
theorem rdEnd_f {g : Nat → Nat} {len : Nat} {s : tS} (h : ¬ s.2.1 = 0) : rdEnd g len s = s := by
  unfold rdEnd
  rw [tk_f h, flIf_f h, flIf_f h]
theorem rdFin_f {g : Nat → Nat} {len : Nat} {s : tS} (h : ¬ s.2.1 = 0) : rdFin g len s = s := by
  unfold rdFin
  rw [rdPad_f h, rdEnd_f h]
theorem rdPad_ok {g : Nat → Nat} {len : Nat} : ∀ k s, sOk len s → sOk len (rdPad g len k s)
  | 0, _, h => h
  | k + 1, _, h => rdPad_ok k _ (flIf_ok (by decide) (tk_ok h))
theorem rdEnd_ok {g : Nat → Nat} {len : Nat} {s : tS} (h : sOk len s) : sOk len (rdEnd g len s) := flIf_ok (by decide) (flIf_ok (by decide) (tk_ok h))
