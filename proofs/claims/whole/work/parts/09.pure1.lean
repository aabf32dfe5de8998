/-! The pure words: sums, arrays that are done up to a place, what a wheel is worth. -/
/-- g i + g (i+1) + .. (k of them), onto acc -/
def gS (g : Nat → Int32) : Nat → Nat → Int32 → Int32
  | 0, _, acc => acc
  | k + 1, i, acc => gS g k (i + 1) (acc + g i)
/-- F below i, f from there on -/
def gM (i : Nat) (F f : Nat → Int32) : Nat → Int32 := fun j => if j < i then F j else f j
theorem gM_at {i : Nat} {F f : Nat → Int32} {j : Nat} (h : i ≤ j) : gM i F f j = f j := by simp [gM, Nat.not_lt.mpr h]
theorem gM_lo {i : Nat} {F f : Nat → Int32} {j : Nat} (h : j < i) : gM i F f j = F j := by simp [gM, h]
theorem gM_0 {F f : Nat → Int32} : gM 0 F f = f := by funext j; simp [gM]
theorem gM_s {i : Nat} {F f : Nat → Int32} {v : Int32} (h : v = F i) : upd (gM i F f) i v = gM (i + 1) F f := by
  funext j
  by_cases hj : j = i
  · subst hj; simp [gM, upd, h]
  · by_cases h2 : j < i
    · simp [gM, upd, hj, h2, Nat.lt_succ_of_lt h2]
    · have : ¬ j < i + 1 := by omega
      simp [gM, upd, hj, h2, this]
theorem gM_k {i : Nat} {F f : Nat → Int32} (h : F i = f i) : gM i F f = gM (i + 1) F f := by
  funext j
  by_cases hj : j = i
  · subst hj; simp [gM, h]
  · by_cases h2 : j < i
    · simp [gM, h2, Nat.lt_succ_of_lt h2]
    · have : ¬ j < i + 1 := by omega
      simp [gM, h2, this]
theorem upd_at {f : Nat → Int32} {k : Nat} {v : Int32} : upd f k v k = v := by simp [upd]
theorem upd_ne {f : Nat → Int32} {k j : Nat} {v : Int32} (h : j ≠ k) : upd f k v j = f j := by simp [upd, h]
theorem gw_hasT {x : Int32} {n : Nat} (hn : n < 2 ^ 31) (h1 : ¬ x < 0) (h2 : ¬ nI n ≤ x) : ∃ k, k < n ∧ x = nI k := by
  obtain ⟨j, hj, rfl⟩ := nI_of h1
  exact ⟨j, by rw [nI_leI hn hj] at h2; omega, rfl⟩
theorem gw_hasF1 {x : Int32} {n : Nat} (hn : n < 2 ^ 31) (h : x < 0) : ¬ ∃ k, k < n ∧ x = nI k := by
  rintro ⟨k, hk, rfl⟩
  exact nI_pos (by omega) h
theorem gw_hasF2 {x : Int32} {n : Nat} (hn : n < 2 ^ 31) (h : nI n ≤ x) : ¬ ∃ k, k < n ∧ x = nI k := by
  rintro ⟨k, hk, rfl⟩
  rw [nI_leI hn (by omega)] at h
  omega
theorem gw_lt {i n : Nat} (hi : i < 2 ^ 31) (hn : n < 2 ^ 31) (h : ¬ nI n ≤ nI i) : i < n := by rw [nI_leI hn hi] at h; omega
theorem gw_ge {i n : Nat} (hi : i < 2 ^ 31) (hn : n < 2 ^ 31) (h : nI n ≤ nI i) : n ≤ i := by rw [nI_leI hn hi] at h; omega
/-- a wheel's worth, by its size, grit, state, crack -/
def gWorth (sz gr st cr : Int32) : Int32 := if st = 4 then 0 else if cr = 0 then (if st = 0 then sz * (10 - gr) else 3 * (sz * (10 - gr))) else (if st = 0 then sz * (10 - gr) else 3 * (sz * (10 - gr))) / 5
/-- the rough ones dressed, from i on, at most lf -/
def gDress : Nat → Nat → Int32 → (Nat → Int32) → (Nat → Int32)
  | 0, _, _, st => st
  | k + 1, i, lf, st => if lf ≤ 0 then st else if st i = 0 then gDress k (i + 1) (lf - 1) (upd st i 1) else gDress k (i + 1) lf st
/-- a quarrier's dust behind a day -/
def gLose (pl du : Int32) : Int32 := if pl = -1 then (if (0 : Int32) < du - 7 then du - 7 else 0) else if (60 : Int32) ≤ du then du - 4 else du
/-- what is told of a wheel -/
def gFact (v : Nat) (so sz gr st cr ca : Int32) : Int32 := if v = 0 then so else if v = 1 then sz else if v = 2 then 2 * sz * sz else if v = 3 then st else if v = 4 then gWorth sz gr st cr else ca
