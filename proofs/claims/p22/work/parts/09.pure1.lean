/-! The pure words: sums, arrays that are done up to a place, what a wheel is worth. -/
/-- g i + g (i+1) + .. (k of them), onto acc -/
def gS (g : Nat → Int32) : Nat → Nat → Int32 → Int32
  | 0, _, acc => acc
  | k + 1, i, acc => gS g k (i + 1) (acc + g i)
/-- F below i, f from there on -/
def gM (i : Nat) (F f : Nat → Int32) : Nat → Int32 := fun j => if j < i then F j else f j
theorem gM_at {i : Nat} {F f : Nat → Int32} {j : Nat} (h : i ≤ j) : gM i F f j = f j := by simp [gM, Nat.not_lt.mpr h]
theorem gM_lo {i : Nat} {F f : Nat → Int32} {j : Nat} (h : j < i) : gM i F f j = F j := by simp [gM, h]
theorem gM_0 {F f : Nat → Int32} : gM 0 F f = f := by funext j; simp [gM]
theorem gM_s {i : Nat} {F f : Nat → Int32} {v : Int32} (h : v = F i) : upd (gM i F f) i v = gM (i + 1) F f := by
  funext j
  by_cases hj : j = i
  · subst hj; simp [gM, upd, h]
  · by_cases h2 : j < i
    · simp [gM, upd, hj, h2, Nat.lt_succ_of_lt h2]
    · have : ¬ j < i + 1 := by omega
      simp [gM, upd, hj, h2, this]
theorem gM_k {i : Nat} {F f : Nat → Int32} (h : F i = f i) : gM i F f = gM (i + 1) F f := by
  funext j
  by_cases hj : j = i
  · subst hj; simp [gM, h]
  · by_cases h2 : j < i
    · simp [gM, h2, Nat.lt_succ_of_lt h2]
    · have : ¬ j < i + 1 := by omega
      simp [gM, h2, this]
theorem upd_at {f : Nat → Int32} {k : Nat} {v : Int32} : upd f k v k = v := by simp [upd]
theorem upd_ne {f : Nat → Int32} {k j : Nat} {v : Int32} (h : j ≠ k) : upd f k v j = f j := by simp [upd, h]
theorem gw_hasT {x : Int32} {n : Nat} (hn : n < 2 ^ 31) (h1 : ¬ x < 0) (h2 : ¬ nI n ≤ x) : ∃ k, k < n ∧ x = nI k := by
  obtain ⟨j, hj, rfl⟩ := nI_of h1
  exact ⟨j, by rw [nI_leI hn hj] at h2; omega, rfl⟩
theorem gw_hasF1 {x : Int32} {n : Nat} (hn : n < 2 ^ 31) (h : x < 0) : ¬ ∃ k, k < n ∧ x = nI k := by
  rintro ⟨k, hk, rfl⟩
  exact nI_pos (by omega) h
theorem gw_hasF2 {x : Int32} {n : Nat} (hn : n < 2 ^ 31) (h : nI n ≤ x) : ¬ ∃ k, k < n ∧ x = nI k := by
  rintro ⟨k, hk, rfl⟩
  rw [nI_leI hn (by omega)] at h
  omega
theorem gw_lt {i n : Nat} (hi : i < 2 ^ 31) (hn : n < 2 ^ 31) (h : ¬ nI n ≤ nI i) : i < n := by rw [nI_leI hn hi] at h; omega
theorem gw_ge {i n : Nat} (hi : i < 2 ^ 31) (hn : n < 2 ^ 31) (h : nI n ≤ nI i) : n ≤ i := by rw [nI_leI hn hi] at h; omega
/-- a wheel's worth, by its size, grit, state, crack -/
def gWorth (sz gr st cr : Int32) : Int32 := if st = 4 then 0 else if cr = 0 then (if st = 0 then sz * (10 - gr) else 3 * (sz * (10 - gr))) else (if st = 0 then sz * (10 - gr) else 3 * (sz * (10 - gr))) / 5
/-- the rough ones dressed, from i on, at most lf -/
def gDress : Nat → Nat → Int32 → (Nat → Int32) → (Nat → Int32)
  | 0, _, _, st => st
  | k + 1, i, lf, st => if lf ≤ 0 then st else if st i = 0 then gDress k (i + 1) (lf - 1) (upd st i 1) else gDress k (i + 1) lf st
/-- a quarrier's dust behind a day -/
def gLose (pl du : Int32) : Int32 := if pl = -1 then (if (0 : Int32) < du - 7 then du - 7 else 0) else if (60 : Int32) ≤ du then du - 4 else du
/-- what is told of a wheel -/
def gFact (v : Nat) (so sz gr st cr ca : Int32) : Int32 := if v = 0 then so else if v = 1 then sz else if v = 2 then 2 * sz * sz else if v = 3 then st else if v = 4 then gWorth sz gr st cr else ca
theorem nI_mod {a d : Nat} (ha : a < 2 ^ 31) (hd : d < 2 ^ 31) : nI a % nI d = nI (a % d) := by
  have h3 : a % d ≤ a := Nat.mod_le a d
  apply Int32.toInt_inj.mp
  rw [Int32.toInt_mod, nI_toInt ha, nI_toInt hd, nI_toInt (by omega)]
  exact (Int.ofNat_tmod a d).symm
theorem nI_xor (a b : Nat) : nI a ^^^ nI b = nI (a ^^^ b) := by
  apply Int32.toBitVec_inj.mp
  apply BitVec.eq_of_toNat_eq
  simp [nI, Nat.xor_mod_two_pow]
theorem gw_fm {d : Nat} (hd : d < 2 ^ 31) : 0 ≤ nI d ^^^ 9 := by
  have h1 : nI d ^^^ 9 = nI (d ^^^ 9) := nI_xor d 9
  rw [h1]
  exact nI_pos' (Nat.xor_lt_two_pow hd (by decide))
/-! The quarry, packed: Q 0 the fall; 1 to 4 beds (grit, flaw, stone, cut); 5 to 8 crew (skill, place, dust, work); 9 to 14 wheels (source, grit, size, cracked, state, carrier). -/
def pk (Q : Nat → Nat → Int32) (k : Nat) (f : Nat → Int32) : Nat → Nat → Int32 := fun j => if j = k then f else Q j
def gSize (sk : Int32) (day : Nat) : Int32 := 1 + sk / 2 + (if nI day - nI day / 3 * 3 = 0 then 1 else 0)
def gCr (Q : Nat → Nat → Int32) (b : Nat) (sz : Int32) : Int32 := if (7 * Q 4 b + 3 * sz) - (7 * Q 4 b + 3 * sz) / 10 * 10 < Q 2 b then 1 else 0
/-- a wheel cut: what a quarry's rows are then -/
def gCut (Q : Nat → Nat → Int32) (nw b : Nat) (sz : Int32) : Nat → Nat → Int32 := fun j => match j with
  | 3 => upd (Q 3) b (if 0 < Q 3 b - sz then Q 3 b - sz else 0)
  | 4 => upd (Q 4) b (Q 4 b + 1)
  | 9 => upd (Q 9) nw (nI b)
  | 10 => upd (Q 10) nw (Q 1 b)
  | 11 => upd (Q 11) nw sz
  | 12 => upd (Q 12) nw (gCr Q b sz)
  | 13 => upd (Q 13) nw 0
  | 14 => upd (Q 14) nw (-1)
  | _ => Q j
/-- a wheel cut by q, and its work paid -/
def gCutW (Q : Nat → Nat → Int32) (nw q b : Nat) (sz : Int32) : Nat → Nat → Int32 := fun j => match j with
  | 8 => upd (Q 8) q (Q 8 q - 10)
  | _ => gCut Q nw b sz j
/-- the wheels that q cuts at b, at most k -/
def gWk (q b : Nat) (sz : Int32) : Nat → (Nat → Nat → Int32) → Nat → (Nat → Nat → Int32) × Nat
  | 0, Q, nw => (Q, nw)
  | k + 1, Q, nw => if Q 8 q < 10 then (Q, nw) else if Q 3 b ≤ 0 then (Q, nw) else gWk q b sz k (gCutW Q nw q b sz) (nw + 1)
/-- dust and work of q's day at b -/
def gToil (Q : Nat → Nat → Int32) (q b : Nat) : Nat → Nat → Int32 := fun j => match j with
  | 7 => upd (Q 7) q (if Q 7 q + (Q 1 b + 1) < 100 then Q 7 q + (Q 1 b + 1) else 100)
  | 8 => upd (Q 8) q (Q 8 q + Q 5 q)
  | _ => Q j
/-- q's day -/
def gWork (Q : Nat → Nat → Int32) (nw day q : Nat) : (Nat → Nat → Int32) × Nat :=
  if Q 6 q = -1 then (Q, nw) else if 60 ≤ Q 7 q then (Q, nw) else gWk q (Q 6 q).toNatClampNeg (gSize (Q 5 q) day) (60 - nw) (gToil Q q (Q 6 q).toNatClampNeg) nw
/-- the days of k quarriers from i on -/
def gCrew (day : Nat) : Nat → Nat → (Nat → Nat → Int32) → Nat → (Nat → Nat → Int32) × Nat
  | 0, _, Q, nw => (Q, nw)
  | k + 1, i, Q, nw => gCrew day k (i + 1) (gWork Q nw day i).1 (gWork Q nw day i).2
/-- dust lost, wheels dressed -/
def gEve (Q : Nat → Nat → Int32) (nq nw day : Nat) : Nat → Nat → Int32 := fun j => match j with
  | 7 => gM nq (fun j => gLose (Q 6 j) (Q 7 j)) (Q 7)
  | 13 => if 3 ≤ Q 0 (day % 9) then gDress nw 0 (Q 0 (day % 9) / 2) (Q 13) else Q 13
  | _ => Q j
/-- a day -/
def gDay (Q : Nat → Nat → Int32) (nq nw day : Nat) : (Nat → Nat → Int32) × Nat :=
  (gEve (gCrew day nq 0 Q nw).1 nq (gCrew day nq 0 Q nw).2 day, (gCrew day nq 0 Q nw).2)
/-- k days -/
def gGo (nq : Nat) : Nat → (Nat → Nat → Int32) → Nat → Nat → (Nat → Nat → Int32) × Nat
  | 0, Q, nw, _ => (Q, nw)
  | k + 1, Q, nw, day => gGo nq k (gDay Q nq nw day).1 (gDay Q nq nw day).2 (day + 1)
/-- each place is none, or a bed -/
def gPl (Q : Nat → Nat → Int32) (nb nq : Nat) : Prop := ∀ i, i < nq → Q 6 i = -1 ∨ ∃ kk, kk < nb ∧ Q 6 i = nI kk
theorem gWk_6 (q b : Nat) (sz : Int32) : ∀ (k : Nat) (Q : Nat → Nat → Int32) (nw j : Nat), (j = 0 ∨ j = 1 ∨ j = 2 ∨ j = 5 ∨ j = 6 ∨ j = 7) → (gWk q b sz k Q nw).1 j = Q j := by
  intro k
  induction k with
  | zero => intro Q nw j _; rfl
  | succ k ih =>
    intro Q nw j hj
    unfold gWk
    split
    · rfl
    · split
      · rfl
      · rw [ih _ _ j hj]
        rcases hj with rfl | rfl | rfl | rfl | rfl | rfl <;> rfl
theorem gWk_nw (q b : Nat) (sz : Int32) : ∀ (k : Nat) (Q : Nat → Nat → Int32) (nw : Nat), (gWk q b sz k Q nw).2 ≤ nw + k := by
  intro k
  induction k with
  | zero => intro Q nw; exact Nat.le_refl _
  | succ k ih =>
    intro Q nw
    unfold gWk
    split
    · show nw ≤ _; omega
    · split
      · show nw ≤ _; omega
      · have := ih (gCutW Q nw q b sz) (nw + 1); omega
theorem gWork_6 (Q : Nat → Nat → Int32) (nw day q j : Nat) (hj : j = 0 ∨ j = 1 ∨ j = 2 ∨ j = 5 ∨ j = 6) : (gWork Q nw day q).1 j = Q j := by
  unfold gWork
  split
  · rfl
  · split
    · rfl
    · rw [gWk_6 _ _ _ _ _ _ j (by omega)]
      rcases hj with rfl | rfl | rfl | rfl | rfl <;> rfl
theorem gWork_nw {Q : Nat → Nat → Int32} {nw day q : Nat} (h : nw ≤ 60) : (gWork Q nw day q).2 ≤ 60 := by
  unfold gWork
  split
  · exact h
  · split
    · exact h
    · have := gWk_nw q (Q 6 q).toNatClampNeg (gSize (Q 5 q) day) (60 - nw) (gToil Q q (Q 6 q).toNatClampNeg) nw
      omega
theorem gCrew_6 (day : Nat) : ∀ (k i : Nat) (Q : Nat → Nat → Int32) (nw j : Nat), (j = 0 ∨ j = 1 ∨ j = 2 ∨ j = 5 ∨ j = 6) → (gCrew day k i Q nw).1 j = Q j := by
  intro k
  induction k with
  | zero => intro i Q nw j _; rfl
  | succ k ih => intro i Q nw j hj; unfold gCrew; rw [ih _ _ _ j hj, gWork_6 _ _ _ _ j hj]
theorem gCrew_nw (day : Nat) : ∀ (k i : Nat) (Q : Nat → Nat → Int32) (nw : Nat), nw ≤ 60 → (gCrew day k i Q nw).2 ≤ 60 := by
  intro k
  induction k with
  | zero => intro i Q nw h; exact h
  | succ k ih => intro i Q nw h; unfold gCrew; exact ih _ _ _ (gWork_nw h)
theorem gDay_6 (Q : Nat → Nat → Int32) (nq nw day j : Nat) (hj : j = 0 ∨ j = 1 ∨ j = 2 ∨ j = 5 ∨ j = 6) : (gDay Q nq nw day).1 j = Q j := by
  have h := gCrew_6 day nq 0 Q nw j hj
  rw [← h]
  rcases hj with rfl | rfl | rfl | rfl | rfl <;> rfl
theorem gDay_nw {Q : Nat → Nat → Int32} {nq nw day : Nat} (h : nw ≤ 60) : (gDay Q nq nw day).2 ≤ 60 := gCrew_nw day nq 0 Q nw h
theorem gGo_6 (nq : Nat) : ∀ (k : Nat) (Q : Nat → Nat → Int32) (nw day j : Nat), (j = 0 ∨ j = 1 ∨ j = 2 ∨ j = 5 ∨ j = 6) → (gGo nq k Q nw day).1 j = Q j := by
  intro k
  induction k with
  | zero => intro Q nw day j _; rfl
  | succ k ih => intro Q nw day j hj; unfold gGo; rw [ih _ _ _ j hj, gDay_6 _ _ _ _ j hj]
theorem gGo_nw (nq : Nat) : ∀ (k : Nat) (Q : Nat → Nat → Int32) (nw day : Nat), nw ≤ 60 → (gGo nq k Q nw day).2 ≤ 60 := by
  intro k
  induction k with
  | zero => intro Q nw day h; exact h
  | succ k ih => intro Q nw day h; unfold gGo; exact ih _ _ _ (gDay_nw h)
theorem gPl.of {Q Q' : Nat → Nat → Int32} {nb nq : Nat} (h : gPl Q nb nq) (h6 : Q' 6 = Q 6) : gPl Q' nb nq := fun i hi => by rw [h6]; exact h i hi
/-- days till tired -/
def gTired (pl du gr : Int32) : Int32 := if pl = -1 then -1 else if 60 - du ≤ 0 then 0 else if gr + 1 ≤ 0 then 0 else ((60 - du) + (gr + 1) - 1) / (gr + 1)
/-- what is told of a bed -/
def gBed (Q : Nat → Nat → Int32) (nq nw v k : Nat) : Int32 := if v = 0 then Q 1 k else if v = 1 then Q 2 k else if v = 2 then Q 3 k else if v = 3 then gS (fun j => if Q 6 j = nI k then 1 else 0) nq 0 0 else if v = 4 then Q 4 k else gS (fun j => if Q 9 j = nI k then (if Q 12 j = 0 then 1 else 0) else 0) nw 0 0
/-- what is told of a quarrier -/
def gQua (Q : Nat → Nat → Int32) (v k : Nat) : Int32 := if v = 0 then Q 5 k else if v = 1 then Q 6 k else if v = 2 then Q 7 k else if v = 3 then Q 8 k else gTired (Q 6 k) (Q 7 k) (Q 1 (Q 6 k).toNatClampNeg)
/-- what is told of all, but the coins -/
def gCnt (Q : Nat → Nat → Int32) (nq nw day v : Nat) : Int32 := if v = 0 then nI day else if v = 1 then Q 0 (day % 9) else if v = 2 then (if 3 ≤ Q 0 (day % 9) then 1 else 0) else if v = 3 then nI nw else if v = 4 then gS (fun j => if Q 13 j = 0 then 1 else 0) nw 0 0 else if v = 5 then gS (fun j => if Q 13 j = 1 then 1 else 0) nw 0 0 else if v = 6 then gS (fun j => if Q 13 j = 2 then 1 else 0) nw 0 0 else if v = 7 then gS (fun j => if Q 13 j = 3 then 1 else 0) nw 0 0 else gS (Q 7) nq 0 0
theorem gw_nIm1 {k : Nat} (h : k < 2 ^ 31) : ¬ nI k = -1 := by
  intro he
  exact nI_pos h (by rw [he]; decide)
