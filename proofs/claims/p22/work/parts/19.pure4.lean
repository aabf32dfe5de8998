/-! The reference's rows, by the same quarry: rock, people, stones, boats, numbers. -/
def enR (Q : Nat → Nat → Int32) : Nat → Int32 := fun k => Q (1 + k % 4) (k / 4)
def enP (Q : Nat → Nat → Int32) : Nat → Int32 := fun k => Q (5 + k % 4) (k / 4)
def sI (k : Nat) : Nat := match k with
  | 0 => 9
  | 1 => 11
  | 2 => 13
  | 3 => 14
  | _ => 12
def enS (Q : Nat → Nat → Int32) : Nat → Int32 := fun k => Q (sI (k % 5)) (k / 5)
def enB (ca we : Nat → Int32) : Nat → Int32 := fun k => if k % 2 = 0 then ca (k / 2) else we (k / 2)
def enN (day : Nat) (co : Int32) (nw : Nat) : Nat → Int32 := fun k => match k with
  | 0 => nI day
  | 1 => co
  | 2 => nI nw
  | _ => 0
theorem enR_at (Q : Nat → Nat → Int32) (b j : Nat) (h : j < 4) : enR Q (4 * b + j) = Q (1 + j) b := by
  unfold enR
  rw [show (4 * b + j) % 4 = j by omega, show (4 * b + j) / 4 = b by omega]
theorem enR_0 (Q : Nat → Nat → Int32) (b : Nat) : enR Q (4 * b + 0) = Q 1 b := enR_at Q b 0 (by omega)
theorem enR_1 (Q : Nat → Nat → Int32) (b : Nat) : enR Q (4 * b + 1) = Q 2 b := enR_at Q b 1 (by omega)
theorem enR_2 (Q : Nat → Nat → Int32) (b : Nat) : enR Q (4 * b + 2) = Q 3 b := enR_at Q b 2 (by omega)
theorem enR_3 (Q : Nat → Nat → Int32) (b : Nat) : enR Q (4 * b + 3) = Q 4 b := enR_at Q b 3 (by omega)
theorem enP_at (Q : Nat → Nat → Int32) (b j : Nat) (h : j < 4) : enP Q (4 * b + j) = Q (5 + j) b := by
  unfold enP
  rw [show (4 * b + j) % 4 = j by omega, show (4 * b + j) / 4 = b by omega]
theorem enP_0 (Q : Nat → Nat → Int32) (b : Nat) : enP Q (4 * b + 0) = Q 5 b := enP_at Q b 0 (by omega)
theorem enP_1 (Q : Nat → Nat → Int32) (b : Nat) : enP Q (4 * b + 1) = Q 6 b := enP_at Q b 1 (by omega)
theorem enP_2 (Q : Nat → Nat → Int32) (b : Nat) : enP Q (4 * b + 2) = Q 7 b := enP_at Q b 2 (by omega)
theorem enP_3 (Q : Nat → Nat → Int32) (b : Nat) : enP Q (4 * b + 3) = Q 8 b := enP_at Q b 3 (by omega)
theorem enS_at (Q : Nat → Nat → Int32) (w j : Nat) (h : j < 5) : enS Q (5 * w + j) = Q (sI j) w := by
  unfold enS
  rw [show (5 * w + j) % 5 = j by omega, show (5 * w + j) / 5 = w by omega]
theorem enS_0 (Q : Nat → Nat → Int32) (w : Nat) : enS Q (5 * w + 0) = Q 9 w := enS_at Q w 0 (by omega)
theorem enS_1 (Q : Nat → Nat → Int32) (w : Nat) : enS Q (5 * w + 1) = Q 11 w := enS_at Q w 1 (by omega)
theorem enS_2 (Q : Nat → Nat → Int32) (w : Nat) : enS Q (5 * w + 2) = Q 13 w := enS_at Q w 2 (by omega)
theorem enS_3 (Q : Nat → Nat → Int32) (w : Nat) : enS Q (5 * w + 3) = Q 14 w := enS_at Q w 3 (by omega)
theorem enS_4 (Q : Nat → Nat → Int32) (w : Nat) : enS Q (5 * w + 4) = Q 12 w := enS_at Q w 4 (by omega)
theorem enB_0 (ca we : Nat → Int32) (r : Nat) : enB ca we (2 * r + 0) = ca r := by
  unfold enB
  rw [if_pos (by omega), show (2 * r + 0) / 2 = r by omega]
theorem enB_1 (ca we : Nat → Int32) (r : Nat) : enB ca we (2 * r + 1) = we r := by
  unfold enB
  rw [if_neg (by omega), show (2 * r + 1) / 2 = r by omega]
theorem enR_upd (Q Q' : Nat → Nat → Int32) (b j : Nat) (v : Int32) (hj : j < 4) (h : ∀ i, i < 4 → Q' (1 + i) = if i = j then upd (Q (1 + j)) b v else Q (1 + i)) : upd (enR Q) (4 * b + j) v = enR Q' := by
  funext k
  have hk := h (k % 4) (Nat.mod_lt _ (by decide))
  show upd (enR Q) (4 * b + j) v k = Q' (1 + k % 4) (k / 4)
  rw [hk]
  by_cases e : k = 4 * b + j
  · subst e
    rw [upd_at, show (4 * b + j) % 4 = j by omega, show (4 * b + j) / 4 = b by omega, if_pos rfl, upd_at]
  · rw [upd_ne e]
    by_cases e2 : k % 4 = j
    · rw [if_pos e2, upd_ne (show k / 4 ≠ b by omega), ← e2]; rfl
    · rw [if_neg e2]; rfl
theorem enP_upd (Q Q' : Nat → Nat → Int32) (b j : Nat) (v : Int32) (hj : j < 4) (h : ∀ i, i < 4 → Q' (5 + i) = if i = j then upd (Q (5 + j)) b v else Q (5 + i)) : upd (enP Q) (4 * b + j) v = enP Q' := by
  funext k
  have hk := h (k % 4) (Nat.mod_lt _ (by decide))
  show upd (enP Q) (4 * b + j) v k = Q' (5 + k % 4) (k / 4)
  rw [hk]
  by_cases e : k = 4 * b + j
  · subst e
    rw [upd_at, show (4 * b + j) % 4 = j by omega, show (4 * b + j) / 4 = b by omega, if_pos rfl, upd_at]
  · rw [upd_ne e]
    by_cases e2 : k % 4 = j
    · rw [if_pos e2, upd_ne (show k / 4 ≠ b by omega), ← e2]; rfl
    · rw [if_neg e2]; rfl
theorem enS_upd (Q Q' : Nat → Nat → Int32) (w j : Nat) (v : Int32) (hj : j < 5) (h : ∀ i, i < 5 → Q' (sI i) = if i = j then upd (Q (sI j)) w v else Q (sI i)) : upd (enS Q) (5 * w + j) v = enS Q' := by
  funext k
  have hk := h (k % 5) (Nat.mod_lt _ (by decide))
  show upd (enS Q) (5 * w + j) v k = Q' (sI (k % 5)) (k / 5)
  rw [hk]
  by_cases e : k = 5 * w + j
  · subst e
    rw [upd_at, show (5 * w + j) % 5 = j by omega, show (5 * w + j) / 5 = w by omega, if_pos rfl, upd_at]
  · rw [upd_ne e]
    by_cases e2 : k % 5 = j
    · rw [if_pos e2, upd_ne (show k / 5 ≠ w by omega), ← e2]; rfl
    · rw [if_neg e2]; rfl
theorem gw_i4 {P : Nat → Prop} (h0 : P 0) (h1 : P 1) (h2 : P 2) (h3 : P 3) : ∀ i, i < 4 → P i := fun i hi => by
  rcases (show i = 0 ∨ i = 1 ∨ i = 2 ∨ i = 3 by omega) with rfl | rfl | rfl | rfl <;> assumption
theorem gw_i5 {P : Nat → Prop} (h0 : P 0) (h1 : P 1) (h2 : P 2) (h3 : P 3) (h4 : P 4) : ∀ i, i < 5 → P i := fun i hi => by
  rcases (show i = 0 ∨ i = 1 ∨ i = 2 ∨ i = 3 ∨ i = 4 by omega) with rfl | rfl | rfl | rfl | rfl <;> assumption
theorem enR_ext {Q Q' : Nat → Nat → Int32} (h1 : Q 1 = Q' 1) (h2 : Q 2 = Q' 2) (h3 : Q 3 = Q' 3) (h4 : Q 4 = Q' 4) : enR Q = enR Q' := by
  funext k
  exact congrFun (gw_i4 (P := fun i => Q (1 + i) = Q' (1 + i)) h1 h2 h3 h4 (k % 4) (Nat.mod_lt _ (by decide))) _
theorem enP_ext {Q Q' : Nat → Nat → Int32} (h1 : Q 5 = Q' 5) (h2 : Q 6 = Q' 6) (h3 : Q 7 = Q' 7) (h4 : Q 8 = Q' 8) : enP Q = enP Q' := by
  funext k
  exact congrFun (gw_i4 (P := fun i => Q (5 + i) = Q' (5 + i)) h1 h2 h3 h4 (k % 4) (Nat.mod_lt _ (by decide))) _
theorem enS_ext {Q Q' : Nat → Nat → Int32} (h0 : Q 9 = Q' 9) (h1 : Q 11 = Q' 11) (h2 : Q 13 = Q' 13) (h3 : Q 14 = Q' 14) (h4 : Q 12 = Q' 12) : enS Q = enS Q' := by
  funext k
  exact congrFun (gw_i5 (P := fun i => Q (sI i) = Q' (sI i)) h0 h1 h2 h3 h4 (k % 5) (Nat.mod_lt _ (by decide))) _
/-- one row of a quarry, another in its place -/
theorem enR_p (Q : Nat → Nat → Int32) (b j : Nat) (v : Int32) (hj : j < 4) : upd (enR Q) (4 * b + j) v = enR (pk Q (1 + j) (upd (Q (1 + j)) b v)) := enR_upd Q _ b j v hj fun i _ => by
  unfold pk
  by_cases e : i = j
  · rw [if_pos e, if_pos (by omega)]
  · rw [if_neg e, if_neg (by omega)]
theorem enP_p (Q : Nat → Nat → Int32) (b j : Nat) (v : Int32) (hj : j < 4) : upd (enP Q) (4 * b + j) v = enP (pk Q (5 + j) (upd (Q (5 + j)) b v)) := enP_upd Q _ b j v hj fun i _ => by
  unfold pk
  by_cases e : i = j
  · rw [if_pos e, if_pos (by omega)]
  · rw [if_neg e, if_neg (by omega)]
theorem enS_p (Q : Nat → Nat → Int32) (w j : Nat) (v : Int32) (hj : j < 5) : upd (enS Q) (5 * w + j) v = enS (pk Q (sI j) (upd (Q (sI j)) w v)) := enS_upd Q _ w j v hj fun i hi => by
  unfold pk
  by_cases e : i = j
  · rw [if_pos e, e, if_pos rfl]
  · have hne : sI i ≠ sI j := by
      rcases (show i = 0 ∨ i = 1 ∨ i = 2 ∨ i = 3 ∨ i = 4 by omega) with rfl | rfl | rfl | rfl | rfl <;> rcases (show j = 0 ∨ j = 1 ∨ j = 2 ∨ j = 3 ∨ j = 4 by omega) with rfl | rfl | rfl | rfl | rfl <;> first | exact absurd rfl e | decide
    rw [if_neg e, if_neg hne]
theorem enB_p0 (ca we : Nat → Int32) (r : Nat) (v : Int32) : upd (enB ca we) (2 * r + 0) v = enB (upd ca r v) we := by
  funext k
  unfold enB
  by_cases e : k = 2 * r
  · subst e
    simp [upd]
  · by_cases e2 : k % 2 = 0
    · have : k / 2 ≠ r := by omega
      simp [upd, e, e2, this]
    · simp [upd, e, e2]
theorem enB_p1 (ca we : Nat → Int32) (r : Nat) (v : Int32) : upd (enB ca we) (2 * r + 1) v = enB ca (upd we r v) := by
  funext k
  unfold enB
  by_cases e : k = 2 * r + 1
  · subst e
    have h1 : (2 * r + 1) % 2 = 1 := by omega
    have h2 : (2 * r + 1) / 2 = r := by omega
    simp [upd, h1, h2]
  · by_cases e2 : k % 2 = 0
    · simp [upd, e, e2]
    · have : k / 2 ≠ r := by omega
      simp [upd, e, e2, this]
theorem enN_0 (day day' : Nat) (co : Int32) (nw : Nat) : upd (enN day co nw) 0 (nI day') = enN day' co nw := by
  funext k
  match k with
  | 0 => rfl
  | 1 => rfl
  | 2 => rfl
  | k + 3 => rfl
theorem enN_1 (day : Nat) (co co' : Int32) (nw : Nat) : upd (enN day co nw) 1 co' = enN day co' nw := by
  funext k
  match k with
  | 0 => rfl
  | 1 => rfl
  | 2 => rfl
  | k + 3 => rfl
theorem enN_2 (day : Nat) (co : Int32) (nw nw' : Nat) : upd (enN day co nw) 2 (nI nw') = enN day co nw' := by
  funext k
  match k with
  | 0 => rfl
  | 1 => rfl
  | 2 => rfl
  | k + 3 => rfl
/-- what the reference's bytes rest on: each wheel's bed, its grit; cracks; dust -/
def gOf (Q : Nat → Nat → Int32) (nb nw : Nat) : Prop := ∀ w, w < nw → ∃ b, b < nb ∧ Q 9 w = nI b ∧ Q 10 w = Q 1 b
theorem gw_isT {x : Int32} {n : Nat} (hn : n < 2 ^ 30) : ((0 : Int32) ≤ x ∧ x ≤ nI n - 1) ↔ ∃ kk, kk < n ∧ x = nI kk := by
  cases n with
  | zero =>
    constructor
    · rintro ⟨h1, h2⟩
      exact absurd (Int32.le_trans h1 h2) (by decide)
    · rintro ⟨kk, h, -⟩
      omega
  | succ n =>
    rw [nI_pred]
    constructor
    · rintro ⟨h1, h2⟩
      obtain ⟨j, hj, rfl⟩ := nI_of (Int32.not_lt.mpr h1)
      exact ⟨j, by rw [nI_leI hj (by omega)] at h2; omega, rfl⟩
    · rintro ⟨kk, h, rfl⟩
      exact ⟨nI_pos' (by omega), nI_le (by omega) (by omega)⟩
/-- the reference's worth of a wheel is the class's -/
theorem gW_eq {sz gr gr' st cr v w : Int32} (hg : gr = gr') (hz : cr = 0 ∨ cr = 1) (h1 : ¬ st = 4) (h2 : (st = 0 ∧ w = sz * (10 - gr') * 1) ∨ (¬ st = 0 ∧ w = sz * (10 - gr') * 3)) (h3 : (cr = 1 ∧ v = w / 5) ∨ (¬ cr = 1 ∧ v = w)) : v = gWorth sz gr st cr := by
  subst hg
  unfold gWorth
  rw [if_neg h1]
  rcases h2 with ⟨h2, rfl⟩ | ⟨h2, rfl⟩
  · rcases h3 with ⟨h3, rfl⟩ | ⟨h3, rfl⟩
    · rw [if_pos h2, h3, if_neg (by decide), Int32.mul_one]
    · rw [if_pos h2, if_pos (hz.resolve_right h3), Int32.mul_one]
  · rcases h3 with ⟨h3, rfl⟩ | ⟨h3, rfl⟩
    · rw [if_neg h2, h3, if_neg (by decide), Int32.mul_comm]
    · rw [if_neg h2, if_pos (hz.resolve_right h3), Int32.mul_comm]
/-- less g i, g (i+1) .. -/
def gSub (g : Nat → Int32) : Nat → Nat → Int32 → Int32
  | 0, _, acc => acc
  | k + 1, i, acc => gSub g k (i + 1) (acc - g i)
theorem gS_add (g : Nat → Int32) : ∀ (k i : Nat) (a b : Int32), gS g k i (a + b) = a + gS g k i b := by
  intro k
  induction k with
  | zero => intro i a b; rfl
  | succ k ih => intro i a b; unfold gS; rw [Int32.add_assoc, ih]
theorem gSub_eq (g : Nat → Int32) : ∀ (k i : Nat) (a : Int32), gSub g k i a = a - gS g k i 0 := by
  intro k
  induction k with
  | zero => intro i a; show a = a - 0; rw [Int32.sub_zero]
  | succ k ih =>
    intro i a
    unfold gSub gS
    rw [ih, Int32.add_comm 0 (g i), gS_add, Int32.sub_sub]
/-- dust is 0 to 100 -/
def gDu (Q : Nat → Nat → Int32) : Prop := ∀ i, (0 : Int32) ≤ Q 7 i ∧ Q 7 i ≤ 100
theorem gw_nat100 {x : Int32} (h : (0 : Int32) ≤ x ∧ x ≤ 100) : ∃ n, n ≤ 100 ∧ x = nI n := by
  obtain ⟨j, hj, rfl⟩ := nI_of (Int32.not_lt.mpr h.1)
  exact ⟨j, (nI_leI (b := 100) hj (by decide)).mp h.2, rfl⟩
theorem gLose_4 {x : Int32} (h : (0 : Int32) ≤ x ∧ x ≤ 100) (h6 : 60 ≤ x) : (if (0 : Int32) < x - 4 then x - 4 else 0) = x - 4 := by
  obtain ⟨n, hn, rfl⟩ := gw_nat100 h
  have h7 : 60 ≤ n := (nI_leI (a := 60) (by decide) (by omega)).mp h6
  have h8 : nI n - 4 = nI (n - 4) := nI_sub (b := 4) (by omega)
  rw [h8, if_pos (show (0 : Int32) < nI (n - 4) from nI_lt (a := 0) (by omega) (by omega))]
theorem gLose_0 {x : Int32} (h : (0 : Int32) ≤ x ∧ x ≤ 100) : (if (0 : Int32) < x - 0 then x - 0 else 0) = x := by
  rw [Int32.sub_zero]
  by_cases c : (0 : Int32) < x
  · rw [if_pos c]
  · rw [if_neg c]
    exact Int32.le_antisymm h.1 (Int32.not_lt.mp c)
theorem gLose_du {pl x : Int32} (h : (0 : Int32) ≤ x ∧ x ≤ 100) : (0 : Int32) ≤ gLose pl x ∧ gLose pl x ≤ 100 := by
  obtain ⟨n, hn, rfl⟩ := gw_nat100 h
  unfold gLose
  split
  · split
    · rename_i c
      have h8 : ∃ m, m ≤ 100 ∧ nI n - 7 = nI m := by
        by_cases c7 : 7 ≤ n
        · exact ⟨n - 7, by omega, nI_sub (b := 7) c7⟩
        · exfalso
          rcases (show n = 0 ∨ n = 1 ∨ n = 2 ∨ n = 3 ∨ n = 4 ∨ n = 5 ∨ n = 6 by omega) with rfl | rfl | rfl | rfl | rfl | rfl | rfl <;> exact absurd c (by decide)
      obtain ⟨m, hm, e⟩ := h8
      rw [e]
      exact ⟨nI_pos' (by omega), nI_le (b := 100) hm (by decide)⟩
    · exact ⟨by decide, by decide⟩
  · split
    · rename_i c
      have h7 : 60 ≤ n := (nI_leI (a := 60) (by decide) (by omega)).mp c
      rw [show nI n - 4 = nI (n - 4) from nI_sub (b := 4) (by omega)]
      exact ⟨nI_pos' (by omega), nI_le (b := 100) (by omega) (by decide)⟩
    · exact h
theorem gToil_du {Q : Nat → Nat → Int32} {q b : Nat} (h : gDu Q) (hg : (0 : Int32) ≤ Q 1 b ∧ Q 1 b ≤ 9) : gDu (gToil Q q b) := fun i => by
  show (0 : Int32) ≤ upd (Q 7) q (if Q 7 q + (Q 1 b + 1) < 100 then Q 7 q + (Q 1 b + 1) else 100) i ∧ upd (Q 7) q (if Q 7 q + (Q 1 b + 1) < 100 then Q 7 q + (Q 1 b + 1) else 100) i ≤ 100
  by_cases e : i = q
  · subst e
    rw [upd_at]
    obtain ⟨n, hn, e1⟩ := gw_nat100 (h i)
    obtain ⟨g, hg1, e2⟩ := gw_nat100 ⟨hg.1, Int32.le_trans hg.2 (by decide)⟩
    rw [e1, e2, show nI g + 1 = nI (g + 1) from nI_1 g, nI_add]
    split
    · rename_i c
      exact ⟨nI_pos' (by omega), Int32.le_of_lt c⟩
    · exact ⟨by decide, by decide⟩
  · rw [upd_ne e]; exact h i
theorem gWk_du {q b : Nat} {sz : Int32} (k : Nat) (Q : Nat → Nat → Int32) (nw : Nat) (h : gDu Q) : gDu (gWk q b sz k Q nw).1 := fun i => by
  rw [gWk_6 q b sz k Q nw 7 (by decide)]
  exact h i
/-- the beds' grit -/
def gGr (Q : Nat → Nat → Int32) (nb : Nat) : Prop := ∀ b, b < nb → (1 : Int32) ≤ Q 1 b ∧ Q 1 b ≤ 9
theorem gWork_du {Q : Nat → Nat → Int32} {nb nq nw day q : Nat} (h : gDu Q) (hg : gGr Q nb) (hnb : nb ≤ 5) (hpl : gPl Q nb nq) (hq : q < nq) : gDu (gWork Q nw day q).1 := by
  unfold gWork
  split
  · exact h
  · split
    · exact h
    · rename_i c _
      obtain ⟨b, hb, hbe⟩ := (hpl q hq).resolve_left c
      rw [hbe, nI_clamp (by omega)]
      exact gWk_du _ _ _ (gToil_du h ⟨Int32.le_trans (by decide) (hg b hb).1, (hg b hb).2⟩)
theorem gDress_0 : ∀ (k i : Nat) (f : Nat → Int32), gDress k i 0 f = f := by
  intro k i f
  cases k with
  | zero => rfl
  | succ k => unfold gDress; rw [if_pos (by decide)]
theorem gw_23 {x : Int32} : ¬ x ≤ 2 ↔ 3 ≤ x := by
  rw [Int32.not_le, Int32.lt_iff_toInt_lt, Int32.le_iff_toInt_le]
  have h1 : (3 : Int32).toInt = 3 := by decide
  have h2 : (2 : Int32).toInt = 2 := by decide
  omega
/-- where a raft went, behind a day -/
def gBo (day : Nat) (we : Nat → Int32) : Nat → Int32 := fun r => if we r = -1 then we r else if we r = nI day - 3 then -1 else we r
/-- .. behind k days -/
def gBg (nr : Nat) : Nat → Nat → (Nat → Int32) → (Nat → Int32)
  | 0, _, we => we
  | k + 1, day, we => gBg nr k (day + 1) (gM nr (gBo day we) we)
/-- a wheel cut, in the reference's row -/
theorem enS_cut {Q : Nat → Nat → Int32} {nw k b : Nat} {sz cr : Int32} (h : gCr Q b sz = cr) : upd (upd (upd (upd (upd (enS Q) (5 * nw + 0) (nI b)) (5 * nw + 1) sz) (5 * nw + 2) 0) (5 * nw + 3) (-1)) (5 * nw + 4) cr = enS (gCutW Q nw k b sz) := by
  subst h
  rw [enS_p Q nw 0 _ (by decide), enS_p _ nw 1 _ (by decide), enS_p _ nw 2 _ (by decide), enS_p _ nw 3 _ (by decide), enS_p _ nw 4 _ (by decide)]
  exact enS_ext rfl rfl rfl rfl rfl
theorem gCk {x : Int32} (h : x = 0 ∨ x = 1) : 1 - x = if x = 0 then 1 else 0 := by rcases h with rfl | rfl <;> decide
theorem gGr_ne {x : Int32} (h : (1 : Int32) ≤ x ∧ x ≤ 9) : ¬ x + 1 = 0 := by
  obtain ⟨n, hn, rfl⟩ := gw_nat100 ⟨Int32.le_trans (by decide) h.1, Int32.le_trans h.2 (by decide)⟩
  rw [show nI n + 1 = nI (n + 1) from nI_1 n]
  exact nI_ne0 (by omega) (by omega)
theorem gGr_nle {x : Int32} (h : (1 : Int32) ≤ x ∧ x ≤ 9) : ¬ x + 1 ≤ 0 := by
  obtain ⟨n, hn, rfl⟩ := gw_nat100 ⟨Int32.le_trans (by decide) h.1, Int32.le_trans h.2 (by decide)⟩
  rw [show nI n + 1 = nI (n + 1) from nI_1 n]
  exact nI_nle (by omega) (by omega)
theorem gGr.of {Q Q' : Nat → Nat → Int32} {nb : Nat} (h : gGr Q nb) (h1 : Q' 1 = Q 1) : gGr Q' nb := fun b hb => by rw [h1]; exact h b hb
/-- how many a day dresses -/
def gDr (x : Int32) : Int32 := if 3 ≤ x then x / 2 else 0
theorem gEve_13 {Q Q2 : Nat → Nat → Int32} {nq nw2 day : Nat} {st : Nat → Int32} (h0 : Q2 0 = Q 0) (h : st = gDress nw2 0 (gDr (Q 0 (day % 9))) (Q2 13)) : st = gEve Q2 nq nw2 day 13 := by
  rw [h]
  show _ = (if 3 ≤ Q2 0 (day % 9) then gDress nw2 0 (Q2 0 (day % 9) / 2) (Q2 13) else Q2 13)
  rw [h0]
  unfold gDr
  split
  · rfl
  · exact gDress_0 _ _ _
theorem gCrew_du {nb nq day : Nat} (hnb : nb ≤ 5) : ∀ (k i : Nat) (Q : Nat → Nat → Int32) (nw : Nat), i + k ≤ nq → gDu Q → gGr Q nb → gPl Q nb nq → gDu (gCrew day k i Q nw).1 := by
  intro k
  induction k with
  | zero => intro i Q nw _ h _ _; exact h
  | succ k ih =>
    intro i Q nw hi h hg hp
    unfold gCrew
    exact ih (i + 1) _ _ (by omega) (gWork_du h hg hnb hp (by omega)) (hg.of (gWork_6 _ _ _ _ 1 (by decide))) (hp.of (gWork_6 _ _ _ _ 6 (by decide)))
theorem gEve_du {Q : Nat → Nat → Int32} {nq nw day : Nat} (h : gDu Q) : gDu (gEve Q nq nw day) := fun i => by
  show (0 : Int32) ≤ gM nq (fun j => gLose (Q 6 j) (Q 7 j)) (Q 7) i ∧ gM nq (fun j => gLose (Q 6 j) (Q 7 j)) (Q 7) i ≤ 100
  by_cases c : i < nq
  · rw [gM_lo c]; exact gLose_du (h i)
  · rw [gM_at (Nat.not_lt.mp c)]; exact h i
theorem gDay_du {Q : Nat → Nat → Int32} {nb nq nw day : Nat} (h : gDu Q) (hg : gGr Q nb) (hnb : nb ≤ 5) (hp : gPl Q nb nq) : gDu (gDay Q nq nw day).1 := gEve_du (gCrew_du hnb nq 0 Q nw (by omega) h hg hp)
