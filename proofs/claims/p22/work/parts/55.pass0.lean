/-! Pure words for Sim.pass. -/
def adU3 (ad : Nat × Nat → Nat) (n q : Nat) : Nat × Nat → Nat := fun key => match key with
  | (3, k) => if k = n then q else ad (3, k)
  | (c, k) => ad (c, k)
theorem sRf_new (ad : Nat × Nat → Nat) (n q : Nat) : va_up (sRf ad 3 n) n (some q) = sRf (adU3 ad n q) 3 (n + 1) := by
  funext k
  by_cases h : k = n
  · subst h; simp [va_up, sRf, adU3]
  · by_cases h2 : k < n
    · have h3 : k < n + 1 := by omega
      simp [va_up, sRf, adU3, h, h2, h3]
    · have h3 : ¬ k < n + 1 := by omega
      simp [va_up, sRf, h, h2, h3]
theorem sp_rl {nw n : Nat} {rl : Nat → Int32} (h : nw ≤ n) : upd (gM nw rl (fun _ => -1)) n (-1) = gM nw rl (fun _ => -1) := by
  funext j
  by_cases e : j = n
  · subst e; rw [upd_at, gM_at h]
  · rw [upd_ne e]
theorem sU_new {ad : Nat × Nat → Nat} {cI : ClassId} {q1 q2 q3 q4 q5 q6 q7 q8 q9 qb qc qd ca sv rl : Nat → Int32} {n q : Nat} {v0 v1 v2 v3 v4 : Int32} : gUp (sF ad (sEn cI q1 q2 q3 q4 q5 q6 q7 q8 q9 qb qc qd ca sv rl)) (3, n) (q, .inr (7, [.int v0, .int v1, .int v2, .int v3, .int v4])) = sF (adU3 ad n q) (sEn cI q1 q2 q3 q4 q5 q6 q7 q8 (upd q9 n v0) (upd qb n v1) (upd qc n v2) (upd qd n v3) ca sv (upd rl n v4)) := by
  funext key
  obtain ⟨c, j⟩ := key
  by_cases e : (c, j) = (3, n)
  · cases e
    simp [gUp, sF, sEn, adU3, upd_at]
  · show (if (c, j) = (3, n) then _ else _) = _
    rw [if_neg e]
    rcases c with _ | _ | _ | _ | c
    · rfl
    · rfl
    · rfl
    · have e2 : j ≠ n := fun h => e (by rw [h])
      simp [sF, sEn, adU3, e2, upd_ne e2]
    · rfl
theorem sK_n3 {nb nq nr nw : Nat} : (3, nw) ∉ sK nb nq nr nw := fun h => by
  rcases sK_mem.mp h with ⟨h, -⟩ | ⟨h, -⟩ | ⟨h, -⟩ | ⟨-, h⟩ <;> omega
/-- the wheels that come are on no raft yet -/
theorem sE_rl {D : va_G} {cl : List vw_C} {A : Nat → Prop} {H : Heap} {X R : va_W} {nb nq nr nw : Nat} {ad : Nat × Nat → Nat} {cI : ClassId} {q1 q2 q3 q4 q5 q6 q7 q8 q9 qb qc qd ca sv rl : Nat → Int32} (hP : va_P D cl (X ++ (R ++ sPl nb nq nr nw ad (sEn cI q1 q2 q3 q4 q5 q6 q7 q8 q9 qb qc qd ca sv rl))) H) (hD : va_D A (X ++ (R ++ sPl nb nq nr nw ad (sEn cI q1 q2 q3 q4 q5 q6 q7 q8 q9 qb qc qd ca sv rl)))) : va_P D cl (X ++ (R ++ sPl nb nq nr nw ad (sEn cI q1 q2 q3 q4 q5 q6 q7 q8 q9 qb qc qd ca sv (gM nw rl (fun _ => -1))))) H ∧ va_D A (X ++ (R ++ sPl nb nq nr nw ad (sEn cI q1 q2 q3 q4 q5 q6 q7 q8 q9 qb qc qd ca sv (gM nw rl (fun _ => -1))))) := by
  refine gPD_e (gEs_app gEs_rf (gEs_app gEs_rf (gEs_map fun k hk => gE.of ?_))) hP hD
  obtain ⟨c, j⟩ := k
  rcases sK_mem.mp hk with ⟨rfl, -⟩ | ⟨rfl, -⟩ | ⟨rfl, -⟩ | ⟨rfl, h⟩
  · rfl
  · rfl
  · rfl
  · simp [sF, sEn, gM_lo h]
theorem sp_size {sk : Int32} {day : Nat} : (if nI day - nI day / 3 * 3 = 0 then (2 : Int32) else 1) + sk / 2 = gSize sk day := by
  unfold gSize
  split
  · rw [Int32.add_assoc 1 (sk / 2) 1, Int32.add_comm (sk / 2) 1, ← Int32.add_assoc]
    rfl
  · rw [Int32.add_zero]
theorem sp_st_t : ∀ a, a ≤ 200 → ∀ b, b ≤ 6 → (if nI a < nI b then (0 : Int32) else nI a - nI b) = (if 0 < nI a - nI b then nI a - nI b else 0) ∧ (0 : Int32) ≤ (if 0 < nI a - nI b then nI a - nI b else 0) ∧ (if 0 < nI a - nI b then nI a - nI b else 0) ≤ (200 : Int32) := by decide +kernel
theorem sp_st {x sz : Int32} (hx : 0 ≤ x ∧ x ≤ 200) (hs : 0 ≤ sz ∧ sz ≤ 6) : (if x < sz then (0 : Int32) else x - sz) = (if 0 < x - sz then x - sz else 0) ∧ (0 : Int32) ≤ (if 0 < x - sz then x - sz else 0) ∧ (if 0 < x - sz then x - sz else 0) ≤ (200 : Int32) := by
  obtain ⟨a, ha, rfl⟩ := gI_of (n := 200) (by decide) hx
  obtain ⟨b, hb, rfl⟩ := gI_of (n := 6) (by decide) hs
  exact sp_st_t a ha b hb
theorem sp_st1 {x sz : Int32} (hx : 0 ≤ x ∧ x ≤ 200) (hs : 0 ≤ sz ∧ sz ≤ 6) (c : ¬ sz ≤ x) : (0 : Int32) = (if 0 < x - sz then x - sz else 0) := by
  rw [← (sp_st hx hs).1, if_pos (Int32.not_le.mp c)]
theorem sp_st2 {x sz : Int32} (hx : 0 ≤ x ∧ x ≤ 200) (hs : 0 ≤ sz ∧ sz ≤ 6) (c : sz ≤ x) : x - sz = (if 0 < x - sz then x - sz else 0) := by
  rw [← (sp_st hx hs).1, if_neg (Int32.not_lt.mpr c)]
theorem sl_t : ∀ n, n ≤ 100 → (if nI n < 7 then (0 : Int32) else nI n - 7) = gLose (-1) (nI n) ∧ (¬ nI n ≤ 59 → (if nI n < 4 then (0 : Int32) else nI n - 4) = gLose 0 (nI n)) ∧ (nI n ≤ 59 → (if nI n < 0 then (0 : Int32) else nI n - 0) = gLose 0 (nI n)) := by decide +kernel
theorem sl_0 {pl du : Int32} (h : ¬ pl = -1) : gLose pl du = gLose 0 du := by
  unfold gLose
  rw [if_neg h, if_neg (show ¬ (0 : Int32) = -1 by decide)]
theorem sl_all {du : Int32} (h : 0 ≤ du ∧ du ≤ 100) : (if du < 7 then (0 : Int32) else du - 7) = gLose (-1) du ∧ (¬ du ≤ 59 → (if du < 4 then (0 : Int32) else du - 4) = gLose 0 du) ∧ (du ≤ 59 → (if du < 0 then (0 : Int32) else du - 0) = gLose 0 du) := by
  obtain ⟨n, hn, rfl⟩ := gw_nat100 h
  exact sl_t n hn
theorem sl_a1 {pl du : Int32} (h : 0 ≤ du ∧ du ≤ 100) (e : pl = -1) (c : ¬ 7 ≤ du) : (0 : Int32) = gLose pl du := by
  rw [e, ← (sl_all h).1, if_pos (Int32.not_le.mp c)]
theorem sl_a2 {pl du : Int32} (h : 0 ≤ du ∧ du ≤ 100) (e : pl = -1) (c : 7 ≤ du) : du - 7 = gLose pl du := by
  rw [e, ← (sl_all h).1, if_neg (Int32.not_lt.mpr c)]
theorem sl_b1 {pl du : Int32} (h : 0 ≤ du ∧ du ≤ 100) (e : ¬ pl = -1) (t : ¬ du ≤ 59) (c : ¬ 4 ≤ du) : (0 : Int32) = gLose pl du := by
  rw [sl_0 e, ← (sl_all h).2.1 t, if_pos (Int32.not_le.mp c)]
theorem sl_b2 {pl du : Int32} (h : 0 ≤ du ∧ du ≤ 100) (e : ¬ pl = -1) (t : ¬ du ≤ 59) (c : 4 ≤ du) : du - 4 = gLose pl du := by
  rw [sl_0 e, ← (sl_all h).2.1 t, if_neg (Int32.not_lt.mpr c)]
theorem sl_c1 {pl du : Int32} (h : 0 ≤ du ∧ du ≤ 100) (e : ¬ pl = -1) (t : du ≤ 59) (c : ¬ 0 ≤ du) : (0 : Int32) = gLose pl du := by
  rw [sl_0 e, ← (sl_all h).2.2 t, if_pos (Int32.not_le.mp c)]
theorem sl_c2 {pl du : Int32} (h : 0 ≤ du ∧ du ≤ 100) (e : ¬ pl = -1) (t : du ≤ 59) (c : 0 ≤ du) : du - 0 = gLose pl du := by
  rw [sl_0 e, ← (sl_all h).2.2 t, if_neg (Int32.not_lt.mpr c)]
theorem sp_min1 {x y : Int32} (c : ¬ x + y + 1 ≤ 100) : (100 : Int32) = if x + (y + 1) < 100 then x + (y + 1) else 100 := by
  rw [Int32.add_assoc] at c
  rw [if_neg (fun h => c (Int32.le_of_lt h))]
theorem sp_min2 {x y : Int32} (c : x + y + 1 ≤ 100) : x + y + 1 = if x + (y + 1) < 100 then x + (y + 1) else 100 := by
  rw [Int32.add_assoc] at c ⊢
  split
  · rfl
  · rename_i h
    exact Int32.le_antisymm c (Int32.not_lt.mp h)
theorem sp_10 {x : Int32} : x < 10 ↔ x ≤ 9 := by
  rw [Int32.lt_iff_toInt_lt, Int32.le_iff_toInt_le]
  have h1 : (10 : Int32).toInt = 10 := by decide
  have h2 : (9 : Int32).toInt = 9 := by decide
  omega
theorem sp_60 {x : Int32} : 60 ≤ x ↔ ¬ x ≤ 59 := by
  rw [Int32.le_iff_toInt_le, Int32.le_iff_toInt_le]
  have h1 : (60 : Int32).toInt = 60 := by decide
  have h2 : (59 : Int32).toInt = 59 := by decide
  omega
theorem gWk_step {q b k nw : Nat} {sz : Int32} {Q : Nat → Nat → Int32} (h1 : ¬ Q 8 q ≤ 9) (h2 : ¬ Q 3 b ≤ 0) : gWk q b sz (k + 1) Q nw = gWk q b sz k (gCutW Q nw q b sz) (nw + 1) := by
  show (if Q 8 q < 10 then (Q, nw) else if Q 3 b ≤ 0 then (Q, nw) else gWk q b sz k (gCutW Q nw q b sz) (nw + 1)) = _
  rw [if_neg (fun h => h1 (sp_10.mp h)), if_neg h2]
theorem gWk_end1 {q b k nw : Nat} {sz : Int32} {Q : Nat → Nat → Int32} (h : Q 8 q ≤ 9) : gWk q b sz k Q nw = (Q, nw) := by
  cases k with
  | zero => rfl
  | succ k =>
    show (if Q 8 q < 10 then (Q, nw) else if Q 3 b ≤ 0 then (Q, nw) else gWk q b sz k (gCutW Q nw q b sz) (nw + 1)) = _
    rw [if_pos (sp_10.mpr h)]
theorem gWk_end2 {q b k nw : Nat} {sz : Int32} {Q : Nat → Nat → Int32} (h : Q 3 b ≤ 0) : gWk q b sz k Q nw = (Q, nw) := by
  cases k with
  | zero => rfl
  | succ k =>
    show (if Q 8 q < 10 then (Q, nw) else if Q 3 b ≤ 0 then (Q, nw) else gWk q b sz k (gCutW Q nw q b sz) (nw + 1)) = _
    split
    all_goals first | rfl | rw [if_pos h]
theorem gWk_end3 {q b k nw : Nat} {sz : Int32} {Q : Nat → Nat → Int32} (hk : k + nw = 60) (h : (60 : Int32) ≤ nI nw) : gWk q b sz k Q nw = (Q, nw) := by
  have h1 : 60 ≤ nw := gw_ge (n := 60) (by omega) (by omega) h
  obtain rfl : k = 0 := by omega
  rfl
theorem sp_work {Q Q2 : Nat → Nat → Int32} {nw nw2 day q b : Nat} (h6 : Q 6 q = nI b) (hb : b < 2 ^ 31) (h7 : Q 7 q ≤ 59) (h : gWk q b (gSize (Q 5 q) day) (60 - nw) (gToil Q q b) nw = (Q2, nw2)) : gWork Q nw day q = (Q2, nw2) := by
  unfold gWork
  rw [if_neg (by rw [h6]; exact gw_nIm1 hb), if_neg (fun h => sp_60.mp h h7), h6, nI_clamp hb]
  exact h
theorem sp_skip6 {Q : Nat → Nat → Int32} {nw day q : Nat} (h : Q 6 q = -1) : gWork Q nw day q = (Q, nw) := by
  unfold gWork
  rw [if_pos h]
theorem sp_skip7 {Q : Nat → Nat → Int32} {nw day q : Nat} (h6 : ¬ Q 6 q = -1) (h : ¬ Q 7 q ≤ 59) : gWork Q nw day q = (Q, nw) := by
  unfold gWork
  rw [if_neg h6, if_pos (sp_60.mpr h)]
theorem sp_crew {Q Q2 : Nat → Nat → Int32} {nw nw2 day k i : Nat} (h : gWork Q nw day i = (Q2, nw2)) : gCrew day (k + 1) i Q nw = gCrew day k (i + 1) Q2 nw2 := by
  show gCrew day k (i + 1) (gWork Q nw day i).1 (gWork Q nw day i).2 = _
  rw [h]
theorem sp_cut {Q : Nat → Nat → Int32} {nw q b j : Nat} {sz : Int32} (h : j = 0 ∨ j = 1 ∨ j = 2 ∨ j = 5 ∨ j = 6 ∨ j = 7) : gCutW Q nw q b sz j = Q j := by
  rcases h with rfl | rfl | rfl | rfl | rfl | rfl <;> rfl
theorem sp_3 {Q : Nat → Nat → Int32} {nb nw q b : Nat} {sz : Int32} (hs : 0 ≤ sz ∧ sz ≤ 6) (hb : b < nb) (h : ∀ b, b < nb → (0 : Int32) ≤ Q 3 b ∧ Q 3 b ≤ 200) : ∀ b9, b9 < nb → (0 : Int32) ≤ gCutW Q nw q b sz 3 b9 ∧ gCutW Q nw q b sz 3 b9 ≤ 200 := by
  intro b9 hb9
  show (0 : Int32) ≤ upd (Q 3) b _ b9 ∧ upd (Q 3) b _ b9 ≤ 200
  by_cases e : b9 = b
  · subst e
    rw [upd_at]
    exact (sp_st (h b9 hb) hs).2
  · rw [upd_ne e]
    exact h b9 hb9
theorem sp_dr_t : ∀ a, a ≤ 9 → gDr (nI a) = nI (if 3 ≤ a then a / 2 else 0) := by decide +kernel
theorem sp_dr {x : Int32} (h : 0 ≤ x ∧ x ≤ 9) : ∃ m, m ≤ 9 ∧ gDr x = nI m := by
  obtain ⟨a, ha, rfl⟩ := gI_of (n := 9) (by decide) h
  refine ⟨_, ?_, sp_dr_t a ha⟩
  split <;> omega
theorem sp_dr1 {x : Int32} (c : ¬ 3 ≤ x) : (0 : Int32) = gDr x := by
  unfold gDr
  rw [if_neg c]
theorem sp_dr2 {x : Int32} (c : 3 ≤ x) : x / 2 = gDr x := by
  unfold gDr
  rw [if_pos c]
theorem sp_dA {k i m : Nat} {st : Nat → Int32} (h : nI m = 0) : gDress (k + 1) i (nI m) st = gDress k (i + 1) (nI m) st := by
  rw [h, gDress_0, gDress_0]
theorem sp_dB {k i m : Nat} {st : Nat → Int32} (hm : ¬ nI m = 0) (h9 : m ≤ 9) (h : ¬ st i = 0) : gDress (k + 1) i (nI m) st = gDress k (i + 1) (nI m) st := by
  have hp : 0 < m := Nat.pos_of_ne_zero fun e => hm (by rw [e]; rfl)
  show (if nI m ≤ 0 then st else if st i = 0 then gDress k (i + 1) (nI m - 1) (upd st i 1) else gDress k (i + 1) (nI m) st) = _
  rw [if_neg (nI_nle hp (by omega)), if_neg h]
theorem sp_dC {k i m : Nat} {st : Nat → Int32} (h9 : m + 1 ≤ 9) (h : st i = 0) : gDress (k + 1) i (nI (m + 1)) st = gDress k (i + 1) (nI m) (upd st i 1) := by
  show (if nI (m + 1) ≤ 0 then st else if st i = 0 then gDress k (i + 1) (nI (m + 1) - 1) (upd st i 1) else gDress k (i + 1) (nI (m + 1)) st) = _
  rw [if_neg (nI_nle (by omega) (by omega)), if_pos h, nI_pred]
theorem sp_dec (m : Nat) : nI (m + 1) + (-1) = nI m := by
  rw [← nI_pred m, Int32.sub_eq_add_neg]
theorem sb_1 {day r : Nat} {sv : Nat → Int32} (h : sv r = -1 ∨ ∃ g, sv r = nI g ∧ g ≤ day) (hd : day < 2 ^ 30) (p1 : sv r < 0) : gBo day sv r = sv r := by
  rcases h with h | ⟨g, h, hg⟩
  · unfold gBo; rw [if_pos h]
  · rw [h] at p1; exact absurd p1 (nI_pos (by omega))
theorem sb_n {day r : Nat} {sv : Nat → Int32} (h : sv r = -1 ∨ ∃ g, sv r = nI g ∧ g ≤ day) (p1 : ¬ sv r < 0) : ¬ sv r = -1 := fun e => p1 (by rw [e]; decide)
theorem sb_2 {day r : Nat} {sv : Nat → Int32} (p2 : ¬ sv r + 3 = nI day) : gBo day sv r = sv r := by
  unfold gBo
  split
  · rfl
  · rw [if_neg (fun e => p2 (by rw [e, Int32.sub_add_cancel]))]
theorem sb_3 {day r : Nat} {sv : Nat → Int32} (p1 : ¬ sv r = -1) (p2 : sv r + 3 = nI day) : (-1 : Int32) = gBo day sv r := by
  unfold gBo
  rw [if_neg p1, if_pos (by rw [← p2, Int32.add_sub_cancel])]
