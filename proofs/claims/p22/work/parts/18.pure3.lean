/-! Two quarries that are alike as far as their numbers go: days go alike over both. -/
def gAg (Q T : Nat → Nat → Int32) (nb nq nw : Nat) : Prop := (∀ i, i < 9 → Q 0 i = T 0 i) ∧ (∀ j, 1 ≤ j → j ≤ 4 → ∀ i, i < nb → Q j i = T j i) ∧ (∀ j, 5 ≤ j → j ≤ 8 → ∀ i, i < nq → Q j i = T j i) ∧ (∀ j, 9 ≤ j → j ≤ 14 → ∀ i, i < nw → Q j i = T j i)
theorem gAg_upd {f g : Nat → Int32} {n k : Nat} {v w : Int32} (h : ∀ i, i < n → f i = g i) (hv : v = w) : ∀ i, i < n → upd f k v i = upd g k w i := fun i hi => by
  by_cases e : i = k
  · subst e; rw [upd_at, upd_at, hv]
  · rw [upd_ne e, upd_ne e, h i hi]
theorem gAg_new {f g : Nat → Int32} {n : Nat} {v w : Int32} (h : ∀ i, i < n → f i = g i) (hv : v = w) : ∀ i, i < n + 1 → upd f n v i = upd g n w i := fun i hi => by
  by_cases e : i = n
  · subst e; rw [upd_at, upd_at, hv]
  · rw [upd_ne e, upd_ne e, h i (by omega)]
theorem gAg_cut {Q T : Nat → Nat → Int32} {nb nq nw q b : Nat} {sz : Int32} (h : gAg Q T nb nq nw) (hb : b < nb) (hq : q < nq) : gAg (gCutW Q nw q b sz) (gCutW T nw q b sz) nb nq (nw + 1) := by
  obtain ⟨h0, h1, h2, h3⟩ := h
  have e1 := h1 1 (by omega) (by omega) b hb
  have e2 := h1 2 (by omega) (by omega) b hb
  have e3 := h1 3 (by omega) (by omega) b hb
  have e4 := h1 4 (by omega) (by omega) b hb
  have e8 := h2 8 (by omega) (by omega) q hq
  refine ⟨h0, fun j a1 a2 i hi => ?_, fun j a1 a2 i hi => ?_, fun j a1 a2 i hi => ?_⟩
  · rcases (show j = 1 ∨ j = 2 ∨ j = 3 ∨ j = 4 by omega) with rfl | rfl | rfl | rfl
    · exact h1 1 (by omega) (by omega) i hi
    · exact h1 2 (by omega) (by omega) i hi
    · exact gAg_upd (h1 3 (by omega) (by omega)) (by rw [e3]) i hi
    · exact gAg_upd (h1 4 (by omega) (by omega)) (by rw [e4]) i hi
  · rcases (show j = 5 ∨ j = 6 ∨ j = 7 ∨ j = 8 by omega) with rfl | rfl | rfl | rfl
    · exact h2 5 (by omega) (by omega) i hi
    · exact h2 6 (by omega) (by omega) i hi
    · exact h2 7 (by omega) (by omega) i hi
    · exact gAg_upd (h2 8 (by omega) (by omega)) (by rw [e8]) i hi
  · rcases (show j = 9 ∨ j = 10 ∨ j = 11 ∨ j = 12 ∨ j = 13 ∨ j = 14 by omega) with rfl | rfl | rfl | rfl | rfl | rfl
    · exact gAg_new (h3 9 (by omega) (by omega)) rfl i hi
    · exact gAg_new (h3 10 (by omega) (by omega)) e1 i hi
    · exact gAg_new (h3 11 (by omega) (by omega)) rfl i hi
    · exact gAg_new (h3 12 (by omega) (by omega)) (by unfold gCr; rw [e2, e4]) i hi
    · exact gAg_new (h3 13 (by omega) (by omega)) rfl i hi
    · exact gAg_new (h3 14 (by omega) (by omega)) rfl i hi
theorem gAg_wk {nb nq q b : Nat} {sz : Int32} (hb : b < nb) (hq : q < nq) : ∀ (k : Nat) (Q T : Nat → Nat → Int32) (nw : Nat), gAg Q T nb nq nw → (gWk q b sz k Q nw).2 = (gWk q b sz k T nw).2 ∧ gAg (gWk q b sz k Q nw).1 (gWk q b sz k T nw).1 nb nq (gWk q b sz k T nw).2 := by
  intro k
  induction k with
  | zero => intro Q T nw h; exact ⟨rfl, h⟩
  | succ k ih =>
    intro Q T nw h
    have e8 : Q 8 q = T 8 q := h.2.2.1 8 (by omega) (by omega) q hq
    have e3 : Q 3 b = T 3 b := h.2.1 3 (by omega) (by omega) b hb
    unfold gWk
    rw [e8, e3]
    by_cases c1 : T 8 q < 10
    · rw [if_pos c1, if_pos c1]; exact ⟨rfl, h⟩
    · rw [if_neg c1, if_neg c1]
      by_cases c2 : T 3 b ≤ 0
      · rw [if_pos c2, if_pos c2]; exact ⟨rfl, h⟩
      · rw [if_neg c2, if_neg c2]; exact ih _ _ _ (gAg_cut h hb hq)
theorem gAg_toil {Q T : Nat → Nat → Int32} {nb nq nw q b : Nat} (h : gAg Q T nb nq nw) (hb : b < nb) (hq : q < nq) : gAg (gToil Q q b) (gToil T q b) nb nq nw := by
  obtain ⟨h0, h1, h2, h3⟩ := h
  have e1 := h1 1 (by omega) (by omega) b hb
  have e5 := h2 5 (by omega) (by omega) q hq
  have e7 := h2 7 (by omega) (by omega) q hq
  have e8 := h2 8 (by omega) (by omega) q hq
  refine ⟨h0, fun j a1 a2 i hi => ?_, fun j a1 a2 i hi => ?_, fun j a1 a2 i hi => ?_⟩
  · rcases (show j = 1 ∨ j = 2 ∨ j = 3 ∨ j = 4 by omega) with rfl | rfl | rfl | rfl
    · exact h1 1 (by omega) (by omega) i hi
    · exact h1 2 (by omega) (by omega) i hi
    · exact h1 3 (by omega) (by omega) i hi
    · exact h1 4 (by omega) (by omega) i hi
  · rcases (show j = 5 ∨ j = 6 ∨ j = 7 ∨ j = 8 by omega) with rfl | rfl | rfl | rfl
    · exact h2 5 (by omega) (by omega) i hi
    · exact h2 6 (by omega) (by omega) i hi
    · exact gAg_upd (h2 7 (by omega) (by omega)) (by rw [e7, e1]) i hi
    · exact gAg_upd (h2 8 (by omega) (by omega)) (by rw [e8, e5]) i hi
  · rcases (show j = 9 ∨ j = 10 ∨ j = 11 ∨ j = 12 ∨ j = 13 ∨ j = 14 by omega) with rfl | rfl | rfl | rfl | rfl | rfl
    · exact h3 9 (by omega) (by omega) i hi
    · exact h3 10 (by omega) (by omega) i hi
    · exact h3 11 (by omega) (by omega) i hi
    · exact h3 12 (by omega) (by omega) i hi
    · exact h3 13 (by omega) (by omega) i hi
    · exact h3 14 (by omega) (by omega) i hi
theorem gAg_work {Q T : Nat → Nat → Int32} {nb nq nw day q : Nat} (h : gAg Q T nb nq nw) (hpl : gPl T nb nq) (hnb : nb ≤ 5) (hq : q < nq) : (gWork Q nw day q).2 = (gWork T nw day q).2 ∧ gAg (gWork Q nw day q).1 (gWork T nw day q).1 nb nq (gWork T nw day q).2 := by
  have e5 : Q 5 q = T 5 q := h.2.2.1 5 (by omega) (by omega) q hq
  have e6 : Q 6 q = T 6 q := h.2.2.1 6 (by omega) (by omega) q hq
  have e7 : Q 7 q = T 7 q := h.2.2.1 7 (by omega) (by omega) q hq
  unfold gWork
  rw [e5, e6, e7]
  by_cases c1 : T 6 q = -1
  · rw [if_pos c1, if_pos c1]; exact ⟨rfl, h⟩
  · rw [if_neg c1, if_neg c1]
    by_cases c2 : 60 ≤ T 7 q
    · rw [if_pos c2, if_pos c2]; exact ⟨rfl, h⟩
    · rw [if_neg c2, if_neg c2]
      obtain ⟨b, hb, hbe⟩ := (hpl q hq).resolve_left c1
      rw [hbe, nI_clamp (by omega)]
      exact gAg_wk hb hq _ _ _ _ (gAg_toil h hb hq)
theorem gAg_crew {nb nq day : Nat} (hnb : nb ≤ 5) : ∀ (k i : Nat) (Q T : Nat → Nat → Int32) (nw : Nat), i + k ≤ nq → gAg Q T nb nq nw → gPl T nb nq → (gCrew day k i Q nw).2 = (gCrew day k i T nw).2 ∧ gAg (gCrew day k i Q nw).1 (gCrew day k i T nw).1 nb nq (gCrew day k i T nw).2 := by
  intro k
  induction k with
  | zero => intro i Q T nw _ h _; exact ⟨rfl, h⟩
  | succ k ih =>
    intro i Q T nw hi h hpl
    obtain ⟨e, h'⟩ := gAg_work (day := day) h hpl hnb (show i < nq by omega)
    unfold gCrew
    rw [e]
    exact ih (i + 1) _ _ _ (by omega) h' (hpl.of (gWork_6 _ _ _ _ 6 (by decide)))
theorem gAg_dress : ∀ (k i : Nat) (lf : Int32) (f g : Nat → Int32), (∀ j, j < i + k → f j = g j) → ∀ j, j < i + k → gDress k i lf f j = gDress k i lf g j := by
  intro k
  induction k with
  | zero => intro i lf f g h j hj; exact h j hj
  | succ k ih =>
    intro i lf f g h j hj
    unfold gDress
    rw [h i (by omega)]
    split
    · exact h j hj
    · split
      · exact ih (i + 1) _ _ _ (fun j hj => gAg_upd (n := i + (k + 1)) h rfl j (by omega)) j (by omega)
      · exact ih (i + 1) _ _ _ (fun j hj => h j (by omega)) j (by omega)
theorem gAg_eve {Q T : Nat → Nat → Int32} {nb nq nw day : Nat} (h : gAg Q T nb nq nw) : gAg (gEve Q nq nw day) (gEve T nq nw day) nb nq nw := by
  obtain ⟨h0, h1, h2, h3⟩ := h
  refine ⟨h0, fun j a1 a2 i hi => ?_, fun j a1 a2 i hi => ?_, fun j a1 a2 i hi => ?_⟩
  · rcases (show j = 1 ∨ j = 2 ∨ j = 3 ∨ j = 4 by omega) with rfl | rfl | rfl | rfl
    · exact h1 1 (by omega) (by omega) i hi
    · exact h1 2 (by omega) (by omega) i hi
    · exact h1 3 (by omega) (by omega) i hi
    · exact h1 4 (by omega) (by omega) i hi
  · rcases (show j = 5 ∨ j = 6 ∨ j = 7 ∨ j = 8 by omega) with rfl | rfl | rfl | rfl
    · exact h2 5 (by omega) (by omega) i hi
    · exact h2 6 (by omega) (by omega) i hi
    · show gM nq (fun j => gLose (Q 6 j) (Q 7 j)) (Q 7) i = gM nq (fun j => gLose (T 6 j) (T 7 j)) (T 7) i
      rw [gM_lo hi, gM_lo hi, h2 6 (by omega) (by omega) i hi, h2 7 (by omega) (by omega) i hi]
    · exact h2 8 (by omega) (by omega) i hi
  · rcases (show j = 9 ∨ j = 10 ∨ j = 11 ∨ j = 12 ∨ j = 13 ∨ j = 14 by omega) with rfl | rfl | rfl | rfl | rfl | rfl
    · exact h3 9 (by omega) (by omega) i hi
    · exact h3 10 (by omega) (by omega) i hi
    · exact h3 11 (by omega) (by omega) i hi
    · exact h3 12 (by omega) (by omega) i hi
    · show (if 3 ≤ Q 0 (day % 9) then gDress nw 0 (Q 0 (day % 9) / 2) (Q 13) else Q 13) i = (if 3 ≤ T 0 (day % 9) then gDress nw 0 (T 0 (day % 9) / 2) (T 13) else T 13) i
      rw [h0 (day % 9) (Nat.mod_lt _ (by decide))]
      split
      · exact gAg_dress nw 0 _ _ _ (fun j hj => h3 13 (by omega) (by omega) j (by omega)) i (by omega)
      · exact h3 13 (by omega) (by omega) i hi
    · exact h3 14 (by omega) (by omega) i hi
theorem gAg_day {Q T : Nat → Nat → Int32} {nb nq nw day : Nat} (hnb : nb ≤ 5) (h : gAg Q T nb nq nw) (hpl : gPl T nb nq) : (gDay Q nq nw day).2 = (gDay T nq nw day).2 ∧ gAg (gDay Q nq nw day).1 (gDay T nq nw day).1 nb nq (gDay T nq nw day).2 := by
  obtain ⟨e, h'⟩ := gAg_crew (day := day) hnb nq 0 Q T nw (by omega) h hpl
  refine ⟨e, ?_⟩
  show gAg (gEve (gCrew day nq 0 Q nw).1 nq (gCrew day nq 0 Q nw).2 day) (gEve (gCrew day nq 0 T nw).1 nq (gCrew day nq 0 T nw).2 day) nb nq (gCrew day nq 0 T nw).2
  rw [e]
  exact gAg_eve h'
theorem gAg_go {nb nq : Nat} (hnb : nb ≤ 5) : ∀ (k : Nat) (Q T : Nat → Nat → Int32) (nw day : Nat), gAg Q T nb nq nw → gPl T nb nq → (gGo nq k Q nw day).2 = (gGo nq k T nw day).2 ∧ gAg (gGo nq k Q nw day).1 (gGo nq k T nw day).1 nb nq (gGo nq k T nw day).2 := by
  intro k
  induction k with
  | zero => intro Q T nw day h _; exact ⟨rfl, h⟩
  | succ k ih =>
    intro Q T nw day h hpl
    obtain ⟨e, h'⟩ := gAg_day (day := day) hnb h hpl
    unfold gGo
    rw [e]
    exact ih _ _ _ _ h' (hpl.of (gDay_6 _ _ _ _ 6 (by decide)))
theorem gS_congr {f g : Nat → Int32} : ∀ (k i : Nat) (acc : Int32), (∀ j, i ≤ j → j < i + k → f j = g j) → gS f k i acc = gS g k i acc := by
  intro k
  induction k with
  | zero => intro i acc _; rfl
  | succ k ih =>
    intro i acc h
    unfold gS
    rw [h i (Nat.le_refl _) (by omega)]
    exact ih (i + 1) _ fun j h1 h2 => h j (by omega) (by omega)
theorem gAg_all {Q T : Nat → Nat → Int32} {nb nq nw : Nat} (h : gAg Q T nb nq nw) : gAll Q nw = gAll T nw := gS_congr _ _ _ fun j _ hj => by
  have h3 := h.2.2.2
  rw [h3 10 (by omega) (by omega) j (by omega), h3 11 (by omega) (by omega) j (by omega), h3 12 (by omega) (by omega) j (by omega), h3 13 (by omega) (by omega) j (by omega)]
theorem gAg_cnt {Q T : Nat → Nat → Int32} {nb nq nw day v : Nat} (h : gAg Q T nb nq nw) : gCnt Q nq nw day v = gCnt T nq nw day v := by
  obtain ⟨h0, h1, h2, h3⟩ := h
  have e0 := h0 (day % 9) (Nat.mod_lt _ (by decide))
  have e13 : ∀ x : Int32, gS (fun j => if Q 13 j = x then 1 else 0) nw 0 0 = gS (fun j => if T 13 j = x then 1 else 0) nw 0 0 := fun x => gS_congr _ _ _ fun j _ hj => by
    rw [h3 13 (by omega) (by omega) j (by omega)]
  have e7 : gS (Q 7) nq 0 0 = gS (T 7) nq 0 0 := gS_congr _ _ _ fun j _ hj => h2 7 (by omega) (by omega) j (by omega)
  unfold gCnt
  rw [e0, e13, e13, e13, e13, e7]
theorem gAg_copy {Q T : Nat → Nat → Int32} {nb nq nw : Nat} : gAg (gCopy Q T nb nq nw) Q nb nq nw := by
  refine ⟨fun i hi => gM_lo hi, fun j a1 a2 i hi => ?_, fun j a1 a2 i hi => ?_, fun j a1 a2 i hi => ?_⟩
  · rcases (show j = 1 ∨ j = 2 ∨ j = 3 ∨ j = 4 by omega) with rfl | rfl | rfl | rfl <;> exact gM_lo hi
  · rcases (show j = 5 ∨ j = 6 ∨ j = 7 ∨ j = 8 by omega) with rfl | rfl | rfl | rfl <;> exact gM_lo hi
  · rcases (show j = 9 ∨ j = 10 ∨ j = 11 ∨ j = 12 ∨ j = 13 ∨ j = 14 by omega) with rfl | rfl | rfl | rfl | rfl | rfl <;> exact gM_lo hi
/-- q at b -/
def gAt (Q : Nat → Nat → Int32) (q b : Nat) : Nat → Nat → Int32 := fun j => match j with
  | 6 => upd (Q 6) q (nI b)
  | _ => Q j
theorem gAg_sent {Q T : Nat → Nat → Int32} {nb nq nw q b : Nat} : gAg (gSent Q T nb nq nw q b) (gAt Q q b) nb nq nw := by
  refine ⟨fun i hi => gM_lo hi, fun j a1 a2 i hi => ?_, fun j a1 a2 i hi => ?_, fun j a1 a2 i hi => ?_⟩
  · rcases (show j = 1 ∨ j = 2 ∨ j = 3 ∨ j = 4 by omega) with rfl | rfl | rfl | rfl <;> exact gM_lo hi
  · rcases (show j = 5 ∨ j = 6 ∨ j = 7 ∨ j = 8 by omega) with rfl | rfl | rfl | rfl
    · exact gM_lo hi
    · exact gAg_upd (n := nq) (fun i hi => gM_lo hi) rfl i hi
    · exact gM_lo hi
    · exact gM_lo hi
  · rcases (show j = 9 ∨ j = 10 ∨ j = 11 ∨ j = 12 ∨ j = 13 ∨ j = 14 by omega) with rfl | rfl | rfl | rfl | rfl | rfl <;> exact gM_lo hi
theorem gAt_pl {Q : Nat → Nat → Int32} {nb nq q b : Nat} (h : gPl Q nb nq) (hb : b < nb) : gPl (gAt Q q b) nb nq := fun i hi => by
  show upd (Q 6) q (nI b) i = -1 ∨ ∃ kk, kk < nb ∧ upd (Q 6) q (nI b) i = nI kk
  by_cases h1 : i = q
  · subst h1; rw [upd_at]; exact Or.inr ⟨b, hb, rfl⟩
  · rw [upd_ne h1]; exact h i hi
/-- the worth in all if q is sent to b, dd days on -/
def gWis (Q : Nat → Nat → Int32) (nq nw day q b dd : Nat) : Int32 := gAll (gGo nq dd (gAt Q q b) nw day).1 (gGo nq dd (gAt Q q b) nw day).2
theorem gWif_eq {Q T : Nat → Nat → Int32} {nb nq nw day q b dd : Nat} (hnb : nb ≤ 5) (hpl : gPl Q nb nq) (hb : b < nb) : gWif Q T nb nq nw day q b dd = gWis Q nq nw day q b dd := by
  obtain ⟨e, h⟩ := gAg_go hnb dd (gSent Q T nb nq nw q b) (gAt Q q b) nw day gAg_sent (gAt_pl hpl hb)
  unfold gWif gWis
  rw [e]
  exact gAg_all h
theorem gFor_eq {Q T : Nat → Nat → Int32} {nb nq nw day dd v : Nat} (hnb : nb ≤ 5) (hpl : gPl Q nb nq) : gCnt (gGo nq dd (gCopy Q T nb nq nw) nw day).1 nq (gGo nq dd (gCopy Q T nb nq nw) nw day).2 (day + dd) v = gCnt (gGo nq dd Q nw day).1 nq (gGo nq dd Q nw day).2 (day + dd) v := by
  obtain ⟨e, h⟩ := gAg_go hnb dd (gCopy Q T nb nq nw) Q nw day gAg_copy hpl
  rw [e]
  exact gAg_cnt h
/-- the bed advised, the k beds from b on still to be looked at -/
def gAdv (Q : Nat → Nat → Int32) (nq nw day q dd : Nat) : Nat → Nat → Int32 → Int32 → Int32
  | 0, _, best, _ => best
  | k + 1, b, best, bw => if best = -1 ∨ bw < gWis Q nq nw day q b dd then gAdv Q nq nw day q dd k (b + 1) (nI b) (gWis Q nq nw day q b dd) else gAdv Q nq nw day q dd k (b + 1) best bw
