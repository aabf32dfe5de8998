/-! What days keep of the wheels. -/
theorem gI_of {x : Int32} {n : Nat} (hn : n < 2 ^ 31) (h : 0 ≤ x ∧ x ≤ nI n) : ∃ k, k ≤ n ∧ x = nI k := nI_of2 (M := nI n) (Int32.toInt_ofNat_of_lt hn) (Int32.not_lt.mpr h.1) h.2
/-- the skills are 0 to 9 -/
def gSk (Q : Nat → Nat → Int32) : Prop := ∀ i, (0 : Int32) ≤ Q 5 i ∧ Q 5 i ≤ 9
theorem gSk.of {Q Q' : Nat → Nat → Int32} (h : gSk Q) (h5 : Q' 5 = Q 5) : gSk Q' := fun i => by rw [h5]; exact h i
theorem gSize_in {sk : Int32} {day : Nat} (h : (0 : Int32) ≤ sk ∧ sk ≤ 9) : (0 : Int32) ≤ gSize sk day ∧ gSize sk day ≤ 6 := by
  obtain ⟨k, hk, rfl⟩ := gI_of (n := 9) (by decide) h
  unfold gSize
  rcases (show k = 0 ∨ k = 1 ∨ k = 2 ∨ k = 3 ∨ k = 4 ∨ k = 5 ∨ k = 6 ∨ k = 7 ∨ k = 8 ∨ k = 9 by omega) with rfl | rfl | rfl | rfl | rfl | rfl | rfl | rfl | rfl | rfl <;> split <;> decide
/-- what holds of the wheels -/
def gWh (Q : Nat → Nat → Int32) (nb nw : Nat) : Prop := gOf Q nb nw ∧ (∀ j, Q 12 j = 0 ∨ Q 12 j = 1) ∧ (∀ w, w < nw → Q 14 w = -1 ∨ Q 13 w = 2) ∧ (∀ j, (0 : Int32) ≤ Q 11 j ∧ Q 11 j ≤ 6)
theorem gWh_ext {Q Q' : Nat → Nat → Int32} {nb nw : Nat} (h : gWh Q nb nw) (h1 : Q' 1 = Q 1) (h9 : Q' 9 = Q 9) (h10 : Q' 10 = Q 10) (h11 : Q' 11 = Q 11) (h12 : Q' 12 = Q 12) (h13 : Q' 13 = Q 13) (h14 : Q' 14 = Q 14) : gWh Q' nb nw := by
  obtain ⟨a, b, c, d⟩ := h
  refine ⟨fun w hw => ?_, fun j => ?_, fun w hw => ?_, fun j => ?_⟩
  · rw [h9, h10, h1]; exact a w hw
  · rw [h12]; exact b j
  · rw [h14, h13]; exact c w hw
  · rw [h11]; exact d j
theorem gCutW_wh {Q : Nat → Nat → Int32} {nb nw q b : Nat} {sz : Int32} (hb : b < nb) (hs : (0 : Int32) ≤ sz ∧ sz ≤ 6) (h : gWh Q nb nw) : gWh (gCutW Q nw q b sz) nb (nw + 1) := by
  obtain ⟨ha, hb2, hc, hd⟩ := h
  refine ⟨fun w hw => ?_, fun j => ?_, fun w hw => ?_, fun j => ?_⟩
  · show ∃ b2, b2 < nb ∧ upd (Q 9) nw (nI b) w = nI b2 ∧ upd (Q 10) nw (Q 1 b) w = Q 1 b2
    by_cases e : w = nw
    · subst e; exact ⟨b, hb, upd_at, upd_at⟩
    · rw [upd_ne e, upd_ne e]; exact ha w (by omega)
  · show upd (Q 12) nw (gCr Q b sz) j = 0 ∨ upd (Q 12) nw (gCr Q b sz) j = 1
    by_cases e : j = nw
    · subst e; rw [upd_at]; unfold gCr; split
      · exact Or.inr rfl
      · exact Or.inl rfl
    · rw [upd_ne e]; exact hb2 j
  · show upd (Q 14) nw (-1) w = -1 ∨ upd (Q 13) nw 0 w = 2
    by_cases e : w = nw
    · subst e; exact Or.inl upd_at
    · rw [upd_ne e, upd_ne e]; exact hc w (by omega)
  · show (0 : Int32) ≤ upd (Q 11) nw sz j ∧ upd (Q 11) nw sz j ≤ 6
    by_cases e : j = nw
    · subst e; rw [upd_at]; exact hs
    · rw [upd_ne e]; exact hd j
theorem gWk_wh {nb q b : Nat} {sz : Int32} (hb : b < nb) (hs : (0 : Int32) ≤ sz ∧ sz ≤ 6) : ∀ (k : Nat) (Q : Nat → Nat → Int32) (nw : Nat), gWh Q nb nw → gWh (gWk q b sz k Q nw).1 nb (gWk q b sz k Q nw).2 := by
  intro k
  induction k with
  | zero => intro Q nw h; exact h
  | succ k ih =>
    intro Q nw h
    unfold gWk
    split
    · exact h
    · split
      · exact h
      · exact ih _ _ (gCutW_wh hb hs h)
theorem gWork_wh {Q : Nat → Nat → Int32} {nb nq nw day q : Nat} (hnb : nb ≤ 5) (hp : gPl Q nb nq) (hs : gSk Q) (hq : q < nq) (h : gWh Q nb nw) : gWh (gWork Q nw day q).1 nb (gWork Q nw day q).2 := by
  unfold gWork
  split
  · exact h
  · split
    · exact h
    · rename_i c _
      obtain ⟨b, hb, hbe⟩ := (hp q hq).resolve_left c
      rw [hbe, nI_clamp (by omega)]
      exact gWk_wh hb (gSize_in (hs q)) _ _ _ (gWh_ext h rfl rfl rfl rfl rfl rfl rfl)
theorem gCrew_wh {nb nq day : Nat} (hnb : nb ≤ 5) : ∀ (k i : Nat) (Q : Nat → Nat → Int32) (nw : Nat), i + k ≤ nq → gPl Q nb nq → gSk Q → gWh Q nb nw → gWh (gCrew day k i Q nw).1 nb (gCrew day k i Q nw).2 := by
  intro k
  induction k with
  | zero => intro i Q nw _ _ _ h; exact h
  | succ k ih =>
    intro i Q nw hi hp hs h
    unfold gCrew
    exact ih (i + 1) _ _ (by omega) (hp.of (gWork_6 _ _ _ _ 6 (by decide))) (hs.of (gWork_6 _ _ _ _ 5 (by decide))) (gWork_wh hnb hp hs (by omega) h)
theorem gDress_2 : ∀ (k i : Nat) (lf : Int32) (f : Nat → Int32) (j : Nat), f j = 2 → gDress k i lf f j = 2 := by
  intro k
  induction k with
  | zero => intro i lf f j h; exact h
  | succ k ih =>
    intro i lf f j h
    unfold gDress
    split
    · exact h
    · split
      · rename_i c
        refine ih _ _ _ _ ?_
        by_cases e : j = i
        · subst e; rw [h] at c; exact absurd c (by decide)
        · rw [upd_ne e]; exact h
      · exact ih _ _ _ _ h
theorem gEve_wh {Q : Nat → Nat → Int32} {nb nq nw day : Nat} (h : gWh Q nb nw) : gWh (gEve Q nq nw day) nb nw := by
  obtain ⟨a, b, c, d⟩ := h
  refine ⟨a, b, fun w hw => ?_, d⟩
  rcases c w hw with h1 | h1
  · exact Or.inl h1
  · refine Or.inr ?_
    show (if 3 ≤ Q 0 (day % 9) then gDress nw 0 (Q 0 (day % 9) / 2) (Q 13) else Q 13) w = 2
    split
    · exact gDress_2 _ _ _ _ _ h1
    · exact h1
theorem gDay_wh {Q : Nat → Nat → Int32} {nb nq nw day : Nat} (hnb : nb ≤ 5) (hp : gPl Q nb nq) (hs : gSk Q) (h : gWh Q nb nw) : gWh (gDay Q nq nw day).1 nb (gDay Q nq nw day).2 := gEve_wh (gCrew_wh hnb nq 0 Q nw (by omega) hp hs h)
theorem gGo_wh {nb nq : Nat} (hnb : nb ≤ 5) : ∀ (k : Nat) (Q : Nat → Nat → Int32) (nw day : Nat), gPl Q nb nq → gSk Q → gWh Q nb nw → gWh (gGo nq k Q nw day).1 nb (gGo nq k Q nw day).2 := by
  intro k
  induction k with
  | zero => intro Q nw day _ _ h; exact h
  | succ k ih => intro Q nw day hp hs h; unfold gGo; exact ih _ _ _ (hp.of (gDay_6 _ _ _ _ 6 (by decide))) (hs.of (gDay_6 _ _ _ _ 5 (by decide))) (gDay_wh hnb hp hs h)
theorem gGo_du {nb nq : Nat} (hnb : nb ≤ 5) : ∀ (k : Nat) (Q : Nat → Nat → Int32) (nw day : Nat), gDu Q → gGr Q nb → gPl Q nb nq → gDu (gGo nq k Q nw day).1 := by
  intro k
  induction k with
  | zero => intro Q nw day h _ _; exact h
  | succ k ih => intro Q nw day h hg hp; unfold gGo; exact ih _ _ _ (gDay_du h hg hnb hp) (hg.of (gDay_6 _ _ _ _ 1 (by decide))) (hp.of (gDay_6 _ _ _ _ 6 (by decide)))
/-- the bed advised, as the reference looks for it -/
def gAdvM (Q : Nat → Nat → Int32) (nq nw day q dd : Nat) : Nat → Nat → Int32 → Int32 → Int32
  | 0, _, best, _ => best
  | k + 1, b, best, most => if most < gWis Q nq nw day q b dd then gAdvM Q nq nw day q dd k (b + 1) (nI b) (gWis Q nq nw day q b dd) else gAdvM Q nq nw day q dd k (b + 1) best most
theorem gAdvM_same {Q : Nat → Nat → Int32} {nq nw day q dd : Nat} : ∀ (k b : Nat) (best bw : Int32), ¬ best = -1 → b + k < 2 ^ 31 → gAdvM Q nq nw day q dd k b best bw = gAdv Q nq nw day q dd k b best bw := by
  intro k
  induction k with
  | zero => intro b best bw _ _; rfl
  | succ k ih =>
    intro b best bw h hb
    unfold gAdvM gAdv
    by_cases c : bw < gWis Q nq nw day q b dd
    · rw [if_pos c, if_pos (Or.inr c)]
      exact ih _ _ _ (gw_nIm1 (by omega)) (by omega)
    · rw [if_neg c, if_neg (fun z => z.elim h c)]
      exact ih _ _ _ h (by omega)
theorem gAdvM_eq {Q : Nat → Nat → Int32} {nq nw day q dd n : Nat} (hn : n ≤ 5) (hw : ∀ b, b < n → (0 : Int32) ≤ gWis Q nq nw day q b dd) : gAdvM Q nq nw day q dd n 0 (-1) (-1) = gAdv Q nq nw day q dd n 0 (-1) 0 := by
  cases n with
  | zero => rfl
  | succ k =>
    unfold gAdvM gAdv
    have h0 := hw 0 (by omega)
    rw [if_pos (show (-1 : Int32) < gWis Q nq nw day q 0 dd from Int32.lt_of_lt_of_le (by decide) h0), if_pos (Or.inl rfl)]
    exact gAdvM_same _ _ _ _ (gw_nIm1 (by decide)) (by omega)
/-- the loop where each turn may make cells -/
theorem gw_loopc {p : Program} {l : Launch} {e : Env} {R : Room} {s : State} {m : MethodId} {args : Array Value} {below : List Frame} {meth : Method} {c : Code} {H : Heap} {locs : List Loc} {cells slots : Nat} {Q : State → Prop} {ls : Array Slot} {X : Type} {head : Nat} (I : X → Heap → List Loc → Array Slot → Prop) (μ Cc Cs : X → Nat) (x0 : X) (hc : cells ≤ Cc x0) (hs : slots ≤ Cs x0) (h0 : I x0 H locs ls)
    (step : ∀ (x : X), (∀ (y : X) (H : Heap) (locs : List Loc) (ls : Array Slot), μ y < μ x → I y H locs ls → W p l e R s m args below meth c H locs (Cc y) (Cs y) Q (F0 m head ls [])) → ∀ (H : Heap) (locs : List Loc) (ls : Array Slot), I x H locs ls → W p l e R s m args below meth c H locs (Cc x) (Cs x) Q (F0 m head ls [])) : W p l e R s m args below meth c H locs cells slots Q (F0 m head ls []) := by
  have key : ∀ (n : Nat) (x : X), μ x < n → ∀ (H : Heap) (locs : List Loc) (ls : Array Slot), I x H locs ls → W p l e R s m args below meth c H locs (Cc x) (Cs x) Q (F0 m head ls []) := by
    intro n
    induction n with
    | zero => intro x h; exact absurd h (Nat.not_lt_zero _)
    | succ n ih => exact fun x h => step x fun y H locs ls hy hI => ih y (by omega) H locs ls hI
  exact W.widen hc hs (key (μ x0 + 1) x0 (Nat.lt_succ_self _) _ _ _ h0)
