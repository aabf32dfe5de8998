/-! A day as the law tells of it. -/
theorem dSt_n {x y : Nat} (hx : x ≤ 200) (hy : y ≤ 500) : dSt (nI x) (nI y) = nI (x - y) := by
  unfold dSt
  by_cases h : y < x
  · rw [nI_sub (by omega), if_pos (show (0 : Int32) < nI (x - y) from nI_lt (a := 0) (by omega) (by omega))]
  · by_cases e : y = x
    · subst e
      rw [nI_sub (Nat.le_refl _), Nat.sub_self]
      rfl
    · have hn : ¬ (0 : Int32) < nI x - nI y := by
        have h1 : nI x - nI y = - nI (y - x) := by
          rw [← nI_sub (show x ≤ y by omega), Int32.neg_sub]
        rw [h1, Int32.lt_iff_toInt_lt, Int32.toInt_neg, nI_toInt (by omega)]
        have h0 : (0 : Int32).toInt = 0 := by decide
        rw [h0]
        intro h2
        rw [Int.bmod_eq_of_le (by omega) (by omega)] at h2
        omega
      rw [if_neg hn, show x - y = 0 by omega]
      rfl
theorem gSize_1 {sk : Int32} {day : Nat} (h : (0 : Int32) ≤ sk ∧ sk ≤ 9) : (1 : Int32) ≤ gSize sk day ∧ gSize sk day ≤ 6 := by
  have t : ∀ s, s ≤ 9 → ((1 : Int32) ≤ 1 + nI s / 2 + 1 ∧ 1 + nI s / 2 + 1 ≤ (6 : Int32)) ∧ (1 : Int32) ≤ 1 + nI s / 2 + 0 ∧ 1 + nI s / 2 + 0 ≤ (6 : Int32) := by decide +kernel
  obtain ⟨s, hs, rfl⟩ := gI_of (n := 9) (by decide) h
  unfold gSize
  split
  · exact (t s hs).1
  · exact (t s hs).2
/-- one quarrier's day -/
def dP (Q : Nat → Nat → Int32) (nb : Nat) (Qi : Nat → Nat → Int32) (q : Nat) : Prop :=
  ((Q 6 q = -1 ∨ 60 ≤ Q 7 q) ∧ Qi 7 q = Q 7 q ∧ Qi 8 q = Q 8 q) ∨
  ∃ b, b < nb ∧ Q 6 q = nI b ∧ ¬ 60 ≤ Q 7 q ∧ Qi 7 q = (if Q 7 q + (Q 1 b + 1) < 100 then Q 7 q + (Q 1 b + 1) else 100) ∧ ∃ m, m ≤ 60 ∧ Q 8 q + Q 5 q - Qi 8 q = nI (10 * m)
section
variable {Q : Nat → Nat → Int32} {nb nq nw day : Nat}
theorem dC.crew (h3 : ∀ b, b < nb → (0 : Int32) ≤ Q 3 b ∧ Q 3 b ≤ 200) (hnb : nb ≤ 5) (hpl : gPl Q nb nq) (hsk : gSk Q) : ∀ (k i : Nat) (Qi : Nat → Nat → Int32) (nwi : Nat), i + k = nq → dC Q nb nq nw Qi nwi → (∀ q, q < i → dP Q nb Qi q) → (∀ q, i ≤ q → Qi 7 q = Q 7 q ∧ Qi 8 q = Q 8 q) →
    dC Q nb nq nw (gCrew day k i Qi nwi).1 (gCrew day k i Qi nwi).2 ∧ (∀ q, q < nq → dP Q nb (gCrew day k i Qi nwi).1 q) ∧ ∀ q, nq ≤ q → (gCrew day k i Qi nwi).1 7 q = Q 7 q ∧ (gCrew day k i Qi nwi).1 8 q = Q 8 q
  | 0, i, Qi, nwi, hk, h, hp, hn => ⟨h, fun q hq => hp q (by omega), fun q hq => hn q (by omega)⟩
  | k + 1, i, Qi, nwi, hk, h, hp, hn => by
    have e6 : Qi 6 = Q 6 := h.c3 6 (by omega)
    have e5 : Qi 5 = Q 5 := h.c3 5 (by omega)
    have e1 : Qi 1 = Q 1 := h.c3 1 (by omega)
    have hc2 := h.c2
    by_cases c6 : Q 6 i = -1
    · rw [sp_crew (k := k) (sp_skip6 (Q := Qi) (nw := nwi) (day := day) (q := i) (by rw [e6]; exact c6))]
      refine dC.crew h3 hnb hpl hsk k (i + 1) Qi nwi (by omega) h (fun q hq => ?_) (fun q hq => hn q (by omega))
      by_cases e : q = i
      · subst e; exact Or.inl ⟨Or.inl c6, hn q (Nat.le_refl _)⟩
      · exact hp q (by omega)
    · by_cases c7 : 60 ≤ Q 7 i
      · rw [sp_crew (k := k) (sp_skip7 (Q := Qi) (nw := nwi) (day := day) (q := i) (by rw [e6]; exact c6) (by rw [(hn i (Nat.le_refl _)).1]; exact sp_60.mp c7))]
        refine dC.crew h3 hnb hpl hsk k (i + 1) Qi nwi (by omega) h (fun q hq => ?_) (fun q hq => hn q (by omega))
        by_cases e : q = i
        · subst e; exact Or.inl ⟨Or.inr c7, hn q (Nat.le_refl _)⟩
        · exact hp q (by omega)
      · obtain ⟨b, hb, hbe⟩ : ∃ b, b < nb ∧ Q 6 i = nI b := (hpl i (by omega)).resolve_left c6
        have h7 : Qi 7 i ≤ 59 := by
          rw [(hn i (Nat.le_refl _)).1]
          exact Classical.byContradiction fun e9 => c7 (sp_60.mpr e9)
        have hw := sp_work (Q := Qi) (nw := nwi) (day := day) (q := i) (b := b) (by rw [e6]; exact hbe) (by omega) h7 (Q2 := (gWk i b (gSize (Qi 5 i) day) (60 - nwi) (gToil Qi i b) nwi).1) (nw2 := (gWk i b (gSize (Qi 5 i) day) (60 - nwi) (gToil Qi i b) nwi).2) rfl
        rw [sp_crew (k := k) hw]
        have hsz : (1 : Int32) ≤ gSize (Qi 5 i) day ∧ gSize (Qi 5 i) day ≤ 6 := gSize_1 (by rw [e5]; exact hsk i)
        have hT : dC Q nb nq nw (gToil Qi i b) nwi := h.ext (fun j hj => by
          unfold gToil
          split
          · exact absurd (Or.inl rfl) hj
          · exact absurd (Or.inr rfl) hj
          · rfl)
        obtain ⟨g1, g2, g3, m, hm, g4⟩ := dC.wk h3 hnb hb ⟨i, by omega, hbe⟩ hsz (60 - nwi) (gToil Qi i b) nwi (by omega) hT
        refine dC.crew h3 hnb hpl hsk k (i + 1) _ _ (by omega) g1 (fun q hq => ?_) (fun q hq => ?_)
        · by_cases e : q = i
          · subst e
            refine Or.inr ⟨b, hb, hbe, c7, ?_, m, by omega, ?_⟩
            · rw [g2]
              show upd (Qi 7) q _ q = _
              rw [upd_at, (hn q (Nat.le_refl _)).1, e1]
            · rw [← g4]
              have e8 : gToil Qi q b 8 q = Q 8 q + Q 5 q := by
                show upd (Qi 8) q _ q = _
                rw [upd_at, (hn q (Nat.le_refl _)).2, e5]
              rw [e8]
          · have r7 : (gWk i b (gSize (Qi 5 i) day) (60 - nwi) (gToil Qi i b) nwi).1 7 q = Qi 7 q := by
              rw [g2]
              show upd (Qi 7) i _ q = _
              rw [upd_ne e]
            have r8 : (gWk i b (gSize (Qi 5 i) day) (60 - nwi) (gToil Qi i b) nwi).1 8 q = Qi 8 q := by
              rw [g3 q e]
              show upd (Qi 8) i _ q = _
              rw [upd_ne e]
            have hpq := hp q (by omega)
            unfold dP at hpq ⊢
            rw [r7, r8]
            exact hpq
        · have e : q ≠ i := by omega
          constructor
          · rw [g2]
            show upd (Qi 7) i _ q = _
            rw [upd_ne e]; exact (hn q (by omega)).1
          · rw [g3 q e]
            show upd (Qi 8) i _ q = _
            rw [upd_ne e]; exact (hn q (by omega)).2
/-- the wheels that the mill dresses -/
theorem gDr_ok : ∀ (k i m a : Nat) (st : Nat → Int32), m ≤ 9 → a + k < 2 ^ 31 → (∀ j, gDress k i (nI m) st j = st j ∨ (st j = 0 ∧ gDress k i (nI m) st j = 1)) ∧ ∃ d, d ≤ m ∧ gS (fun j => if gDress k i (nI m) st j = st j then 0 else 1) k i (nI a) = nI (a + d) ∧ (d < m → ∀ j, i ≤ j → j < i + k → ¬ gDress k i (nI m) st j = 0)
  | 0, i, m, a, st, hm, ha => ⟨fun _ => Or.inl rfl, 0, by omega, rfl, fun _ j h1 h2 => absurd h2 (by omega)⟩
  | k + 1, i, m, a, st, hm, ha => by
    by_cases m0 : m = 0
    · subst m0
      have e : gDress (k + 1) i (nI 0) st = st := gDress_0 (k + 1) i st
      rw [e]
      exact ⟨fun _ => Or.inl rfl, 0, by omega, by rw [gS_zero (k + 1) i _ (fun j _ _ => if_pos rfl)]; rfl, fun h => absurd h (by omega)⟩
    · obtain ⟨m, rfl⟩ : ∃ m2, m = m2 + 1 := ⟨m - 1, by omega⟩
      by_cases c : st i = 0
      · rw [sp_dC hm c]
        obtain ⟨h1, d, hd, h2, h3⟩ := gDr_ok k (i + 1) m (a + 1) (upd st i 1) (by omega) (by omega)
        have hi : gDress k (i + 1) (nI m) (upd st i 1) i = 1 := by
          rcases h1 i with e | ⟨e, -⟩
          · rw [e, upd_at]
          · rw [upd_at] at e; exact absurd e (by decide)
        refine ⟨fun j => ?_, d + 1, by omega, ?_, fun hlt j h4 h5 => ?_⟩
        · by_cases e : j = i
          · subst e; exact Or.inr ⟨c, hi⟩
          · have := h1 j
            rw [upd_ne e] at this
            exact this
        · show gS _ k (i + 1) (nI a + (if gDress k (i + 1) (nI m) (upd st i 1) i = st i then 0 else 1)) = _
          rw [hi, c, if_neg (by decide), nI_1, show a + (d + 1) = a + 1 + d by omega, ← h2]
          refine gS_congr k (i + 1) _ (fun j x y => ?_)
          rw [upd_ne (show j ≠ i by omega)]
        · by_cases e : j = i
          · subst e; rw [hi]; decide
          · exact h3 (by omega) j (by omega) (by omega)
      · rw [sp_dB (fun e => absurd ((nI_eq (b := 0) (by omega) (by omega)).mp e) (by omega)) hm c]
        obtain ⟨h1, d, hd, h2, h3⟩ := gDr_ok k (i + 1) (m + 1) a st hm (by omega)
        have hi : gDress k (i + 1) (nI (m + 1)) st i = st i := by
          rcases h1 i with e | ⟨e, -⟩
          · exact e
          · exact absurd e c
        refine ⟨h1, d, hd, ?_, fun hlt j h4 h5 => ?_⟩
        · show gS _ k (i + 1) (nI a + (if gDress k (i + 1) (nI (m + 1)) st i = st i then 0 else 1)) = _
          rw [hi, if_pos rfl, Int32.add_zero]
          exact h2
        · by_cases e : j = i
          · subst e; rw [hi]; exact c
          · exact h3 hlt j (by omega) (by omega)
/-- how many of the old are dressed by the day, and the new that are -/
def dDr (Q Q' : Nat → Nat → Int32) (nw k : Nat) : Int32 := if k < nw then (if Q' 13 k = Q 13 k then 0 else 1) else Q' 13 k
/-- what the law asks of a day -/
def dOut (Q : Nat → Nat → Int32) (nb nq nw day : Nat) (Q' : Nat → Nat → Int32) (nw' : Nat) : Prop :=
  (nw ≤ nw' ∧ nw' ≤ 60) ∧
  (∀ k, k < nw → Q' 9 k = Q 9 k ∧ Q' 11 k = Q 11 k ∧ (Q' 13 k = Q 13 k ∨ (Q 13 k = 0 ∧ Q' 13 k = 1))) ∧
  (∀ k, nw ≤ k → k < nw' → (Q' 13 k = 0 ∨ Q' 13 k = 1) ∧ ∃ b, b < nb ∧ Q' 9 k = nI b ∧ ¬ gBed Q nq nw 3 b = 0) ∧
  (∃ d m, gDr (Q 0 (day % 9)) = nI m ∧ m ≤ 9 ∧ d ≤ m ∧ gS (dDr Q Q' nw) nw' 0 0 = nI d ∧ (d < m → gS (fun j => if Q' 13 j = 0 then 1 else 0) nw' 0 0 = 0)) ∧
  (∀ b, b < nb → Q' 3 b = dSt (Q 3 b) (gS (dT Q' b) (nw' - nw) nw 0) ∧ Q' 4 b = Q 4 b + gS (dN Q' b) (nw' - nw) nw 0 ∧ gBed Q nq nw 5 b ≤ gBed Q' nq nw' 5 b ∧ gBed Q' nq nw' 5 b ≤ gBed Q nq nw 5 b + gS (dN Q' b) (nw' - nw) nw 0) ∧
  (∀ q, q < nq → Q' 6 q = Q 6 q ∧ ((Q 6 q = -1 ∧ Q' 7 q = (if 0 < Q 7 q - 7 then Q 7 q - 7 else 0) ∧ Q' 8 q = Q 8 q) ∨ ∃ b, b < nb ∧ Q 6 q = nI b ∧ ((60 ≤ Q 7 q ∧ Q' 7 q = Q 7 q - 4 ∧ Q' 8 q = Q 8 q) ∨ (¬ 60 ≤ Q 7 q ∧ Q' 7 q = (if 60 ≤ Q 7 q + Q 1 b + 1 then Q 7 q + Q 1 b + 1 - 4 else Q 7 q + Q 1 b + 1) ∧ ∃ m, m ≤ 60 ∧ Q 8 q + Q 5 q - Q' 8 q = nI (10 * m)))))
theorem gS_ne0 {g : Nat → Int32} (hg : ∀ j, g j = 0 ∨ g j = 1) {n q : Nat} (hn : n < 2 ^ 31) (hq : q < n) (h : g q = 1) : ¬ gS g n 0 0 = 0 := fun e => by
  have h1 := (gS_cnt0 hg n 0 0 (by omega) e).2 q (Nat.zero_le _) (by omega)
  rw [h] at h1
  exact absurd h1 (by decide)
theorem dP_min {u g : Int32} (hu : (0 : Int32) ≤ u ∧ u ≤ 100) (h60 : ¬ 60 ≤ u) (hg : (1 : Int32) ≤ g ∧ g ≤ 9) : (if u + (g + 1) < 100 then u + (g + 1) else 100) = u + g + 1 := by
  have t : ∀ a, a ≤ 100 → ∀ b, b ≤ 9 → (60 : Int32) ≤ nI a ∨ (if nI a + (nI b + 1) < 100 then nI a + (nI b + 1) else 100) = nI a + nI b + (1 : Int32) := by decide +kernel
  obtain ⟨a, ha, rfl⟩ := gw_nat100 hu
  obtain ⟨b, hb, rfl⟩ := gI_of (n := 9) (by decide) ⟨Int32.le_trans (by decide) hg.1, hg.2⟩
  exact (t a ha b hb).resolve_left h60
theorem day_out {i nr : Nat} {ca bo sv rl : Nat → Int32} (I : gInv i Q nb nq nw day nr bo sv) (X : pX Q nb nq nw nr ca sv rl) : dOut Q nb nq nw day (gDay Q nq nw day).1 (gDay Q nq nw day).2 ∧ pX (gDay Q nq nw day).1 nb nq (gDay Q nq nw day).2 nr ca (gM nr (gBo day sv) sv) (gM nw rl (fun _ => -1)) := by
  have hnb := I.hnb
  have hnq := I.hnq
  have hnw := I.hnw
  have hnr := I.hnr
  obtain ⟨hC, hPq, hN⟩ := dC.crew (day := day) X.e3 hnb I.hpl I.hsk nq 0 Q nw (by omega) (dC_0 hnw X.e3) (fun q hq => absurd hq (by omega)) (fun _ _ => ⟨rfl, rfl⟩)
  have eD : gDay Q nq nw day = (gEve (gCrew day nq 0 Q nw).1 nq (gCrew day nq 0 Q nw).2 day, (gCrew day nq 0 Q nw).2) := rfl
  rw [eD]
  generalize (gCrew day nq 0 Q nw).1 = Qc at hC hPq hN ⊢
  generalize (gCrew day nq 0 Q nw).2 = nw' at hC ⊢
  show dOut Q nb nq nw day (gEve Qc nq nw' day) nw' ∧ pX (gEve Qc nq nw' day) nb nq nw' nr ca _ _
  have c1 := hC.c1
  have c2 := hC.c2
  obtain ⟨m, hm9, hm⟩ := sp_dr (X.e0 (day % 9))
  have e13 : gEve Qc nq nw' day 13 = gDress nw' 0 (nI m) (Qc 13) := (gEve_13 (Q := Q) (nq := nq) (day := day) (hC.c3 0 (by omega)) (st := gDress nw' 0 (nI m) (Qc 13)) (by rw [hm])).symm
  have eR : ∀ j, ¬ (j = 7 ∨ j = 13) → gEve Qc nq nw' day j = Qc j := fun j hj => by
    unfold gEve
    split
    · exact absurd (Or.inl rfl) hj
    · exact absurd (Or.inr rfl) hj
    · rfl
  have e7 : ∀ q, q < nq → gEve Qc nq nw' day 7 q = gLose (Qc 6 q) (Qc 7 q) := fun q hq => gM_lo (F := fun j => gLose (Qc 6 j) (Qc 7 j)) (f := Qc 7) hq
  have e7n : ∀ q, nq ≤ q → gEve Qc nq nw' day 7 q = Qc 7 q := fun q hq => gM_at (F := fun j => gLose (Qc 6 j) (Qc 7 j)) (f := Qc 7) hq
  obtain ⟨hd1, d, hdm, hd2, hd3⟩ := gDr_ok nw' 0 m 0 (Qc 13) hm9 (by omega)
  rw [← e13] at hd1 hd2 hd3
  generalize gEve Qc nq nw' day = Q' at e13 eR e7 e7n hd1 hd2 hd3 ⊢
  have t1 : ∀ b, dT Q' b = dT Qc b := fun b => by funext w; unfold dT; rw [eR 9 (by omega), eR 11 (by omega)]
  have t2 : ∀ b, dN Q' b = dN Qc b := fun b => by funext w; unfold dN; rw [eR 9 (by omega)]
  have hold : ∀ k, k < nw → Q' 13 k = Q 13 k ∨ (Q 13 k = 0 ∧ Q' 13 k = 1) := fun k hk => by
    have h1 := hd1 k
    rw [(hC.c4 k hk).2.2.2.2.1] at h1
    exact h1
  have hnew : ∀ k, nw ≤ k → k < nw' → Q' 13 k = 0 ∨ Q' 13 k = 1 := fun k h1 h2 => by
    rcases hd1 k with e | ⟨-, e⟩
    · rw [(hC.c5 k h1 h2).1] at e; exact Or.inl e
    · exact Or.inr e
  refine ⟨⟨⟨c1, c2⟩, fun k hk => ⟨by rw [eR 9 (by omega)]; exact (hC.c4 k hk).1, by rw [eR 11 (by omega)]; exact (hC.c4 k hk).2.2.1, hold k hk⟩, fun k h1 h2 => ⟨hnew k h1 h2, ?_⟩, ⟨d, m, hm, hm9, hdm, ?_, fun hlt => ?_⟩, fun b hb => ⟨?_, ?_, ?_⟩, fun q hq => ⟨by rw [eR 6 (by omega), hC.c3 6 (by omega)], ?_⟩⟩, ?_⟩
  · obtain ⟨-, -, -, -, b, hb, e9, -, q, hq, hqe⟩ := hC.c5 k h1 h2
    refine ⟨b, hb, by rw [eR 9 (by omega)]; exact e9, ?_⟩
    show ¬ gS (fun j => if Q 6 j = nI b then 1 else 0) nq 0 0 = 0
    exact gS_ne0 (fun j => by by_cases e : Q 6 j = nI b; exact Or.inr (if_pos e); exact Or.inl (if_neg e)) (by omega) hq (if_pos hqe)
  · have hz : gS (fun j => if Q' 13 j = Qc 13 j then (0 : Int32) else 1) nw' 0 0 = nI d := by
      have := hd2
      rw [Nat.zero_add] at this
      exact this
    rw [← hz]
    refine gS_congr nw' 0 0 (fun j _ hj => ?_)
    unfold dDr
    by_cases c : j < nw
    · rw [if_pos c, (hC.c4 j c).2.2.2.2.1]
    · rw [if_neg c]
      have h0 := (hC.c5 j (by omega) (by omega)).1
      rcases hnew j (by omega) (by omega) with e | e
      · rw [e, h0, if_pos rfl]
      · rw [e, h0, if_neg (by decide)]
  · exact gS_zero nw' 0 0 (fun j _ hj => if_neg (hd3 hlt j (Nat.zero_le _) (by omega)))
  · rw [eR 3 (by omega), t1]; exact (hC.c6 b hb).1
  · rw [eR 4 (by omega), t2]; exact (hC.c6 b hb).2
  · show gS (fun j => if Q 9 j = nI b then (if Q 12 j = 0 then 1 else 0) else 0) nw 0 0 ≤ gS (fun j => if Q' 9 j = nI b then (if Q' 12 j = 0 then 1 else 0) else 0) nw' 0 0 ∧ gS (fun j => if Q' 9 j = nI b then (if Q' 12 j = 0 then 1 else 0) else 0) nw' 0 0 ≤ gS (fun j => if Q 9 j = nI b then (if Q 12 j = 0 then 1 else 0) else 0) nw 0 0 + gS (dN Q' b) (nw' - nw) nw 0
    have e9 := eR 9 (by omega)
    have e12 := eR 12 (by omega)
    have hs : gS (fun j => if Q' 9 j = nI b then (if Q' 12 j = 0 then (1 : Int32) else 0) else 0) nw' 0 0 = gS (fun j => if Q' 9 j = nI b then (if Q' 12 j = 0 then 1 else 0) else 0) (nw' - nw) nw (gS (fun j => if Q 9 j = nI b then (if Q 12 j = 0 then 1 else 0) else 0) nw 0 0) := by
      have h1 := gS_app (fun j => if Q' 9 j = nI b then (if Q' 12 j = 0 then (1 : Int32) else 0) else 0) nw (nw' - nw) 0 0
      rw [show nw + (nw' - nw) = nw' by omega, Nat.zero_add] at h1
      rw [h1]
      congr 1
      refine gS_congr nw 0 0 (fun j _ hj => ?_)
      rw [e9, e12, (hC.c4 j (by omega)).1, (hC.c4 j (by omega)).2.2.2.1]
    rw [hs]
    obtain ⟨y0, -, hy0, h0⟩ := gS_sm (g := fun j => if Q 9 j = nI b then (if Q 12 j = 0 then (1 : Int32) else 0) else 0) (M := 1) nw 0 0 (by omega) (fun j _ _ => by
      by_cases c9 : Q 9 j = nI b
      · by_cases c12 : Q 12 j = 0
        · exact ⟨1, Nat.le_refl _, by rw [if_pos c9, if_pos c12]; rfl⟩
        · exact ⟨0, by omega, by rw [if_pos c9, if_neg c12]; rfl⟩
      · exact ⟨0, by omega, by rw [if_neg c9]; rfl⟩)
    have h0 : gS (fun j => if Q 9 j = nI b then (if Q 12 j = 0 then (1 : Int32) else 0) else 0) nw 0 0 = nI y0 := h0
    rw [h0]
    -- the new ones
    have key : ∀ n i a c, a ≤ c → c + n < 2 ^ 31 → ∃ x y, a ≤ x ∧ x ≤ y ∧ y ≤ c + n ∧ gS (fun j => if Q' 9 j = nI b then (if Q' 12 j = 0 then (1 : Int32) else 0) else 0) n i (nI a) = nI x ∧ gS (dN Q' b) n i (nI c) = nI y := by
      intro n
      induction n with
      | zero => intro i a c h1 h2; exact ⟨a, c, Nat.le_refl _, h1, by omega, rfl, rfl⟩
      | succ n ih =>
        intro i a c h1 h2
        show ∃ x y, a ≤ x ∧ x ≤ y ∧ y ≤ c + (n + 1) ∧ gS _ n (i + 1) (nI a + (if Q' 9 i = nI b then (if Q' 12 i = 0 then (1 : Int32) else 0) else 0)) = nI x ∧ gS (dN Q' b) n (i + 1) (nI c + (if Q' 9 i = nI b then 1 else 0)) = nI y
        by_cases c9 : Q' 9 i = nI b
        · rw [if_pos c9, if_pos c9]
          by_cases c12 : Q' 12 i = 0
          · rw [if_pos c12, nI_1, nI_1]
            obtain ⟨x, y, g1, g2, g3, g4, g5⟩ := ih (i + 1) (a + 1) (c + 1) (by omega) (by omega)
            exact ⟨x, y, by omega, g2, by omega, g4, g5⟩
          · rw [if_neg c12, Int32.add_zero, nI_1]
            obtain ⟨x, y, g1, g2, g3, g4, g5⟩ := ih (i + 1) a (c + 1) (by omega) (by omega)
            exact ⟨x, y, g1, g2, by omega, g4, g5⟩
        · rw [if_neg c9, if_neg c9, Int32.add_zero, Int32.add_zero]
          obtain ⟨x, y, g1, g2, g3, g4, g5⟩ := ih (i + 1) a c h1 (by omega)
          exact ⟨x, y, g1, g2, by omega, g4, g5⟩
    obtain ⟨x, y, g1, g2, g3, g4, g5⟩ := key (nw' - nw) nw y0 y0 (Nat.le_refl _) (by omega)
    rw [g4]
    have g6 : nI y0 + gS (dN Q' b) (nw' - nw) nw 0 = nI y := by
      rw [← g5, ← gS_add, Int32.add_zero]
    rw [g6]
    exact ⟨nI_le g1 (by omega), nI_le g2 (by omega)⟩
  · rw [e7 q hq, eR 8 (by omega), hC.c3 6 (by omega)]
    rcases hPq q hq with ⟨h1, h2, h4⟩ | ⟨b, hb, hbe, h60, h7, hw⟩
    · rw [h2, h4]
      by_cases c6 : Q 6 q = -1
      · refine Or.inl ⟨c6, ?_, rfl⟩
        unfold gLose
        rw [if_pos c6]
      · obtain ⟨b, hb, hbe⟩ : ∃ b, b < nb ∧ Q 6 q = nI b := (I.hpl q hq).resolve_left c6
        have h60 := h1.resolve_left c6
        refine Or.inr ⟨b, hb, hbe, Or.inl ⟨h60, ?_, rfl⟩⟩
        unfold gLose
        rw [if_neg c6, if_pos h60]
    · refine Or.inr ⟨b, hb, hbe, Or.inr ⟨h60, ?_, hw⟩⟩
      rw [h7, dP_min (I.hdu q) h60 (I.hgr b hb)]
      unfold gLose
      rw [if_neg (by rw [hbe]; exact gw_nIm1 (by omega))]
  · refine ⟨fun j => by rw [eR 0 (by omega), hC.c3 0 (by omega)]; exact X.e0 j, fun b hb => ?_, fun b hb => by rw [eR 4 (by omega), hC.c7 b hb]; exact X.e4 b hb, fun q hq => ?_, fun w hw => ?_, fun w hw => ?_, fun w hw => ?_, fun r hr => ⟨(X.eca r hr).1, (X.eca r hr).2.1, ?_⟩⟩
    · rw [eR 3 (by omega), (hC.c6 b hb).1]
      obtain ⟨x, hx, ex⟩ := gI_of (n := 200) (by decide) (X.e3 b hb)
      obtain ⟨y, hy, ey⟩ := dT_in hC b
      rw [ex, ey, dSt_n hx (by omega)]
      exact ⟨nI_pos' (by omega), nI_le (b := 200) (by omega) (by decide)⟩
    · rw [e7n q hq, eR 8 (by omega), (hN q hq).1, (hN q hq).2]
      exact X.e7 q hq
    · rw [eR 11 (by omega)]
      by_cases c : w < nw
      · rw [(hC.c4 w c).2.2.1]; exact X.e11 w c
      · exact (hC.c5 w (by omega) hw).2.2.1
    · by_cases c : w < nw
      · rcases hold w c with e | ⟨-, e⟩
        · rw [e]; exact X.e13 w c
        · rw [e]; decide
      · rcases hnew w (by omega) hw with e | e <;> rw [e] <;> decide
    · by_cases c : w < nw
      · rw [eR 14 (by omega), (hC.c4 w c).2.2.2.2.2]
        have hrl : gM nw rl (fun _ => (-1 : Int32)) w = rl w := gM_lo c
        rw [hrl]
        rcases hold w c with e | ⟨e0, e⟩
        · rw [e]
          rcases X.e14 w c with ⟨h1, h2, r, h4, h5, h6⟩ | h1
          · refine Or.inl ⟨h1, h2, r, h4, h5, ?_⟩
            rw [gM_lo h4]
            unfold gBo
            rw [if_pos h6, h6]
          · exact Or.inr h1
        · rcases X.e14 w c with ⟨h1, -⟩ | ⟨-, h2⟩
          · rw [e0] at h1; exact absurd h1 (by decide)
          · rw [e]; exact Or.inr ⟨by decide, h2⟩
      · refine Or.inr ⟨?_, by rw [eR 14 (by omega)]; exact (hC.c5 w (by omega) hw).2.1⟩
        rcases hnew w (by omega) hw with e | e <;> rw [e] <;> decide
    · have h1 : gStill Q' nw' ca r = gStill Q nw ca r := by
        unfold gStill
        congr 1
        have h2 := gS_app (fun j => if Q' 14 j = nI r then 2 * Q' 11 j * Q' 11 j else 0) nw (nw' - nw) 0 0
        rw [show nw + (nw' - nw) = nw' by omega, Nat.zero_add] at h2
        rw [h2, gS_zero (nw' - nw) nw _ (fun j x y => ?_)]
        · refine gS_congr nw 0 0 (fun j _ hj => ?_)
          rw [eR 14 (by omega), eR 11 (by omega), (hC.c4 j (by omega)).2.2.2.2.2, (hC.c4 j (by omega)).2.2.1]
        · rw [eR 14 (by omega), (hC.c5 j x (by omega)).2.1, if_neg (fun e => gw_nIm1 (k := r) (by omega) e.symm)]
      rw [h1]
      exact (X.eca r hr).2.2
end
