/-! What else holds of the quarry while the law runs, and that each call by hand keeps it. -/
def pX (Q : Nat → Nat → Int32) (nb nq nw nr : Nat) (ca sv rl : Nat → Int32) : Prop :=
  (∀ d, (0 : Int32) ≤ Q 0 d ∧ Q 0 d ≤ 9) ∧ (∀ b, b < nb → (0 : Int32) ≤ Q 3 b ∧ Q 3 b ≤ 200) ∧ (∀ b, nb ≤ b → Q 4 b = 0) ∧ (∀ q, nq ≤ q → Q 7 q = 0 ∧ Q 8 q = 0) ∧
  (∀ w, w < nw → (1 : Int32) ≤ Q 11 w ∧ Q 11 w ≤ 6) ∧ (∀ w, w < nw → (0 : Int32) ≤ Q 13 w ∧ Q 13 w ≤ 4) ∧
  (∀ w, w < nw → (Q 13 w = 2 ∧ Q 14 w = rl w ∧ ∃ r, r < nr ∧ rl w = nI r ∧ sv r = -1) ∨ (¬ Q 13 w = 2 ∧ Q 14 w = -1)) ∧
  ∀ r, r < nr → (20 : Int32) ≤ ca r ∧ ca r ≤ 400 ∧ (0 : Int32) ≤ gStill Q nw ca r
section
variable {Q : Nat → Nat → Int32} {nb nq nw nr day : Nat} {ca sv rl : Nat → Int32}
theorem pX.e0 (h : pX Q nb nq nw nr ca sv rl) : ∀ d, (0 : Int32) ≤ Q 0 d ∧ Q 0 d ≤ 9 := h.1
theorem pX.e3 (h : pX Q nb nq nw nr ca sv rl) : ∀ b, b < nb → (0 : Int32) ≤ Q 3 b ∧ Q 3 b ≤ 200 := h.2.1
theorem pX.e4 (h : pX Q nb nq nw nr ca sv rl) : ∀ b, nb ≤ b → Q 4 b = 0 := h.2.2.1
theorem pX.e7 (h : pX Q nb nq nw nr ca sv rl) : ∀ q, nq ≤ q → Q 7 q = 0 ∧ Q 8 q = 0 := h.2.2.2.1
theorem pX.e11 (h : pX Q nb nq nw nr ca sv rl) : ∀ w, w < nw → (1 : Int32) ≤ Q 11 w ∧ Q 11 w ≤ 6 := h.2.2.2.2.1
theorem pX.e13 (h : pX Q nb nq nw nr ca sv rl) : ∀ w, w < nw → (0 : Int32) ≤ Q 13 w ∧ Q 13 w ≤ 4 := h.2.2.2.2.2.1
theorem pX.e14 (h : pX Q nb nq nw nr ca sv rl) : ∀ w, w < nw → (Q 13 w = 2 ∧ Q 14 w = rl w ∧ ∃ r, r < nr ∧ rl w = nI r ∧ sv r = -1) ∨ (¬ Q 13 w = 2 ∧ Q 14 w = -1) := h.2.2.2.2.2.2.1
theorem pX.eca (h : pX Q nb nq nw nr ca sv rl) : ∀ r, r < nr → (20 : Int32) ≤ ca r ∧ ca r ≤ 400 ∧ (0 : Int32) ≤ gStill Q nw ca r := h.2.2.2.2.2.2.2
theorem gS_zero {g : Nat → Int32} : ∀ (n i : Nat) (acc : Int32), (∀ j, i ≤ j → j < i + n → g j = 0) → gS g n i acc = acc
  | 0, _, _, _ => rfl
  | n + 1, i, acc, h => by
    show gS g n (i + 1) (acc + g i) = acc
    rw [h i (Nat.le_refl _) (by omega), Int32.add_zero]
    exact gS_zero n (i + 1) acc (fun j h1 h2 => h j (by omega) (by omega))
theorem gS_pt {g g' : Nat → Int32} {k : Nat} : ∀ (n i : Nat) (acc : Int32), i ≤ k → k < i + n → (∀ j, i ≤ j → j < i + n → j ≠ k → g' j = g j) → g k = 0 → gS g' n i acc = gS g n i acc + g' k
  | 0, i, _, h1, h2, _, _ => absurd h2 (by omega)
  | n + 1, i, acc, h1, h2, h, h0 => by
    show gS g' n (i + 1) (acc + g' i) = gS g n (i + 1) (acc + g i) + g' k
    by_cases e : i = k
    · subst e
      have h3 : gS g' n (i + 1) (acc + g' i) = gS g n (i + 1) (acc + g' i) := gS_congr n (i + 1) _ (fun j a b => h j (by omega) (by omega) (by omega))
      have h4 : gS g n (i + 1) (g' i + acc) = g' i + gS g n (i + 1) acc := gS_add g n (i + 1) (g' i) acc
      rw [h3, h0, Int32.add_zero, Int32.add_comm acc (g' i), h4]
      exact Int32.add_comm _ _
    · rw [h i (Nat.le_refl _) (by omega) e]
      exact gS_pt n (i + 1) (acc + g i) (by omega) (by omega) (fun j a b c => h j (by omega) (by omega) c) h0
theorem gS_cnt0 {g : Nat → Int32} (hg : ∀ j, g j = 0 ∨ g j = 1) : ∀ (n i a : Nat), a + n < 2 ^ 31 → gS g n i (nI a) = 0 → a = 0 ∧ ∀ j, i ≤ j → j < i + n → g j = 0
  | 0, i, a, ha, h => ⟨by
      have h1 : nI a = nI 0 := h
      exact (nI_eq (by omega) (by omega)).mp h1, fun j h1 h2 => absurd h2 (by omega)⟩
  | n + 1, i, a, ha, h => by
    have h' : gS g n (i + 1) (nI a + g i) = 0 := h
    rcases hg i with e | e
    · rw [e, Int32.add_zero] at h'
      obtain ⟨h1, h2⟩ := gS_cnt0 hg n (i + 1) a (by omega) h'
      refine ⟨h1, fun j h3 h4 => ?_⟩
      by_cases e2 : j = i
      · rw [e2]; exact e
      · exact h2 j (by omega) (by omega)
    · rw [e, nI_1] at h'
      obtain ⟨h1, -⟩ := gS_cnt0 hg n (i + 1) (a + 1) (by omega) h'
      omega
theorem gOn_0 {r : Nat} (hnw : nw ≤ 60) (h : gOn Q nw r = 0) : ∀ j, j < nw → ¬ Q 14 j = nI r := fun j hj e => by
  have h1 := (gS_cnt0 (g := fun j => if Q 14 j = nI r then 1 else 0) (fun j => by by_cases e : Q 14 j = nI r <;> simp [e]) nw 0 0 (by omega) h).2 j (Nat.zero_le _) (by omega)
  simp [e] at h1
theorem gStill_0 {r : Nat} (h : ∀ j, j < nw → ¬ Q 14 j = nI r) : gStill Q nw ca r = ca r := by
  unfold gStill
  rw [gS_zero nw 0 0 (fun j _ hj => if_neg (h j (by omega))), Int32.sub_zero]
/-- what Sim says a raft still carries -/
theorem pX.left (h : pX Q nb nq nw nr ca sv rl) {r : Nat} (hr : r < 3) : ca r - gS (fun j => if Q 13 j = 2 then (if rl j = nI r then Q 11 j * Q 11 j * 2 else 0) else 0) nw 0 0 = gStill Q nw ca r := by
  unfold gStill
  congr 1
  refine gS_congr nw 0 0 fun j _ hj => ?_
  rcases h.e14 j (by omega) with ⟨h1, h2, -⟩ | ⟨h1, h2⟩
  · rw [if_pos h1, h2, Int32.mul_assoc 2, Int32.mul_comm 2]
  · rw [if_neg h1, h2, if_neg (fun e => gw_nIm1 (k := r) (by omega) e.symm)]
theorem pX.fall (h : pX Q nb nq nw nr ca sv rl) {d : Nat} {y : Int32} (hy : (0 : Int32) ≤ y ∧ y ≤ 9) : pX (pk Q 0 (upd (Q 0) d y)) nb nq nw nr ca sv rl := by
  refine ⟨fun j => ?_, h.e3, h.e4, h.e7, h.e11, h.e13, h.e14, h.eca⟩
  show (0 : Int32) ≤ upd (Q 0) d y j ∧ upd (Q 0) d y j ≤ 9
  by_cases e : j = d
  · subst e; rw [upd_at]; exact hy
  · rw [upd_ne e]; exact h.e0 j
theorem pX.bedNew (h : pX Q nb nq nw nr ca sv rl) {y1 y2 y3 : Int32} (hy : (0 : Int32) ≤ y3 ∧ y3 ≤ 200) : pX (gOpen Q nb y1 y2 y3) (nb + 1) nq nw nr ca sv rl := by
  refine ⟨h.e0, fun b hb => ?_, fun b hb => h.e4 b (by omega), h.e7, h.e11, h.e13, h.e14, h.eca⟩
  show (0 : Int32) ≤ upd (Q 3) nb y3 b ∧ upd (Q 3) nb y3 b ≤ 200
  by_cases e : b = nb
  · subst e; rw [upd_at]; exact hy
  · rw [upd_ne e]; exact h.e3 b (by omega)
theorem pX.hire (h : pX Q nb nq nw nr ca sv rl) {y : Int32} : pX (gHire Q nq y) nb (nq + 1) nw nr ca sv rl :=
  ⟨h.e0, h.e3, h.e4, fun q hq => h.e7 q (by omega), h.e11, h.e13, h.e14, h.eca⟩
theorem pX.send (h : pX Q nb nq nw nr ca sv rl) {k : Nat} {x : Int32} : pX (pk Q 6 (upd (Q 6) k x)) nb nq nw nr ca sv rl :=
  ⟨h.e0, h.e3, h.e4, h.e7, h.e11, h.e13, h.e14, h.eca⟩
theorem pX.build (h : pX Q nb nq nw nr ca sv rl) {y : Int32} (hn : nr < 3) (hy : (20 : Int32) ≤ y ∧ y ≤ 400) : pX Q nb nq nw (nr + 1) (upd ca nr y) (upd sv nr (-1)) rl := by
  refine ⟨h.e0, h.e3, h.e4, h.e7, h.e11, h.e13, fun w hw => ?_, fun r hr => ?_⟩
  · rcases h.e14 w hw with ⟨h1, h2, r, h3, h4, h5⟩ | h1
    · exact Or.inl ⟨h1, h2, r, by omega, h4, by rw [upd_ne (by omega)]; exact h5⟩
    · exact Or.inr h1
  · by_cases e : r = nr
    · subst e
      rw [upd_at]
      refine ⟨hy.1, hy.2, ?_⟩
      rw [gStill_0 (fun j hj e => ?_), upd_at]
      · exact Int32.le_trans (by decide) hy.1
      · rcases h.e14 j hj with ⟨-, h2, r9, h3, h4, -⟩ | ⟨-, h2⟩
        · rw [h2, h4] at e
          have := (nI_eq (by omega) (by omega)).mp e
          omega
        · rw [h2] at e
          exact gw_nIm1 (k := r) (by omega) e.symm
    · have h1 := h.eca r (by omega)
      have h2 : upd ca nr y r = ca r := upd_ne e
      rw [h2]
      refine ⟨h1.1, h1.2.1, ?_⟩
      show (0 : Int32) ≤ upd ca nr y r - _
      rw [h2]
      exact h1.2.2
theorem pX_min {x z : Int32} (hx : (0 : Int32) ≤ x ∧ x ≤ 200) (hz : (1 : Int32) ≤ z ∧ z ≤ 6) : (0 : Int32) ≤ (if x + z / 2 < 200 then x + z / 2 else 200) ∧ (if x + z / 2 < 200 then x + z / 2 else 200) ≤ (200 : Int32) := by
  have t : ∀ a, a ≤ 200 → ∀ b, b ≤ 6 → (0 : Int32) ≤ (if nI a + nI b / 2 < 200 then nI a + nI b / 2 else 200) ∧ (if nI a + nI b / 2 < 200 then nI a + nI b / 2 else 200) ≤ (200 : Int32) := by decide +kernel
  obtain ⟨a, ha, rfl⟩ := gI_of (n := 200) (by decide) hx
  obtain ⟨b, hb, rfl⟩ := gI_of (n := 6) (by decide) ⟨Int32.le_trans (by decide) hz.1, hz.2⟩
  exact t a ha b hb
theorem pX.smash (h : pX Q nb nq nw nr ca sv rl) {k b : Nat} (hk : k < nw) (hb : b < nb) (hs : Q 13 k < 2) : pX (gSmash Q k b) nb nq nw nr ca sv rl := by
  refine ⟨h.e0, fun b9 hb9 => ?_, h.e4, h.e7, h.e11, fun w hw => ?_, fun w hw => ?_, h.eca⟩
  · show (0 : Int32) ≤ upd (Q 3) b _ b9 ∧ upd (Q 3) b _ b9 ≤ 200
    by_cases e : b9 = b
    · subst e; rw [upd_at]; exact pX_min (h.e3 b9 hb9) (h.e11 k hk)
    · rw [upd_ne e]; exact h.e3 b9 hb9
  · show (0 : Int32) ≤ upd (Q 13) k 4 w ∧ upd (Q 13) k 4 w ≤ 4
    by_cases e : w = k
    · subst e; rw [upd_at]; decide
    · rw [upd_ne e]; exact h.e13 w hw
  · show (upd (Q 13) k 4 w = 2 ∧ Q 14 w = rl w ∧ _) ∨ (¬ upd (Q 13) k 4 w = 2 ∧ Q 14 w = -1)
    by_cases e : w = k
    · subst e
      rw [upd_at]
      refine Or.inr ⟨by decide, ?_⟩
      rcases h.e14 w hw with ⟨h1, -⟩ | ⟨-, h1⟩
      · rw [h1] at hs; exact absurd hs (by decide)
      · exact h1
    · rw [upd_ne e]; exact h.e14 w hw
theorem gM_lt {i : Nat} {F f : Nat → Int32} {j : Nat} (h : j < i) : gM i F f j = F j := gM_lo h
theorem pX.ship (h : pX Q nb nq nw nr ca sv rl) {r : Nat} (hr : r < nr) (hn : nr ≤ 3) (v : Int32) : pX (gShip Q r nw) nb nq nw nr ca (upd sv r v) rl := by
  have a13 : ∀ w, w < nw → gShip Q r nw 13 w = if Q 14 w = nI r then 3 else Q 13 w := fun w hw => gM_lo (F := fun j => if Q 14 j = nI r then 3 else Q 13 j) (f := Q 13) hw
  have a14 : ∀ w, w < nw → gShip Q r nw 14 w = if Q 14 w = nI r then (-1) else Q 14 w := fun w hw => gM_lo (F := fun j => if Q 14 j = nI r then (-1) else Q 14 j) (f := Q 14) hw
  refine ⟨h.e0, h.e3, h.e4, h.e7, h.e11, fun w hw => ?_, fun w hw => ?_, fun r9 hr9 => ?_⟩
  · rw [a13 w hw]
    split
    · decide
    · exact h.e13 w hw
  · rw [a13 w hw, a14 w hw]
    by_cases e : Q 14 w = nI r
    · rw [if_pos e, if_pos e]
      exact Or.inr ⟨by decide, rfl⟩
    · rw [if_neg e, if_neg e]
      rcases h.e14 w hw with ⟨h1, h2, r9, h3, h4, h5⟩ | h1
      · refine Or.inl ⟨h1, h2, r9, h3, h4, ?_⟩
        rw [upd_ne (fun e9 => e (by rw [h2, h4, e9])), h5]
      · exact Or.inr h1
  · refine ⟨(h.eca r9 hr9).1, (h.eca r9 hr9).2.1, ?_⟩
    by_cases e : r9 = r
    · rw [gStill_0 (fun j hj e9 => ?_)]
      · exact Int32.le_trans (by decide) (h.eca r9 hr9).1
      · rw [a14 j hj, e] at e9
        split at e9
        · exact gw_nIm1 (k := r) (by omega) e9.symm
        · rename_i h9; exact h9 e9
    · have h2 : gStill (gShip Q r nw) nw ca r9 = gStill Q nw ca r9 := by
        unfold gStill
        congr 1
        refine gS_congr nw 0 0 fun j _ hj => ?_
        have hj' : j < nw := by omega
        show (if gShip Q r nw 14 j = nI r9 then 2 * Q 11 j * Q 11 j else 0) = _
        rw [a14 j hj']
        by_cases e2 : Q 14 j = nI r
        · rw [if_pos e2, if_neg (fun e9 => gw_nIm1 (k := r9) (by omega) e9.symm), e2, if_neg (fun e9 => e ((nI_eq (by omega) (by omega)).mp e9).symm)]
        · rw [if_neg e2]
      rw [h2]
      exact (h.eca r9 hr9).2.2
theorem pX_sub {x y : Int32} (hy : (0 : Int32) ≤ y) (h : y ≤ x) : (0 : Int32) ≤ x - y := by
  obtain ⟨a, ha, rfl⟩ := nI_of (Int32.not_lt.mpr hy)
  obtain ⟨b, hb, rfl⟩ := nI_of (Int32.not_lt.mpr (Int32.le_trans hy h))
  rw [nI_leI ha hb] at h
  rw [nI_sub h]
  exact nI_pos' (by omega)
theorem pX_wt {z : Int32} (hz : (1 : Int32) ≤ z ∧ z ≤ 6) : (2 : Int32) ≤ 2 * z * z ∧ 2 * z * z ≤ 72 := by
  have t : ∀ b, b ≤ 6 → b = 0 ∨ ((2 : Int32) ≤ 2 * nI b * nI b ∧ 2 * nI b * nI b ≤ (72 : Int32)) := by decide +kernel
  obtain ⟨b, hb, rfl⟩ := gI_of (n := 6) (by decide) ⟨Int32.le_trans (by decide) hz.1, hz.2⟩
  rcases t b hb with e | e
  · subst e; exact absurd hz.1 (by decide)
  · exact e
theorem gStill_put {k r : Nat} (hk : k < nw) (h14 : Q 14 k = -1) (hr : r < 3) : gStill (gPut Q k r) nw ca r = gStill Q nw ca r - 2 * Q 11 k * Q 11 k := by
  have h1 : ∀ j, 0 ≤ j → j < 0 + nw → j ≠ k → (if gPut Q k r 14 j = nI r then 2 * gPut Q k r 11 j * gPut Q k r 11 j else 0) = (if Q 14 j = nI r then 2 * Q 11 j * Q 11 j else 0) := fun j _ _ e => by
    show (if upd (Q 14) k (nI r) j = nI r then 2 * Q 11 j * Q 11 j else 0) = _
    rw [upd_ne e]
  have h0 : (if Q 14 k = nI r then 2 * Q 11 k * Q 11 k else 0) = 0 := by
    rw [h14, if_neg (fun e => gw_nIm1 (k := r) (by omega) e.symm)]
  have h2 : (if gPut Q k r 14 k = nI r then 2 * gPut Q k r 11 k * gPut Q k r 11 k else 0) = 2 * Q 11 k * Q 11 k := by
    show (if upd (Q 14) k (nI r) k = nI r then 2 * Q 11 k * Q 11 k else 0) = _
    rw [upd_at, if_pos rfl]
  have hp := gS_pt (g' := fun j => if gPut Q k r 14 j = nI r then 2 * gPut Q k r 11 j * gPut Q k r 11 j else 0) (g := fun j => if Q 14 j = nI r then 2 * Q 11 j * Q 11 j else 0) (k := k) nw 0 0 (Nat.zero_le _) (by omega) h1 h0
  unfold gStill
  rw [hp]
  show ca r - (_ + (if gPut Q k r 14 k = nI r then 2 * gPut Q k r 11 k * gPut Q k r 11 k else 0)) = _
  rw [h2, Int32.sub_sub]
theorem pX.load (h : pX Q nb nq nw nr ca sv rl) {k r : Nat} (hk : k < nw) (hr : r < nr) (hn : nr ≤ 3) (hs : Q 13 k = 1) (ha : sv r = -1) (hw : 2 * Q 11 k * Q 11 k ≤ gStill Q nw ca r) : pX (gPut Q k r) nb nq nw nr ca sv (upd rl k (nI r)) := by
  have h14 : Q 14 k = -1 := by
    rcases h.e14 k hk with ⟨h1, -⟩ | ⟨-, h1⟩
    · rw [h1] at hs; exact absurd hs (by decide)
    · exact h1
  refine ⟨h.e0, h.e3, h.e4, h.e7, h.e11, fun w hw => ?_, fun w hw => ?_, fun r9 hr9 => ?_⟩
  · show (0 : Int32) ≤ upd (Q 13) k 2 w ∧ upd (Q 13) k 2 w ≤ 4
    by_cases e : w = k
    · subst e; rw [upd_at]; decide
    · rw [upd_ne e]; exact h.e13 w hw
  · show (upd (Q 13) k 2 w = 2 ∧ upd (Q 14) k (nI r) w = upd rl k (nI r) w ∧ ∃ r9, r9 < nr ∧ upd rl k (nI r) w = nI r9 ∧ sv r9 = -1) ∨ (¬ upd (Q 13) k 2 w = 2 ∧ upd (Q 14) k (nI r) w = -1)
    by_cases e : w = k
    · subst e
      rw [upd_at, upd_at, upd_at]
      exact Or.inl ⟨rfl, rfl, r, hr, rfl, ha⟩
    · rw [upd_ne e, upd_ne e, upd_ne e]; exact h.e14 w hw
  · refine ⟨(h.eca r9 hr9).1, (h.eca r9 hr9).2.1, ?_⟩
    by_cases e : r9 = r
    · subst e
      rw [gStill_put hk h14 (by omega)]
      exact pX_sub (Int32.le_trans (by decide) (pX_wt (h.e11 k hk)).1) hw
    · have h2 : gStill (gPut Q k r) nw ca r9 = gStill Q nw ca r9 := by
        unfold gStill
        congr 1
        refine gS_congr nw 0 0 fun j _ hj => ?_
        show (if upd (Q 14) k (nI r) j = nI r9 then 2 * Q 11 j * Q 11 j else 0) = _
        by_cases e2 : j = k
        · subst e2
          rw [upd_at, h14, if_neg (fun e9 => e ((nI_eq (by omega) (by omega)).mp e9).symm), if_neg (fun e9 => gw_nIm1 (k := r9) (by omega) e9.symm)]
        · rw [upd_ne e2]
      rw [h2]
      exact (h.eca r9 hr9).2.2
end
/-- what a call by hand does to the wheels and the coins -/
def aChk (Q : Nat → Nat → Int32) (nw : Nat) (co : Int32) (Q' : Nat → Nat → Int32) (co' : Int32) : Prop :=
  (∀ k, k < nw → Q' 9 k = Q 9 k ∧ Q' 11 k = Q 11 k ∧ (Q' 13 k = Q 13 k ∨ (Q' 13 k = 4 ∧ (Q 13 k = 0 ∨ Q 13 k = 1)) ∨ (Q' 13 k = 3 ∧ Q 13 k = 2) ∨ (Q' 13 k = 2 ∧ Q 13 k = 1))) ∧
  co' = co + gS (fun k => if Q' 13 k = Q 13 k then 0 else if Q' 13 k = 3 then gWorth (Q 11 k) (Q 10 k) (Q 13 k) (Q 12 k) else 0) nw 0 0
theorem aChk_same {Q Q' : Nat → Nat → Int32} {nw : Nat} {co : Int32} (h9 : Q' 9 = Q 9) (h11 : Q' 11 = Q 11) (h13 : Q' 13 = Q 13) : aChk Q nw co Q' co := by
  refine ⟨fun k _ => ⟨by rw [h9], by rw [h11], Or.inl (by rw [h13])⟩, ?_⟩
  rw [gS_zero nw 0 0 (fun j _ _ => by rw [h13, if_pos rfl]), Int32.add_zero]
theorem aChk_smash {Q : Nat → Nat → Int32} {nw k b : Nat} {co : Int32} (hk : k < nw) (h : Q 13 k = 0 ∨ Q 13 k = 1) : aChk Q nw co (gSmash Q k b) co := by
  have a : ∀ j, gSmash Q k b 13 j = upd (Q 13) k 4 j := fun _ => rfl
  refine ⟨fun j _ => ⟨rfl, rfl, ?_⟩, ?_⟩
  · rw [a]
    by_cases e : j = k
    · subst e; rw [upd_at]; exact Or.inr (Or.inl ⟨rfl, h⟩)
    · rw [upd_ne e]; exact Or.inl rfl
  · rw [gS_zero nw 0 0 (fun j _ _ => ?_), Int32.add_zero]
    rw [a]
    by_cases e : j = k
    · subst e; rw [upd_at]
      split
      · rfl
      · rw [if_neg (by decide)]
    · rw [upd_ne e, if_pos rfl]
theorem aChk_load {Q : Nat → Nat → Int32} {nw k r : Nat} {co : Int32} (h : Q 13 k = 1) : aChk Q nw co (gPut Q k r) co := by
  have a : ∀ j, gPut Q k r 13 j = upd (Q 13) k 2 j := fun _ => rfl
  refine ⟨fun j _ => ⟨rfl, rfl, ?_⟩, ?_⟩
  · rw [a]
    by_cases e : j = k
    · subst e; rw [upd_at]; exact Or.inr (Or.inr (Or.inr ⟨rfl, h⟩))
    · rw [upd_ne e]; exact Or.inl rfl
  · rw [gS_zero nw 0 0 (fun j _ _ => ?_), Int32.add_zero]
    rw [a]
    by_cases e : j = k
    · subst e; rw [upd_at]
      split
      · rfl
      · rw [if_neg (by decide)]
    · rw [upd_ne e, if_pos rfl]
theorem aChk_ship {Q : Nat → Nat → Int32} {nb nq nw nr r : Nat} {ca sv rl : Nat → Int32} {co : Int32} (h : pX Q nb nq nw nr ca sv rl) (hr : r < 3) : aChk Q nw co (gShip Q r nw) (co + gS (fun j => if Q 14 j = nI r then gWorth (Q 11 j) (Q 10 j) (Q 13 j) (Q 12 j) else 0) nw 0 0) := by
  have a13 : ∀ w, w < nw → gShip Q r nw 13 w = if Q 14 w = nI r then 3 else Q 13 w := fun w hw => gM_lo (F := fun j => if Q 14 j = nI r then 3 else Q 13 j) (f := Q 13) hw
  have a2 : ∀ w, w < nw → Q 14 w = nI r → Q 13 w = 2 := fun w hw e => by
    rcases h.e14 w hw with ⟨h1, -⟩ | ⟨-, h1⟩
    · exact h1
    · rw [h1] at e; exact absurd e.symm (gw_nIm1 (by omega))
  refine ⟨fun j hj => ⟨rfl, rfl, ?_⟩, ?_⟩
  · rw [a13 j hj]
    by_cases e : Q 14 j = nI r
    · rw [if_pos e]; exact Or.inr (Or.inr (Or.inl ⟨rfl, a2 j hj e⟩))
    · rw [if_neg e]; exact Or.inl rfl
  · congr 1
    refine gS_congr nw 0 0 fun j _ hj => ?_
    have hj' : j < nw := by omega
    rw [a13 j hj']
    by_cases e : Q 14 j = nI r
    · rw [if_pos e, if_pos e, a2 j hj' e, if_neg (by decide), if_pos rfl]
    · rw [if_neg e, if_neg e, if_pos rfl]
