/-! What a day does, in the law's words. -/
/-- what a wheel of the bed b takes, whether it is of b -/
def dT (Q : Nat → Nat → Int32) (b w : Nat) : Int32 := if Q 9 w = nI b then Q 11 w else 0
def dN (Q : Nat → Nat → Int32) (b w : Nat) : Int32 := if Q 9 w = nI b then 1 else 0
/-- stone, without what is taken -/
def dSt (x y : Int32) : Int32 := if 0 < x - y then x - y else 0
theorem gS_app (g : Nat → Int32) : ∀ (n m i : Nat) (acc : Int32), gS g (n + m) i acc = gS g m (i + n) (gS g n i acc)
  | 0, m, i, acc => by rw [Nat.zero_add]; rfl
  | n + 1, m, i, acc => by
    rw [show n + 1 + m = (n + m) + 1 by omega]
    show gS g (n + m) (i + 1) (acc + g i) = gS g m (i + (n + 1)) (gS g n (i + 1) (acc + g i))
    rw [gS_app g n m (i + 1), show i + 1 + n = i + (n + 1) by omega]
theorem gS_last (g : Nat → Int32) (n i : Nat) (acc : Int32) : gS g (n + 1) i acc = gS g n i acc + g (i + n) := by
  rw [gS_app g n 1 i acc]
  rfl
/-- sums of small numbers -/
theorem gS_sm {g : Nat → Int32} {M : Nat} : ∀ (k i a : Nat), a + k * M < 2 ^ 31 → (∀ j, i ≤ j → j < i + k → ∃ x, x ≤ M ∧ g j = nI x) → ∃ y, a ≤ y ∧ y ≤ a + k * M ∧ gS g k i (nI a) = nI y
  | 0, i, a, _, _ => ⟨a, Nat.le_refl _, by omega, rfl⟩
  | k + 1, i, a, ha, h => by
    obtain ⟨x, hx, e⟩ := h i (Nat.le_refl _) (by omega)
    have hm : (k + 1) * M = k * M + M := Nat.succ_mul k M
    obtain ⟨y, h1, h2, h3⟩ := gS_sm (g := g) k (i + 1) (a + x) (by omega) (fun j a b => h j (by omega) (by omega))
    refine ⟨y, by omega, by omega, ?_⟩
    show gS g k (i + 1) (nI a + g i) = nI y
    rw [e, nI_add, h3]
theorem dSt_t (X Y Z : Nat) (hX : X ≤ 200) (hY : Y ≤ 400) (hZ : Z ≤ 6) : dSt (dSt (nI X) (nI Y)) (nI Z) = dSt (nI X) (nI (Y + Z)) := by
  have key : ∀ x y : Nat, x ≤ 200 → y ≤ 500 → dSt (nI x) (nI y) = nI (x - y) := by
    intro x y hx hy
    unfold dSt
    by_cases h : y < x
    · rw [nI_sub (by omega), if_pos (show (0 : Int32) < nI (x - y) from nI_lt (a := 0) (by omega) (by omega))]
    · by_cases e : y = x
      · subst e
        rw [nI_sub (Nat.le_refl _), Nat.sub_self]
        rfl
      · have hn : ¬ (0 : Int32) < nI x - nI y := by
          have h1 : nI x - nI y = - nI (y - x) := by
            rw [← nI_sub (show x ≤ y by omega), Int32.neg_sub]
          rw [h1, Int32.lt_iff_toInt_lt, Int32.toInt_neg, nI_toInt (by omega)]
          have h0 : (0 : Int32).toInt = 0 := by decide
          rw [h0]
          intro h2
          rw [Int.bmod_eq_of_le (by omega) (by omega)] at h2
          omega
        rw [if_neg hn, show x - y = 0 by omega]
        rfl
  rw [key X Y hX (by omega), key _ Z (by omega) (by omega), key X (Y + Z) hX (by omega)]
  congr 1
  omega
/-- behind some of a day's quarriers -/
def dC (Q : Nat → Nat → Int32) (nb nq nw : Nat) (Qi : Nat → Nat → Int32) (nwi : Nat) : Prop :=
  nw ≤ nwi ∧ nwi ≤ 60 ∧ (∀ j, (j = 0 ∨ j = 1 ∨ j = 2 ∨ j = 5 ∨ j = 6) → Qi j = Q j) ∧
  (∀ w, w < nw → Qi 9 w = Q 9 w ∧ Qi 10 w = Q 10 w ∧ Qi 11 w = Q 11 w ∧ Qi 12 w = Q 12 w ∧ Qi 13 w = Q 13 w ∧ Qi 14 w = Q 14 w) ∧
  (∀ w, nw ≤ w → w < nwi → Qi 13 w = 0 ∧ Qi 14 w = -1 ∧ ((1 : Int32) ≤ Qi 11 w ∧ Qi 11 w ≤ 6) ∧ (Qi 12 w = 0 ∨ Qi 12 w = 1) ∧ ∃ b, b < nb ∧ Qi 9 w = nI b ∧ Qi 10 w = Q 1 b ∧ ∃ q, q < nq ∧ Q 6 q = nI b) ∧
  (∀ b, b < nb → Qi 3 b = dSt (Q 3 b) (gS (dT Qi b) (nwi - nw) nw 0) ∧ Qi 4 b = Q 4 b + gS (dN Qi b) (nwi - nw) nw 0) ∧
  (∀ b, nb ≤ b → Qi 4 b = Q 4 b)
section
variable {Q Qi : Nat → Nat → Int32} {nb nq nw nwi day : Nat}
theorem dC.c1 (h : dC Q nb nq nw Qi nwi) : nw ≤ nwi := h.1
theorem dC.c2 (h : dC Q nb nq nw Qi nwi) : nwi ≤ 60 := h.2.1
theorem dC.c3 (h : dC Q nb nq nw Qi nwi) : ∀ j, (j = 0 ∨ j = 1 ∨ j = 2 ∨ j = 5 ∨ j = 6) → Qi j = Q j := h.2.2.1
theorem dC.c4 (h : dC Q nb nq nw Qi nwi) : ∀ w, w < nw → Qi 9 w = Q 9 w ∧ Qi 10 w = Q 10 w ∧ Qi 11 w = Q 11 w ∧ Qi 12 w = Q 12 w ∧ Qi 13 w = Q 13 w ∧ Qi 14 w = Q 14 w := h.2.2.2.1
theorem dC.c5 (h : dC Q nb nq nw Qi nwi) : ∀ w, nw ≤ w → w < nwi → Qi 13 w = 0 ∧ Qi 14 w = -1 ∧ ((1 : Int32) ≤ Qi 11 w ∧ Qi 11 w ≤ 6) ∧ (Qi 12 w = 0 ∨ Qi 12 w = 1) ∧ ∃ b, b < nb ∧ Qi 9 w = nI b ∧ Qi 10 w = Q 1 b ∧ ∃ q, q < nq ∧ Q 6 q = nI b := h.2.2.2.2.1
theorem dC.c6 (h : dC Q nb nq nw Qi nwi) : ∀ b, b < nb → Qi 3 b = dSt (Q 3 b) (gS (dT Qi b) (nwi - nw) nw 0) ∧ Qi 4 b = Q 4 b + gS (dN Qi b) (nwi - nw) nw 0 := h.2.2.2.2.2.1
theorem dC.c7 (h : dC Q nb nq nw Qi nwi) : ∀ b, nb ≤ b → Qi 4 b = Q 4 b := h.2.2.2.2.2.2
theorem dSt_0 {x : Int32} (h : (0 : Int32) ≤ x) : dSt x 0 = x := by
  unfold dSt
  rw [Int32.sub_zero]
  split
  · rfl
  · rename_i h2
    exact Int32.le_antisymm h (Int32.not_lt.mp h2)
theorem dC_0 (hnw : nw ≤ 60) (h3 : ∀ b, b < nb → (0 : Int32) ≤ Q 3 b ∧ Q 3 b ≤ 200) : dC Q nb nq nw Q nw :=
  ⟨Nat.le_refl _, hnw, fun _ _ => rfl, fun _ _ => ⟨rfl, rfl, rfl, rfl, rfl, rfl⟩, fun w h1 h2 => absurd h1 (by omega), fun b hb => by
    rw [Nat.sub_self]
    exact ⟨(dSt_0 (h3 b hb).1).symm, (Int32.add_zero _).symm⟩, fun _ _ => rfl⟩
/-- rows that dust and work are kept in don't matter -/
theorem dC.ext {Q2 : Nat → Nat → Int32} (h : dC Q nb nq nw Qi nwi) (e : ∀ j, ¬ (j = 7 ∨ j = 8) → Q2 j = Qi j) : dC Q nb nq nw Q2 nwi := by
  have e9 := e 9 (by omega); have e10 := e 10 (by omega); have e11 := e 11 (by omega); have e12 := e 12 (by omega); have e13 := e 13 (by omega); have e14 := e 14 (by omega); have e3 := e 3 (by omega); have e4 := e 4 (by omega)
  have t1 : ∀ b, dT Q2 b = dT Qi b := fun b => by funext w; unfold dT; rw [e9, e11]
  have t2 : ∀ b, dN Q2 b = dN Qi b := fun b => by funext w; unfold dN; rw [e9]
  exact ⟨h.c1, h.c2, fun j hj => by rw [e j (by omega)]; exact h.c3 j hj, fun w hw => by rw [e9, e10, e11, e12, e13, e14]; exact h.c4 w hw, fun w h1 h2 => by rw [e9, e10, e11, e12, e13, e14]; exact h.c5 w h1 h2,
    fun b hb => by rw [e3, e4, t1, t2]; exact h.c6 b hb, fun b hb => by rw [e4]; exact h.c7 b hb⟩
theorem dT_in (h : dC Q nb nq nw Qi nwi) (b : Nat) : ∃ y, y ≤ (nwi - nw) * 6 ∧ gS (dT Qi b) (nwi - nw) nw 0 = nI y := by
  have h1 := h.c1
  have h2 := h.c2
  obtain ⟨y, -, h3, h4⟩ := gS_sm (g := dT Qi b) (M := 6) (nwi - nw) nw 0 (by omega) (fun j a b9 => by
    obtain ⟨-, -, h5, -⟩ := h.c5 j a (by omega)
    unfold dT
    split
    · exact gI_of (n := 6) (by decide) ⟨Int32.le_trans (by decide) h5.1, h5.2⟩
    · exact ⟨0, by omega, rfl⟩)
  exact ⟨y, by omega, h4⟩
theorem dC.cut (h : dC Q nb nq nw Qi nwi) (h3 : ∀ b, b < nb → (0 : Int32) ≤ Q 3 b ∧ Q 3 b ≤ 200) (h60 : nwi < 60) (hnb : nb ≤ 5) {q b : Nat} {sz : Int32} (hb : b < nb) (hq : ∃ q, q < nq ∧ Q 6 q = nI b) (hs : (1 : Int32) ≤ sz ∧ sz ≤ 6) : dC Q nb nq nw (gCutW Qi nwi q b sz) (nwi + 1) := by
  have c1 := h.c1
  have a9 : gCutW Qi nwi q b sz 9 = upd (Qi 9) nwi (nI b) := rfl
  have a10 : gCutW Qi nwi q b sz 10 = upd (Qi 10) nwi (Qi 1 b) := rfl
  have a11 : gCutW Qi nwi q b sz 11 = upd (Qi 11) nwi sz := rfl
  have a12 : gCutW Qi nwi q b sz 12 = upd (Qi 12) nwi (gCr Qi b sz) := rfl
  have a13 : gCutW Qi nwi q b sz 13 = upd (Qi 13) nwi 0 := rfl
  have a14 : gCutW Qi nwi q b sz 14 = upd (Qi 14) nwi (-1) := rfl
  have tl : ∀ b9 w, w < nwi → dT (gCutW Qi nwi q b sz) b9 w = dT Qi b9 w := fun b9 w hw => by
    unfold dT; rw [a9, a11, upd_ne (by omega), upd_ne (by omega)]
  have nl : ∀ b9 w, w < nwi → dN (gCutW Qi nwi q b sz) b9 w = dN Qi b9 w := fun b9 w hw => by
    unfold dN; rw [a9, upd_ne (by omega)]
  refine ⟨by omega, by omega, fun j hj => ?_, fun w hw => ?_, fun w h1 h2 => ?_, fun b9 hb9 => ?_, fun b9 hb9 => ?_⟩
  · rw [sp_cut (by omega)]; exact h.c3 j hj
  · rw [a9, a10, a11, a12, a13, a14, upd_ne (by omega), upd_ne (by omega), upd_ne (by omega), upd_ne (by omega), upd_ne (by omega), upd_ne (by omega)]
    exact h.c4 w hw
  · rw [a9, a10, a11, a12, a13, a14]
    by_cases e : w = nwi
    · subst e
      rw [upd_at, upd_at, upd_at, upd_at, upd_at, upd_at]
      refine ⟨rfl, rfl, hs, ?_, b, hb, rfl, by rw [h.c3 1 (by omega)], hq⟩
      unfold gCr
      split
      · exact Or.inr rfl
      · exact Or.inl rfl
    · rw [upd_ne e, upd_ne e, upd_ne e, upd_ne e, upd_ne e, upd_ne e]
      exact h.c5 w h1 (by omega)
  · have hT : gS (dT (gCutW Qi nwi q b sz) b9) (nwi + 1 - nw) nw 0 = gS (dT Qi b9) (nwi - nw) nw 0 + dT (gCutW Qi nwi q b sz) b9 nwi := by
      rw [show nwi + 1 - nw = (nwi - nw) + 1 by omega, gS_last, show nw + (nwi - nw) = nwi by omega]
      congr 1
      exact gS_congr _ _ _ (fun j x y => tl b9 j (by omega))
    have hN : gS (dN (gCutW Qi nwi q b sz) b9) (nwi + 1 - nw) nw 0 = gS (dN Qi b9) (nwi - nw) nw 0 + dN (gCutW Qi nwi q b sz) b9 nwi := by
      rw [show nwi + 1 - nw = (nwi - nw) + 1 by omega, gS_last, show nw + (nwi - nw) = nwi by omega]
      congr 1
      exact gS_congr _ _ _ (fun j x y => nl b9 j (by omega))
    rw [hT, hN]
    have e3 : gCutW Qi nwi q b sz 3 = upd (Qi 3) b (dSt (Qi 3 b) sz) := rfl
    have e4 : gCutW Qi nwi q b sz 4 = upd (Qi 4) b (Qi 4 b + 1) := rfl
    rw [e3, e4]
    by_cases e : b9 = b
    · subst e
      have eT : dT (gCutW Qi nwi q b9 sz) b9 nwi = sz := by
        unfold dT; rw [a9, a11, upd_at, upd_at, if_pos rfl]
      have eN : dN (gCutW Qi nwi q b9 sz) b9 nwi = 1 := by
        unfold dN; rw [a9, upd_at, if_pos rfl]
      rw [eT, eN, upd_at, upd_at, (h.c6 b9 hb9).1, (h.c6 b9 hb9).2]
      obtain ⟨X, hX, eX⟩ := gI_of (n := 200) (by decide) (h3 b9 hb9)
      obtain ⟨Y, hY, eY⟩ := dT_in h b9
      obtain ⟨Z, hZ, eZ⟩ := gI_of (n := 6) (by decide) ⟨Int32.le_trans (by decide) hs.1, hs.2⟩
      refine ⟨?_, by rw [Int32.add_assoc]⟩
      rw [eX, eY, eZ, nI_add]
      exact dSt_t X Y Z hX (by omega) hZ
    · have hne : ¬ nI b = nI b9 := fun e9 => e ((nI_eq (by omega) (by omega)).mp e9).symm
      have eT : dT (gCutW Qi nwi q b sz) b9 nwi = 0 := by
        unfold dT; rw [a9, upd_at, if_neg hne]
      have eN : dN (gCutW Qi nwi q b sz) b9 nwi = 0 := by
        unfold dN; rw [a9, upd_at, if_neg hne]
      rw [eT, eN, upd_ne e, upd_ne e, Int32.add_zero, Int32.add_zero]
      exact h.c6 b9 hb9
  · have e4 : gCutW Qi nwi q b sz 4 = upd (Qi 4) b (Qi 4 b + 1) := rfl
    rw [e4, upd_ne (by omega)]
    exact h.c7 b9 hb9
/-- a quarrier's wheels: what holds goes on, and how the work goes down -/
theorem dC.wk (h3 : ∀ b, b < nb → (0 : Int32) ≤ Q 3 b ∧ Q 3 b ≤ 200) (hnb : nb ≤ 5) {q b : Nat} {sz : Int32} (hb : b < nb) (hq : ∃ q, q < nq ∧ Q 6 q = nI b) (hs : (1 : Int32) ≤ sz ∧ sz ≤ 6) : ∀ (k : Nat) (Qi : Nat → Nat → Int32) (nwi : Nat), k + nwi = 60 → dC Q nb nq nw Qi nwi →
    dC Q nb nq nw (gWk q b sz k Qi nwi).1 (gWk q b sz k Qi nwi).2 ∧ (gWk q b sz k Qi nwi).1 7 = Qi 7 ∧ (∀ j, j ≠ q → (gWk q b sz k Qi nwi).1 8 j = Qi 8 j) ∧ ∃ m, m ≤ k ∧ Qi 8 q - (gWk q b sz k Qi nwi).1 8 q = nI (10 * m)
  | 0, Qi, nwi, hk, h => ⟨h, rfl, fun _ _ => rfl, 0, Nat.le_refl _, Int32.sub_self _⟩
  | k + 1, Qi, nwi, hk, h => by
    unfold gWk
    split
    · exact ⟨h, rfl, fun _ _ => rfl, 0, by omega, Int32.sub_self _⟩
    · split
      · exact ⟨h, rfl, fun _ _ => rfl, 0, by omega, Int32.sub_self _⟩
      · obtain ⟨h1, h2, h4, m, hm, h5⟩ := dC.wk h3 hnb hb hq hs k (gCutW Qi nwi q b sz) (nwi + 1) (by omega) (h.cut h3 (by omega) hnb hb hq hs)
        refine ⟨h1, h2, fun j hj => ?_, m + 1, by omega, ?_⟩
        · rw [h4 j hj]
          show upd (Qi 8) q _ j = _
          rw [upd_ne hj]
        · have e8 : gCutW Qi nwi q b sz 8 q = Qi 8 q - 10 := by
            show upd (Qi 8) q _ q = _
            rw [upd_at]
          rw [e8] at h5
          have e1 : nI (10 * (m + 1)) = nI (10 * m) + 10 := by
            rw [show 10 * (m + 1) = 10 * m + 10 by omega, ← nI_add]
            rfl
          rw [e1, ← h5, Int32.sub_eq_add_neg, Int32.sub_eq_add_neg, Int32.sub_eq_add_neg, Int32.add_assoc, Int32.add_assoc, Int32.add_comm (-10), Int32.add_assoc, Int32.add_comm 10, Int32.add_left_neg, Int32.add_zero]
end
