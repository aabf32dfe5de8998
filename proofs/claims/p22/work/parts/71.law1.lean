/-! What the law's checks ask. -/
def lS1 (Q : Nat → Nat → Int32) : Nat → Nat → Int32 := fun k v => gFact v (Q 9 k) (Q 11 k) (Q 10 k) (Q 13 k) (Q 12 k) (Q 14 k)
def lS2 (Q : Nat → Nat → Int32) (nq nw : Nat) : Nat → Nat → Int32 := fun k v => gBed Q nq nw v k
def lS3 (Q : Nat → Nat → Int32) : Nat → Nat → Int32 := fun k v => gQua Q v k
def lRa (day : Nat) (bo : Nat → Int32) : Nat → Int32 := fun r => if nI day < bo r then 1 else 0
theorem rAtP {D : va_G} {cl : List vw_C} {H : Heap} {A T C G L : va_W} {cI : ClassId} {r : Nat → Nat} {N M k : Nat} {F : Nat → Nat → Int32} (_ : va_P D cl (A ++ (((T ++ (gRw cI r N M F ++ C)) ++ G) ++ L)) H) (hk : k < N) : ∃ i : Nat, (A ++ (((T ++ (gRw cI r N M F ++ C)) ++ G) ++ L))[i]? = some (r k, .inl (cI, M, .inl (F k))) ∧ ∀ f : Nat → Int32, (A ++ (((T ++ (gRw cI r N M F ++ C)) ++ G) ++ L)).set i (r k, .inl (cI, M, .inl f)) = A ++ (((T ++ (gRw cI r N M (fun j => if j = k then f else F j) ++ C)) ++ G) ++ L) := rAt hk
theorem rRdP {D : va_G} {cl : List vw_C} {H : Heap} {A T C G L : va_W} {x : Nat × va_E} (_ : va_P D cl (A ++ (((T ++ C) ++ G) ++ L)) H) (h : x ∈ C) : ∃ i : Nat, (A ++ (((T ++ C) ++ G) ++ L))[i]? = some x := rRd h
theorem gS_next {g : Nat → Int32} {k i : Nat} {acc acc' T : Int32} (h : gS g (k + 1) i acc = T) (e : acc' = acc + g i) : gS g k (i + 1) acc' = T := by rw [e]; exact h
section
variable {Q Q2 : Nat → Nat → Int32} {nb nq nw nw2 nr day w b r : Nat} {acc : Int32} {ca bo sv rl : Nat → Int32}
theorem ld_e0 (hw : w < nw) (h : Q2 13 w = Q 13 w) : acc = acc + dDr Q Q2 nw w := by unfold dDr; rw [if_pos hw, if_pos h, Int32.add_zero]
theorem ld_e1 (hw : w < nw) (h : ¬ Q2 13 w = Q 13 w) : acc + 1 = acc + dDr Q Q2 nw w := by unfold dDr; rw [if_pos hw, if_neg h]
theorem ld_e2 (hw : ¬ w < nw) : acc + Q2 13 w = acc + dDr Q Q2 nw w := by unfold dDr; rw [if_neg hw]
def lWo (Q Q2 : Nat → Nat → Int32) (w : Nat) : Int32 := if Q2 13 w = Q 13 w then 0 else if Q2 13 w = 3 then gWorth (Q 11 w) (Q 10 w) (Q 13 w) (Q 12 w) else 0
theorem la_co {co co2 : Int32} (h : aChk Q nw co Q2 co2) : co2 = co + gS (lWo Q Q2) nw 0 0 := h.2
theorem la_e0 (h : Q2 13 w = Q 13 w) : acc = acc + lWo Q Q2 w := by unfold lWo; rw [if_pos h, Int32.add_zero]
theorem la_e1 {s s2 : Int32} (h2 : Q2 13 w = s2) (h : Q 13 w = s) (n : ¬ s2 = s) (n3 : ¬ s2 = 3) : acc + 0 = acc + lWo Q Q2 w := by unfold lWo; rw [h2, h, if_neg n, if_neg n3]
theorem la_e3 (h2 : Q2 13 w = 3) (h : Q 13 w = 2) : acc + gWorth (Q 11 w) (Q 10 w) (Q 13 w) (Q 12 w) = acc + lWo Q Q2 w := by unfold lWo; rw [h2, h, if_neg (by decide), if_pos rfl]
theorem lt_e1 (h : Q 9 w = nI b) : acc + Q 11 w = acc + dT Q b w := by unfold dT; rw [if_pos h]
theorem lt_e0 (h : ¬ Q 9 w = nI b) : acc = acc + dT Q b w := by unfold dT; rw [if_neg h, Int32.add_zero]
theorem ln_e1 (h : Q 9 w = nI b) : acc + 1 = acc + dN Q b w := by unfold dN; rw [if_pos h]
theorem ln_e0 (h : ¬ Q 9 w = nI b) : acc = acc + dN Q b w := by unfold dN; rw [if_neg h, Int32.add_zero]
def gWb (sz gr st : Int32) : Int32 := if st = 0 then sz * (10 - gr) else 3 * (sz * (10 - gr))
theorem lb_w1 {sz gr st : Int32} (h : st = 0) : sz * (10 - gr) * 1 = gWb sz gr st := by unfold gWb; rw [if_pos h, Int32.mul_one]
theorem lb_w3 {sz gr st : Int32} (h : ¬ st = 0) : sz * (10 - gr) * 3 = gWb sz gr st := by unfold gWb; rw [if_neg h, Int32.mul_comm]
theorem lb_w4 {sz gr st cr : Int32} (h : st = 4) : gWorth sz gr st cr = 0 := if_pos h
theorem lb_w5 {sz gr st cr : Int32} (h4 : ¬ st = 4) (h : ¬ gWorth sz gr st cr = gWb sz gr st) : gWorth sz gr st cr = gWb sz gr st / 5 := by
  by_cases c : cr = 0
  · exact absurd (by unfold gWorth gWb; rw [if_neg h4, if_pos c]) h
  · unfold gWorth gWb; rw [if_neg h4, if_neg c]
theorem ld_dr1 {x : Int32} (h : ¬ (if (3 : Int32) ≤ x then (1 : Int32) else 0) = 1) : gDr x = 0 := by
  by_cases c : (3 : Int32) ≤ x
  · rw [if_pos c] at h; exact absurd rfl h
  · exact if_neg c
theorem ld_dr2 {x : Int32} (h : (if (3 : Int32) ≤ x then (1 : Int32) else 0) = 1) : gDr x = x / 2 := by
  by_cases c : (3 : Int32) ≤ x
  · exact if_pos c
  · rw [if_neg c] at h; exact absurd h (by decide)
theorem lp_r0 {x y : Int32} (h : y = x) : (x + 0 - y) - (x + 0 - y) / 10 * 10 = 0 := by
  subst h; rw [Int32.add_zero, Int32.sub_self]; decide
theorem lp_r1 {x : Int32} {j : Nat} (hj : j ≤ 60) (h : x = nI (10 * j)) : x - x / 10 * 10 = 0 := by
  subst h
  have t : ∀ j, j ≤ 60 → nI (10 * j) - nI (10 * j) / 10 * 10 = (0 : Int32) := by decide +kernel
  exact t j hj
theorem lp_tt : ∀ a, a ≤ 100 → ∀ c, c ≤ 9 → c = 0 ∨ ((60 : Int32) ≤ nI a ∧ (if 60 - nI a ≤ 0 then 0 else if nI c + 1 ≤ 0 then 0 else ((60 - nI a) + (nI c + 1) - 1) / (nI c + 1)) = (0 : Int32)) ∨ (¬ (60 : Int32) ≤ nI a ∧ ¬ (if 60 - nI a ≤ 0 then 0 else if nI c + 1 ≤ 0 then 0 else ((60 - nI a) + (nI c + 1) - 1) / (nI c + 1)) = (0 : Int32)) := by decide +kernel
theorem lp_t {p : Nat} (h6 : Q 6 p = nI b) (hb : b < 5) (hd : (0 : Int32) ≤ Q 7 p ∧ Q 7 p ≤ 100) (hg : (1 : Int32) ≤ Q 1 b ∧ Q 1 b ≤ 9) : ((60 : Int32) ≤ Q 7 p ∧ gTired (Q 6 p) (Q 7 p) (Q 1 (Q 6 p).toNatClampNeg) = 0) ∨ (¬ (60 : Int32) ≤ Q 7 p ∧ ¬ gTired (Q 6 p) (Q 7 p) (Q 1 (Q 6 p).toNatClampNeg) = 0) := by
  have e1 : gTired (Q 6 p) (Q 7 p) (Q 1 (Q 6 p).toNatClampNeg) = (if 60 - Q 7 p ≤ 0 then 0 else if Q 1 b + 1 ≤ 0 then 0 else ((60 - Q 7 p) + (Q 1 b + 1) - 1) / (Q 1 b + 1)) := by
    unfold gTired
    rw [h6, if_neg (gw_nIm1 (by omega)), nI_clamp (by omega)]
  rw [e1]
  obtain ⟨a, ha, ea⟩ := gw_nat100 hd
  obtain ⟨c, hc, ec⟩ := gI_of (n := 9) (by decide) ⟨Int32.le_trans (by decide) hg.1, hg.2⟩
  rw [ea, ec]
  rcases lp_tt a ha c hc with h | h
  · rw [ec, h] at hg; exact absurd hg.1 (by decide)
  · exact h
theorem lr_1 (h : pX Q nb nq nw nr ca sv rl) (hnw : nw ≤ 60) (hr : r < nr) : gStill Q nw ca r ≤ ca r := by
  unfold gStill
  obtain ⟨y, hy, e⟩ := gS_in (g := fun j => if Q 14 j = nI r then 2 * Q 11 j * Q 11 j else 0) (M := 72) nw 0 0 (by omega) (fun j _ hj => by
    by_cases c : Q 14 j = nI r
    · have h1 := pX_wt (h.e11 j (by omega))
      obtain ⟨x, hx, e9⟩ := gI_of (n := 72) (by decide) ⟨Int32.le_trans (by decide) h1.1, h1.2⟩
      exact ⟨x, hx, by rw [if_pos c]; exact e9⟩
    · exact ⟨0, by omega, by rw [if_neg c]; rfl⟩)
  have e' : gS (fun j => if Q 14 j = nI r then 2 * Q 11 j * Q 11 j else 0) nw 0 0 = nI y := e
  rw [e']
  have h2 := h.eca r hr
  obtain ⟨c, hc, ec⟩ := gI_of (n := 400) (by decide) ⟨Int32.le_trans (by decide) h2.1, h2.2.1⟩
  rw [ec, Int32.le_iff_toInt_le, Int32.toInt_sub, nI_toInt (by omega), nI_toInt (by omega), Int.bmod_eq_of_le (by omega) (by omega)]
  omega
theorem lr_2 {i : Nat} (hI : gInv i Q nb nq nw day nr bo sv) (hX : pX Q nb nq nw nr ca sv rl) (hr : r < nr) (h : nI day < bo r) : gOn Q nw r = 0 := by
  have hnr := hI.hnr
  unfold gOn
  refine gS_zero nw 0 0 (fun j _ hj => if_neg (fun e => ?_))
  rcases hX.e14 j (by omega) with ⟨-, h2, r9, h3, h4, h5⟩ | ⟨-, h2⟩
  · rw [h2, h4] at e
    have e9 : r9 = r := (nI_eq (by omega) (by omega)).mp e
    subst e9
    exact (hI.away hr).mp h5 h
  · rw [h2] at e
    exact gw_nIm1 (k := r) (by omega) e.symm
theorem lr_3 (hd : day < 2 ^ 30) : (if nI (day + 1) < bo r then (1 : Int32) else 0) ≤ (if nI day < bo r then 1 else 0) := by
  by_cases c : nI (day + 1) < bo r
  · have h1 : nI day < nI (day + 1) := nI_lt (by omega) (by omega)
    have h2 : nI day < bo r := Int32.lt_trans h1 c
    rw [if_pos c, if_pos h2]
    exact Int32.le_refl _
  · rw [if_neg c]
    split
    · decide
    · exact Int32.le_refl _
theorem lr_a (h : (if nI day < bo r then (1 : Int32) else 0) = 1) : nI day < bo r := by
  by_cases c : nI day < bo r
  · exact c
  · rw [if_neg c] at h; exact absurd h (by decide)
end
