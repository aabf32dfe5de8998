/-! Pure words for Sim.isSame. -/
def sS (Q : Nat → Nat → Int32) (j : Nat) : Int32 := if Q 12 j = 0 then 1 else 0
def sB (Q : Nat → Nat → Int32) (b j : Nat) : Int32 := if Q 9 j = nI b then (if Q 12 j = 0 then 1 else 0) else 0
def sU (Q : Nat → Nat → Int32) (r j : Nat) : Int32 := if Q 14 j = nI r then 1 else 0
theorem ss_on {Q : Nat → Nat → Int32} {nb nq nw nr i : Nat} {ca sv rl : Nat → Int32} (h : pX Q nb nq nw nr ca sv rl) (hi : i < nw) (u : Q 13 i = 2) : ∃ r, r < nr ∧ Q 14 i = nI r ∧ rl i = nI r := by
  rcases h.e14 i hi with ⟨-, h1, r, h2, h3, -⟩ | ⟨h1, -⟩
  · exact ⟨r, h2, by rw [h1, h3], h3⟩
  · exact absurd u h1
theorem ss_off {Q : Nat → Nat → Int32} {nb nq nw nr i : Nat} {ca sv rl : Nat → Int32} (h : pX Q nb nq nw nr ca sv rl) (hi : i < nw) (u : ¬ Q 13 i = 2) : Q 14 i = -1 := by
  rcases h.e14 i hi with ⟨h1, -⟩ | ⟨-, h1⟩
  · exact absurd h1 u
  · exact h1
theorem ss_S {Q : Nat → Nat → Int32} {k i nw : Nat} {acc : Int32} (h : gS (sS Q) (k + 1) i acc = gS (sS Q) nw 0 0) : gS (sS Q) k (i + 1) (acc + (if Q 12 i = 0 then 1 else 0)) = gS (sS Q) nw 0 0 := h
theorem ss_B {Q : Nat → Nat → Int32} {k i nw b : Nat} {f : Nat → Int32} (hb9 : Q 9 i = nI b) (hb : b < 5) (h : ∀ b, b < 5 → gS (sB Q b) (k + 1) i (f b) = gS (sB Q b) nw 0 0) : ∀ b9, b9 < 5 → gS (sB Q b9) k (i + 1) (upd f b (f b + (if Q 12 i = 0 then 1 else 0)) b9) = gS (sB Q b9) nw 0 0 := by
  intro b9 h9
  have h1 : gS (sB Q b9) k (i + 1) (f b9 + sB Q b9 i) = gS (sB Q b9) nw 0 0 := h b9 h9
  rw [← h1]
  congr 1
  by_cases e : b9 = b
  · subst e
    rw [upd_at]
    unfold sB
    rw [if_pos hb9]
  · rw [upd_ne e]
    unfold sB
    rw [hb9, if_neg (fun e9 => e ((nI_eq (by omega) (by omega)).mp e9).symm), Int32.add_zero]
theorem ss_U {Q : Nat → Nat → Int32} {k i nw : Nat} {f g : Nat → Int32} (hg : ∀ r, r < 3 → g r = f r + sU Q r i) (h : ∀ r, r < 3 → gS (sU Q r) (k + 1) i (f r) = gS (sU Q r) nw 0 0) : ∀ r, r < 3 → gS (sU Q r) k (i + 1) (g r) = gS (sU Q r) nw 0 0 := by
  intro r hr
  rw [hg r hr]
  exact h r hr
theorem ss_U0 {Q : Nat → Nat → Int32} {i : Nat} {f : Nat → Int32} (h : Q 14 i = -1) : ∀ r, r < 3 → f r = f r + sU Q r i := by
  intro r hr
  unfold sU
  rw [h, if_neg (fun e => gw_nIm1 (k := r) (by omega) e.symm), Int32.add_zero]
theorem ss_U1 {Q : Nat → Nat → Int32} {i r0 : Nat} {f : Nat → Int32} (hr0 : r0 < 3) (h : Q 14 i = nI r0) : ∀ r, r < 3 → upd f r0 (f r0 + 1) r = f r + sU Q r i := by
  intro r hr
  unfold sU
  by_cases e : r = r0
  · subst e; rw [upd_at, if_pos h]
  · rw [upd_ne e, h, if_neg (fun e9 => e ((nI_eq (by omega) (by omega)).mp e9).symm), Int32.add_zero]
theorem sn_6 {a0 a1 a2 a3 a4 a5 : Int32} : ∀ v, v < 6 → upd (upd (upd (upd (upd (upd (fun _ => 0) 0 a0) 1 a1) 2 a2) 3 a3) 4 a4) 5 a5 v = if v = 0 then a0 else if v = 1 then a1 else if v = 2 then a2 else if v = 3 then a3 else if v = 4 then a4 else a5 := by
  intro v hv
  rcases (show v = 0 ∨ v = 1 ∨ v = 2 ∨ v = 3 ∨ v = 4 ∨ v = 5 by omega) with rfl | rfl | rfl | rfl | rfl | rfl <;> rfl
theorem sn_5 {a0 a1 a2 a3 a4 : Int32} : ∀ v, v < 5 → upd (upd (upd (upd (upd (fun _ => 0) 0 a0) 1 a1) 2 a2) 3 a3) 4 a4 v = if v = 0 then a0 else if v = 1 then a1 else if v = 2 then a2 else if v = 3 then a3 else a4 := by
  intro v hv
  rcases (show v = 0 ∨ v = 1 ∨ v = 2 ∨ v = 3 ∨ v = 4 by omega) with rfl | rfl | rfl | rfl | rfl <;> rfl
theorem sn_4 {a0 a1 a2 a3 : Int32} : ∀ v, v < 4 → upd (upd (upd (upd (fun _ => 0) 0 a0) 1 a1) 2 a2) 3 a3 v = if v = 0 then a0 else if v = 1 then a1 else if v = 2 then a2 else a3 := by
  intro v hv
  rcases (show v = 0 ∨ v = 1 ∨ v = 2 ∨ v = 3 by omega) with rfl | rfl | rfl | rfl <;> rfl
theorem sn_10 {Q : Nat → Nat → Int32} {nq nw day : Nat} {co : Int32} : ∀ v, v < 10 → upd (upd (upd (upd (upd (upd (upd (upd (upd (upd (fun _ => 0) 0 (nI day)) 1 (Q 0 (day % 9))) 2 (if 3 ≤ Q 0 (day % 9) then 1 else 0)) 3 (nI nw)) 4 (gS (fun j => if Q 13 j = 0 then 1 else 0) nw 0 0)) 5 (gS (fun j => if Q 13 j = 1 then 1 else 0) nw 0 0)) 6 (gS (fun j => if Q 13 j = 2 then 1 else 0) nw 0 0)) 7 (gS (fun j => if Q 13 j = 3 then 1 else 0) nw 0 0)) 8 co) 9 (gS (Q 7) nq 0 0) v = gCntC Q nq nw day co v := by
  intro v hv
  rcases (show v = 0 ∨ v = 1 ∨ v = 2 ∨ v = 3 ∨ v = 4 ∨ v = 5 ∨ v = 6 ∨ v = 7 ∨ v = 8 ∨ v = 9 by omega) with rfl | rfl | rfl | rfl | rfl | rfl | rfl | rfl | rfl | rfl <;> rfl
/-- days till tired -/
def tdn (u g : Nat) : Nat := (60 - u + g) / (g + 1)
theorem tdn_t : ∀ u, u ≤ 100 → ∀ g, g ≤ 9 → g = 0 ∨ gTired 0 (nI u) (nI g) = nI (tdn u g) := by decide +kernel
theorem tdn_ok {u g d : Nat} (hg : 1 ≤ g ∧ g ≤ 9) (h : d = 0 ∨ u + (d - 1) * (g + 1) < 60) (h2 : 60 ≤ u + d * (g + 1)) : d = tdn u g := by
  unfold tdn
  obtain ⟨g1, g9⟩ := hg
  rcases (show g = 1 ∨ g = 2 ∨ g = 3 ∨ g = 4 ∨ g = 5 ∨ g = 6 ∨ g = 7 ∨ g = 8 ∨ g = 9 by omega) with rfl | rfl | rfl | rfl | rfl | rfl | rfl | rfl | rfl <;> omega
theorem ss_T {Q : Nat → Nat → Int32} {i b u g d : Nat} (h6 : Q 6 i = nI b) (hb : b < 2 ^ 31) (hu : Q 7 i = nI u) (hu2 : u ≤ 100) (hg : Q 1 b = nI g) (hg2 : 1 ≤ g ∧ g ≤ 9) (h : d = 0 ∨ u + (d - 1) * (g + 1) < 60) (h2 : 60 ≤ u + d * (g + 1)) : gTired (Q 6 i) (Q 7 i) (Q 1 (Q 6 i).toNatClampNeg) = nI d := by
  have e1 : gTired (Q 6 i) (nI u) (nI g) = gTired 0 (nI u) (nI g) := by
    unfold gTired
    rw [if_neg (by rw [h6]; exact gw_nIm1 hb), if_neg (show ¬ (0 : Int32) = -1 by decide)]
  rw [tdn_ok hg2 h h2, ← ((tdn_t u hu2 g hg2.2).resolve_left (by omega)), ← e1, h6, nI_clamp hb, hu, hg]
theorem ss_T0 {Q : Nat → Nat → Int32} {i : Nat} (h : Q 6 i = -1) : gTired (Q 6 i) (Q 7 i) (Q 1 (Q 6 i).toNatClampNeg) = -1 := by
  unfold gTired
  rw [if_pos h]
def gDc (s n : Nat) : Bool := decide (Op.cmpValue (FP.dcmp (FP.ddiv (FP.i2d (nI s)) (FP.i2d (nI n))) (FP.ddiv (FP.i2d (nI s)) (FP.i2d (nI n)))) .l = 0)
theorem gDc_all : ∀ n, n < 61 → n = 0 ∨ ∀ s, s < 61 → gDc s n = true := by decide +kernel
theorem ss_dc {Q : Nat → Nat → Int32} {nw : Nat} (hnw : nw ≤ 60) (h0 : ¬ nw = 0) : Op.cmpValue (FP.dcmp (gShare Q nw) (FP.ddiv (FP.i2d (gS (sS Q) nw 0 0)) (FP.i2d (nI nw)))) .l = 0 := by
  obtain ⟨b, hb, e⟩ := gS_01 (g := sS Q) (fun j => by unfold sS; by_cases c : Q 12 j = 0; exact Or.inr (if_pos c); exact Or.inl (if_neg c)) nw 0 0
  have e : gS (sS Q) nw 0 0 = nI b := e
  have e2 : gShare Q nw = FP.ddiv (FP.i2d (gS (sS Q) nw 0 0)) (FP.i2d (nI nw)) := by
    unfold gShare
    rw [if_neg h0]
    rfl
  rw [e2, e]
  exact of_decide_eq_true (((gDc_all nw (by omega)).resolve_left h0) b (by omega))
theorem ss_dc0 {Q : Nat → Nat → Int32} {nw : Nat} (h0 : nw = 0) : Op.cmpValue (FP.dcmp (gShare Q nw) 0) .l = 0 := by
  have e2 : gShare Q nw = 0 := by
    unfold gShare
    rw [if_pos h0]
  rw [e2]
  decide +kernel
