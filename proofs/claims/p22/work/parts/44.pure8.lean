/-! The share is a number. -/
theorem gS_01 {g : Nat → Int32} (h : ∀ j, g j = 0 ∨ g j = 1) : ∀ (k i a : Nat), ∃ b, b ≤ a + k ∧ gS g k i (nI a) = nI b := by
  intro k
  induction k with
  | zero => intro i a; exact ⟨a, Nat.le_refl _, rfl⟩
  | succ k ih =>
    intro i a
    unfold gS
    rcases h i with e | e
    · rw [e, Int32.add_zero]
      obtain ⟨b, hb, e2⟩ := ih (i + 1) a
      exact ⟨b, by omega, e2⟩
    · rw [e, nI_1]
      obtain ⟨b, hb, e2⟩ := ih (i + 1) (a + 1)
      exact ⟨b, by omega, e2⟩
def gNn (s n : Nat) : Bool := decide (FP.ddiv (FP.i2d (nI s)) (FP.i2d (nI n)) &&& 0x7fffffffffffffff ≤ 0x7ff0000000000000)
theorem gNn_all : ∀ n, n < 61 → n = 0 ∨ ∀ s, s < 61 → gNn s n = true := by decide +kernel
theorem gShare_nn {Q : Nat → Nat → Int32} {nw : Nat} (hnw : nw ≤ 60) (h0 : ¬ nw = 0) : vf_n64 (FP.ddiv (FP.i2d (gS (fun j => if Q 12 j = 0 then 1 else 0) nw 0 0)) (FP.i2d (nI nw))) := by
  obtain ⟨b, hb, e⟩ := gS_01 (g := fun j => if Q 12 j = 0 then 1 else 0) (fun j => by by_cases c : Q 12 j = 0; exact Or.inr (if_pos c); exact Or.inl (if_neg c)) nw 0 0
  have e : gS (fun j => if Q 12 j = 0 then 1 else 0) nw 0 0 = nI b := e
  rw [e]
  have h := ((gNn_all nw (by omega)).resolve_left h0) b (by omega)
  unfold gNn at h
  have h2 := of_decide_eq_true h
  exact h2
