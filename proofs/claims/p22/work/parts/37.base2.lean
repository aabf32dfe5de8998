/-! As gw_upd, for large worlds: by a plan, a place each (which of the callee's cells stands there, or none). -/
def gw_pl : va_W → va_W → List (Option Nat) → va_W
  | x :: xs, w1, some j :: ps => w1.getD j x :: gw_pl xs w1 ps
  | x :: xs, w1, none :: ps => x :: gw_pl xs w1 ps
  | _, _, _ => []
def gw_okp (is : List Nat) : Nat → List (Option Nat) → Bool
  | _, [] => true
  | k, some j :: ps => (is[j]? == some k) && gw_okp is (k + 1) ps
  | k, none :: ps => (!is.contains k) && gw_okp is (k + 1) ps
theorem gw_pl_at (is : List Nat) (w1 : va_W) (hlen : is.length = w1.length) : ∀ (pl : List (Option Nat)) (ws : va_W) (o k : Nat) (q : Nat × va_E), gw_okp is o pl = true → (gw_pl ws w1 pl)[k]? = some q → (∃ j : Nat, is[j]? = some (o + k) ∧ w1[j]? = some q) ∨ (ws[k]? = some q ∧ ¬ (o + k) ∈ is) := by
  intro pl
  induction pl with
  | nil =>
    intro ws o k q _ h
    cases ws <;> simp [gw_pl] at h
  | cons p ps ih =>
    intro ws o k q hok h
    cases ws with
    | nil => cases p <;> simp [gw_pl] at h
    | cons x xs =>
      cases p with
      | none =>
        simp only [gw_okp, Bool.and_eq_true] at hok
        simp only [gw_pl] at h
        cases k with
        | zero =>
          simp at h
          refine Or.inr ⟨by simp [h], ?_⟩
          have := hok.1
          simpa using this
        | succ k =>
          simp at h
          rcases ih xs (o + 1) k q hok.2 h with ⟨j, h1, h2⟩ | ⟨h1, h2⟩
          · exact Or.inl ⟨j, by rw [h1]; congr 1; omega, h2⟩
          · exact Or.inr ⟨by simpa using h1, by rw [show o + (k + 1) = o + 1 + k by omega]; exact h2⟩
      | some j =>
        simp only [gw_okp, Bool.and_eq_true] at hok
        simp only [gw_pl] at h
        cases k with
        | zero =>
          simp at h
          have h1 : is[j]? = some o := by simpa using hok.1
          have hj : j < w1.length := by
            have := (List.getElem?_eq_some_iff.mp h1).1
            omega
          refine Or.inl ⟨j, by simpa using h1, ?_⟩
          rw [← h, List.getElem?_eq_getElem hj]
          simp
        | succ k =>
          simp at h
          rcases ih xs (o + 1) k q hok.2 h with ⟨j, h1, h2⟩ | ⟨h1, h2⟩
          · exact Or.inl ⟨j, by rw [h1]; congr 1; omega, h2⟩
          · exact Or.inr ⟨by simpa using h1, by rw [show o + (k + 1) = o + 1 + k by omega]; exact h2⟩
theorem gw_upd2 {A0 : Nat → Prop} {D : va_G} {cl : List vw_C} {ws wc w1 ws' : va_W} {H H1 : Heap} (hP : va_P D cl ws H) (hD : va_D A0 ws) (is : List Nat) (hC : is.map (fun i => ws[i]?) = wc.map some) (hL : gL w1 = gL wc)
    (hk : ∀ q : Nat, q < H.size → ¬ gA (gL wc) q → H1[q]? = H[q]?) (hP1 : va_P D cl w1 H1) (pl : List (Option Nat)) (hok : gw_okp is 0 pl = true) (hw : gw_pl ws w1 pl = ws') : va_P D cl ws' H1 ∧ va_D A0 ws' := by
  subst hw
  have hlen : w1.length = wc.length := by
    have := congrArg List.length hL
    simpa [gL] using this
  have hlen2 : is.length = wc.length := by
    have := congrArg List.length hC
    simpa using this
  have hat : ∀ (j k : Nat) (q : Nat × va_E), is[j]? = some k → w1[j]? = some q → ∃ e, ws[k]? = some (q.1, e) := by
    intro j k q h1 h2
    have h3 : (is.map (fun i => ws[i]?))[j]? = (wc.map some)[j]? := by rw [hC]
    rw [List.getElem?_map, List.getElem?_map, h1] at h3
    have h4 : (gL w1)[j]? = (gL wc)[j]? := by rw [hL]
    simp only [gL, List.getElem?_map, h2] at h4
    cases hc : wc[j]? with
    | none => rw [hc] at h4; simp at h4
    | some x =>
      rw [hc] at h3 h4
      simp at h3 h4
      exact ⟨x.2, by rw [h3, h4]⟩
  have hmem : ∀ (z : Nat), z ∈ gL wc → ∃ (k : Nat) (e : va_E), k ∈ is ∧ ws[k]? = some (z, e) := by
    intro z hz
    obtain ⟨x, hx, rfl⟩ := List.mem_map.mp hz
    obtain ⟨j, hj⟩ := List.getElem?_of_mem hx
    have h3 : (is.map (fun i => ws[i]?))[j]? = (wc.map some)[j]? := by rw [hC]
    rw [List.getElem?_map, List.getElem?_map, hj] at h3
    cases hi : is[j]? with
    | none => rw [hi] at h3; simp at h3
    | some k =>
      rw [hi] at h3
      simp at h3
      exact ⟨k, x.2, List.mem_of_getElem? hi, h3⟩
  have key : ∀ (k : Nat) (q : Nat × va_E), (gw_pl ws w1 pl)[k]? = some q → (∃ j : Nat, is[j]? = some k ∧ w1[j]? = some q) ∨ (ws[k]? = some q ∧ ¬ k ∈ is) := fun k q h => by
    have := gw_pl_at is w1 (by omega) pl ws 0 k q hok h
    rw [Nat.zero_add] at this
    exact this
  have adr : ∀ (k : Nat) (q : Nat × va_E), (gw_pl ws w1 pl)[k]? = some q → ∃ e, ws[k]? = some (q.1, e) := fun k q h => by
    rcases key k q h with ⟨j, h1, h2⟩ | ⟨h1, -⟩
    · exact hat j k q h1 h2
    · exact ⟨q.2, h1⟩
  refine ⟨fun k q hq => ?_, ⟨fun i j x y hx hy hxy => ?_, fun k q hq => ?_⟩⟩
  · rcases key k q hq with ⟨j, h1, h2⟩ | ⟨h1, h2⟩
    · exact hP1 j q h2
    · refine (hP k q h1).kept (hk q.1 (hP k q h1).lt fun hz => ?_)
      obtain ⟨k2, e, g1, g2⟩ := hmem q.1 hz
      have : k = k2 := hD.1 k k2 q (q.1, e) h1 g2 rfl
      subst this
      exact h2 g1
  · obtain ⟨e1, b1⟩ := adr i x hx
    obtain ⟨e2, b2⟩ := adr j y hy
    exact hD.1 i j _ _ b1 b2 hxy
  · obtain ⟨e, b⟩ := adr k q hq
    exact hD.2 k (q.1, e) b
