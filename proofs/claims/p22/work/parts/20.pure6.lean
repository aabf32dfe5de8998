/-! What calls by hand do, and the reference's rows behind them. -/
def gOpen (Q : Nat → Nat → Int32) (nb : Nat) (y1 y2 y3 : Int32) : Nat → Nat → Int32 := fun j => match j with
  | 1 => upd (Q 1) nb y1
  | 2 => upd (Q 2) nb y2
  | 3 => upd (Q 3) nb y3
  | _ => Q j
theorem enR_open (Q : Nat → Nat → Int32) (nb : Nat) (y1 y2 y3 : Int32) : upd (upd (upd (enR Q) (4 * nb + 0) y1) (4 * nb + 1) y2) (4 * nb + 2) y3 = enR (gOpen Q nb y1 y2 y3) := by
  rw [enR_p Q nb 0 _ (by decide), enR_p _ nb 1 _ (by decide), enR_p _ nb 2 _ (by decide)]
  exact enR_ext rfl rfl rfl rfl
def gHire (Q : Nat → Nat → Int32) (nq : Nat) (y : Int32) : Nat → Nat → Int32 := fun j => match j with
  | 5 => upd (Q 5) nq y
  | 6 => upd (Q 6) nq (-1)
  | _ => Q j
theorem enP_hire (Q : Nat → Nat → Int32) (nq : Nat) (y : Int32) : upd (upd (enP Q) (4 * nq + 0) y) (4 * nq + 1) (-1) = enP (gHire Q nq y) := by
  rw [enP_p Q nq 0 _ (by decide), enP_p _ nq 1 _ (by decide)]
  exact enP_ext rfl rfl rfl rfl
def gSmash (Q : Nat → Nat → Int32) (k b : Nat) : Nat → Nat → Int32 := fun j => match j with
  | 3 => upd (Q 3) b (if Q 3 b + Q 11 k / 2 < 200 then Q 3 b + Q 11 k / 2 else 200)
  | 13 => upd (Q 13) k 4
  | _ => Q j
theorem enS_put (Q : Nat → Nat → Int32) (k r : Nat) : upd (upd (enS Q) (5 * k + 2) 2) (5 * k + 3) (nI r) = enS (gPut Q k r) := by
  rw [enS_p Q k 2 _ (by decide), enS_p _ k 3 _ (by decide)]
  exact enS_ext rfl rfl rfl rfl rfl
theorem gPut_car {Q : Nat → Nat → Int32} {nw k r : Nat} (h : ∀ w, w < nw → Q 14 w = -1 ∨ Q 13 w = 2) : ∀ w, w < nw → gPut Q k r 14 w = -1 ∨ gPut Q k r 13 w = 2 := fun w hw => by
  show upd (Q 14) k (nI r) w = -1 ∨ upd (Q 13) k 2 w = 2
  by_cases e : w = k
  · subst e; exact Or.inr upd_at
  · rw [upd_ne e, upd_ne e]; exact h w hw
def gShip (Q : Nat → Nat → Int32) (r i : Nat) : Nat → Nat → Int32 := fun j => match j with
  | 13 => gM i (fun j => if Q 14 j = nI r then 3 else Q 13 j) (Q 13)
  | 14 => gM i (fun j => if Q 14 j = nI r then (-1) else Q 14 j) (Q 14)
  | _ => Q j
theorem enS_ship {Q : Nat → Nat → Int32} {r i : Nat} (h : Q 14 i = nI r) : upd (upd (enS (gShip Q r i)) (5 * i + 2) 3) (5 * i + 3) (-1) = enS (gShip Q r (i + 1)) := by
  rw [enS_p _ i 2 _ (by decide), enS_p _ i 3 _ (by decide)]
  exact enS_ext rfl rfl (gM_s (by simp [h])) (gM_s (by simp [h])) rfl
theorem enS_shipk {Q : Nat → Nat → Int32} {r i : Nat} (h : ¬ Q 14 i = nI r) : enS (gShip Q r i) = enS (gShip Q r (i + 1)) := enS_ext rfl rfl (gM_k (by simp [h])) (gM_k (by simp [h])) rfl
theorem gw_lt3 {x : Int32} (h : x < 3) : x ≤ 2 := by
  rw [Int32.lt_iff_toInt_lt] at h
  rw [Int32.le_iff_toInt_le]
  have h1 : (3 : Int32).toInt = 3 := by decide
  have h2 : (2 : Int32).toInt = 2 := by decide
  omega
theorem gw_lt2 {x : Int32} (h : x < 2) : x ≤ 1 := by
  rw [Int32.lt_iff_toInt_lt] at h
  rw [Int32.le_iff_toInt_le]
  have h1 : (1 : Int32).toInt = 1 := by decide
  have h2 : (2 : Int32).toInt = 2 := by decide
  omega
theorem gw_le2 {x : Int32} (h : x ≤ 2) : x < 3 := by
  rw [Int32.le_iff_toInt_le] at h
  rw [Int32.lt_iff_toInt_lt]
  have h1 : (3 : Int32).toInt = 3 := by decide
  have h2 : (2 : Int32).toInt = 2 := by decide
  omega
theorem gw_le1 {x : Int32} (h : x ≤ 1) : x < 2 := by
  rw [Int32.le_iff_toInt_le] at h
  rw [Int32.lt_iff_toInt_lt]
  have h1 : (1 : Int32).toInt = 1 := by decide
  have h2 : (2 : Int32).toInt = 2 := by decide
  omega
theorem g9C {x : Int32} (h : x = 0 ∨ x = 1) : 9 * x = if x = 0 then 0 else 9 := by rcases h with rfl | rfl <;> decide
