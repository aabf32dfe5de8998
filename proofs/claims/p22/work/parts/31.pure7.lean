/-! The beginning: a new quarry, and the reference's rows of it. -/
def gZero : Nat → Nat → Int32 := fun j => match j with
  | 0 => gM 9 (fun _ => 5) (fun _ => 0)
  | _ => fun _ => 0
theorem enR_zero : enR gZero = fun _ => 0 := by
  funext k
  exact congrFun (gw_i4 (P := fun i => gZero (1 + i) = fun _ => 0) rfl rfl rfl rfl (k % 4) (Nat.mod_lt _ (by decide))) _
theorem enP_zero : enP gZero = fun _ => 0 := by
  funext k
  exact congrFun (gw_i4 (P := fun i => gZero (5 + i) = fun _ => 0) rfl rfl rfl rfl (k % 4) (Nat.mod_lt _ (by decide))) _
theorem enS_zero : enS gZero = fun _ => 0 := by
  funext k
  exact congrFun (gw_i5 (P := fun i => gZero (sI i) = fun _ => 0) rfl rfl rfl rfl rfl (k % 5) (Nat.mod_lt _ (by decide))) _
theorem enB_zero : enB (fun _ => 0) (fun _ => 0) = fun _ => 0 := by
  funext k
  unfold enB
  split <;> rfl
theorem enN_zero : enN 0 0 0 = fun _ => 0 := by
  funext k
  match k with
  | 0 => rfl
  | 1 => rfl
  | 2 => rfl
  | k + 3 => rfl
theorem gFall_zero : upd (upd (upd (upd (upd (upd (upd (upd (upd (fun _ => 0) 0 5) 1 5) 2 5) 3 5) 4 5) 5 5) 6 5) 7 5) 8 5 = gZero 0 := by
  funext k
  match k with
  | 0 => rfl
  | 1 => rfl
  | 2 => rfl
  | 3 => rfl
  | 4 => rfl
  | 5 => rfl
  | 6 => rfl
  | 7 => rfl
  | 8 => rfl
  | k + 9 => rfl
