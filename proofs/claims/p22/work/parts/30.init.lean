theorem wd_X0_init_0 : (.methodLink RX0 3 objectInit : Cond) ∈ wsX0_init := by decide +kernel
theorem wd_X0_init_1 : (.instanceMethod objectInit : Cond) ∈ wsX0_init := by decide +kernel
theorem wd_X0_init_2 : (.code objectInit ⟨#[0xb1]⟩ 1 none : Cond) ∈ wsX0_init := by decide +kernel
theorem wd_X0_init_3 : (.arrayClass .int : Cond) ∈ wsX0_init := by decide +kernel
theorem wc_X0_init_X0 : ∀ w ∈ u_ws RX0 TX0 5, w ∈ wsX0_init := by decide +kernel
theorem wd_X0_init_5 : (.fieldLink RX0 9 "GritWheels$Beds" "grit" "[I" : Cond) ∈ wsX0_init := by decide +kernel
theorem wd_X0_init_6 : (.fieldLink RX0 15 "GritWheels$Beds" "flaw" "[I" : Cond) ∈ wsX0_init := by decide +kernel
theorem wd_X0_init_7 : (.fieldLink RX0 18 "GritWheels$Beds" "stone" "[I" : Cond) ∈ wsX0_init := by decide +kernel
theorem wd_X0_init_8 : (.fieldLink RX0 21 "GritWheels$Beds" "cut" "[I" : Cond) ∈ wsX0_init := by decide +kernel
set_option maxHeartbeats 4000000 in
set_option maxRecDepth 100000 in
theorem met_X0_init (l : Launch) (D : va_G) (cI cZ cL : ClassId) (bd : Nat) (sz : Nat) : Met l yX0_init wsX0_init ({ frames := 1, cells := 4, slots := 20, locals := 12 }) (gPi [.ref bd] D [(bd, .inr (0, [.null, .null, .null, .null, .int 0]))] (gT cI cZ cL) sz) (va_Qv (fun (_ : Nat × Nat × Nat × Nat) => True) (fun (u : Nat × Nat × Nat × Nat) t => match u with | (bd0, bd1, bd2, bd3) => va_P D vwCl [(bd, .inr (0, [.ref bd0, .ref bd1, .ref bd2, .ref bd3, .int 0])), (bd0, .inl (cI, 5, .inl (fun _ => 0))), (bd1, .inl (cI, 5, .inl (fun _ => 0))), (bd2, .inl (cI, 5, .inl (fun _ => 0))), (bd3, .inl (cI, 5, .inl (fun _ => 0)))] t.heap ∧ va_D (va_A [(bd, .inr (0, [.null, .null, .null, .null, .int 0]))] sz) [(bd, .inr (0, [.ref bd0, .ref bd1, .ref bd2, .ref bd3, .int 0])), (bd0, .inl (cI, 5, .inl (fun _ => 0))), (bd1, .inl (cI, 5, .inl (fun _ => 0))), (bd2, .inl (cI, 5, .inl (fun _ => 0))), (bd3, .inl (cI, 5, .inl (fun _ => 0)))]) (va_A [(bd, .inr (0, [.null, .null, .null, .null, .int 0]))] sz)) 4 20 (va_A [(bd, .inr (0, [.null, .null, .null, .null, .int 0]))] sz) := by
  refine Met.ofW (cc := cX0_init) (maxL := 1) (ret := none) (by decide +kernel) rfl ?_
  intro p e s m args below meth c s₁ B hml hv
  obtain ⟨rfl, hsz, hP, hK, hD0⟩ := hv
  have hx := B.exec
  have hb := B.bytes
  have hr := B.returns
  have hts := atoms_spec (ws := wsX0_init) B.pre
  have hown : s.vm.findClass RX0 = some m.cls := findClass_of_methodNamed B.named
  have hlocks := B.notSynchronized
  have hin : meth.name = "<init>" := (name_of_methodNamed B.named B.method).1
  subst hsz
  have hD := hD0.self (sz := s.heap.size)
  generalize hAe : va_A [(bd, .inr (0, [.null, .null, .null, .null, .int 0]))] s.heap.size = A at hD ⊢
  have hA : ∀ q : Nat, s.heap.size ≤ q → A q := fun q h => by rw [← hAe]; exact Or.inr h
  have hS : va_S A s.heap s.heap [] := va_S.rf
  have hP : va_P D vwCl [(bd, .inr (0, [.null, .null, .null, .null, .int 0]))] s.heap := hP
  have hl := lv_entry ([.ref bd]) (n := 1) (Nat.le_of_ble_eq_true rfl)
  rw [lg_entry_eq]
  generalize (lg_sl ([.ref bd]) ++ List.replicate (1 - (lg_sl ([.ref bd])).length) Slot.unset).toArray = ls at hl ⊢
  have hl : lv_has ls 1 [(0, .ref bd)] := hl
  refine lv_aload_n hx hb dX0_init_0 rfl (lv_at hl 0 rfl) ?_
  refine W.objInit hx hb hown (hts _ wd_X0_init_0) (hts _ wd_X0_init_1) (hts _ wd_X0_init_2) rfl (by rw [hml]; exact hl.1) rfl dX0_init_1 (Nat.le_of_ble_eq_true rfl) (Nat.le_of_ble_eq_true rfl) ?_
  refine W.eq (g2 := F0 m 4 ls []) rfl ?_
  refine lv_aload_n hx hb dX0_init_4 rfl (lv_at hl 0 rfl) ?_
  refine lv_iconst (v := 5) hx hb dX0_init_5 (by decide) ?_
  refine gw_newI hx hb (hts _ wd_X0_init_3) hK 0 rfl hP hD hS hA (n := 5) (N' := 5) (by decide) (by decide) (by decide) (Nat.le_of_ble_eq_true rfl) (Nat.le_of_ble_eq_true rfl) dX0_init_6 (fun q_1 H hP hD hS => ?_)
  have hP : va_P D vwCl [(bd, .inr (0, [.null, .null, .null, .null, .int 0])), (q_1, .inl (cI, 5, .inl (fun _ => 0)))] H := hP
  have hD : va_D A [(bd, .inr (0, [.null, .null, .null, .null, .int 0])), (q_1, .inl (cI, 5, .inl (fun _ => 0)))] := hD
  refine W.widen (k := 1) (n := 5) (by omega) (by omega) ?_
  refine va_putF (D := D) (ci := 0) (v := .ref q_1) (ty := .array .int) (C := RX0) (T := TX0) (N := 5) hx hb hts wc_X0_init_X0 tyX0 tyX0_ok nmX0 hown hK hP hD hS 0 rfl rfl 0 (by decide) (hts _ wd_X0_init_5) (fun _ h9 => h9) rfl hin rfl (by decide +kernel) rfl rfl (Nat.le_of_ble_eq_true rfl) dX0_init_8 (fun H locs hP hD hS => ?_)
  have hP : va_P D vwCl [(bd, .inr (0, [.ref q_1, .null, .null, .null, .int 0])), (q_1, .inl (cI, 5, .inl (fun _ => 0)))] H := hP
  have hD : va_D A [(bd, .inr (0, [.ref q_1, .null, .null, .null, .int 0])), (q_1, .inl (cI, 5, .inl (fun _ => 0)))] := hD
  refine lv_aload_n hx hb dX0_init_11 rfl (lv_at hl 0 rfl) ?_
  refine lv_iconst (v := 5) hx hb dX0_init_12 (by decide) ?_
  refine gw_newI hx hb (hts _ wd_X0_init_3) hK 0 rfl hP hD hS hA (n := 5) (N' := 5) (by decide) (by decide) (by decide) (Nat.le_of_ble_eq_true rfl) (Nat.le_of_ble_eq_true rfl) dX0_init_13 (fun q_2 H hP hD hS => ?_)
  have hP : va_P D vwCl [(bd, .inr (0, [.ref q_1, .null, .null, .null, .int 0])), (q_1, .inl (cI, 5, .inl (fun _ => 0))), (q_2, .inl (cI, 5, .inl (fun _ => 0)))] H := hP
  have hD : va_D A [(bd, .inr (0, [.ref q_1, .null, .null, .null, .int 0])), (q_1, .inl (cI, 5, .inl (fun _ => 0))), (q_2, .inl (cI, 5, .inl (fun _ => 0)))] := hD
  refine W.widen (k := 2) (n := 10) (by omega) (by omega) ?_
  refine va_putF (D := D) (ci := 0) (v := .ref q_2) (ty := .array .int) (C := RX0) (T := TX0) (N := 5) hx hb hts wc_X0_init_X0 tyX0 tyX0_ok nmX0 hown hK hP hD hS 0 rfl rfl 1 (by decide) (hts _ wd_X0_init_6) (fun _ h9 => h9) rfl hin rfl (by decide +kernel) rfl rfl (Nat.le_of_ble_eq_true rfl) dX0_init_15 (fun H locs hP hD hS => ?_)
  have hP : va_P D vwCl [(bd, .inr (0, [.ref q_1, .ref q_2, .null, .null, .int 0])), (q_1, .inl (cI, 5, .inl (fun _ => 0))), (q_2, .inl (cI, 5, .inl (fun _ => 0)))] H := hP
  have hD : va_D A [(bd, .inr (0, [.ref q_1, .ref q_2, .null, .null, .int 0])), (q_1, .inl (cI, 5, .inl (fun _ => 0))), (q_2, .inl (cI, 5, .inl (fun _ => 0)))] := hD
  refine lv_aload_n hx hb dX0_init_18 rfl (lv_at hl 0 rfl) ?_
  refine lv_iconst (v := 5) hx hb dX0_init_19 (by decide) ?_
  refine gw_newI hx hb (hts _ wd_X0_init_3) hK 0 rfl hP hD hS hA (n := 5) (N' := 5) (by decide) (by decide) (by decide) (Nat.le_of_ble_eq_true rfl) (Nat.le_of_ble_eq_true rfl) dX0_init_20 (fun q_3 H hP hD hS => ?_)
  have hP : va_P D vwCl [(bd, .inr (0, [.ref q_1, .ref q_2, .null, .null, .int 0])), (q_1, .inl (cI, 5, .inl (fun _ => 0))), (q_2, .inl (cI, 5, .inl (fun _ => 0))), (q_3, .inl (cI, 5, .inl (fun _ => 0)))] H := hP
  have hD : va_D A [(bd, .inr (0, [.ref q_1, .ref q_2, .null, .null, .int 0])), (q_1, .inl (cI, 5, .inl (fun _ => 0))), (q_2, .inl (cI, 5, .inl (fun _ => 0))), (q_3, .inl (cI, 5, .inl (fun _ => 0)))] := hD
  refine W.widen (k := 3) (n := 15) (by omega) (by omega) ?_
  refine va_putF (D := D) (ci := 0) (v := .ref q_3) (ty := .array .int) (C := RX0) (T := TX0) (N := 5) hx hb hts wc_X0_init_X0 tyX0 tyX0_ok nmX0 hown hK hP hD hS 0 rfl rfl 2 (by decide) (hts _ wd_X0_init_7) (fun _ h9 => h9) rfl hin rfl (by decide +kernel) rfl rfl (Nat.le_of_ble_eq_true rfl) dX0_init_22 (fun H locs hP hD hS => ?_)
  have hP : va_P D vwCl [(bd, .inr (0, [.ref q_1, .ref q_2, .ref q_3, .null, .int 0])), (q_1, .inl (cI, 5, .inl (fun _ => 0))), (q_2, .inl (cI, 5, .inl (fun _ => 0))), (q_3, .inl (cI, 5, .inl (fun _ => 0)))] H := hP
  have hD : va_D A [(bd, .inr (0, [.ref q_1, .ref q_2, .ref q_3, .null, .int 0])), (q_1, .inl (cI, 5, .inl (fun _ => 0))), (q_2, .inl (cI, 5, .inl (fun _ => 0))), (q_3, .inl (cI, 5, .inl (fun _ => 0)))] := hD
  refine lv_aload_n hx hb dX0_init_25 rfl (lv_at hl 0 rfl) ?_
  refine lv_iconst (v := 5) hx hb dX0_init_26 (by decide) ?_
  refine gw_newI hx hb (hts _ wd_X0_init_3) hK 0 rfl hP hD hS hA (n := 5) (N' := 5) (by decide) (by decide) (by decide) (Nat.le_of_ble_eq_true rfl) (Nat.le_of_ble_eq_true rfl) dX0_init_27 (fun q_4 H hP hD hS => ?_)
  have hP : va_P D vwCl [(bd, .inr (0, [.ref q_1, .ref q_2, .ref q_3, .null, .int 0])), (q_1, .inl (cI, 5, .inl (fun _ => 0))), (q_2, .inl (cI, 5, .inl (fun _ => 0))), (q_3, .inl (cI, 5, .inl (fun _ => 0))), (q_4, .inl (cI, 5, .inl (fun _ => 0)))] H := hP
  have hD : va_D A [(bd, .inr (0, [.ref q_1, .ref q_2, .ref q_3, .null, .int 0])), (q_1, .inl (cI, 5, .inl (fun _ => 0))), (q_2, .inl (cI, 5, .inl (fun _ => 0))), (q_3, .inl (cI, 5, .inl (fun _ => 0))), (q_4, .inl (cI, 5, .inl (fun _ => 0)))] := hD
  refine W.widen (k := 4) (n := 20) (by omega) (by omega) ?_
  refine va_putF (D := D) (ci := 0) (v := .ref q_4) (ty := .array .int) (C := RX0) (T := TX0) (N := 5) hx hb hts wc_X0_init_X0 tyX0 tyX0_ok nmX0 hown hK hP hD hS 0 rfl rfl 3 (by decide) (hts _ wd_X0_init_8) (fun _ h9 => h9) rfl hin rfl (by decide +kernel) rfl rfl (Nat.le_of_ble_eq_true rfl) dX0_init_29 (fun H locs hP hD hS => ?_)
  have hP : va_P D vwCl [(bd, .inr (0, [.ref q_1, .ref q_2, .ref q_3, .ref q_4, .int 0])), (q_1, .inl (cI, 5, .inl (fun _ => 0))), (q_2, .inl (cI, 5, .inl (fun _ => 0))), (q_3, .inl (cI, 5, .inl (fun _ => 0))), (q_4, .inl (cI, 5, .inl (fun _ => 0)))] H := hP
  have hD : va_D A [(bd, .inr (0, [.ref q_1, .ref q_2, .ref q_3, .ref q_4, .int 0])), (q_1, .inl (cI, 5, .inl (fun _ => 0))), (q_2, .inl (cI, 5, .inl (fun _ => 0))), (q_3, .inl (cI, 5, .inl (fun _ => 0))), (q_4, .inl (cI, 5, .inl (fun _ => 0)))] := hD
  subst hAe
  refine W.widen (k := 4) (n := 20) (by omega) (by omega) ?_
  exact W.vret hx hb hr (fun t ht hW => ⟨⟨(q_1, q_2, q_3, q_4), rfl, trivial, gw_hh ht hP, hD⟩, hS.F ht⟩) hS.2.2 dX0_init_32

theorem wd_X1_init_0 : (.methodLink RX1 3 objectInit : Cond) ∈ wsX1_init := by decide +kernel
theorem wd_X1_init_1 : (.instanceMethod objectInit : Cond) ∈ wsX1_init := by decide +kernel
theorem wd_X1_init_2 : (.code objectInit ⟨#[0xb1]⟩ 1 none : Cond) ∈ wsX1_init := by decide +kernel
theorem wd_X1_init_3 : (.arrayClass .int : Cond) ∈ wsX1_init := by decide +kernel
theorem wc_X1_init_X1 : ∀ w ∈ u_ws RX1 TX1 5, w ∈ wsX1_init := by decide +kernel
theorem wd_X1_init_5 : (.fieldLink RX1 9 "GritWheels$Crew" "skill" "[I" : Cond) ∈ wsX1_init := by decide +kernel
theorem wd_X1_init_6 : (.fieldLink RX1 15 "GritWheels$Crew" "place" "[I" : Cond) ∈ wsX1_init := by decide +kernel
theorem wd_X1_init_7 : (.fieldLink RX1 18 "GritWheels$Crew" "dust" "[I" : Cond) ∈ wsX1_init := by decide +kernel
theorem wd_X1_init_8 : (.fieldLink RX1 21 "GritWheels$Crew" "work" "[I" : Cond) ∈ wsX1_init := by decide +kernel
set_option maxHeartbeats 4000000 in
set_option maxRecDepth 100000 in
theorem met_X1_init (l : Launch) (D : va_G) (cI cZ cL : ClassId) (cr : Nat) (sz : Nat) : Met l yX1_init wsX1_init ({ frames := 1, cells := 4, slots := 24, locals := 12 }) (gPi [.ref cr] D [(cr, .inr (1, [.null, .null, .null, .null, .int 0]))] (gT cI cZ cL) sz) (va_Qv (fun (_ : Nat × Nat × Nat × Nat) => True) (fun (u : Nat × Nat × Nat × Nat) t => match u with | (cr0, cr1, cr2, cr3) => va_P D vwCl [(cr, .inr (1, [.ref cr0, .ref cr1, .ref cr2, .ref cr3, .int 0])), (cr0, .inl (cI, 6, .inl (fun _ => 0))), (cr1, .inl (cI, 6, .inl (fun _ => 0))), (cr2, .inl (cI, 6, .inl (fun _ => 0))), (cr3, .inl (cI, 6, .inl (fun _ => 0)))] t.heap ∧ va_D (va_A [(cr, .inr (1, [.null, .null, .null, .null, .int 0]))] sz) [(cr, .inr (1, [.ref cr0, .ref cr1, .ref cr2, .ref cr3, .int 0])), (cr0, .inl (cI, 6, .inl (fun _ => 0))), (cr1, .inl (cI, 6, .inl (fun _ => 0))), (cr2, .inl (cI, 6, .inl (fun _ => 0))), (cr3, .inl (cI, 6, .inl (fun _ => 0)))]) (va_A [(cr, .inr (1, [.null, .null, .null, .null, .int 0]))] sz)) 4 24 (va_A [(cr, .inr (1, [.null, .null, .null, .null, .int 0]))] sz) := by
  refine Met.ofW (cc := cX1_init) (maxL := 1) (ret := none) (by decide +kernel) rfl ?_
  intro p e s m args below meth c s₁ B hml hv
  obtain ⟨rfl, hsz, hP, hK, hD0⟩ := hv
  have hx := B.exec
  have hb := B.bytes
  have hr := B.returns
  have hts := atoms_spec (ws := wsX1_init) B.pre
  have hown : s.vm.findClass RX1 = some m.cls := findClass_of_methodNamed B.named
  have hlocks := B.notSynchronized
  have hin : meth.name = "<init>" := (name_of_methodNamed B.named B.method).1
  subst hsz
  have hD := hD0.self (sz := s.heap.size)
  generalize hAe : va_A [(cr, .inr (1, [.null, .null, .null, .null, .int 0]))] s.heap.size = A at hD ⊢
  have hA : ∀ q : Nat, s.heap.size ≤ q → A q := fun q h => by rw [← hAe]; exact Or.inr h
  have hS : va_S A s.heap s.heap [] := va_S.rf
  have hP : va_P D vwCl [(cr, .inr (1, [.null, .null, .null, .null, .int 0]))] s.heap := hP
  have hl := lv_entry ([.ref cr]) (n := 1) (Nat.le_of_ble_eq_true rfl)
  rw [lg_entry_eq]
  generalize (lg_sl ([.ref cr]) ++ List.replicate (1 - (lg_sl ([.ref cr])).length) Slot.unset).toArray = ls at hl ⊢
  have hl : lv_has ls 1 [(0, .ref cr)] := hl
  refine lv_aload_n hx hb dX1_init_0 rfl (lv_at hl 0 rfl) ?_
  refine W.objInit hx hb hown (hts _ wd_X1_init_0) (hts _ wd_X1_init_1) (hts _ wd_X1_init_2) rfl (by rw [hml]; exact hl.1) rfl dX1_init_1 (Nat.le_of_ble_eq_true rfl) (Nat.le_of_ble_eq_true rfl) ?_
  refine W.eq (g2 := F0 m 4 ls []) rfl ?_
  refine lv_aload_n hx hb dX1_init_4 rfl (lv_at hl 0 rfl) ?_
  refine lv_bipush (v := 6) hx hb dX1_init_5 (by decide) ?_
  refine gw_newI hx hb (hts _ wd_X1_init_3) hK 0 rfl hP hD hS hA (n := 6) (N' := 6) (by decide) (by decide) (by decide) (Nat.le_of_ble_eq_true rfl) (Nat.le_of_ble_eq_true rfl) dX1_init_7 (fun q_1 H hP hD hS => ?_)
  have hP : va_P D vwCl [(cr, .inr (1, [.null, .null, .null, .null, .int 0])), (q_1, .inl (cI, 6, .inl (fun _ => 0)))] H := hP
  have hD : va_D A [(cr, .inr (1, [.null, .null, .null, .null, .int 0])), (q_1, .inl (cI, 6, .inl (fun _ => 0)))] := hD
  refine W.widen (k := 1) (n := 6) (by omega) (by omega) ?_
  refine va_putF (D := D) (ci := 1) (v := .ref q_1) (ty := .array .int) (C := RX1) (T := TX1) (N := 5) hx hb hts wc_X1_init_X1 tyX1 tyX1_ok nmX1 hown hK hP hD hS 0 rfl rfl 0 (by decide) (hts _ wd_X1_init_5) (fun _ h9 => h9) rfl hin rfl (by decide +kernel) rfl rfl (Nat.le_of_ble_eq_true rfl) dX1_init_9 (fun H locs hP hD hS => ?_)
  have hP : va_P D vwCl [(cr, .inr (1, [.ref q_1, .null, .null, .null, .int 0])), (q_1, .inl (cI, 6, .inl (fun _ => 0)))] H := hP
  have hD : va_D A [(cr, .inr (1, [.ref q_1, .null, .null, .null, .int 0])), (q_1, .inl (cI, 6, .inl (fun _ => 0)))] := hD
  refine lv_aload_n hx hb dX1_init_12 rfl (lv_at hl 0 rfl) ?_
  refine lv_bipush (v := 6) hx hb dX1_init_13 (by decide) ?_
  refine gw_newI hx hb (hts _ wd_X1_init_3) hK 0 rfl hP hD hS hA (n := 6) (N' := 6) (by decide) (by decide) (by decide) (Nat.le_of_ble_eq_true rfl) (Nat.le_of_ble_eq_true rfl) dX1_init_15 (fun q_2 H hP hD hS => ?_)
  have hP : va_P D vwCl [(cr, .inr (1, [.ref q_1, .null, .null, .null, .int 0])), (q_1, .inl (cI, 6, .inl (fun _ => 0))), (q_2, .inl (cI, 6, .inl (fun _ => 0)))] H := hP
  have hD : va_D A [(cr, .inr (1, [.ref q_1, .null, .null, .null, .int 0])), (q_1, .inl (cI, 6, .inl (fun _ => 0))), (q_2, .inl (cI, 6, .inl (fun _ => 0)))] := hD
  refine W.widen (k := 2) (n := 12) (by omega) (by omega) ?_
  refine va_putF (D := D) (ci := 1) (v := .ref q_2) (ty := .array .int) (C := RX1) (T := TX1) (N := 5) hx hb hts wc_X1_init_X1 tyX1 tyX1_ok nmX1 hown hK hP hD hS 0 rfl rfl 1 (by decide) (hts _ wd_X1_init_6) (fun _ h9 => h9) rfl hin rfl (by decide +kernel) rfl rfl (Nat.le_of_ble_eq_true rfl) dX1_init_17 (fun H locs hP hD hS => ?_)
  have hP : va_P D vwCl [(cr, .inr (1, [.ref q_1, .ref q_2, .null, .null, .int 0])), (q_1, .inl (cI, 6, .inl (fun _ => 0))), (q_2, .inl (cI, 6, .inl (fun _ => 0)))] H := hP
  have hD : va_D A [(cr, .inr (1, [.ref q_1, .ref q_2, .null, .null, .int 0])), (q_1, .inl (cI, 6, .inl (fun _ => 0))), (q_2, .inl (cI, 6, .inl (fun _ => 0)))] := hD
  refine lv_aload_n hx hb dX1_init_20 rfl (lv_at hl 0 rfl) ?_
  refine lv_bipush (v := 6) hx hb dX1_init_21 (by decide) ?_
  refine gw_newI hx hb (hts _ wd_X1_init_3) hK 0 rfl hP hD hS hA (n := 6) (N' := 6) (by decide) (by decide) (by decide) (Nat.le_of_ble_eq_true rfl) (Nat.le_of_ble_eq_true rfl) dX1_init_23 (fun q_3 H hP hD hS => ?_)
  have hP : va_P D vwCl [(cr, .inr (1, [.ref q_1, .ref q_2, .null, .null, .int 0])), (q_1, .inl (cI, 6, .inl (fun _ => 0))), (q_2, .inl (cI, 6, .inl (fun _ => 0))), (q_3, .inl (cI, 6, .inl (fun _ => 0)))] H := hP
  have hD : va_D A [(cr, .inr (1, [.ref q_1, .ref q_2, .null, .null, .int 0])), (q_1, .inl (cI, 6, .inl (fun _ => 0))), (q_2, .inl (cI, 6, .inl (fun _ => 0))), (q_3, .inl (cI, 6, .inl (fun _ => 0)))] := hD
  refine W.widen (k := 3) (n := 18) (by omega) (by omega) ?_
  refine va_putF (D := D) (ci := 1) (v := .ref q_3) (ty := .array .int) (C := RX1) (T := TX1) (N := 5) hx hb hts wc_X1_init_X1 tyX1 tyX1_ok nmX1 hown hK hP hD hS 0 rfl rfl 2 (by decide) (hts _ wd_X1_init_7) (fun _ h9 => h9) rfl hin rfl (by decide +kernel) rfl rfl (Nat.le_of_ble_eq_true rfl) dX1_init_25 (fun H locs hP hD hS => ?_)
  have hP : va_P D vwCl [(cr, .inr (1, [.ref q_1, .ref q_2, .ref q_3, .null, .int 0])), (q_1, .inl (cI, 6, .inl (fun _ => 0))), (q_2, .inl (cI, 6, .inl (fun _ => 0))), (q_3, .inl (cI, 6, .inl (fun _ => 0)))] H := hP
  have hD : va_D A [(cr, .inr (1, [.ref q_1, .ref q_2, .ref q_3, .null, .int 0])), (q_1, .inl (cI, 6, .inl (fun _ => 0))), (q_2, .inl (cI, 6, .inl (fun _ => 0))), (q_3, .inl (cI, 6, .inl (fun _ => 0)))] := hD
  refine lv_aload_n hx hb dX1_init_28 rfl (lv_at hl 0 rfl) ?_
  refine lv_bipush (v := 6) hx hb dX1_init_29 (by decide) ?_
  refine gw_newI hx hb (hts _ wd_X1_init_3) hK 0 rfl hP hD hS hA (n := 6) (N' := 6) (by decide) (by decide) (by decide) (Nat.le_of_ble_eq_true rfl) (Nat.le_of_ble_eq_true rfl) dX1_init_31 (fun q_4 H hP hD hS => ?_)
  have hP : va_P D vwCl [(cr, .inr (1, [.ref q_1, .ref q_2, .ref q_3, .null, .int 0])), (q_1, .inl (cI, 6, .inl (fun _ => 0))), (q_2, .inl (cI, 6, .inl (fun _ => 0))), (q_3, .inl (cI, 6, .inl (fun _ => 0))), (q_4, .inl (cI, 6, .inl (fun _ => 0)))] H := hP
  have hD : va_D A [(cr, .inr (1, [.ref q_1, .ref q_2, .ref q_3, .null, .int 0])), (q_1, .inl (cI, 6, .inl (fun _ => 0))), (q_2, .inl (cI, 6, .inl (fun _ => 0))), (q_3, .inl (cI, 6, .inl (fun _ => 0))), (q_4, .inl (cI, 6, .inl (fun _ => 0)))] := hD
  refine W.widen (k := 4) (n := 24) (by omega) (by omega) ?_
  refine va_putF (D := D) (ci := 1) (v := .ref q_4) (ty := .array .int) (C := RX1) (T := TX1) (N := 5) hx hb hts wc_X1_init_X1 tyX1 tyX1_ok nmX1 hown hK hP hD hS 0 rfl rfl 3 (by decide) (hts _ wd_X1_init_8) (fun _ h9 => h9) rfl hin rfl (by decide +kernel) rfl rfl (Nat.le_of_ble_eq_true rfl) dX1_init_33 (fun H locs hP hD hS => ?_)
  have hP : va_P D vwCl [(cr, .inr (1, [.ref q_1, .ref q_2, .ref q_3, .ref q_4, .int 0])), (q_1, .inl (cI, 6, .inl (fun _ => 0))), (q_2, .inl (cI, 6, .inl (fun _ => 0))), (q_3, .inl (cI, 6, .inl (fun _ => 0))), (q_4, .inl (cI, 6, .inl (fun _ => 0)))] H := hP
  have hD : va_D A [(cr, .inr (1, [.ref q_1, .ref q_2, .ref q_3, .ref q_4, .int 0])), (q_1, .inl (cI, 6, .inl (fun _ => 0))), (q_2, .inl (cI, 6, .inl (fun _ => 0))), (q_3, .inl (cI, 6, .inl (fun _ => 0))), (q_4, .inl (cI, 6, .inl (fun _ => 0)))] := hD
  subst hAe
  refine W.widen (k := 4) (n := 24) (by omega) (by omega) ?_
  exact W.vret hx hb hr (fun t ht hW => ⟨⟨(q_1, q_2, q_3, q_4), rfl, trivial, gw_hh ht hP, hD⟩, hS.F ht⟩) hS.2.2 dX1_init_36

theorem wd_X3_init_0 : (.methodLink RX3 3 objectInit : Cond) ∈ wsX3_init := by decide +kernel
theorem wd_X3_init_1 : (.instanceMethod objectInit : Cond) ∈ wsX3_init := by decide +kernel
theorem wd_X3_init_2 : (.code objectInit ⟨#[0xb1]⟩ 1 none : Cond) ∈ wsX3_init := by decide +kernel
theorem wd_X3_init_3 : (.arrayClass .int : Cond) ∈ wsX3_init := by decide +kernel
theorem wc_X3_init_X3 : ∀ w ∈ u_ws RX3 TX3 3, w ∈ wsX3_init := by decide +kernel
theorem wd_X3_init_5 : (.fieldLink RX3 9 "GritWheels$Rafts" "carries" "[I" : Cond) ∈ wsX3_init := by decide +kernel
theorem wd_X3_init_6 : (.fieldLink RX3 15 "GritWheels$Rafts" "backOn" "[I" : Cond) ∈ wsX3_init := by decide +kernel
set_option maxHeartbeats 4000000 in
set_option maxRecDepth 100000 in
theorem met_X3_init (l : Launch) (D : va_G) (cI cZ cL : ClassId) (rf : Nat) (sz : Nat) : Met l yX3_init wsX3_init ({ frames := 1, cells := 2, slots := 6, locals := 12 }) (gPi [.ref rf] D [(rf, .inr (3, [.null, .null, .int 0]))] (gT cI cZ cL) sz) (va_Qv (fun (_ : Nat × Nat) => True) (fun (u : Nat × Nat) t => match u with | (rf0, rf1) => va_P D vwCl [(rf, .inr (3, [.ref rf0, .ref rf1, .int 0])), (rf0, .inl (cI, 3, .inl (fun _ => 0))), (rf1, .inl (cI, 3, .inl (fun _ => 0)))] t.heap ∧ va_D (va_A [(rf, .inr (3, [.null, .null, .int 0]))] sz) [(rf, .inr (3, [.ref rf0, .ref rf1, .int 0])), (rf0, .inl (cI, 3, .inl (fun _ => 0))), (rf1, .inl (cI, 3, .inl (fun _ => 0)))]) (va_A [(rf, .inr (3, [.null, .null, .int 0]))] sz)) 2 6 (va_A [(rf, .inr (3, [.null, .null, .int 0]))] sz) := by
  refine Met.ofW (cc := cX3_init) (maxL := 1) (ret := none) (by decide +kernel) rfl ?_
  intro p e s m args below meth c s₁ B hml hv
  obtain ⟨rfl, hsz, hP, hK, hD0⟩ := hv
  have hx := B.exec
  have hb := B.bytes
  have hr := B.returns
  have hts := atoms_spec (ws := wsX3_init) B.pre
  have hown : s.vm.findClass RX3 = some m.cls := findClass_of_methodNamed B.named
  have hlocks := B.notSynchronized
  have hin : meth.name = "<init>" := (name_of_methodNamed B.named B.method).1
  subst hsz
  have hD := hD0.self (sz := s.heap.size)
  generalize hAe : va_A [(rf, .inr (3, [.null, .null, .int 0]))] s.heap.size = A at hD ⊢
  have hA : ∀ q : Nat, s.heap.size ≤ q → A q := fun q h => by rw [← hAe]; exact Or.inr h
  have hS : va_S A s.heap s.heap [] := va_S.rf
  have hP : va_P D vwCl [(rf, .inr (3, [.null, .null, .int 0]))] s.heap := hP
  have hl := lv_entry ([.ref rf]) (n := 1) (Nat.le_of_ble_eq_true rfl)
  rw [lg_entry_eq]
  generalize (lg_sl ([.ref rf]) ++ List.replicate (1 - (lg_sl ([.ref rf])).length) Slot.unset).toArray = ls at hl ⊢
  have hl : lv_has ls 1 [(0, .ref rf)] := hl
  refine lv_aload_n hx hb dX3_init_0 rfl (lv_at hl 0 rfl) ?_
  refine W.objInit hx hb hown (hts _ wd_X3_init_0) (hts _ wd_X3_init_1) (hts _ wd_X3_init_2) rfl (by rw [hml]; exact hl.1) rfl dX3_init_1 (Nat.le_of_ble_eq_true rfl) (Nat.le_of_ble_eq_true rfl) ?_
  refine W.eq (g2 := F0 m 4 ls []) rfl ?_
  refine lv_aload_n hx hb dX3_init_4 rfl (lv_at hl 0 rfl) ?_
  refine lv_iconst (v := 3) hx hb dX3_init_5 (by decide) ?_
  refine gw_newI hx hb (hts _ wd_X3_init_3) hK 0 rfl hP hD hS hA (n := 3) (N' := 3) (by decide) (by decide) (by decide) (Nat.le_of_ble_eq_true rfl) (Nat.le_of_ble_eq_true rfl) dX3_init_6 (fun q_1 H hP hD hS => ?_)
  have hP : va_P D vwCl [(rf, .inr (3, [.null, .null, .int 0])), (q_1, .inl (cI, 3, .inl (fun _ => 0)))] H := hP
  have hD : va_D A [(rf, .inr (3, [.null, .null, .int 0])), (q_1, .inl (cI, 3, .inl (fun _ => 0)))] := hD
  refine W.widen (k := 1) (n := 3) (by omega) (by omega) ?_
  refine va_putF (D := D) (ci := 3) (v := .ref q_1) (ty := .array .int) (C := RX3) (T := TX3) (N := 3) hx hb hts wc_X3_init_X3 tyX3 tyX3_ok nmX3 hown hK hP hD hS 0 rfl rfl 0 (by decide) (hts _ wd_X3_init_5) (fun _ h9 => h9) rfl hin rfl (by decide +kernel) rfl rfl (Nat.le_of_ble_eq_true rfl) dX3_init_8 (fun H locs hP hD hS => ?_)
  have hP : va_P D vwCl [(rf, .inr (3, [.ref q_1, .null, .int 0])), (q_1, .inl (cI, 3, .inl (fun _ => 0)))] H := hP
  have hD : va_D A [(rf, .inr (3, [.ref q_1, .null, .int 0])), (q_1, .inl (cI, 3, .inl (fun _ => 0)))] := hD
  refine lv_aload_n hx hb dX3_init_11 rfl (lv_at hl 0 rfl) ?_
  refine lv_iconst (v := 3) hx hb dX3_init_12 (by decide) ?_
  refine gw_newI hx hb (hts _ wd_X3_init_3) hK 0 rfl hP hD hS hA (n := 3) (N' := 3) (by decide) (by decide) (by decide) (Nat.le_of_ble_eq_true rfl) (Nat.le_of_ble_eq_true rfl) dX3_init_13 (fun q_2 H hP hD hS => ?_)
  have hP : va_P D vwCl [(rf, .inr (3, [.ref q_1, .null, .int 0])), (q_1, .inl (cI, 3, .inl (fun _ => 0))), (q_2, .inl (cI, 3, .inl (fun _ => 0)))] H := hP
  have hD : va_D A [(rf, .inr (3, [.ref q_1, .null, .int 0])), (q_1, .inl (cI, 3, .inl (fun _ => 0))), (q_2, .inl (cI, 3, .inl (fun _ => 0)))] := hD
  refine W.widen (k := 2) (n := 6) (by omega) (by omega) ?_
  refine va_putF (D := D) (ci := 3) (v := .ref q_2) (ty := .array .int) (C := RX3) (T := TX3) (N := 3) hx hb hts wc_X3_init_X3 tyX3 tyX3_ok nmX3 hown hK hP hD hS 0 rfl rfl 1 (by decide) (hts _ wd_X3_init_6) (fun _ h9 => h9) rfl hin rfl (by decide +kernel) rfl rfl (Nat.le_of_ble_eq_true rfl) dX3_init_15 (fun H locs hP hD hS => ?_)
  have hP : va_P D vwCl [(rf, .inr (3, [.ref q_1, .ref q_2, .int 0])), (q_1, .inl (cI, 3, .inl (fun _ => 0))), (q_2, .inl (cI, 3, .inl (fun _ => 0)))] H := hP
  have hD : va_D A [(rf, .inr (3, [.ref q_1, .ref q_2, .int 0])), (q_1, .inl (cI, 3, .inl (fun _ => 0))), (q_2, .inl (cI, 3, .inl (fun _ => 0)))] := hD
  subst hAe
  refine W.widen (k := 2) (n := 6) (by omega) (by omega) ?_
  exact W.vret hx hb hr (fun t ht hW => ⟨⟨(q_1, q_2), rfl, trivial, gw_hh ht hP, hD⟩, hS.F ht⟩) hS.2.2 dX3_init_18

theorem wd_X4_init_0 : (.methodLink RX4 3 objectInit : Cond) ∈ wsX4_init := by decide +kernel
theorem wd_X4_init_1 : (.instanceMethod objectInit : Cond) ∈ wsX4_init := by decide +kernel
theorem wd_X4_init_2 : (.code objectInit ⟨#[0xb1]⟩ 1 none : Cond) ∈ wsX4_init := by decide +kernel
theorem wd_X4_init_3 : (.arrayClass .int : Cond) ∈ wsX4_init := by decide +kernel
theorem wc_X4_init_X4 : ∀ w ∈ u_ws RX4 TX4 7, w ∈ wsX4_init := by decide +kernel
theorem wd_X4_init_5 : (.fieldLink RX4 9 "GritWheels$Wheels" "source" "[I" : Cond) ∈ wsX4_init := by decide +kernel
theorem wd_X4_init_6 : (.fieldLink RX4 15 "GritWheels$Wheels" "grit" "[I" : Cond) ∈ wsX4_init := by decide +kernel
theorem wd_X4_init_7 : (.fieldLink RX4 18 "GritWheels$Wheels" "size" "[I" : Cond) ∈ wsX4_init := by decide +kernel
theorem wd_X4_init_8 : (.arrayClass .boolean : Cond) ∈ wsX4_init := by decide +kernel
theorem wd_X4_init_9 : (.fieldLink RX4 21 "GritWheels$Wheels" "cracked" "[Z" : Cond) ∈ wsX4_init := by decide +kernel
theorem wd_X4_init_10 : (.fieldLink RX4 25 "GritWheels$Wheels" "state" "[I" : Cond) ∈ wsX4_init := by decide +kernel
theorem wd_X4_init_11 : (.fieldLink RX4 28 "GritWheels$Wheels" "carrier" "[I" : Cond) ∈ wsX4_init := by decide +kernel
set_option maxHeartbeats 4000000 in
set_option maxRecDepth 100000 in
theorem met_X4_init (l : Launch) (D : va_G) (cI cZ cL : ClassId) (wh : Nat) (sz : Nat) : Met l yX4_init wsX4_init ({ frames := 1, cells := 6, slots := 360, locals := 12 }) (gPi [.ref wh] D [(wh, .inr (4, [.null, .null, .null, .null, .null, .null, .int 0]))] (gT cI cZ cL) sz) (va_Qv (fun (_ : Nat × Nat × Nat × Nat × Nat × Nat) => True) (fun (u : Nat × Nat × Nat × Nat × Nat × Nat) t => match u with | (wh0, wh1, wh2, wh3, wh4, wh5) => va_P D vwCl [(wh, .inr (4, [.ref wh0, .ref wh1, .ref wh2, .ref wh3, .ref wh4, .ref wh5, .int 0])), (wh0, .inl (cI, 60, .inl (fun _ => 0))), (wh1, .inl (cI, 60, .inl (fun _ => 0))), (wh2, .inl (cI, 60, .inl (fun _ => 0))), (wh3, .inl (cZ, 60, .inl (fun _ => 0))), (wh4, .inl (cI, 60, .inl (fun _ => 0))), (wh5, .inl (cI, 60, .inl (fun _ => 0)))] t.heap ∧ va_D (va_A [(wh, .inr (4, [.null, .null, .null, .null, .null, .null, .int 0]))] sz) [(wh, .inr (4, [.ref wh0, .ref wh1, .ref wh2, .ref wh3, .ref wh4, .ref wh5, .int 0])), (wh0, .inl (cI, 60, .inl (fun _ => 0))), (wh1, .inl (cI, 60, .inl (fun _ => 0))), (wh2, .inl (cI, 60, .inl (fun _ => 0))), (wh3, .inl (cZ, 60, .inl (fun _ => 0))), (wh4, .inl (cI, 60, .inl (fun _ => 0))), (wh5, .inl (cI, 60, .inl (fun _ => 0)))]) (va_A [(wh, .inr (4, [.null, .null, .null, .null, .null, .null, .int 0]))] sz)) 6 360 (va_A [(wh, .inr (4, [.null, .null, .null, .null, .null, .null, .int 0]))] sz) := by
  refine Met.ofW (cc := cX4_init) (maxL := 1) (ret := none) (by decide +kernel) rfl ?_
  intro p e s m args below meth c s₁ B hml hv
  obtain ⟨rfl, hsz, hP, hK, hD0⟩ := hv
  have hx := B.exec
  have hb := B.bytes
  have hr := B.returns
  have hts := atoms_spec (ws := wsX4_init) B.pre
  have hown : s.vm.findClass RX4 = some m.cls := findClass_of_methodNamed B.named
  have hlocks := B.notSynchronized
  have hin : meth.name = "<init>" := (name_of_methodNamed B.named B.method).1
  subst hsz
  have hD := hD0.self (sz := s.heap.size)
  generalize hAe : va_A [(wh, .inr (4, [.null, .null, .null, .null, .null, .null, .int 0]))] s.heap.size = A at hD ⊢
  have hA : ∀ q : Nat, s.heap.size ≤ q → A q := fun q h => by rw [← hAe]; exact Or.inr h
  have hS : va_S A s.heap s.heap [] := va_S.rf
  have hP : va_P D vwCl [(wh, .inr (4, [.null, .null, .null, .null, .null, .null, .int 0]))] s.heap := hP
  have hl := lv_entry ([.ref wh]) (n := 1) (Nat.le_of_ble_eq_true rfl)
  rw [lg_entry_eq]
  generalize (lg_sl ([.ref wh]) ++ List.replicate (1 - (lg_sl ([.ref wh])).length) Slot.unset).toArray = ls at hl ⊢
  have hl : lv_has ls 1 [(0, .ref wh)] := hl
  refine lv_aload_n hx hb dX4_init_0 rfl (lv_at hl 0 rfl) ?_
  refine W.objInit hx hb hown (hts _ wd_X4_init_0) (hts _ wd_X4_init_1) (hts _ wd_X4_init_2) rfl (by rw [hml]; exact hl.1) rfl dX4_init_1 (Nat.le_of_ble_eq_true rfl) (Nat.le_of_ble_eq_true rfl) ?_
  refine W.eq (g2 := F0 m 4 ls []) rfl ?_
  refine lv_aload_n hx hb dX4_init_4 rfl (lv_at hl 0 rfl) ?_
  refine lv_bipush (v := 60) hx hb dX4_init_5 (by decide) ?_
  refine gw_newI hx hb (hts _ wd_X4_init_3) hK 0 rfl hP hD hS hA (n := 60) (N' := 60) (by decide) (by decide) (by decide) (Nat.le_of_ble_eq_true rfl) (Nat.le_of_ble_eq_true rfl) dX4_init_7 (fun q_1 H hP hD hS => ?_)
  have hP : va_P D vwCl [(wh, .inr (4, [.null, .null, .null, .null, .null, .null, .int 0])), (q_1, .inl (cI, 60, .inl (fun _ => 0)))] H := hP
  have hD : va_D A [(wh, .inr (4, [.null, .null, .null, .null, .null, .null, .int 0])), (q_1, .inl (cI, 60, .inl (fun _ => 0)))] := hD
  refine W.widen (k := 1) (n := 60) (by omega) (by omega) ?_
  refine va_putF (D := D) (ci := 4) (v := .ref q_1) (ty := .array .int) (C := RX4) (T := TX4) (N := 7) hx hb hts wc_X4_init_X4 tyX4 tyX4_ok nmX4 hown hK hP hD hS 0 rfl rfl 0 (by decide) (hts _ wd_X4_init_5) (fun _ h9 => h9) rfl hin rfl (by decide +kernel) rfl rfl (Nat.le_of_ble_eq_true rfl) dX4_init_9 (fun H locs hP hD hS => ?_)
  have hP : va_P D vwCl [(wh, .inr (4, [.ref q_1, .null, .null, .null, .null, .null, .int 0])), (q_1, .inl (cI, 60, .inl (fun _ => 0)))] H := hP
  have hD : va_D A [(wh, .inr (4, [.ref q_1, .null, .null, .null, .null, .null, .int 0])), (q_1, .inl (cI, 60, .inl (fun _ => 0)))] := hD
  refine lv_aload_n hx hb dX4_init_12 rfl (lv_at hl 0 rfl) ?_
  refine lv_bipush (v := 60) hx hb dX4_init_13 (by decide) ?_
  refine gw_newI hx hb (hts _ wd_X4_init_3) hK 0 rfl hP hD hS hA (n := 60) (N' := 60) (by decide) (by decide) (by decide) (Nat.le_of_ble_eq_true rfl) (Nat.le_of_ble_eq_true rfl) dX4_init_15 (fun q_2 H hP hD hS => ?_)
  have hP : va_P D vwCl [(wh, .inr (4, [.ref q_1, .null, .null, .null, .null, .null, .int 0])), (q_1, .inl (cI, 60, .inl (fun _ => 0))), (q_2, .inl (cI, 60, .inl (fun _ => 0)))] H := hP
  have hD : va_D A [(wh, .inr (4, [.ref q_1, .null, .null, .null, .null, .null, .int 0])), (q_1, .inl (cI, 60, .inl (fun _ => 0))), (q_2, .inl (cI, 60, .inl (fun _ => 0)))] := hD
  refine W.widen (k := 2) (n := 120) (by omega) (by omega) ?_
  refine va_putF (D := D) (ci := 4) (v := .ref q_2) (ty := .array .int) (C := RX4) (T := TX4) (N := 7) hx hb hts wc_X4_init_X4 tyX4 tyX4_ok nmX4 hown hK hP hD hS 0 rfl rfl 1 (by decide) (hts _ wd_X4_init_6) (fun _ h9 => h9) rfl hin rfl (by decide +kernel) rfl rfl (Nat.le_of_ble_eq_true rfl) dX4_init_17 (fun H locs hP hD hS => ?_)
  have hP : va_P D vwCl [(wh, .inr (4, [.ref q_1, .ref q_2, .null, .null, .null, .null, .int 0])), (q_1, .inl (cI, 60, .inl (fun _ => 0))), (q_2, .inl (cI, 60, .inl (fun _ => 0)))] H := hP
  have hD : va_D A [(wh, .inr (4, [.ref q_1, .ref q_2, .null, .null, .null, .null, .int 0])), (q_1, .inl (cI, 60, .inl (fun _ => 0))), (q_2, .inl (cI, 60, .inl (fun _ => 0)))] := hD
  refine lv_aload_n hx hb dX4_init_20 rfl (lv_at hl 0 rfl) ?_
  refine lv_bipush (v := 60) hx hb dX4_init_21 (by decide) ?_
  refine gw_newI hx hb (hts _ wd_X4_init_3) hK 0 rfl hP hD hS hA (n := 60) (N' := 60) (by decide) (by decide) (by decide) (Nat.le_of_ble_eq_true rfl) (Nat.le_of_ble_eq_true rfl) dX4_init_23 (fun q_3 H hP hD hS => ?_)
  have hP : va_P D vwCl [(wh, .inr (4, [.ref q_1, .ref q_2, .null, .null, .null, .null, .int 0])), (q_1, .inl (cI, 60, .inl (fun _ => 0))), (q_2, .inl (cI, 60, .inl (fun _ => 0))), (q_3, .inl (cI, 60, .inl (fun _ => 0)))] H := hP
  have hD : va_D A [(wh, .inr (4, [.ref q_1, .ref q_2, .null, .null, .null, .null, .int 0])), (q_1, .inl (cI, 60, .inl (fun _ => 0))), (q_2, .inl (cI, 60, .inl (fun _ => 0))), (q_3, .inl (cI, 60, .inl (fun _ => 0)))] := hD
  refine W.widen (k := 3) (n := 180) (by omega) (by omega) ?_
  refine va_putF (D := D) (ci := 4) (v := .ref q_3) (ty := .array .int) (C := RX4) (T := TX4) (N := 7) hx hb hts wc_X4_init_X4 tyX4 tyX4_ok nmX4 hown hK hP hD hS 0 rfl rfl 2 (by decide) (hts _ wd_X4_init_7) (fun _ h9 => h9) rfl hin rfl (by decide +kernel) rfl rfl (Nat.le_of_ble_eq_true rfl) dX4_init_25 (fun H locs hP hD hS => ?_)
  have hP : va_P D vwCl [(wh, .inr (4, [.ref q_1, .ref q_2, .ref q_3, .null, .null, .null, .int 0])), (q_1, .inl (cI, 60, .inl (fun _ => 0))), (q_2, .inl (cI, 60, .inl (fun _ => 0))), (q_3, .inl (cI, 60, .inl (fun _ => 0)))] H := hP
  have hD : va_D A [(wh, .inr (4, [.ref q_1, .ref q_2, .ref q_3, .null, .null, .null, .int 0])), (q_1, .inl (cI, 60, .inl (fun _ => 0))), (q_2, .inl (cI, 60, .inl (fun _ => 0))), (q_3, .inl (cI, 60, .inl (fun _ => 0)))] := hD
  refine lv_aload_n hx hb dX4_init_28 rfl (lv_at hl 0 rfl) ?_
  refine lv_bipush (v := 60) hx hb dX4_init_29 (by decide) ?_
  refine gw_newZ hx hb (hts _ wd_X4_init_8) hK 1 rfl hP hD hS hA (n := 60) (N' := 60) (by decide) (by decide) (by decide) (Nat.le_of_ble_eq_true rfl) (Nat.le_of_ble_eq_true rfl) dX4_init_31 (fun q_4 H hP hD hS => ?_)
  have hP : va_P D vwCl [(wh, .inr (4, [.ref q_1, .ref q_2, .ref q_3, .null, .null, .null, .int 0])), (q_1, .inl (cI, 60, .inl (fun _ => 0))), (q_2, .inl (cI, 60, .inl (fun _ => 0))), (q_3, .inl (cI, 60, .inl (fun _ => 0))), (q_4, .inl (cZ, 60, .inl (fun _ => 0)))] H := hP
  have hD : va_D A [(wh, .inr (4, [.ref q_1, .ref q_2, .ref q_3, .null, .null, .null, .int 0])), (q_1, .inl (cI, 60, .inl (fun _ => 0))), (q_2, .inl (cI, 60, .inl (fun _ => 0))), (q_3, .inl (cI, 60, .inl (fun _ => 0))), (q_4, .inl (cZ, 60, .inl (fun _ => 0)))] := hD
  refine W.widen (k := 4) (n := 240) (by omega) (by omega) ?_
  refine va_putF (D := D) (ci := 4) (v := .ref q_4) (ty := .array .boolean) (C := RX4) (T := TX4) (N := 7) hx hb hts wc_X4_init_X4 tyX4 tyX4_ok nmX4 hown hK hP hD hS 0 rfl rfl 3 (by decide) (hts _ wd_X4_init_9) (fun _ h9 => h9) rfl hin rfl (by decide +kernel) rfl rfl (Nat.le_of_ble_eq_true rfl) dX4_init_33 (fun H locs hP hD hS => ?_)
  have hP : va_P D vwCl [(wh, .inr (4, [.ref q_1, .ref q_2, .ref q_3, .ref q_4, .null, .null, .int 0])), (q_1, .inl (cI, 60, .inl (fun _ => 0))), (q_2, .inl (cI, 60, .inl (fun _ => 0))), (q_3, .inl (cI, 60, .inl (fun _ => 0))), (q_4, .inl (cZ, 60, .inl (fun _ => 0)))] H := hP
  have hD : va_D A [(wh, .inr (4, [.ref q_1, .ref q_2, .ref q_3, .ref q_4, .null, .null, .int 0])), (q_1, .inl (cI, 60, .inl (fun _ => 0))), (q_2, .inl (cI, 60, .inl (fun _ => 0))), (q_3, .inl (cI, 60, .inl (fun _ => 0))), (q_4, .inl (cZ, 60, .inl (fun _ => 0)))] := hD
  refine lv_aload_n hx hb dX4_init_36 rfl (lv_at hl 0 rfl) ?_
  refine lv_bipush (v := 60) hx hb dX4_init_37 (by decide) ?_
  refine gw_newI hx hb (hts _ wd_X4_init_3) hK 0 rfl hP hD hS hA (n := 60) (N' := 60) (by decide) (by decide) (by decide) (Nat.le_of_ble_eq_true rfl) (Nat.le_of_ble_eq_true rfl) dX4_init_39 (fun q_5 H hP hD hS => ?_)
  have hP : va_P D vwCl [(wh, .inr (4, [.ref q_1, .ref q_2, .ref q_3, .ref q_4, .null, .null, .int 0])), (q_1, .inl (cI, 60, .inl (fun _ => 0))), (q_2, .inl (cI, 60, .inl (fun _ => 0))), (q_3, .inl (cI, 60, .inl (fun _ => 0))), (q_4, .inl (cZ, 60, .inl (fun _ => 0))), (q_5, .inl (cI, 60, .inl (fun _ => 0)))] H := hP
  have hD : va_D A [(wh, .inr (4, [.ref q_1, .ref q_2, .ref q_3, .ref q_4, .null, .null, .int 0])), (q_1, .inl (cI, 60, .inl (fun _ => 0))), (q_2, .inl (cI, 60, .inl (fun _ => 0))), (q_3, .inl (cI, 60, .inl (fun _ => 0))), (q_4, .inl (cZ, 60, .inl (fun _ => 0))), (q_5, .inl (cI, 60, .inl (fun _ => 0)))] := hD
  refine W.widen (k := 5) (n := 300) (by omega) (by omega) ?_
  refine va_putF (D := D) (ci := 4) (v := .ref q_5) (ty := .array .int) (C := RX4) (T := TX4) (N := 7) hx hb hts wc_X4_init_X4 tyX4 tyX4_ok nmX4 hown hK hP hD hS 0 rfl rfl 4 (by decide) (hts _ wd_X4_init_10) (fun _ h9 => h9) rfl hin rfl (by decide +kernel) rfl rfl (Nat.le_of_ble_eq_true rfl) dX4_init_41 (fun H locs hP hD hS => ?_)
  have hP : va_P D vwCl [(wh, .inr (4, [.ref q_1, .ref q_2, .ref q_3, .ref q_4, .ref q_5, .null, .int 0])), (q_1, .inl (cI, 60, .inl (fun _ => 0))), (q_2, .inl (cI, 60, .inl (fun _ => 0))), (q_3, .inl (cI, 60, .inl (fun _ => 0))), (q_4, .inl (cZ, 60, .inl (fun _ => 0))), (q_5, .inl (cI, 60, .inl (fun _ => 0)))] H := hP
  have hD : va_D A [(wh, .inr (4, [.ref q_1, .ref q_2, .ref q_3, .ref q_4, .ref q_5, .null, .int 0])), (q_1, .inl (cI, 60, .inl (fun _ => 0))), (q_2, .inl (cI, 60, .inl (fun _ => 0))), (q_3, .inl (cI, 60, .inl (fun _ => 0))), (q_4, .inl (cZ, 60, .inl (fun _ => 0))), (q_5, .inl (cI, 60, .inl (fun _ => 0)))] := hD
  refine lv_aload_n hx hb dX4_init_44 rfl (lv_at hl 0 rfl) ?_
  refine lv_bipush (v := 60) hx hb dX4_init_45 (by decide) ?_
  refine gw_newI hx hb (hts _ wd_X4_init_3) hK 0 rfl hP hD hS hA (n := 60) (N' := 60) (by decide) (by decide) (by decide) (Nat.le_of_ble_eq_true rfl) (Nat.le_of_ble_eq_true rfl) dX4_init_47 (fun q_6 H hP hD hS => ?_)
  have hP : va_P D vwCl [(wh, .inr (4, [.ref q_1, .ref q_2, .ref q_3, .ref q_4, .ref q_5, .null, .int 0])), (q_1, .inl (cI, 60, .inl (fun _ => 0))), (q_2, .inl (cI, 60, .inl (fun _ => 0))), (q_3, .inl (cI, 60, .inl (fun _ => 0))), (q_4, .inl (cZ, 60, .inl (fun _ => 0))), (q_5, .inl (cI, 60, .inl (fun _ => 0))), (q_6, .inl (cI, 60, .inl (fun _ => 0)))] H := hP
  have hD : va_D A [(wh, .inr (4, [.ref q_1, .ref q_2, .ref q_3, .ref q_4, .ref q_5, .null, .int 0])), (q_1, .inl (cI, 60, .inl (fun _ => 0))), (q_2, .inl (cI, 60, .inl (fun _ => 0))), (q_3, .inl (cI, 60, .inl (fun _ => 0))), (q_4, .inl (cZ, 60, .inl (fun _ => 0))), (q_5, .inl (cI, 60, .inl (fun _ => 0))), (q_6, .inl (cI, 60, .inl (fun _ => 0)))] := hD
  refine W.widen (k := 6) (n := 360) (by omega) (by omega) ?_
  refine va_putF (D := D) (ci := 4) (v := .ref q_6) (ty := .array .int) (C := RX4) (T := TX4) (N := 7) hx hb hts wc_X4_init_X4 tyX4 tyX4_ok nmX4 hown hK hP hD hS 0 rfl rfl 5 (by decide) (hts _ wd_X4_init_11) (fun _ h9 => h9) rfl hin rfl (by decide +kernel) rfl rfl (Nat.le_of_ble_eq_true rfl) dX4_init_49 (fun H locs hP hD hS => ?_)
  have hP : va_P D vwCl [(wh, .inr (4, [.ref q_1, .ref q_2, .ref q_3, .ref q_4, .ref q_5, .ref q_6, .int 0])), (q_1, .inl (cI, 60, .inl (fun _ => 0))), (q_2, .inl (cI, 60, .inl (fun _ => 0))), (q_3, .inl (cI, 60, .inl (fun _ => 0))), (q_4, .inl (cZ, 60, .inl (fun _ => 0))), (q_5, .inl (cI, 60, .inl (fun _ => 0))), (q_6, .inl (cI, 60, .inl (fun _ => 0)))] H := hP
  have hD : va_D A [(wh, .inr (4, [.ref q_1, .ref q_2, .ref q_3, .ref q_4, .ref q_5, .ref q_6, .int 0])), (q_1, .inl (cI, 60, .inl (fun _ => 0))), (q_2, .inl (cI, 60, .inl (fun _ => 0))), (q_3, .inl (cI, 60, .inl (fun _ => 0))), (q_4, .inl (cZ, 60, .inl (fun _ => 0))), (q_5, .inl (cI, 60, .inl (fun _ => 0))), (q_6, .inl (cI, 60, .inl (fun _ => 0)))] := hD
  subst hAe
  refine W.widen (k := 6) (n := 360) (by omega) (by omega) ?_
  exact W.vret hx hb hr (fun t ht hW => ⟨⟨(q_1, q_2, q_3, q_4, q_5, q_6), rfl, trivial, gw_hh ht hP, hD⟩, hS.F ht⟩) hS.2.2 dX4_init_52
