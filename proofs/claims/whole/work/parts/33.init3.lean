theorem wd_X6_init_0 : (.methodLink RX6 1 objectInit : Cond) ∈ wsX6_init := by decide +kernel
theorem wd_X6_init_1 : (.instanceMethod objectInit : Cond) ∈ wsX6_init := by decide +kernel
theorem wd_X6_init_2 : (.code objectInit ⟨#[0xb1]⟩ 1 none : Cond) ∈ wsX6_init := by decide +kernel
theorem wd_X6_init_3 : (.arrayClass .int : Cond) ∈ wsX6_init := by decide +kernel
theorem wc_X6_init_X6 : ∀ w ∈ u_ws RX6 TX6 10, w ∈ wsX6_init := by decide +kernel
theorem wd_X6_init_5 : (.fieldLink RX6 7 "GritWheelsModel" "fall" "[I" : Cond) ∈ wsX6_init := by decide +kernel
theorem wd_X6_init_6 : (.fieldLink RX6 13 "GritWheelsModel" "rock" "[I" : Cond) ∈ wsX6_init := by decide +kernel
theorem wd_X6_init_7 : (.fieldLink RX6 16 "GritWheelsModel" "people" "[I" : Cond) ∈ wsX6_init := by decide +kernel
theorem wd_X6_init_8 : (.fieldLink RX6 19 "GritWheelsModel" "stones" "[I" : Cond) ∈ wsX6_init := by decide +kernel
theorem wd_X6_init_9 : (.fieldLink RX6 22 "GritWheelsModel" "boats" "[I" : Cond) ∈ wsX6_init := by decide +kernel
theorem wd_X6_init_10 : (.fieldLink RX6 25 "GritWheelsModel" "numbers" "[I" : Cond) ∈ wsX6_init := by decide +kernel
set_option maxHeartbeats 4000000 in
set_option maxRecDepth 100000 in
theorem met_X6_init (l : Launch) (D : va_G) (cI cZ cL : ClassId) (mo : Nat) (sz : Nat) : Met l yX6_init wsX6_init ({ frames := 1, cells := 6, slots := 362, locals := 12 }) (gPi [.ref mo] D [(mo, .inr (6, [.int 0, .int 0, .int 0, .int 0, .null, .null, .null, .null, .null, .null]))] (gT cI cZ cL) sz) (va_Qv (fun (_ : Nat × Nat × Nat × Nat × Nat × Nat) => True) (fun (u : Nat × Nat × Nat × Nat × Nat × Nat) t => match u with | (m4, m5, m6, m7, m8, m9) => va_P D vwCl [(mo, .inr (6, [.int 0, .int 0, .int 0, .int 0, .ref m4, .ref m5, .ref m6, .ref m7, .ref m8, .ref m9])), (m4, .inl (cI, 9, .inl (gZero 0))), (m5, .inl (cI, 20, .inl (enR gZero))), (m6, .inl (cI, 24, .inl (enP gZero))), (m7, .inl (cI, 300, .inl (enS gZero))), (m8, .inl (cI, 6, .inl (enB (fun _ => 0) (fun _ => 0)))), (m9, .inl (cI, 3, .inl (enN 0 0 0)))] t.heap ∧ va_D (va_A [(mo, .inr (6, [.int 0, .int 0, .int 0, .int 0, .null, .null, .null, .null, .null, .null]))] sz) [(mo, .inr (6, [.int 0, .int 0, .int 0, .int 0, .ref m4, .ref m5, .ref m6, .ref m7, .ref m8, .ref m9])), (m4, .inl (cI, 9, .inl (gZero 0))), (m5, .inl (cI, 20, .inl (enR gZero))), (m6, .inl (cI, 24, .inl (enP gZero))), (m7, .inl (cI, 300, .inl (enS gZero))), (m8, .inl (cI, 6, .inl (enB (fun _ => 0) (fun _ => 0)))), (m9, .inl (cI, 3, .inl (enN 0 0 0)))]) (va_A [(mo, .inr (6, [.int 0, .int 0, .int 0, .int 0, .null, .null, .null, .null, .null, .null]))] sz)) 6 362 (va_A [(mo, .inr (6, [.int 0, .int 0, .int 0, .int 0, .null, .null, .null, .null, .null, .null]))] sz) := by
  refine Met.ofW (cc := cX6_init) (maxL := 1) (ret := none) (by decide +kernel) rfl ?_
  intro p e s m args below meth c s₁ B hml hv
  obtain ⟨rfl, hsz, hP, hK, hD0⟩ := hv
  have hx := B.exec
  have hb := B.bytes
  have hr := B.returns
  have hts := atoms_spec (ws := wsX6_init) B.pre
  have hown : s.vm.findClass RX6 = some m.cls := findClass_of_methodNamed B.named
  have hlocks := B.notSynchronized
  have hin : meth.name = "<init>" := (name_of_methodNamed B.named B.method).1
  subst hsz
  have hD := hD0.self (sz := s.heap.size)
  generalize hAe : va_A [(mo, .inr (6, [.int 0, .int 0, .int 0, .int 0, .null, .null, .null, .null, .null, .null]))] s.heap.size = A at hD ⊢
  have hA : ∀ q : Nat, s.heap.size ≤ q → A q := fun q h => by rw [← hAe]; exact Or.inr h
  have hS : va_S A s.heap s.heap [] := va_S.rf
  have hP : va_P D vwCl [(mo, .inr (6, [.int 0, .int 0, .int 0, .int 0, .null, .null, .null, .null, .null, .null]))] s.heap := hP
  have hl := lv_entry ([.ref mo]) (n := 1) (Nat.le_of_ble_eq_true rfl)
  rw [lg_entry_eq]
  generalize (lg_sl ([.ref mo]) ++ List.replicate (1 - (lg_sl ([.ref mo])).length) Slot.unset).toArray = ls at hl ⊢
  have hl : lv_has ls 1 [(0, .ref mo)] := hl
  refine lv_aload_n hx hb dX6_init_0 rfl (lv_at hl 0 rfl) ?_
  refine W.objInit hx hb hown (hts _ wd_X6_init_0) (hts _ wd_X6_init_1) (hts _ wd_X6_init_2) rfl (by rw [hml]; exact hl.1) rfl dX6_init_1 (Nat.le_of_ble_eq_true rfl) (Nat.le_of_ble_eq_true rfl) ?_
  refine W.eq (g2 := F0 m 4 ls []) rfl ?_
  refine lv_aload_n hx hb dX6_init_4 rfl (lv_at hl 0 rfl) ?_
  refine lv_bipush (v := 9) hx hb dX6_init_5 (by decide) ?_
  refine gw_newI hx hb (hts _ wd_X6_init_3) hK 0 rfl hP hD hS hA (n := 9) (N' := 9) (by decide) (by decide) (by decide) (Nat.le_of_ble_eq_true rfl) (Nat.le_of_ble_eq_true rfl) dX6_init_7 (fun q_1 H hP hD hS => ?_)
  have hP : va_P D vwCl [(mo, .inr (6, [.int 0, .int 0, .int 0, .int 0, .null, .null, .null, .null, .null, .null])), (q_1, .inl (cI, 9, .inl (fun _ => 0)))] H := hP
  have hD : va_D A [(mo, .inr (6, [.int 0, .int 0, .int 0, .int 0, .null, .null, .null, .null, .null, .null])), (q_1, .inl (cI, 9, .inl (fun _ => 0)))] := hD
  refine W.widen (k := 1) (n := 9) (by omega) (by omega) ?_
  refine lv_dup hx hb dX6_init_9 rfl ?_
  refine lv_iconst (v := 0) hx hb dX6_init_10 (by decide) ?_
  refine lv_iconst (v := 5) hx hb dX6_init_11 (by decide) ?_
  refine gw_top2 (y := nI 0) rfl ?_
  refine gw_iast hx hb hK hP hD hS 1 0 (k := 0) rfl rfl (by omega) (by decide) dX6_init_12 (fun H locs hP hD hS => ?_)
  have hP : va_P D vwCl [(mo, .inr (6, [.int 0, .int 0, .int 0, .int 0, .null, .null, .null, .null, .null, .null])), (q_1, .inl (cI, 9, .inl (upd (fun _ => 0) 0 5)))] H := hP
  have hD : va_D A [(mo, .inr (6, [.int 0, .int 0, .int 0, .int 0, .null, .null, .null, .null, .null, .null])), (q_1, .inl (cI, 9, .inl (upd (fun _ => 0) 0 5)))] := hD
  refine lv_dup hx hb dX6_init_13 rfl ?_
  refine lv_iconst (v := 1) hx hb dX6_init_14 (by decide) ?_
  refine lv_iconst (v := 5) hx hb dX6_init_15 (by decide) ?_
  refine gw_top2 (y := nI 1) rfl ?_
  refine gw_iast hx hb hK hP hD hS 1 0 (k := 1) rfl rfl (by omega) (by decide) dX6_init_16 (fun H locs hP hD hS => ?_)
  have hP : va_P D vwCl [(mo, .inr (6, [.int 0, .int 0, .int 0, .int 0, .null, .null, .null, .null, .null, .null])), (q_1, .inl (cI, 9, .inl (upd (upd (fun _ => 0) 0 5) 1 5)))] H := hP
  have hD : va_D A [(mo, .inr (6, [.int 0, .int 0, .int 0, .int 0, .null, .null, .null, .null, .null, .null])), (q_1, .inl (cI, 9, .inl (upd (upd (fun _ => 0) 0 5) 1 5)))] := hD
  refine lv_dup hx hb dX6_init_17 rfl ?_
  refine lv_iconst (v := 2) hx hb dX6_init_18 (by decide) ?_
  refine lv_iconst (v := 5) hx hb dX6_init_19 (by decide) ?_
  refine gw_top2 (y := nI 2) rfl ?_
  refine gw_iast hx hb hK hP hD hS 1 0 (k := 2) rfl rfl (by omega) (by decide) dX6_init_20 (fun H locs hP hD hS => ?_)
  have hP : va_P D vwCl [(mo, .inr (6, [.int 0, .int 0, .int 0, .int 0, .null, .null, .null, .null, .null, .null])), (q_1, .inl (cI, 9, .inl (upd (upd (upd (fun _ => 0) 0 5) 1 5) 2 5)))] H := hP
  have hD : va_D A [(mo, .inr (6, [.int 0, .int 0, .int 0, .int 0, .null, .null, .null, .null, .null, .null])), (q_1, .inl (cI, 9, .inl (upd (upd (upd (fun _ => 0) 0 5) 1 5) 2 5)))] := hD
  refine lv_dup hx hb dX6_init_21 rfl ?_
  refine lv_iconst (v := 3) hx hb dX6_init_22 (by decide) ?_
  refine lv_iconst (v := 5) hx hb dX6_init_23 (by decide) ?_
  refine gw_top2 (y := nI 3) rfl ?_
  refine gw_iast hx hb hK hP hD hS 1 0 (k := 3) rfl rfl (by omega) (by decide) dX6_init_24 (fun H locs hP hD hS => ?_)
  have hP : va_P D vwCl [(mo, .inr (6, [.int 0, .int 0, .int 0, .int 0, .null, .null, .null, .null, .null, .null])), (q_1, .inl (cI, 9, .inl (upd (upd (upd (upd (fun _ => 0) 0 5) 1 5) 2 5) 3 5)))] H := hP
  have hD : va_D A [(mo, .inr (6, [.int 0, .int 0, .int 0, .int 0, .null, .null, .null, .null, .null, .null])), (q_1, .inl (cI, 9, .inl (upd (upd (upd (upd (fun _ => 0) 0 5) 1 5) 2 5) 3 5)))] := hD
  refine lv_dup hx hb dX6_init_25 rfl ?_
  refine lv_iconst (v := 4) hx hb dX6_init_26 (by decide) ?_
  refine lv_iconst (v := 5) hx hb dX6_init_27 (by decide) ?_
  refine gw_top2 (y := nI 4) rfl ?_
  refine gw_iast hx hb hK hP hD hS 1 0 (k := 4) rfl rfl (by omega) (by decide) dX6_init_28 (fun H locs hP hD hS => ?_)
  have hP : va_P D vwCl [(mo, .inr (6, [.int 0, .int 0, .int 0, .int 0, .null, .null, .null, .null, .null, .null])), (q_1, .inl (cI, 9, .inl (upd (upd (upd (upd (upd (fun _ => 0) 0 5) 1 5) 2 5) 3 5) 4 5)))] H := hP
  have hD : va_D A [(mo, .inr (6, [.int 0, .int 0, .int 0, .int 0, .null, .null, .null, .null, .null, .null])), (q_1, .inl (cI, 9, .inl (upd (upd (upd (upd (upd (fun _ => 0) 0 5) 1 5) 2 5) 3 5) 4 5)))] := hD
  refine lv_dup hx hb dX6_init_29 rfl ?_
  refine lv_iconst (v := 5) hx hb dX6_init_30 (by decide) ?_
  refine lv_iconst (v := 5) hx hb dX6_init_31 (by decide) ?_
  refine gw_top2 (y := nI 5) rfl ?_
  refine gw_iast hx hb hK hP hD hS 1 0 (k := 5) rfl rfl (by omega) (by decide) dX6_init_32 (fun H locs hP hD hS => ?_)
  have hP : va_P D vwCl [(mo, .inr (6, [.int 0, .int 0, .int 0, .int 0, .null, .null, .null, .null, .null, .null])), (q_1, .inl (cI, 9, .inl (upd (upd (upd (upd (upd (upd (fun _ => 0) 0 5) 1 5) 2 5) 3 5) 4 5) 5 5)))] H := hP
  have hD : va_D A [(mo, .inr (6, [.int 0, .int 0, .int 0, .int 0, .null, .null, .null, .null, .null, .null])), (q_1, .inl (cI, 9, .inl (upd (upd (upd (upd (upd (upd (fun _ => 0) 0 5) 1 5) 2 5) 3 5) 4 5) 5 5)))] := hD
  refine lv_dup hx hb dX6_init_33 rfl ?_
  refine lv_bipush (v := 6) hx hb dX6_init_34 (by decide) ?_
  refine lv_iconst (v := 5) hx hb dX6_init_36 (by decide) ?_
  refine gw_top2 (y := nI 6) rfl ?_
  refine gw_iast hx hb hK hP hD hS 1 0 (k := 6) rfl rfl (by omega) (by decide) dX6_init_37 (fun H locs hP hD hS => ?_)
  have hP : va_P D vwCl [(mo, .inr (6, [.int 0, .int 0, .int 0, .int 0, .null, .null, .null, .null, .null, .null])), (q_1, .inl (cI, 9, .inl (upd (upd (upd (upd (upd (upd (upd (fun _ => 0) 0 5) 1 5) 2 5) 3 5) 4 5) 5 5) 6 5)))] H := hP
  have hD : va_D A [(mo, .inr (6, [.int 0, .int 0, .int 0, .int 0, .null, .null, .null, .null, .null, .null])), (q_1, .inl (cI, 9, .inl (upd (upd (upd (upd (upd (upd (upd (fun _ => 0) 0 5) 1 5) 2 5) 3 5) 4 5) 5 5) 6 5)))] := hD
  refine lv_dup hx hb dX6_init_38 rfl ?_
  refine lv_bipush (v := 7) hx hb dX6_init_39 (by decide) ?_
  refine lv_iconst (v := 5) hx hb dX6_init_41 (by decide) ?_
  refine gw_top2 (y := nI 7) rfl ?_
  refine gw_iast hx hb hK hP hD hS 1 0 (k := 7) rfl rfl (by omega) (by decide) dX6_init_42 (fun H locs hP hD hS => ?_)
  have hP : va_P D vwCl [(mo, .inr (6, [.int 0, .int 0, .int 0, .int 0, .null, .null, .null, .null, .null, .null])), (q_1, .inl (cI, 9, .inl (upd (upd (upd (upd (upd (upd (upd (upd (fun _ => 0) 0 5) 1 5) 2 5) 3 5) 4 5) 5 5) 6 5) 7 5)))] H := hP
  have hD : va_D A [(mo, .inr (6, [.int 0, .int 0, .int 0, .int 0, .null, .null, .null, .null, .null, .null])), (q_1, .inl (cI, 9, .inl (upd (upd (upd (upd (upd (upd (upd (upd (fun _ => 0) 0 5) 1 5) 2 5) 3 5) 4 5) 5 5) 6 5) 7 5)))] := hD
  refine lv_dup hx hb dX6_init_43 rfl ?_
  refine lv_bipush (v := 8) hx hb dX6_init_44 (by decide) ?_
  refine lv_iconst (v := 5) hx hb dX6_init_46 (by decide) ?_
  refine gw_top2 (y := nI 8) rfl ?_
  refine gw_iast hx hb hK hP hD hS 1 0 (k := 8) rfl rfl (by omega) (by decide) dX6_init_47 (fun H locs hP hD hS => ?_)
  have hP : va_P D vwCl [(mo, .inr (6, [.int 0, .int 0, .int 0, .int 0, .null, .null, .null, .null, .null, .null])), (q_1, .inl (cI, 9, .inl (upd (upd (upd (upd (upd (upd (upd (upd (upd (fun _ => 0) 0 5) 1 5) 2 5) 3 5) 4 5) 5 5) 6 5) 7 5) 8 5)))] H := hP
  have hD : va_D A [(mo, .inr (6, [.int 0, .int 0, .int 0, .int 0, .null, .null, .null, .null, .null, .null])), (q_1, .inl (cI, 9, .inl (upd (upd (upd (upd (upd (upd (upd (upd (upd (fun _ => 0) 0 5) 1 5) 2 5) 3 5) 4 5) 5 5) 6 5) 7 5) 8 5)))] := hD
  refine va_putF (D := D) (ci := 6) (v := .ref q_1) (ty := .array .int) (C := RX6) (T := TX6) (N := 10) hx hb hts wc_X6_init_X6 tyX6 tyX6_ok nmX6 hown hK hP hD hS 0 rfl rfl 4 (by decide) (hts _ wd_X6_init_5) (fun _ h9 => h9) rfl hin rfl (by decide +kernel) rfl rfl (Nat.le_of_ble_eq_true rfl) dX6_init_48 (fun H locs hP hD hS => ?_)
  have hP : va_P D vwCl [(mo, .inr (6, [.int 0, .int 0, .int 0, .int 0, .ref q_1, .null, .null, .null, .null, .null])), (q_1, .inl (cI, 9, .inl (upd (upd (upd (upd (upd (upd (upd (upd (upd (fun _ => 0) 0 5) 1 5) 2 5) 3 5) 4 5) 5 5) 6 5) 7 5) 8 5)))] H := hP
  have hD : va_D A [(mo, .inr (6, [.int 0, .int 0, .int 0, .int 0, .ref q_1, .null, .null, .null, .null, .null])), (q_1, .inl (cI, 9, .inl (upd (upd (upd (upd (upd (upd (upd (upd (upd (fun _ => 0) 0 5) 1 5) 2 5) 3 5) 4 5) 5 5) 6 5) 7 5) 8 5)))] := hD
  refine lv_aload_n hx hb dX6_init_51 rfl (lv_at hl 0 rfl) ?_
  refine lv_bipush (v := 20) hx hb dX6_init_52 (by decide) ?_
  refine gw_newI hx hb (hts _ wd_X6_init_3) hK 0 rfl hP hD hS hA (n := 20) (N' := 20) (by decide) (by decide) (by decide) (Nat.le_of_ble_eq_true rfl) (Nat.le_of_ble_eq_true rfl) dX6_init_54 (fun q_2 H hP hD hS => ?_)
  have hP : va_P D vwCl [(mo, .inr (6, [.int 0, .int 0, .int 0, .int 0, .ref q_1, .null, .null, .null, .null, .null])), (q_1, .inl (cI, 9, .inl (upd (upd (upd (upd (upd (upd (upd (upd (upd (fun _ => 0) 0 5) 1 5) 2 5) 3 5) 4 5) 5 5) 6 5) 7 5) 8 5))), (q_2, .inl (cI, 20, .inl (fun _ => 0)))] H := hP
  have hD : va_D A [(mo, .inr (6, [.int 0, .int 0, .int 0, .int 0, .ref q_1, .null, .null, .null, .null, .null])), (q_1, .inl (cI, 9, .inl (upd (upd (upd (upd (upd (upd (upd (upd (upd (fun _ => 0) 0 5) 1 5) 2 5) 3 5) 4 5) 5 5) 6 5) 7 5) 8 5))), (q_2, .inl (cI, 20, .inl (fun _ => 0)))] := hD
  refine W.widen (k := 2) (n := 29) (by omega) (by omega) ?_
  refine va_putF (D := D) (ci := 6) (v := .ref q_2) (ty := .array .int) (C := RX6) (T := TX6) (N := 10) hx hb hts wc_X6_init_X6 tyX6 tyX6_ok nmX6 hown hK hP hD hS 0 rfl rfl 5 (by decide) (hts _ wd_X6_init_6) (fun _ h9 => h9) rfl hin rfl (by decide +kernel) rfl rfl (Nat.le_of_ble_eq_true rfl) dX6_init_56 (fun H locs hP hD hS => ?_)
  have hP : va_P D vwCl [(mo, .inr (6, [.int 0, .int 0, .int 0, .int 0, .ref q_1, .ref q_2, .null, .null, .null, .null])), (q_1, .inl (cI, 9, .inl (upd (upd (upd (upd (upd (upd (upd (upd (upd (fun _ => 0) 0 5) 1 5) 2 5) 3 5) 4 5) 5 5) 6 5) 7 5) 8 5))), (q_2, .inl (cI, 20, .inl (fun _ => 0)))] H := hP
  have hD : va_D A [(mo, .inr (6, [.int 0, .int 0, .int 0, .int 0, .ref q_1, .ref q_2, .null, .null, .null, .null])), (q_1, .inl (cI, 9, .inl (upd (upd (upd (upd (upd (upd (upd (upd (upd (fun _ => 0) 0 5) 1 5) 2 5) 3 5) 4 5) 5 5) 6 5) 7 5) 8 5))), (q_2, .inl (cI, 20, .inl (fun _ => 0)))] := hD
  refine lv_aload_n hx hb dX6_init_59 rfl (lv_at hl 0 rfl) ?_
  refine lv_bipush (v := 24) hx hb dX6_init_60 (by decide) ?_
  refine gw_newI hx hb (hts _ wd_X6_init_3) hK 0 rfl hP hD hS hA (n := 24) (N' := 24) (by decide) (by decide) (by decide) (Nat.le_of_ble_eq_true rfl) (Nat.le_of_ble_eq_true rfl) dX6_init_62 (fun q_3 H hP hD hS => ?_)
  have hP : va_P D vwCl [(mo, .inr (6, [.int 0, .int 0, .int 0, .int 0, .ref q_1, .ref q_2, .null, .null, .null, .null])), (q_1, .inl (cI, 9, .inl (upd (upd (upd (upd (upd (upd (upd (upd (upd (fun _ => 0) 0 5) 1 5) 2 5) 3 5) 4 5) 5 5) 6 5) 7 5) 8 5))), (q_2, .inl (cI, 20, .inl (fun _ => 0))), (q_3, .inl (cI, 24, .inl (fun _ => 0)))] H := hP
  have hD : va_D A [(mo, .inr (6, [.int 0, .int 0, .int 0, .int 0, .ref q_1, .ref q_2, .null, .null, .null, .null])), (q_1, .inl (cI, 9, .inl (upd (upd (upd (upd (upd (upd (upd (upd (upd (fun _ => 0) 0 5) 1 5) 2 5) 3 5) 4 5) 5 5) 6 5) 7 5) 8 5))), (q_2, .inl (cI, 20, .inl (fun _ => 0))), (q_3, .inl (cI, 24, .inl (fun _ => 0)))] := hD
  refine W.widen (k := 3) (n := 53) (by omega) (by omega) ?_
  refine va_putF (D := D) (ci := 6) (v := .ref q_3) (ty := .array .int) (C := RX6) (T := TX6) (N := 10) hx hb hts wc_X6_init_X6 tyX6 tyX6_ok nmX6 hown hK hP hD hS 0 rfl rfl 6 (by decide) (hts _ wd_X6_init_7) (fun _ h9 => h9) rfl hin rfl (by decide +kernel) rfl rfl (Nat.le_of_ble_eq_true rfl) dX6_init_64 (fun H locs hP hD hS => ?_)
  have hP : va_P D vwCl [(mo, .inr (6, [.int 0, .int 0, .int 0, .int 0, .ref q_1, .ref q_2, .ref q_3, .null, .null, .null])), (q_1, .inl (cI, 9, .inl (upd (upd (upd (upd (upd (upd (upd (upd (upd (fun _ => 0) 0 5) 1 5) 2 5) 3 5) 4 5) 5 5) 6 5) 7 5) 8 5))), (q_2, .inl (cI, 20, .inl (fun _ => 0))), (q_3, .inl (cI, 24, .inl (fun _ => 0)))] H := hP
  have hD : va_D A [(mo, .inr (6, [.int 0, .int 0, .int 0, .int 0, .ref q_1, .ref q_2, .ref q_3, .null, .null, .null])), (q_1, .inl (cI, 9, .inl (upd (upd (upd (upd (upd (upd (upd (upd (upd (fun _ => 0) 0 5) 1 5) 2 5) 3 5) 4 5) 5 5) 6 5) 7 5) 8 5))), (q_2, .inl (cI, 20, .inl (fun _ => 0))), (q_3, .inl (cI, 24, .inl (fun _ => 0)))] := hD
  refine lv_aload_n hx hb dX6_init_67 rfl (lv_at hl 0 rfl) ?_
  refine lv_sipush (v := 300) hx hb dX6_init_68 (by decide) ?_
  refine gw_newI hx hb (hts _ wd_X6_init_3) hK 0 rfl hP hD hS hA (n := 300) (N' := 300) (by decide) (by decide) (by decide) (Nat.le_of_ble_eq_true rfl) (Nat.le_of_ble_eq_true rfl) dX6_init_71 (fun q_4 H hP hD hS => ?_)
  have hP : va_P D vwCl [(mo, .inr (6, [.int 0, .int 0, .int 0, .int 0, .ref q_1, .ref q_2, .ref q_3, .null, .null, .null])), (q_1, .inl (cI, 9, .inl (upd (upd (upd (upd (upd (upd (upd (upd (upd (fun _ => 0) 0 5) 1 5) 2 5) 3 5) 4 5) 5 5) 6 5) 7 5) 8 5))), (q_2, .inl (cI, 20, .inl (fun _ => 0))), (q_3, .inl (cI, 24, .inl (fun _ => 0))), (q_4, .inl (cI, 300, .inl (fun _ => 0)))] H := hP
  have hD : va_D A [(mo, .inr (6, [.int 0, .int 0, .int 0, .int 0, .ref q_1, .ref q_2, .ref q_3, .null, .null, .null])), (q_1, .inl (cI, 9, .inl (upd (upd (upd (upd (upd (upd (upd (upd (upd (fun _ => 0) 0 5) 1 5) 2 5) 3 5) 4 5) 5 5) 6 5) 7 5) 8 5))), (q_2, .inl (cI, 20, .inl (fun _ => 0))), (q_3, .inl (cI, 24, .inl (fun _ => 0))), (q_4, .inl (cI, 300, .inl (fun _ => 0)))] := hD
  refine W.widen (k := 4) (n := 353) (by omega) (by omega) ?_
  refine va_putF (D := D) (ci := 6) (v := .ref q_4) (ty := .array .int) (C := RX6) (T := TX6) (N := 10) hx hb hts wc_X6_init_X6 tyX6 tyX6_ok nmX6 hown hK hP hD hS 0 rfl rfl 7 (by decide) (hts _ wd_X6_init_8) (fun _ h9 => h9) rfl hin rfl (by decide +kernel) rfl rfl (Nat.le_of_ble_eq_true rfl) dX6_init_73 (fun H locs hP hD hS => ?_)
  have hP : va_P D vwCl [(mo, .inr (6, [.int 0, .int 0, .int 0, .int 0, .ref q_1, .ref q_2, .ref q_3, .ref q_4, .null, .null])), (q_1, .inl (cI, 9, .inl (upd (upd (upd (upd (upd (upd (upd (upd (upd (fun _ => 0) 0 5) 1 5) 2 5) 3 5) 4 5) 5 5) 6 5) 7 5) 8 5))), (q_2, .inl (cI, 20, .inl (fun _ => 0))), (q_3, .inl (cI, 24, .inl (fun _ => 0))), (q_4, .inl (cI, 300, .inl (fun _ => 0)))] H := hP
  have hD : va_D A [(mo, .inr (6, [.int 0, .int 0, .int 0, .int 0, .ref q_1, .ref q_2, .ref q_3, .ref q_4, .null, .null])), (q_1, .inl (cI, 9, .inl (upd (upd (upd (upd (upd (upd (upd (upd (upd (fun _ => 0) 0 5) 1 5) 2 5) 3 5) 4 5) 5 5) 6 5) 7 5) 8 5))), (q_2, .inl (cI, 20, .inl (fun _ => 0))), (q_3, .inl (cI, 24, .inl (fun _ => 0))), (q_4, .inl (cI, 300, .inl (fun _ => 0)))] := hD
  refine lv_aload_n hx hb dX6_init_76 rfl (lv_at hl 0 rfl) ?_
  refine lv_bipush (v := 6) hx hb dX6_init_77 (by decide) ?_
  refine gw_newI hx hb (hts _ wd_X6_init_3) hK 0 rfl hP hD hS hA (n := 6) (N' := 6) (by decide) (by decide) (by decide) (Nat.le_of_ble_eq_true rfl) (Nat.le_of_ble_eq_true rfl) dX6_init_79 (fun q_5 H hP hD hS => ?_)
  have hP : va_P D vwCl [(mo, .inr (6, [.int 0, .int 0, .int 0, .int 0, .ref q_1, .ref q_2, .ref q_3, .ref q_4, .null, .null])), (q_1, .inl (cI, 9, .inl (upd (upd (upd (upd (upd (upd (upd (upd (upd (fun _ => 0) 0 5) 1 5) 2 5) 3 5) 4 5) 5 5) 6 5) 7 5) 8 5))), (q_2, .inl (cI, 20, .inl (fun _ => 0))), (q_3, .inl (cI, 24, .inl (fun _ => 0))), (q_4, .inl (cI, 300, .inl (fun _ => 0))), (q_5, .inl (cI, 6, .inl (fun _ => 0)))] H := hP
  have hD : va_D A [(mo, .inr (6, [.int 0, .int 0, .int 0, .int 0, .ref q_1, .ref q_2, .ref q_3, .ref q_4, .null, .null])), (q_1, .inl (cI, 9, .inl (upd (upd (upd (upd (upd (upd (upd (upd (upd (fun _ => 0) 0 5) 1 5) 2 5) 3 5) 4 5) 5 5) 6 5) 7 5) 8 5))), (q_2, .inl (cI, 20, .inl (fun _ => 0))), (q_3, .inl (cI, 24, .inl (fun _ => 0))), (q_4, .inl (cI, 300, .inl (fun _ => 0))), (q_5, .inl (cI, 6, .inl (fun _ => 0)))] := hD
  refine W.widen (k := 5) (n := 359) (by omega) (by omega) ?_
  refine va_putF (D := D) (ci := 6) (v := .ref q_5) (ty := .array .int) (C := RX6) (T := TX6) (N := 10) hx hb hts wc_X6_init_X6 tyX6 tyX6_ok nmX6 hown hK hP hD hS 0 rfl rfl 8 (by decide) (hts _ wd_X6_init_9) (fun _ h9 => h9) rfl hin rfl (by decide +kernel) rfl rfl (Nat.le_of_ble_eq_true rfl) dX6_init_81 (fun H locs hP hD hS => ?_)
  have hP : va_P D vwCl [(mo, .inr (6, [.int 0, .int 0, .int 0, .int 0, .ref q_1, .ref q_2, .ref q_3, .ref q_4, .ref q_5, .null])), (q_1, .inl (cI, 9, .inl (upd (upd (upd (upd (upd (upd (upd (upd (upd (fun _ => 0) 0 5) 1 5) 2 5) 3 5) 4 5) 5 5) 6 5) 7 5) 8 5))), (q_2, .inl (cI, 20, .inl (fun _ => 0))), (q_3, .inl (cI, 24, .inl (fun _ => 0))), (q_4, .inl (cI, 300, .inl (fun _ => 0))), (q_5, .inl (cI, 6, .inl (fun _ => 0)))] H := hP
  have hD : va_D A [(mo, .inr (6, [.int 0, .int 0, .int 0, .int 0, .ref q_1, .ref q_2, .ref q_3, .ref q_4, .ref q_5, .null])), (q_1, .inl (cI, 9, .inl (upd (upd (upd (upd (upd (upd (upd (upd (upd (fun _ => 0) 0 5) 1 5) 2 5) 3 5) 4 5) 5 5) 6 5) 7 5) 8 5))), (q_2, .inl (cI, 20, .inl (fun _ => 0))), (q_3, .inl (cI, 24, .inl (fun _ => 0))), (q_4, .inl (cI, 300, .inl (fun _ => 0))), (q_5, .inl (cI, 6, .inl (fun _ => 0)))] := hD
  refine lv_aload_n hx hb dX6_init_84 rfl (lv_at hl 0 rfl) ?_
  refine lv_iconst (v := 3) hx hb dX6_init_85 (by decide) ?_
  refine gw_newI hx hb (hts _ wd_X6_init_3) hK 0 rfl hP hD hS hA (n := 3) (N' := 3) (by decide) (by decide) (by decide) (Nat.le_of_ble_eq_true rfl) (Nat.le_of_ble_eq_true rfl) dX6_init_86 (fun q_6 H hP hD hS => ?_)
  have hP : va_P D vwCl [(mo, .inr (6, [.int 0, .int 0, .int 0, .int 0, .ref q_1, .ref q_2, .ref q_3, .ref q_4, .ref q_5, .null])), (q_1, .inl (cI, 9, .inl (upd (upd (upd (upd (upd (upd (upd (upd (upd (fun _ => 0) 0 5) 1 5) 2 5) 3 5) 4 5) 5 5) 6 5) 7 5) 8 5))), (q_2, .inl (cI, 20, .inl (fun _ => 0))), (q_3, .inl (cI, 24, .inl (fun _ => 0))), (q_4, .inl (cI, 300, .inl (fun _ => 0))), (q_5, .inl (cI, 6, .inl (fun _ => 0))), (q_6, .inl (cI, 3, .inl (fun _ => 0)))] H := hP
  have hD : va_D A [(mo, .inr (6, [.int 0, .int 0, .int 0, .int 0, .ref q_1, .ref q_2, .ref q_3, .ref q_4, .ref q_5, .null])), (q_1, .inl (cI, 9, .inl (upd (upd (upd (upd (upd (upd (upd (upd (upd (fun _ => 0) 0 5) 1 5) 2 5) 3 5) 4 5) 5 5) 6 5) 7 5) 8 5))), (q_2, .inl (cI, 20, .inl (fun _ => 0))), (q_3, .inl (cI, 24, .inl (fun _ => 0))), (q_4, .inl (cI, 300, .inl (fun _ => 0))), (q_5, .inl (cI, 6, .inl (fun _ => 0))), (q_6, .inl (cI, 3, .inl (fun _ => 0)))] := hD
  refine W.widen (k := 6) (n := 362) (by omega) (by omega) ?_
  refine va_putF (D := D) (ci := 6) (v := .ref q_6) (ty := .array .int) (C := RX6) (T := TX6) (N := 10) hx hb hts wc_X6_init_X6 tyX6 tyX6_ok nmX6 hown hK hP hD hS 0 rfl rfl 9 (by decide) (hts _ wd_X6_init_10) (fun _ h9 => h9) rfl hin rfl (by decide +kernel) rfl rfl (Nat.le_of_ble_eq_true rfl) dX6_init_88 (fun H locs hP hD hS => ?_)
  have hP : va_P D vwCl [(mo, .inr (6, [.int 0, .int 0, .int 0, .int 0, .ref q_1, .ref q_2, .ref q_3, .ref q_4, .ref q_5, .ref q_6])), (q_1, .inl (cI, 9, .inl (upd (upd (upd (upd (upd (upd (upd (upd (upd (fun _ => 0) 0 5) 1 5) 2 5) 3 5) 4 5) 5 5) 6 5) 7 5) 8 5))), (q_2, .inl (cI, 20, .inl (fun _ => 0))), (q_3, .inl (cI, 24, .inl (fun _ => 0))), (q_4, .inl (cI, 300, .inl (fun _ => 0))), (q_5, .inl (cI, 6, .inl (fun _ => 0))), (q_6, .inl (cI, 3, .inl (fun _ => 0)))] H := hP
  have hD : va_D A [(mo, .inr (6, [.int 0, .int 0, .int 0, .int 0, .ref q_1, .ref q_2, .ref q_3, .ref q_4, .ref q_5, .ref q_6])), (q_1, .inl (cI, 9, .inl (upd (upd (upd (upd (upd (upd (upd (upd (upd (fun _ => 0) 0 5) 1 5) 2 5) 3 5) 4 5) 5 5) 6 5) 7 5) 8 5))), (q_2, .inl (cI, 20, .inl (fun _ => 0))), (q_3, .inl (cI, 24, .inl (fun _ => 0))), (q_4, .inl (cI, 300, .inl (fun _ => 0))), (q_5, .inl (cI, 6, .inl (fun _ => 0))), (q_6, .inl (cI, 3, .inl (fun _ => 0)))] := hD
  have hP : va_P D vwCl [(mo, .inr (6, [.int 0, .int 0, .int 0, .int 0, .ref q_1, .ref q_2, .ref q_3, .ref q_4, .ref q_5, .ref q_6])), (q_1, .inl (cI, 9, .inl (gZero 0))), (q_2, .inl (cI, 20, .inl (enR gZero))), (q_3, .inl (cI, 24, .inl (enP gZero))), (q_4, .inl (cI, 300, .inl (enS gZero))), (q_5, .inl (cI, 6, .inl (enB (fun _ => 0) (fun _ => 0)))), (q_6, .inl (cI, 3, .inl (enN 0 0 0)))] H := by rw [enR_zero, enP_zero, enS_zero, enB_zero, enN_zero, ← gFall_zero]; exact hP
  have hD : va_D A [(mo, .inr (6, [.int 0, .int 0, .int 0, .int 0, .ref q_1, .ref q_2, .ref q_3, .ref q_4, .ref q_5, .ref q_6])), (q_1, .inl (cI, 9, .inl (gZero 0))), (q_2, .inl (cI, 20, .inl (enR gZero))), (q_3, .inl (cI, 24, .inl (enP gZero))), (q_4, .inl (cI, 300, .inl (enS gZero))), (q_5, .inl (cI, 6, .inl (enB (fun _ => 0) (fun _ => 0)))), (q_6, .inl (cI, 3, .inl (enN 0 0 0)))] := by rw [enR_zero, enP_zero, enS_zero, enB_zero, enN_zero, ← gFall_zero]; exact hD
  subst hAe
  have hP := hP.sub (ws' := [(mo, .inr (6, [.int 0, .int 0, .int 0, .int 0, .ref q_1, .ref q_2, .ref q_3, .ref q_4, .ref q_5, .ref q_6])), (q_1, .inl (cI, 9, .inl (gZero 0))), (q_2, .inl (cI, 20, .inl (enR gZero))), (q_3, .inl (cI, 24, .inl (enP gZero))), (q_4, .inl (cI, 300, .inl (enS gZero))), (q_5, .inl (cI, 6, .inl (enB (fun _ => 0) (fun _ => 0)))), (q_6, .inl (cI, 3, .inl (enN 0 0 0)))]) [0, 1, 2, 3, 4, 5, 6] rfl
  have hD := hD.sub (ws' := [(mo, .inr (6, [.int 0, .int 0, .int 0, .int 0, .ref q_1, .ref q_2, .ref q_3, .ref q_4, .ref q_5, .ref q_6])), (q_1, .inl (cI, 9, .inl (gZero 0))), (q_2, .inl (cI, 20, .inl (enR gZero))), (q_3, .inl (cI, 24, .inl (enP gZero))), (q_4, .inl (cI, 300, .inl (enS gZero))), (q_5, .inl (cI, 6, .inl (enB (fun _ => 0) (fun _ => 0)))), (q_6, .inl (cI, 3, .inl (enN 0 0 0)))]) [0, 1, 2, 3, 4, 5, 6] (by decide) rfl
  have hP : va_P D vwCl [(mo, .inr (6, [.int 0, .int 0, .int 0, .int 0, .ref q_1, .ref q_2, .ref q_3, .ref q_4, .ref q_5, .ref q_6])), (q_1, .inl (cI, 9, .inl (gZero 0))), (q_2, .inl (cI, 20, .inl (enR gZero))), (q_3, .inl (cI, 24, .inl (enP gZero))), (q_4, .inl (cI, 300, .inl (enS gZero))), (q_5, .inl (cI, 6, .inl (enB (fun _ => 0) (fun _ => 0)))), (q_6, .inl (cI, 3, .inl (enN 0 0 0)))] H := hP
  have hD : va_D _ [(mo, .inr (6, [.int 0, .int 0, .int 0, .int 0, .ref q_1, .ref q_2, .ref q_3, .ref q_4, .ref q_5, .ref q_6])), (q_1, .inl (cI, 9, .inl (gZero 0))), (q_2, .inl (cI, 20, .inl (enR gZero))), (q_3, .inl (cI, 24, .inl (enP gZero))), (q_4, .inl (cI, 300, .inl (enS gZero))), (q_5, .inl (cI, 6, .inl (enB (fun _ => 0) (fun _ => 0)))), (q_6, .inl (cI, 3, .inl (enN 0 0 0)))] := hD
  refine W.widen (k := 6) (n := 362) (by omega) (by omega) ?_
  exact W.vret hx hb hr (fun t ht hW => ⟨⟨(q_1, q_2, q_3, q_4, q_5, q_6), rfl, trivial, gw_hh ht hP, hD⟩, hS.F ht⟩) hS.2.2 dX6_init_91
