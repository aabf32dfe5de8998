/-! Sim.<init>. -/
theorem wd_X6_init_0 : (.methodLink RX6 1 objectInit : Cond) ∈ wsX6_init := by decide +kernel
theorem wd_X6_init_1 : (.instanceMethod objectInit : Cond) ∈ wsX6_init := by decide +kernel
theorem wd_X6_init_2 : (.code objectInit ⟨#[0xb1]⟩ 1 none : Cond) ∈ wsX6_init := by decide +kernel
theorem wd_X6_init_3 : (.arrayClass .int : Cond) ∈ wsX6_init := by decide +kernel
theorem wc_X6_init_X6 : ∀ w ∈ u_ws RX6 TX6 8, w ∈ wsX6_init := by decide +kernel
theorem wd_X6_init_5 : (.fieldLink RX6 7 "GritWheelsLaw$Sim" "fall" "[I" : Cond) ∈ wsX6_init := by decide +kernel
theorem wd_X6_init_6 : (.classLink RX6 13 "[I" : Cond) ∈ wsX6_init := by decide +kernel
theorem wd_X6_init_7 : (.fieldLink RX6 14 "GritWheelsLaw$Sim" "beds" "[[I" : Cond) ∈ wsX6_init := by decide +kernel
theorem wd_X6_init_8 : (.fieldLink RX6 18 "GritWheelsLaw$Sim" "people" "[[I" : Cond) ∈ wsX6_init := by decide +kernel
theorem wd_X6_init_9 : (.fieldLink RX6 21 "GritWheelsLaw$Sim" "rafts" "[[I" : Cond) ∈ wsX6_init := by decide +kernel
theorem wd_X6_init_10 : (.classLink RX6 24 RX7 : Cond) ∈ wsX6_init := by decide +kernel
theorem wd_X6_init_11 : (.fieldLink RX6 26 "GritWheelsLaw$Sim" "wheels" "[LGritWheelsLaw$Wheel;" : Cond) ∈ wsX6_init := by decide +kernel
set_option maxHeartbeats 4000000 in
set_option maxRecDepth 100000 in
theorem met_X6_init (l : Launch) (D : va_G) (cI cZ cW cO : ClassId) (si : Nat) (sz : Nat) : Met l yX6_init wsX6_init ({ frames := 1, cells := 5, slots := 69, locals := 12 }) (gPs [.ref si] D [(si, .inr (6, [.null, .null, .null, .null, .null, .int 0, .int 0, .int 0]))] (sT cI cZ cW cO) sz) (va_Qv (fun (_ : Nat × Nat × Nat × Nat × Nat) => True) (fun (u : Nat × Nat × Nat × Nat × Nat) t => match u with | (fa, ob, op, oc, ow) => va_P D vwCl [(si, .inr (6, [.ref fa, .ref ob, .ref op, .ref oc, .ref ow, .int 0, .int 0, .int 0])), (fa, .inl (cI, 9, .inl (gZero 0))), (ob, .inl (cO, 0, .inr (.inr (.inr (.inr (fun _ => none)))))), (op, .inl (cO, 0, .inr (.inr (.inr (.inr (fun _ => none)))))), (oc, .inl (cO, 0, .inr (.inr (.inr (.inr (fun _ => none)))))), (ow, .inl (cW, 60, .inr (.inr (.inr (.inr (fun _ => none))))))] t.heap ∧ va_D (va_A [(si, .inr (6, [.null, .null, .null, .null, .null, .int 0, .int 0, .int 0]))] sz) [(si, .inr (6, [.ref fa, .ref ob, .ref op, .ref oc, .ref ow, .int 0, .int 0, .int 0])), (fa, .inl (cI, 9, .inl (gZero 0))), (ob, .inl (cO, 0, .inr (.inr (.inr (.inr (fun _ => none)))))), (op, .inl (cO, 0, .inr (.inr (.inr (.inr (fun _ => none)))))), (oc, .inl (cO, 0, .inr (.inr (.inr (.inr (fun _ => none)))))), (ow, .inl (cW, 60, .inr (.inr (.inr (.inr (fun _ => none))))))]) (va_A [(si, .inr (6, [.null, .null, .null, .null, .null, .int 0, .int 0, .int 0]))] sz)) 5 69 (va_A [(si, .inr (6, [.null, .null, .null, .null, .null, .int 0, .int 0, .int 0]))] sz) := by
  refine Met.ofW (cc := cX6_init) (maxL := 1) (ret := none) (by decide +kernel) rfl ?_
  intro p e s m args below meth c s₁ B hml hv
  obtain ⟨rfl, hsz, hP, hK, hD0, hR⟩ := hv
  have hx := B.exec
  have hb := B.bytes
  have hr := B.returns
  have hts := atoms_spec (ws := wsX6_init) B.pre
  have hown : s.vm.findClass RX6 = some m.cls := findClass_of_methodNamed B.named
  have hlocks := B.notSynchronized
  subst hsz
  have hD := hD0.self (sz := s.heap.size)
  generalize hAe : va_A [(si, .inr (6, [.null, .null, .null, .null, .null, .int 0, .int 0, .int 0]))] s.heap.size = A at hD ⊢
  have hA : ∀ q : Nat, s.heap.size ≤ q → A q := fun q h => by rw [← hAe]; exact Or.inr h
  have hS : va_S A s.heap s.heap [] := va_S.rf
  have hP : va_P D vwCl [(si, .inr (6, [.null, .null, .null, .null, .null, .int 0, .int 0, .int 0]))] s.heap := hP
  have hl := lv_entry ([.ref si]) (n := 1) (Nat.le_of_ble_eq_true rfl)
  rw [lg_entry_eq]
  generalize (lg_sl ([.ref si]) ++ List.replicate (1 - (lg_sl ([.ref si])).length) Slot.unset).toArray = ls at hl ⊢
  have hl : lv_has ls 1 [(0, .ref si)] := hl
  refine lv_aload_n hx hb dX6_init_0 rfl (lv_at hl 0 rfl) ?_
  refine W.objInit hx hb hown (hts _ wd_X6_init_0) (hts _ wd_X6_init_1) (hts _ wd_X6_init_2) rfl (by rw [hml]; exact hl.1) rfl dX6_init_1 (Nat.le_of_ble_eq_true rfl) (Nat.le_of_ble_eq_true rfl) ?_
  refine W.eq (g2 := F0 m 4 ls []) rfl ?_
  refine lv_aload_n hx hb dX6_init_4 rfl (lv_at hl 0 rfl) ?_
  refine lv_bipush (v := 9) hx hb dX6_init_5 (by decide) ?_
  refine gw_newI hx hb (hts _ wd_X6_init_3) hK 0 rfl hP hD hS hA (n := 9) (N' := 9) (by decide) (by decide) (by decide) (Nat.le_of_ble_eq_true rfl) (Nat.le_of_ble_eq_true rfl) dX6_init_7 (fun q_1 H hP hD hS => ?_)
  have hP : va_P D vwCl [(si, .inr (6, [.null, .null, .null, .null, .null, .int 0, .int 0, .int 0])), (q_1, .inl (cI, 9, .inl (fun _ => 0)))] _ := hP
  have hD : va_D A [(si, .inr (6, [.null, .null, .null, .null, .null, .int 0, .int 0, .int 0])), (q_1, .inl (cI, 9, .inl (fun _ => 0)))] := hD
  refine W.widen (k := 1) (n := 9) (by omega) (by omega) ?_
  refine lv_dup hx hb dX6_init_9 rfl ?_
  refine lv_iconst (v := 0) hx hb dX6_init_10 (by decide) ?_
  refine lv_iconst (v := 5) hx hb dX6_init_11 (by decide) ?_
  refine gw_top2 (y := nI 0) rfl ?_
  refine gw_iast hx hb hK hP hD hS 1 0 (k := 0) rfl rfl (by first | decide | omega) (by decide) dX6_init_12 (fun H locs hP hD hS => ?_)
  have hP : va_P D vwCl [(si, .inr (6, [.null, .null, .null, .null, .null, .int 0, .int 0, .int 0])), (q_1, .inl (cI, 9, .inl (upd (fun _ => 0) 0 5)))] _ := hP
  have hD : va_D A [(si, .inr (6, [.null, .null, .null, .null, .null, .int 0, .int 0, .int 0])), (q_1, .inl (cI, 9, .inl (upd (fun _ => 0) 0 5)))] := hD
  refine lv_dup hx hb dX6_init_13 rfl ?_
  refine lv_iconst (v := 1) hx hb dX6_init_14 (by decide) ?_
  refine lv_iconst (v := 5) hx hb dX6_init_15 (by decide) ?_
  refine gw_top2 (y := nI 1) rfl ?_
  refine gw_iast hx hb hK hP hD hS 1 0 (k := 1) rfl rfl (by first | decide | omega) (by decide) dX6_init_16 (fun H locs hP hD hS => ?_)
  have hP : va_P D vwCl [(si, .inr (6, [.null, .null, .null, .null, .null, .int 0, .int 0, .int 0])), (q_1, .inl (cI, 9, .inl (upd (upd (fun _ => 0) 0 5) 1 5)))] _ := hP
  have hD : va_D A [(si, .inr (6, [.null, .null, .null, .null, .null, .int 0, .int 0, .int 0])), (q_1, .inl (cI, 9, .inl (upd (upd (fun _ => 0) 0 5) 1 5)))] := hD
  refine lv_dup hx hb dX6_init_17 rfl ?_
  refine lv_iconst (v := 2) hx hb dX6_init_18 (by decide) ?_
  refine lv_iconst (v := 5) hx hb dX6_init_19 (by decide) ?_
  refine gw_top2 (y := nI 2) rfl ?_
  refine gw_iast hx hb hK hP hD hS 1 0 (k := 2) rfl rfl (by first | decide | omega) (by decide) dX6_init_20 (fun H locs hP hD hS => ?_)
  have hP : va_P D vwCl [(si, .inr (6, [.null, .null, .null, .null, .null, .int 0, .int 0, .int 0])), (q_1, .inl (cI, 9, .inl (upd (upd (upd (fun _ => 0) 0 5) 1 5) 2 5)))] _ := hP
  have hD : va_D A [(si, .inr (6, [.null, .null, .null, .null, .null, .int 0, .int 0, .int 0])), (q_1, .inl (cI, 9, .inl (upd (upd (upd (fun _ => 0) 0 5) 1 5) 2 5)))] := hD
  refine lv_dup hx hb dX6_init_21 rfl ?_
  refine lv_iconst (v := 3) hx hb dX6_init_22 (by decide) ?_
  refine lv_iconst (v := 5) hx hb dX6_init_23 (by decide) ?_
  refine gw_top2 (y := nI 3) rfl ?_
  refine gw_iast hx hb hK hP hD hS 1 0 (k := 3) rfl rfl (by first | decide | omega) (by decide) dX6_init_24 (fun H locs hP hD hS => ?_)
  have hP : va_P D vwCl [(si, .inr (6, [.null, .null, .null, .null, .null, .int 0, .int 0, .int 0])), (q_1, .inl (cI, 9, .inl (upd (upd (upd (upd (fun _ => 0) 0 5) 1 5) 2 5) 3 5)))] _ := hP
  have hD : va_D A [(si, .inr (6, [.null, .null, .null, .null, .null, .int 0, .int 0, .int 0])), (q_1, .inl (cI, 9, .inl (upd (upd (upd (upd (fun _ => 0) 0 5) 1 5) 2 5) 3 5)))] := hD
  refine lv_dup hx hb dX6_init_25 rfl ?_
  refine lv_iconst (v := 4) hx hb dX6_init_26 (by decide) ?_
  refine lv_iconst (v := 5) hx hb dX6_init_27 (by decide) ?_
  refine gw_top2 (y := nI 4) rfl ?_
  refine gw_iast hx hb hK hP hD hS 1 0 (k := 4) rfl rfl (by first | decide | omega) (by decide) dX6_init_28 (fun H locs hP hD hS => ?_)
  have hP : va_P D vwCl [(si, .inr (6, [.null, .null, .null, .null, .null, .int 0, .int 0, .int 0])), (q_1, .inl (cI, 9, .inl (upd (upd (upd (upd (upd (fun _ => 0) 0 5) 1 5) 2 5) 3 5) 4 5)))] _ := hP
  have hD : va_D A [(si, .inr (6, [.null, .null, .null, .null, .null, .int 0, .int 0, .int 0])), (q_1, .inl (cI, 9, .inl (upd (upd (upd (upd (upd (fun _ => 0) 0 5) 1 5) 2 5) 3 5) 4 5)))] := hD
  refine lv_dup hx hb dX6_init_29 rfl ?_
  refine lv_iconst (v := 5) hx hb dX6_init_30 (by decide) ?_
  refine lv_iconst (v := 5) hx hb dX6_init_31 (by decide) ?_
  refine gw_top2 (y := nI 5) rfl ?_
  refine gw_iast hx hb hK hP hD hS 1 0 (k := 5) rfl rfl (by first | decide | omega) (by decide) dX6_init_32 (fun H locs hP hD hS => ?_)
  have hP : va_P D vwCl [(si, .inr (6, [.null, .null, .null, .null, .null, .int 0, .int 0, .int 0])), (q_1, .inl (cI, 9, .inl (upd (upd (upd (upd (upd (upd (fun _ => 0) 0 5) 1 5) 2 5) 3 5) 4 5) 5 5)))] _ := hP
  have hD : va_D A [(si, .inr (6, [.null, .null, .null, .null, .null, .int 0, .int 0, .int 0])), (q_1, .inl (cI, 9, .inl (upd (upd (upd (upd (upd (upd (fun _ => 0) 0 5) 1 5) 2 5) 3 5) 4 5) 5 5)))] := hD
  refine lv_dup hx hb dX6_init_33 rfl ?_
  refine lv_bipush (v := 6) hx hb dX6_init_34 (by decide) ?_
  refine lv_iconst (v := 5) hx hb dX6_init_36 (by decide) ?_
  refine gw_top2 (y := nI 6) rfl ?_
  refine gw_iast hx hb hK hP hD hS 1 0 (k := 6) rfl rfl (by first | decide | omega) (by decide) dX6_init_37 (fun H locs hP hD hS => ?_)
  have hP : va_P D vwCl [(si, .inr (6, [.null, .null, .null, .null, .null, .int 0, .int 0, .int 0])), (q_1, .inl (cI, 9, .inl (upd (upd (upd (upd (upd (upd (upd (fun _ => 0) 0 5) 1 5) 2 5) 3 5) 4 5) 5 5) 6 5)))] _ := hP
  have hD : va_D A [(si, .inr (6, [.null, .null, .null, .null, .null, .int 0, .int 0, .int 0])), (q_1, .inl (cI, 9, .inl (upd (upd (upd (upd (upd (upd (upd (fun _ => 0) 0 5) 1 5) 2 5) 3 5) 4 5) 5 5) 6 5)))] := hD
  refine lv_dup hx hb dX6_init_38 rfl ?_
  refine lv_bipush (v := 7) hx hb dX6_init_39 (by decide) ?_
  refine lv_iconst (v := 5) hx hb dX6_init_41 (by decide) ?_
  refine gw_top2 (y := nI 7) rfl ?_
  refine gw_iast hx hb hK hP hD hS 1 0 (k := 7) rfl rfl (by first | decide | omega) (by decide) dX6_init_42 (fun H locs hP hD hS => ?_)
  have hP : va_P D vwCl [(si, .inr (6, [.null, .null, .null, .null, .null, .int 0, .int 0, .int 0])), (q_1, .inl (cI, 9, .inl (upd (upd (upd (upd (upd (upd (upd (upd (fun _ => 0) 0 5) 1 5) 2 5) 3 5) 4 5) 5 5) 6 5) 7 5)))] _ := hP
  have hD : va_D A [(si, .inr (6, [.null, .null, .null, .null, .null, .int 0, .int 0, .int 0])), (q_1, .inl (cI, 9, .inl (upd (upd (upd (upd (upd (upd (upd (upd (fun _ => 0) 0 5) 1 5) 2 5) 3 5) 4 5) 5 5) 6 5) 7 5)))] := hD
  refine lv_dup hx hb dX6_init_43 rfl ?_
  refine lv_bipush (v := 8) hx hb dX6_init_44 (by decide) ?_
  refine lv_iconst (v := 5) hx hb dX6_init_46 (by decide) ?_
  refine gw_top2 (y := nI 8) rfl ?_
  refine gw_iast hx hb hK hP hD hS 1 0 (k := 8) rfl rfl (by first | decide | omega) (by decide) dX6_init_47 (fun H locs hP hD hS => ?_)
  have hP : va_P D vwCl [(si, .inr (6, [.null, .null, .null, .null, .null, .int 0, .int 0, .int 0])), (q_1, .inl (cI, 9, .inl (upd (upd (upd (upd (upd (upd (upd (upd (upd (fun _ => 0) 0 5) 1 5) 2 5) 3 5) 4 5) 5 5) 6 5) 7 5) 8 5)))] _ := hP
  have hD : va_D A [(si, .inr (6, [.null, .null, .null, .null, .null, .int 0, .int 0, .int 0])), (q_1, .inl (cI, 9, .inl (upd (upd (upd (upd (upd (upd (upd (upd (upd (fun _ => 0) 0 5) 1 5) 2 5) 3 5) 4 5) 5 5) 6 5) 7 5) 8 5)))] := hD
  refine va_put (D := D) (ci := 6) (v := .ref q_1) (ty := .array .int) (C := RX6) (T := TX6) (N := 8) hx hb hts wc_X6_init_X6 tyX6 tyX6_ok nmX6 hown hK hP hD hS 0 rfl rfl 0 (by decide) (hts _ wd_X6_init_5) (fun _ h9 => h9) rfl (by decide +kernel) rfl rfl (Nat.le_of_ble_eq_true rfl) dX6_init_48 (fun H locs hP hD hS => ?_)
  have hP : va_P D vwCl [(si, .inr (6, [.ref q_1, .null, .null, .null, .null, .int 0, .int 0, .int 0])), (q_1, .inl (cI, 9, .inl (upd (upd (upd (upd (upd (upd (upd (upd (upd (fun _ => 0) 0 5) 1 5) 2 5) 3 5) 4 5) 5 5) 6 5) 7 5) 8 5)))] _ := hP
  have hD : va_D A [(si, .inr (6, [.ref q_1, .null, .null, .null, .null, .int 0, .int 0, .int 0])), (q_1, .inl (cI, 9, .inl (upd (upd (upd (upd (upd (upd (upd (upd (upd (fun _ => 0) 0 5) 1 5) 2 5) 3 5) 4 5) 5 5) 6 5) 7 5) 8 5)))] := hD
  refine lv_aload_n hx hb dX6_init_51 rfl (lv_at hl 0 rfl) ?_
  refine lv_iconst (v := 0) hx hb dX6_init_52 (by decide) ?_
  refine gw_anewA hx hb hown (hts _ wd_X6_init_6) hR.1 hK 3 rfl hP hD hS hA (n := 0) (N' := 0) (by decide) (by decide) (by decide) (Nat.le_of_ble_eq_true rfl) (Nat.le_of_ble_eq_true rfl) dX6_init_53 (fun q_2 H hP hD hS => ?_)
  have hP : va_P D vwCl [(si, .inr (6, [.ref q_1, .null, .null, .null, .null, .int 0, .int 0, .int 0])), (q_1, .inl (cI, 9, .inl (upd (upd (upd (upd (upd (upd (upd (upd (upd (fun _ => 0) 0 5) 1 5) 2 5) 3 5) 4 5) 5 5) 6 5) 7 5) 8 5))), (q_2, .inl (cO, 0, .inr (.inr (.inr (.inr (fun _ => none))))))] _ := hP
  have hD : va_D A [(si, .inr (6, [.ref q_1, .null, .null, .null, .null, .int 0, .int 0, .int 0])), (q_1, .inl (cI, 9, .inl (upd (upd (upd (upd (upd (upd (upd (upd (upd (fun _ => 0) 0 5) 1 5) 2 5) 3 5) 4 5) 5 5) 6 5) 7 5) 8 5))), (q_2, .inl (cO, 0, .inr (.inr (.inr (.inr (fun _ => none))))))] := hD
  refine W.widen (k := 2) (n := 9) (by omega) (by omega) ?_
  refine va_put (D := D) (ci := 6) (v := .ref q_2) (ty := .array (.array .int)) (C := RX6) (T := TX6) (N := 8) hx hb hts wc_X6_init_X6 tyX6 tyX6_ok nmX6 hown hK hP hD hS 0 rfl rfl 1 (by decide) (hts _ wd_X6_init_7) (fun _ h9 => h9) rfl (by decide +kernel) rfl rfl (Nat.le_of_ble_eq_true rfl) dX6_init_56 (fun H locs hP hD hS => ?_)
  have hP : va_P D vwCl [(si, .inr (6, [.ref q_1, .ref q_2, .null, .null, .null, .int 0, .int 0, .int 0])), (q_1, .inl (cI, 9, .inl (upd (upd (upd (upd (upd (upd (upd (upd (upd (fun _ => 0) 0 5) 1 5) 2 5) 3 5) 4 5) 5 5) 6 5) 7 5) 8 5))), (q_2, .inl (cO, 0, .inr (.inr (.inr (.inr (fun _ => none))))))] _ := hP
  have hD : va_D A [(si, .inr (6, [.ref q_1, .ref q_2, .null, .null, .null, .int 0, .int 0, .int 0])), (q_1, .inl (cI, 9, .inl (upd (upd (upd (upd (upd (upd (upd (upd (upd (fun _ => 0) 0 5) 1 5) 2 5) 3 5) 4 5) 5 5) 6 5) 7 5) 8 5))), (q_2, .inl (cO, 0, .inr (.inr (.inr (.inr (fun _ => none))))))] := hD
  refine lv_aload_n hx hb dX6_init_59 rfl (lv_at hl 0 rfl) ?_
  refine lv_iconst (v := 0) hx hb dX6_init_60 (by decide) ?_
  refine gw_anewA hx hb hown (hts _ wd_X6_init_6) hR.1 hK 3 rfl hP hD hS hA (n := 0) (N' := 0) (by decide) (by decide) (by decide) (Nat.le_of_ble_eq_true rfl) (Nat.le_of_ble_eq_true rfl) dX6_init_61 (fun q_3 H hP hD hS => ?_)
  have hP : va_P D vwCl [(si, .inr (6, [.ref q_1, .ref q_2, .null, .null, .null, .int 0, .int 0, .int 0])), (q_1, .inl (cI, 9, .inl (upd (upd (upd (upd (upd (upd (upd (upd (upd (fun _ => 0) 0 5) 1 5) 2 5) 3 5) 4 5) 5 5) 6 5) 7 5) 8 5))), (q_2, .inl (cO, 0, .inr (.inr (.inr (.inr (fun _ => none)))))), (q_3, .inl (cO, 0, .inr (.inr (.inr (.inr (fun _ => none))))))] _ := hP
  have hD : va_D A [(si, .inr (6, [.ref q_1, .ref q_2, .null, .null, .null, .int 0, .int 0, .int 0])), (q_1, .inl (cI, 9, .inl (upd (upd (upd (upd (upd (upd (upd (upd (upd (fun _ => 0) 0 5) 1 5) 2 5) 3 5) 4 5) 5 5) 6 5) 7 5) 8 5))), (q_2, .inl (cO, 0, .inr (.inr (.inr (.inr (fun _ => none)))))), (q_3, .inl (cO, 0, .inr (.inr (.inr (.inr (fun _ => none))))))] := hD
  refine W.widen (k := 3) (n := 9) (by omega) (by omega) ?_
  refine va_put (D := D) (ci := 6) (v := .ref q_3) (ty := .array (.array .int)) (C := RX6) (T := TX6) (N := 8) hx hb hts wc_X6_init_X6 tyX6 tyX6_ok nmX6 hown hK hP hD hS 0 rfl rfl 2 (by decide) (hts _ wd_X6_init_8) (fun _ h9 => h9) rfl (by decide +kernel) rfl rfl (Nat.le_of_ble_eq_true rfl) dX6_init_64 (fun H locs hP hD hS => ?_)
  have hP : va_P D vwCl [(si, .inr (6, [.ref q_1, .ref q_2, .ref q_3, .null, .null, .int 0, .int 0, .int 0])), (q_1, .inl (cI, 9, .inl (upd (upd (upd (upd (upd (upd (upd (upd (upd (fun _ => 0) 0 5) 1 5) 2 5) 3 5) 4 5) 5 5) 6 5) 7 5) 8 5))), (q_2, .inl (cO, 0, .inr (.inr (.inr (.inr (fun _ => none)))))), (q_3, .inl (cO, 0, .inr (.inr (.inr (.inr (fun _ => none))))))] _ := hP
  have hD : va_D A [(si, .inr (6, [.ref q_1, .ref q_2, .ref q_3, .null, .null, .int 0, .int 0, .int 0])), (q_1, .inl (cI, 9, .inl (upd (upd (upd (upd (upd (upd (upd (upd (upd (fun _ => 0) 0 5) 1 5) 2 5) 3 5) 4 5) 5 5) 6 5) 7 5) 8 5))), (q_2, .inl (cO, 0, .inr (.inr (.inr (.inr (fun _ => none)))))), (q_3, .inl (cO, 0, .inr (.inr (.inr (.inr (fun _ => none))))))] := hD
  refine lv_aload_n hx hb dX6_init_67 rfl (lv_at hl 0 rfl) ?_
  refine lv_iconst (v := 0) hx hb dX6_init_68 (by decide) ?_
  refine gw_anewA hx hb hown (hts _ wd_X6_init_6) hR.1 hK 3 rfl hP hD hS hA (n := 0) (N' := 0) (by decide) (by decide) (by decide) (Nat.le_of_ble_eq_true rfl) (Nat.le_of_ble_eq_true rfl) dX6_init_69 (fun q_4 H hP hD hS => ?_)
  have hP : va_P D vwCl [(si, .inr (6, [.ref q_1, .ref q_2, .ref q_3, .null, .null, .int 0, .int 0, .int 0])), (q_1, .inl (cI, 9, .inl (upd (upd (upd (upd (upd (upd (upd (upd (upd (fun _ => 0) 0 5) 1 5) 2 5) 3 5) 4 5) 5 5) 6 5) 7 5) 8 5))), (q_2, .inl (cO, 0, .inr (.inr (.inr (.inr (fun _ => none)))))), (q_3, .inl (cO, 0, .inr (.inr (.inr (.inr (fun _ => none)))))), (q_4, .inl (cO, 0, .inr (.inr (.inr (.inr (fun _ => none))))))] _ := hP
  have hD : va_D A [(si, .inr (6, [.ref q_1, .ref q_2, .ref q_3, .null, .null, .int 0, .int 0, .int 0])), (q_1, .inl (cI, 9, .inl (upd (upd (upd (upd (upd (upd (upd (upd (upd (fun _ => 0) 0 5) 1 5) 2 5) 3 5) 4 5) 5 5) 6 5) 7 5) 8 5))), (q_2, .inl (cO, 0, .inr (.inr (.inr (.inr (fun _ => none)))))), (q_3, .inl (cO, 0, .inr (.inr (.inr (.inr (fun _ => none)))))), (q_4, .inl (cO, 0, .inr (.inr (.inr (.inr (fun _ => none))))))] := hD
  refine W.widen (k := 4) (n := 9) (by omega) (by omega) ?_
  refine va_put (D := D) (ci := 6) (v := .ref q_4) (ty := .array (.array .int)) (C := RX6) (T := TX6) (N := 8) hx hb hts wc_X6_init_X6 tyX6 tyX6_ok nmX6 hown hK hP hD hS 0 rfl rfl 3 (by decide) (hts _ wd_X6_init_9) (fun _ h9 => h9) rfl (by decide +kernel) rfl rfl (Nat.le_of_ble_eq_true rfl) dX6_init_72 (fun H locs hP hD hS => ?_)
  have hP : va_P D vwCl [(si, .inr (6, [.ref q_1, .ref q_2, .ref q_3, .ref q_4, .null, .int 0, .int 0, .int 0])), (q_1, .inl (cI, 9, .inl (upd (upd (upd (upd (upd (upd (upd (upd (upd (fun _ => 0) 0 5) 1 5) 2 5) 3 5) 4 5) 5 5) 6 5) 7 5) 8 5))), (q_2, .inl (cO, 0, .inr (.inr (.inr (.inr (fun _ => none)))))), (q_3, .inl (cO, 0, .inr (.inr (.inr (.inr (fun _ => none)))))), (q_4, .inl (cO, 0, .inr (.inr (.inr (.inr (fun _ => none))))))] _ := hP
  have hD : va_D A [(si, .inr (6, [.ref q_1, .ref q_2, .ref q_3, .ref q_4, .null, .int 0, .int 0, .int 0])), (q_1, .inl (cI, 9, .inl (upd (upd (upd (upd (upd (upd (upd (upd (upd (fun _ => 0) 0 5) 1 5) 2 5) 3 5) 4 5) 5 5) 6 5) 7 5) 8 5))), (q_2, .inl (cO, 0, .inr (.inr (.inr (.inr (fun _ => none)))))), (q_3, .inl (cO, 0, .inr (.inr (.inr (.inr (fun _ => none)))))), (q_4, .inl (cO, 0, .inr (.inr (.inr (.inr (fun _ => none))))))] := hD
  refine lv_aload_n hx hb dX6_init_75 rfl (lv_at hl 0 rfl) ?_
  refine lv_bipush (v := 60) hx hb dX6_init_76 (by decide) ?_
  refine gw_anewW hx hb hown (hts _ wd_X6_init_10) hR.2.1 hK 2 rfl hP hD hS hA (n := 60) (N' := 60) (by decide) (by decide) (by decide) (Nat.le_of_ble_eq_true rfl) (Nat.le_of_ble_eq_true rfl) dX6_init_78 (fun q_5 H hP hD hS => ?_)
  have hP : va_P D vwCl [(si, .inr (6, [.ref q_1, .ref q_2, .ref q_3, .ref q_4, .null, .int 0, .int 0, .int 0])), (q_1, .inl (cI, 9, .inl (upd (upd (upd (upd (upd (upd (upd (upd (upd (fun _ => 0) 0 5) 1 5) 2 5) 3 5) 4 5) 5 5) 6 5) 7 5) 8 5))), (q_2, .inl (cO, 0, .inr (.inr (.inr (.inr (fun _ => none)))))), (q_3, .inl (cO, 0, .inr (.inr (.inr (.inr (fun _ => none)))))), (q_4, .inl (cO, 0, .inr (.inr (.inr (.inr (fun _ => none)))))), (q_5, .inl (cW, 60, .inr (.inr (.inr (.inr (fun _ => none))))))] _ := hP
  have hD : va_D A [(si, .inr (6, [.ref q_1, .ref q_2, .ref q_3, .ref q_4, .null, .int 0, .int 0, .int 0])), (q_1, .inl (cI, 9, .inl (upd (upd (upd (upd (upd (upd (upd (upd (upd (fun _ => 0) 0 5) 1 5) 2 5) 3 5) 4 5) 5 5) 6 5) 7 5) 8 5))), (q_2, .inl (cO, 0, .inr (.inr (.inr (.inr (fun _ => none)))))), (q_3, .inl (cO, 0, .inr (.inr (.inr (.inr (fun _ => none)))))), (q_4, .inl (cO, 0, .inr (.inr (.inr (.inr (fun _ => none)))))), (q_5, .inl (cW, 60, .inr (.inr (.inr (.inr (fun _ => none))))))] := hD
  refine W.widen (k := 5) (n := 69) (by omega) (by omega) ?_
  refine va_put (D := D) (ci := 6) (v := .ref q_5) (ty := .array (.object "GritWheelsLaw$Wheel")) (C := RX6) (T := TX6) (N := 8) hx hb hts wc_X6_init_X6 tyX6 tyX6_ok nmX6 hown hK hP hD hS 0 rfl rfl 4 (by decide) (hts _ wd_X6_init_11) (fun _ h9 => h9) rfl (by decide +kernel) rfl rfl (Nat.le_of_ble_eq_true rfl) dX6_init_81 (fun H locs hP hD hS => ?_)
  have hP : va_P D vwCl [(si, .inr (6, [.ref q_1, .ref q_2, .ref q_3, .ref q_4, .ref q_5, .int 0, .int 0, .int 0])), (q_1, .inl (cI, 9, .inl (upd (upd (upd (upd (upd (upd (upd (upd (upd (fun _ => 0) 0 5) 1 5) 2 5) 3 5) 4 5) 5 5) 6 5) 7 5) 8 5))), (q_2, .inl (cO, 0, .inr (.inr (.inr (.inr (fun _ => none)))))), (q_3, .inl (cO, 0, .inr (.inr (.inr (.inr (fun _ => none)))))), (q_4, .inl (cO, 0, .inr (.inr (.inr (.inr (fun _ => none)))))), (q_5, .inl (cW, 60, .inr (.inr (.inr (.inr (fun _ => none))))))] _ := hP
  have hD : va_D A [(si, .inr (6, [.ref q_1, .ref q_2, .ref q_3, .ref q_4, .ref q_5, .int 0, .int 0, .int 0])), (q_1, .inl (cI, 9, .inl (upd (upd (upd (upd (upd (upd (upd (upd (upd (fun _ => 0) 0 5) 1 5) 2 5) 3 5) 4 5) 5 5) 6 5) 7 5) 8 5))), (q_2, .inl (cO, 0, .inr (.inr (.inr (.inr (fun _ => none)))))), (q_3, .inl (cO, 0, .inr (.inr (.inr (.inr (fun _ => none)))))), (q_4, .inl (cO, 0, .inr (.inr (.inr (.inr (fun _ => none)))))), (q_5, .inl (cW, 60, .inr (.inr (.inr (.inr (fun _ => none))))))] := hD
  rw [gFall_zero] at hP hD
  refine W.widen (k := 5) (n := 69) (by omega) (by omega) ?_
  exact W.vret hx hb hr (fun t ht hW => ⟨⟨(q_1, q_2, q_3, q_4, q_5), rfl, trivial, ⟨gw_hh ht hP, hD⟩⟩, hS.F ht⟩) hS.2.2 dX6_init_84
