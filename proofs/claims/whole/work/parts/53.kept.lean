/-! Keeping and bringing back. -/
abbrev gT4 (cI cZ cL cO : ClassId) : List (ClassId × FieldType) := [(cI, .int), (cZ, .boolean), (cL, .long), (cO, .array .int)]

theorem wd_X6_kept_0 : (.classLink RX6 139 "[I" : Cond) ∈ wsX6_kept := by decide +kernel
theorem wc_X6_kept_X6 : ∀ w ∈ u_ws RX6 TX6 10, w ∈ wsX6_kept := by decide +kernel
theorem wd_X6_kept_2 : (.fieldLink RX6 13 "GritWheelsModel" "rock" "[I" : Cond) ∈ wsX6_kept := by decide +kernel
theorem wd_X6_kept_3 : (.methodLink RX6 140 ⟨"[I", "clone", "()Ljava/lang/Object;"⟩ : Cond) ∈ wsX6_kept := by decide +kernel
theorem wd_X6_kept_4 : (.sameMethod "[I" "java/lang/Object" "clone" "()Ljava/lang/Object;" : Cond) ∈ wsX6_kept := by decide +kernel
theorem wd_X6_kept_5 : (.native ⟨"java/lang/Object", "clone", "()Ljava/lang/Object;"⟩ : Cond) ∈ wsX6_kept := by decide +kernel
theorem wd_X6_kept_6 : (.instanceMethod ⟨"java/lang/Object", "clone", "()Ljava/lang/Object;"⟩ : Cond) ∈ wsX6_kept := by decide +kernel
theorem wd_X6_kept_7 : (.selects "[I" ⟨"[I", "clone", "()Ljava/lang/Object;"⟩ ⟨"java/lang/Object", "clone", "()Ljava/lang/Object;"⟩ : Cond) ∈ wsX6_kept := by decide +kernel
theorem wd_X6_kept_8 : (.fieldLink RX6 16 "GritWheelsModel" "people" "[I" : Cond) ∈ wsX6_kept := by decide +kernel
theorem wd_X6_kept_9 : (.fieldLink RX6 19 "GritWheelsModel" "stones" "[I" : Cond) ∈ wsX6_kept := by decide +kernel
theorem wd_X6_kept_10 : (.fieldLink RX6 22 "GritWheelsModel" "boats" "[I" : Cond) ∈ wsX6_kept := by decide +kernel
theorem wd_X6_kept_11 : (.fieldLink RX6 25 "GritWheelsModel" "numbers" "[I" : Cond) ∈ wsX6_kept := by decide +kernel
set_option maxHeartbeats 4000000 in
set_option maxRecDepth 100000 in
theorem met_X6_kept (l : Launch) (D : va_G) (cI cZ cL cO : ClassId) (mo : Nat) (m4 : Nat) (m5 : Nat) (m6 : Nat) (m7 : Nat) (m8 : Nat) (m9 : Nat) (th : Int32) (nb : Nat) (nq : Nat) (nr : Nat) (f0 : Nat → Int32) (f1 : Nat → Int32) (f2 : Nat → Int32) (f3 : Nat → Int32) (f4 : Nat → Int32) (sz : Nat) : Met l yX6_kept wsX6_kept ({ frames := 1, cells := 6, slots := 358, locals := 64 }) (gPk [.ref mo] D [(mo, .inr (6, [.int th, .int (nI nb), .int (nI nq), .int (nI nr), .ref m4, .ref m5, .ref m6, .ref m7, .ref m8, .ref m9])), (m5, .inl (cI, 20, .inl f0)), (m6, .inl (cI, 24, .inl f1)), (m7, .inl (cI, 300, .inl f2)), (m8, .inl (cI, 6, .inl f3)), (m9, .inl (cI, 3, .inl f4))] (gT4 cI cZ cL cO) sz) (va_Qr (fun (_ : Nat × Nat × Nat × Nat × Nat) => True) (fun (u : Nat × Nat × Nat × Nat × Nat) kp t => match u with | (k0, k1, k2, k3, k4) => va_P D vwCl [(mo, .inr (6, [.int th, .int (nI nb), .int (nI nq), .int (nI nr), .ref m4, .ref m5, .ref m6, .ref m7, .ref m8, .ref m9])), (m5, .inl (cI, 20, .inl f0)), (m6, .inl (cI, 24, .inl f1)), (m7, .inl (cI, 300, .inl f2)), (m8, .inl (cI, 6, .inl f3)), (m9, .inl (cI, 3, .inl f4)), (kp, .inl (cO, 5, .inr (.inr (.inr (.inr (gRow k0 k1 k2 k3 k4)))))), (k0, .inl (cI, 20, .inl f0)), (k1, .inl (cI, 24, .inl f1)), (k2, .inl (cI, 300, .inl f2)), (k3, .inl (cI, 6, .inl f3)), (k4, .inl (cI, 3, .inl f4))] t.heap ∧ va_D (va_A [(mo, .inr (6, [.int th, .int (nI nb), .int (nI nq), .int (nI nr), .ref m4, .ref m5, .ref m6, .ref m7, .ref m8, .ref m9])), (m5, .inl (cI, 20, .inl f0)), (m6, .inl (cI, 24, .inl f1)), (m7, .inl (cI, 300, .inl f2)), (m8, .inl (cI, 6, .inl f3)), (m9, .inl (cI, 3, .inl f4))] sz) [(mo, .inr (6, [.int th, .int (nI nb), .int (nI nq), .int (nI nr), .ref m4, .ref m5, .ref m6, .ref m7, .ref m8, .ref m9])), (m5, .inl (cI, 20, .inl f0)), (m6, .inl (cI, 24, .inl f1)), (m7, .inl (cI, 300, .inl f2)), (m8, .inl (cI, 6, .inl f3)), (m9, .inl (cI, 3, .inl f4)), (kp, .inl (cO, 5, .inr (.inr (.inr (.inr (gRow k0 k1 k2 k3 k4)))))), (k0, .inl (cI, 20, .inl f0)), (k1, .inl (cI, 24, .inl f1)), (k2, .inl (cI, 300, .inl f2)), (k3, .inl (cI, 6, .inl f3)), (k4, .inl (cI, 3, .inl f4))]) (va_A [(mo, .inr (6, [.int th, .int (nI nb), .int (nI nq), .int (nI nr), .ref m4, .ref m5, .ref m6, .ref m7, .ref m8, .ref m9])), (m5, .inl (cI, 20, .inl f0)), (m6, .inl (cI, 24, .inl f1)), (m7, .inl (cI, 300, .inl f2)), (m8, .inl (cI, 6, .inl f3)), (m9, .inl (cI, 3, .inl f4))] sz)) 6 358 (va_A [(mo, .inr (6, [.int th, .int (nI nb), .int (nI nq), .int (nI nr), .ref m4, .ref m5, .ref m6, .ref m7, .ref m8, .ref m9])), (m5, .inl (cI, 20, .inl f0)), (m6, .inl (cI, 24, .inl f1)), (m7, .inl (cI, 300, .inl f2)), (m8, .inl (cI, 6, .inl f3)), (m9, .inl (cI, 3, .inl f4))] sz) := by
  refine Met.ofW (cc := cX6_kept) (maxL := 1) (ret := (some (.array (.array .int)))) (by decide +kernel) rfl ?_
  intro p e s m args below meth c s₁ B hml hv
  obtain ⟨rfl, hsz, hP, hK4, hD0, hR⟩ := hv
  have hK : va_K D vwCl (gT cI cZ cL) s := hK4.sub [0, 1, 2] rfl
  have hx := B.exec
  have hb := B.bytes
  have hr := B.returns
  have hts := atoms_spec (ws := wsX6_kept) B.pre
  have hown : s.vm.findClass RX6 = some m.cls := findClass_of_methodNamed B.named
  have hlocks := B.notSynchronized
  subst hsz
  have hD := hD0.self (sz := s.heap.size)
  generalize hAe : va_A [(mo, .inr (6, [.int th, .int (nI nb), .int (nI nq), .int (nI nr), .ref m4, .ref m5, .ref m6, .ref m7, .ref m8, .ref m9])), (m5, .inl (cI, 20, .inl f0)), (m6, .inl (cI, 24, .inl f1)), (m7, .inl (cI, 300, .inl f2)), (m8, .inl (cI, 6, .inl f3)), (m9, .inl (cI, 3, .inl f4))] s.heap.size = A at hD ⊢
  have hA : ∀ q : Nat, s.heap.size ≤ q → A q := fun q h => by rw [← hAe]; exact Or.inr h
  have hS : va_S A s.heap s.heap [] := va_S.rf
  have hP : va_P D vwCl [(mo, .inr (6, [.int th, .int (nI nb), .int (nI nq), .int (nI nr), .ref m4, .ref m5, .ref m6, .ref m7, .ref m8, .ref m9])), (m5, .inl (cI, 20, .inl f0)), (m6, .inl (cI, 24, .inl f1)), (m7, .inl (cI, 300, .inl f2)), (m8, .inl (cI, 6, .inl f3)), (m9, .inl (cI, 3, .inl f4))] s.heap := hP
  have hl := lv_entry ([.ref mo]) (n := 1) (Nat.le_of_ble_eq_true rfl)
  rw [lg_entry_eq]
  generalize (lg_sl ([.ref mo]) ++ List.replicate (1 - (lg_sl ([.ref mo])).length) Slot.unset).toArray = ls at hl ⊢
  have hl : lv_has ls 1 [(0, .ref mo)] := hl
  refine lv_iconst (v := 5) hx hb dX6_kept_0 (by decide) ?_
  refine gw_anewA hx hb hown (hts _ wd_X6_kept_0) hR hK4 3 rfl hP hD hS hA (n := 5) (N' := 5) (by decide) (by decide) (by decide) (Nat.le_of_ble_eq_true rfl) (Nat.le_of_ble_eq_true rfl) dX6_kept_1 (fun q_1 H hP hD hS => ?_)
  have hP : va_P D vwCl [(mo, .inr (6, [.int th, .int (nI nb), .int (nI nq), .int (nI nr), .ref m4, .ref m5, .ref m6, .ref m7, .ref m8, .ref m9])), (m5, .inl (cI, 20, .inl f0)), (m6, .inl (cI, 24, .inl f1)), (m7, .inl (cI, 300, .inl f2)), (m8, .inl (cI, 6, .inl f3)), (m9, .inl (cI, 3, .inl f4)), (q_1, .inl (cO, 5, .inr (.inr (.inr (.inr (fun _ => none))))))] H := hP
  have hD : va_D A [(mo, .inr (6, [.int th, .int (nI nb), .int (nI nq), .int (nI nr), .ref m4, .ref m5, .ref m6, .ref m7, .ref m8, .ref m9])), (m5, .inl (cI, 20, .inl f0)), (m6, .inl (cI, 24, .inl f1)), (m7, .inl (cI, 300, .inl f2)), (m8, .inl (cI, 6, .inl f3)), (m9, .inl (cI, 3, .inl f4)), (q_1, .inl (cO, 5, .inr (.inr (.inr (.inr (fun _ => none))))))] := hD
  refine W.widen (k := 1) (n := 5) (by omega) (by omega) ?_
  refine lv_dup hx hb dX6_kept_4 rfl ?_
  refine lv_iconst (v := 0) hx hb dX6_kept_5 (by decide) ?_
  refine lv_aload_n hx hb dX6_kept_6 rfl (lv_at hl 0 rfl) ?_
  refine va_get (D := D) (ci := 6) (v := .ref m5) (C := RX6) (T := TX6) (N := 10) hx hb hts wc_X6_kept_X6 hown hK hP 0 rfl rfl 5 (by decide) (hts _ wd_X6_kept_2) (fun _ h9 => h9) rfl dX6_kept_7 ?_
  refine gw_cloneA hx hb (by rw [hml]; exact hl.1.symm) hown (hts _ wd_X6_kept_3) (hts _ wd_X6_kept_4) (hts _ wd_X6_kept_5) (hts _ wd_X6_kept_6) (hts _ wd_X6_kept_7) hR hK hP hD hS hA 1 0 rfl rfl (Nat.le_of_ble_eq_true rfl) (Nat.le_of_ble_eq_true rfl) (Nat.le_of_ble_eq_true rfl) (Nat.le_of_ble_eq_true rfl) dX6_kept_10 (fun q_2 H hP hD hS => ?_)
  have hP : va_P D vwCl [(mo, .inr (6, [.int th, .int (nI nb), .int (nI nq), .int (nI nr), .ref m4, .ref m5, .ref m6, .ref m7, .ref m8, .ref m9])), (m5, .inl (cI, 20, .inl f0)), (m6, .inl (cI, 24, .inl f1)), (m7, .inl (cI, 300, .inl f2)), (m8, .inl (cI, 6, .inl f3)), (m9, .inl (cI, 3, .inl f4)), (q_1, .inl (cO, 5, .inr (.inr (.inr (.inr (fun _ => none)))))), (q_2, .inl (cI, 20, .inl f0))] H := hP
  have hD : va_D A [(mo, .inr (6, [.int th, .int (nI nb), .int (nI nq), .int (nI nr), .ref m4, .ref m5, .ref m6, .ref m7, .ref m8, .ref m9])), (m5, .inl (cI, 20, .inl f0)), (m6, .inl (cI, 24, .inl f1)), (m7, .inl (cI, 300, .inl f2)), (m8, .inl (cI, 6, .inl f3)), (m9, .inl (cI, 3, .inl f4)), (q_1, .inl (cO, 5, .inr (.inr (.inr (.inr (fun _ => none)))))), (q_2, .inl (cI, 20, .inl f0))] := hD
  refine W.widen (k := 2) (n := 25) (by omega) (by omega) ?_
  refine va_castA hx hb hown (hts _ wd_X6_kept_0) hP 7 rfl (va_nm_int (hK.2 0 _ rfl).2) dX6_kept_13 ?_
  refine gw_top2 (y := nI 0) rfl ?_
  refine gw_astA hx hb hR hK4 hP hD hS 6 3 0 7 (k := 0) rfl rfl rfl rfl (by decide) (by decide) dX6_kept_16 (fun H locs hP hD hS => ?_)
  have hP : va_P D vwCl [(mo, .inr (6, [.int th, .int (nI nb), .int (nI nq), .int (nI nr), .ref m4, .ref m5, .ref m6, .ref m7, .ref m8, .ref m9])), (m5, .inl (cI, 20, .inl f0)), (m6, .inl (cI, 24, .inl f1)), (m7, .inl (cI, 300, .inl f2)), (m8, .inl (cI, 6, .inl f3)), (m9, .inl (cI, 3, .inl f4)), (q_1, .inl (cO, 5, .inr (.inr (.inr (.inr (va_up (fun _ => none) 0 (some q_2))))))), (q_2, .inl (cI, 20, .inl f0))] H := hP
  have hD : va_D A [(mo, .inr (6, [.int th, .int (nI nb), .int (nI nq), .int (nI nr), .ref m4, .ref m5, .ref m6, .ref m7, .ref m8, .ref m9])), (m5, .inl (cI, 20, .inl f0)), (m6, .inl (cI, 24, .inl f1)), (m7, .inl (cI, 300, .inl f2)), (m8, .inl (cI, 6, .inl f3)), (m9, .inl (cI, 3, .inl f4)), (q_1, .inl (cO, 5, .inr (.inr (.inr (.inr (va_up (fun _ => none) 0 (some q_2))))))), (q_2, .inl (cI, 20, .inl f0))] := hD
  refine lv_dup hx hb dX6_kept_17 rfl ?_
  refine lv_iconst (v := 1) hx hb dX6_kept_18 (by decide) ?_
  refine lv_aload_n hx hb dX6_kept_19 rfl (lv_at hl 0 rfl) ?_
  refine va_get (D := D) (ci := 6) (v := .ref m6) (C := RX6) (T := TX6) (N := 10) hx hb hts wc_X6_kept_X6 hown hK hP 0 rfl rfl 6 (by decide) (hts _ wd_X6_kept_8) (fun _ h9 => h9) rfl dX6_kept_20 ?_
  refine gw_cloneA hx hb (by rw [hml]; exact hl.1.symm) hown (hts _ wd_X6_kept_3) (hts _ wd_X6_kept_4) (hts _ wd_X6_kept_5) (hts _ wd_X6_kept_6) (hts _ wd_X6_kept_7) hR hK hP hD hS hA 2 0 rfl rfl (Nat.le_of_ble_eq_true rfl) (Nat.le_of_ble_eq_true rfl) (Nat.le_of_ble_eq_true rfl) (Nat.le_of_ble_eq_true rfl) dX6_kept_23 (fun q_3 H hP hD hS => ?_)
  have hP : va_P D vwCl [(mo, .inr (6, [.int th, .int (nI nb), .int (nI nq), .int (nI nr), .ref m4, .ref m5, .ref m6, .ref m7, .ref m8, .ref m9])), (m5, .inl (cI, 20, .inl f0)), (m6, .inl (cI, 24, .inl f1)), (m7, .inl (cI, 300, .inl f2)), (m8, .inl (cI, 6, .inl f3)), (m9, .inl (cI, 3, .inl f4)), (q_1, .inl (cO, 5, .inr (.inr (.inr (.inr (va_up (fun _ => none) 0 (some q_2))))))), (q_2, .inl (cI, 20, .inl f0)), (q_3, .inl (cI, 24, .inl f1))] H := hP
  have hD : va_D A [(mo, .inr (6, [.int th, .int (nI nb), .int (nI nq), .int (nI nr), .ref m4, .ref m5, .ref m6, .ref m7, .ref m8, .ref m9])), (m5, .inl (cI, 20, .inl f0)), (m6, .inl (cI, 24, .inl f1)), (m7, .inl (cI, 300, .inl f2)), (m8, .inl (cI, 6, .inl f3)), (m9, .inl (cI, 3, .inl f4)), (q_1, .inl (cO, 5, .inr (.inr (.inr (.inr (va_up (fun _ => none) 0 (some q_2))))))), (q_2, .inl (cI, 20, .inl f0)), (q_3, .inl (cI, 24, .inl f1))] := hD
  refine W.widen (k := 3) (n := 49) (by omega) (by omega) ?_
  refine va_castA hx hb hown (hts _ wd_X6_kept_0) hP 8 rfl (va_nm_int (hK.2 0 _ rfl).2) dX6_kept_26 ?_
  refine gw_top2 (y := nI 1) rfl ?_
  refine gw_astA hx hb hR hK4 hP hD hS 6 3 0 8 (k := 1) rfl rfl rfl rfl (by decide) (by decide) dX6_kept_29 (fun H locs hP hD hS => ?_)
  have hP : va_P D vwCl [(mo, .inr (6, [.int th, .int (nI nb), .int (nI nq), .int (nI nr), .ref m4, .ref m5, .ref m6, .ref m7, .ref m8, .ref m9])), (m5, .inl (cI, 20, .inl f0)), (m6, .inl (cI, 24, .inl f1)), (m7, .inl (cI, 300, .inl f2)), (m8, .inl (cI, 6, .inl f3)), (m9, .inl (cI, 3, .inl f4)), (q_1, .inl (cO, 5, .inr (.inr (.inr (.inr (va_up (va_up (fun _ => none) 0 (some q_2)) 1 (some q_3))))))), (q_2, .inl (cI, 20, .inl f0)), (q_3, .inl (cI, 24, .inl f1))] H := hP
  have hD : va_D A [(mo, .inr (6, [.int th, .int (nI nb), .int (nI nq), .int (nI nr), .ref m4, .ref m5, .ref m6, .ref m7, .ref m8, .ref m9])), (m5, .inl (cI, 20, .inl f0)), (m6, .inl (cI, 24, .inl f1)), (m7, .inl (cI, 300, .inl f2)), (m8, .inl (cI, 6, .inl f3)), (m9, .inl (cI, 3, .inl f4)), (q_1, .inl (cO, 5, .inr (.inr (.inr (.inr (va_up (va_up (fun _ => none) 0 (some q_2)) 1 (some q_3))))))), (q_2, .inl (cI, 20, .inl f0)), (q_3, .inl (cI, 24, .inl f1))] := hD
  refine lv_dup hx hb dX6_kept_30 rfl ?_
  refine lv_iconst (v := 2) hx hb dX6_kept_31 (by decide) ?_
  refine lv_aload_n hx hb dX6_kept_32 rfl (lv_at hl 0 rfl) ?_
  refine va_get (D := D) (ci := 6) (v := .ref m7) (C := RX6) (T := TX6) (N := 10) hx hb hts wc_X6_kept_X6 hown hK hP 0 rfl rfl 7 (by decide) (hts _ wd_X6_kept_9) (fun _ h9 => h9) rfl dX6_kept_33 ?_
  refine gw_cloneA hx hb (by rw [hml]; exact hl.1.symm) hown (hts _ wd_X6_kept_3) (hts _ wd_X6_kept_4) (hts _ wd_X6_kept_5) (hts _ wd_X6_kept_6) (hts _ wd_X6_kept_7) hR hK hP hD hS hA 3 0 rfl rfl (Nat.le_of_ble_eq_true rfl) (Nat.le_of_ble_eq_true rfl) (Nat.le_of_ble_eq_true rfl) (Nat.le_of_ble_eq_true rfl) dX6_kept_36 (fun q_4 H hP hD hS => ?_)
  have hP : va_P D vwCl [(mo, .inr (6, [.int th, .int (nI nb), .int (nI nq), .int (nI nr), .ref m4, .ref m5, .ref m6, .ref m7, .ref m8, .ref m9])), (m5, .inl (cI, 20, .inl f0)), (m6, .inl (cI, 24, .inl f1)), (m7, .inl (cI, 300, .inl f2)), (m8, .inl (cI, 6, .inl f3)), (m9, .inl (cI, 3, .inl f4)), (q_1, .inl (cO, 5, .inr (.inr (.inr (.inr (va_up (va_up (fun _ => none) 0 (some q_2)) 1 (some q_3))))))), (q_2, .inl (cI, 20, .inl f0)), (q_3, .inl (cI, 24, .inl f1)), (q_4, .inl (cI, 300, .inl f2))] H := hP
  have hD : va_D A [(mo, .inr (6, [.int th, .int (nI nb), .int (nI nq), .int (nI nr), .ref m4, .ref m5, .ref m6, .ref m7, .ref m8, .ref m9])), (m5, .inl (cI, 20, .inl f0)), (m6, .inl (cI, 24, .inl f1)), (m7, .inl (cI, 300, .inl f2)), (m8, .inl (cI, 6, .inl f3)), (m9, .inl (cI, 3, .inl f4)), (q_1, .inl (cO, 5, .inr (.inr (.inr (.inr (va_up (va_up (fun _ => none) 0 (some q_2)) 1 (some q_3))))))), (q_2, .inl (cI, 20, .inl f0)), (q_3, .inl (cI, 24, .inl f1)), (q_4, .inl (cI, 300, .inl f2))] := hD
  refine W.widen (k := 4) (n := 349) (by omega) (by omega) ?_
  refine va_castA hx hb hown (hts _ wd_X6_kept_0) hP 9 rfl (va_nm_int (hK.2 0 _ rfl).2) dX6_kept_39 ?_
  refine gw_top2 (y := nI 2) rfl ?_
  refine gw_astA hx hb hR hK4 hP hD hS 6 3 0 9 (k := 2) rfl rfl rfl rfl (by decide) (by decide) dX6_kept_42 (fun H locs hP hD hS => ?_)
  have hP : va_P D vwCl [(mo, .inr (6, [.int th, .int (nI nb), .int (nI nq), .int (nI nr), .ref m4, .ref m5, .ref m6, .ref m7, .ref m8, .ref m9])), (m5, .inl (cI, 20, .inl f0)), (m6, .inl (cI, 24, .inl f1)), (m7, .inl (cI, 300, .inl f2)), (m8, .inl (cI, 6, .inl f3)), (m9, .inl (cI, 3, .inl f4)), (q_1, .inl (cO, 5, .inr (.inr (.inr (.inr (va_up (va_up (va_up (fun _ => none) 0 (some q_2)) 1 (some q_3)) 2 (some q_4))))))), (q_2, .inl (cI, 20, .inl f0)), (q_3, .inl (cI, 24, .inl f1)), (q_4, .inl (cI, 300, .inl f2))] H := hP
  have hD : va_D A [(mo, .inr (6, [.int th, .int (nI nb), .int (nI nq), .int (nI nr), .ref m4, .ref m5, .ref m6, .ref m7, .ref m8, .ref m9])), (m5, .inl (cI, 20, .inl f0)), (m6, .inl (cI, 24, .inl f1)), (m7, .inl (cI, 300, .inl f2)), (m8, .inl (cI, 6, .inl f3)), (m9, .inl (cI, 3, .inl f4)), (q_1, .inl (cO, 5, .inr (.inr (.inr (.inr (va_up (va_up (va_up (fun _ => none) 0 (some q_2)) 1 (some q_3)) 2 (some q_4))))))), (q_2, .inl (cI, 20, .inl f0)), (q_3, .inl (cI, 24, .inl f1)), (q_4, .inl (cI, 300, .inl f2))] := hD
  refine lv_dup hx hb dX6_kept_43 rfl ?_
  refine lv_iconst (v := 3) hx hb dX6_kept_44 (by decide) ?_
  refine lv_aload_n hx hb dX6_kept_45 rfl (lv_at hl 0 rfl) ?_
  refine va_get (D := D) (ci := 6) (v := .ref m8) (C := RX6) (T := TX6) (N := 10) hx hb hts wc_X6_kept_X6 hown hK hP 0 rfl rfl 8 (by decide) (hts _ wd_X6_kept_10) (fun _ h9 => h9) rfl dX6_kept_46 ?_
  refine gw_cloneA hx hb (by rw [hml]; exact hl.1.symm) hown (hts _ wd_X6_kept_3) (hts _ wd_X6_kept_4) (hts _ wd_X6_kept_5) (hts _ wd_X6_kept_6) (hts _ wd_X6_kept_7) hR hK hP hD hS hA 4 0 rfl rfl (Nat.le_of_ble_eq_true rfl) (Nat.le_of_ble_eq_true rfl) (Nat.le_of_ble_eq_true rfl) (Nat.le_of_ble_eq_true rfl) dX6_kept_49 (fun q_5 H hP hD hS => ?_)
  have hP : va_P D vwCl [(mo, .inr (6, [.int th, .int (nI nb), .int (nI nq), .int (nI nr), .ref m4, .ref m5, .ref m6, .ref m7, .ref m8, .ref m9])), (m5, .inl (cI, 20, .inl f0)), (m6, .inl (cI, 24, .inl f1)), (m7, .inl (cI, 300, .inl f2)), (m8, .inl (cI, 6, .inl f3)), (m9, .inl (cI, 3, .inl f4)), (q_1, .inl (cO, 5, .inr (.inr (.inr (.inr (va_up (va_up (va_up (fun _ => none) 0 (some q_2)) 1 (some q_3)) 2 (some q_4))))))), (q_2, .inl (cI, 20, .inl f0)), (q_3, .inl (cI, 24, .inl f1)), (q_4, .inl (cI, 300, .inl f2)), (q_5, .inl (cI, 6, .inl f3))] H := hP
  have hD : va_D A [(mo, .inr (6, [.int th, .int (nI nb), .int (nI nq), .int (nI nr), .ref m4, .ref m5, .ref m6, .ref m7, .ref m8, .ref m9])), (m5, .inl (cI, 20, .inl f0)), (m6, .inl (cI, 24, .inl f1)), (m7, .inl (cI, 300, .inl f2)), (m8, .inl (cI, 6, .inl f3)), (m9, .inl (cI, 3, .inl f4)), (q_1, .inl (cO, 5, .inr (.inr (.inr (.inr (va_up (va_up (va_up (fun _ => none) 0 (some q_2)) 1 (some q_3)) 2 (some q_4))))))), (q_2, .inl (cI, 20, .inl f0)), (q_3, .inl (cI, 24, .inl f1)), (q_4, .inl (cI, 300, .inl f2)), (q_5, .inl (cI, 6, .inl f3))] := hD
  refine W.widen (k := 5) (n := 355) (by omega) (by omega) ?_
  refine va_castA hx hb hown (hts _ wd_X6_kept_0) hP 10 rfl (va_nm_int (hK.2 0 _ rfl).2) dX6_kept_52 ?_
  refine gw_top2 (y := nI 3) rfl ?_
  refine gw_astA hx hb hR hK4 hP hD hS 6 3 0 10 (k := 3) rfl rfl rfl rfl (by decide) (by decide) dX6_kept_55 (fun H locs hP hD hS => ?_)
  have hP : va_P D vwCl [(mo, .inr (6, [.int th, .int (nI nb), .int (nI nq), .int (nI nr), .ref m4, .ref m5, .ref m6, .ref m7, .ref m8, .ref m9])), (m5, .inl (cI, 20, .inl f0)), (m6, .inl (cI, 24, .inl f1)), (m7, .inl (cI, 300, .inl f2)), (m8, .inl (cI, 6, .inl f3)), (m9, .inl (cI, 3, .inl f4)), (q_1, .inl (cO, 5, .inr (.inr (.inr (.inr (va_up (va_up (va_up (va_up (fun _ => none) 0 (some q_2)) 1 (some q_3)) 2 (some q_4)) 3 (some q_5))))))), (q_2, .inl (cI, 20, .inl f0)), (q_3, .inl (cI, 24, .inl f1)), (q_4, .inl (cI, 300, .inl f2)), (q_5, .inl (cI, 6, .inl f3))] H := hP
  have hD : va_D A [(mo, .inr (6, [.int th, .int (nI nb), .int (nI nq), .int (nI nr), .ref m4, .ref m5, .ref m6, .ref m7, .ref m8, .ref m9])), (m5, .inl (cI, 20, .inl f0)), (m6, .inl (cI, 24, .inl f1)), (m7, .inl (cI, 300, .inl f2)), (m8, .inl (cI, 6, .inl f3)), (m9, .inl (cI, 3, .inl f4)), (q_1, .inl (cO, 5, .inr (.inr (.inr (.inr (va_up (va_up (va_up (va_up (fun _ => none) 0 (some q_2)) 1 (some q_3)) 2 (some q_4)) 3 (some q_5))))))), (q_2, .inl (cI, 20, .inl f0)), (q_3, .inl (cI, 24, .inl f1)), (q_4, .inl (cI, 300, .inl f2)), (q_5, .inl (cI, 6, .inl f3))] := hD
  refine lv_dup hx hb dX6_kept_56 rfl ?_
  refine lv_iconst (v := 4) hx hb dX6_kept_57 (by decide) ?_
  refine lv_aload_n hx hb dX6_kept_58 rfl (lv_at hl 0 rfl) ?_
  refine va_get (D := D) (ci := 6) (v := .ref m9) (C := RX6) (T := TX6) (N := 10) hx hb hts wc_X6_kept_X6 hown hK hP 0 rfl rfl 9 (by decide) (hts _ wd_X6_kept_11) (fun _ h9 => h9) rfl dX6_kept_59 ?_
  refine gw_cloneA hx hb (by rw [hml]; exact hl.1.symm) hown (hts _ wd_X6_kept_3) (hts _ wd_X6_kept_4) (hts _ wd_X6_kept_5) (hts _ wd_X6_kept_6) (hts _ wd_X6_kept_7) hR hK hP hD hS hA 5 0 rfl rfl (Nat.le_of_ble_eq_true rfl) (Nat.le_of_ble_eq_true rfl) (Nat.le_of_ble_eq_true rfl) (Nat.le_of_ble_eq_true rfl) dX6_kept_62 (fun q_6 H hP hD hS => ?_)
  have hP : va_P D vwCl [(mo, .inr (6, [.int th, .int (nI nb), .int (nI nq), .int (nI nr), .ref m4, .ref m5, .ref m6, .ref m7, .ref m8, .ref m9])), (m5, .inl (cI, 20, .inl f0)), (m6, .inl (cI, 24, .inl f1)), (m7, .inl (cI, 300, .inl f2)), (m8, .inl (cI, 6, .inl f3)), (m9, .inl (cI, 3, .inl f4)), (q_1, .inl (cO, 5, .inr (.inr (.inr (.inr (va_up (va_up (va_up (va_up (fun _ => none) 0 (some q_2)) 1 (some q_3)) 2 (some q_4)) 3 (some q_5))))))), (q_2, .inl (cI, 20, .inl f0)), (q_3, .inl (cI, 24, .inl f1)), (q_4, .inl (cI, 300, .inl f2)), (q_5, .inl (cI, 6, .inl f3)), (q_6, .inl (cI, 3, .inl f4))] H := hP
  have hD : va_D A [(mo, .inr (6, [.int th, .int (nI nb), .int (nI nq), .int (nI nr), .ref m4, .ref m5, .ref m6, .ref m7, .ref m8, .ref m9])), (m5, .inl (cI, 20, .inl f0)), (m6, .inl (cI, 24, .inl f1)), (m7, .inl (cI, 300, .inl f2)), (m8, .inl (cI, 6, .inl f3)), (m9, .inl (cI, 3, .inl f4)), (q_1, .inl (cO, 5, .inr (.inr (.inr (.inr (va_up (va_up (va_up (va_up (fun _ => none) 0 (some q_2)) 1 (some q_3)) 2 (some q_4)) 3 (some q_5))))))), (q_2, .inl (cI, 20, .inl f0)), (q_3, .inl (cI, 24, .inl f1)), (q_4, .inl (cI, 300, .inl f2)), (q_5, .inl (cI, 6, .inl f3)), (q_6, .inl (cI, 3, .inl f4))] := hD
  refine W.widen (k := 6) (n := 358) (by omega) (by omega) ?_
  refine va_castA hx hb hown (hts _ wd_X6_kept_0) hP 11 rfl (va_nm_int (hK.2 0 _ rfl).2) dX6_kept_65 ?_
  refine gw_top2 (y := nI 4) rfl ?_
  refine gw_astA hx hb hR hK4 hP hD hS 6 3 0 11 (k := 4) rfl rfl rfl rfl (by decide) (by decide) dX6_kept_68 (fun H locs hP hD hS => ?_)
  have hP : va_P D vwCl [(mo, .inr (6, [.int th, .int (nI nb), .int (nI nq), .int (nI nr), .ref m4, .ref m5, .ref m6, .ref m7, .ref m8, .ref m9])), (m5, .inl (cI, 20, .inl f0)), (m6, .inl (cI, 24, .inl f1)), (m7, .inl (cI, 300, .inl f2)), (m8, .inl (cI, 6, .inl f3)), (m9, .inl (cI, 3, .inl f4)), (q_1, .inl (cO, 5, .inr (.inr (.inr (.inr (va_up (va_up (va_up (va_up (va_up (fun _ => none) 0 (some q_2)) 1 (some q_3)) 2 (some q_4)) 3 (some q_5)) 4 (some q_6))))))), (q_2, .inl (cI, 20, .inl f0)), (q_3, .inl (cI, 24, .inl f1)), (q_4, .inl (cI, 300, .inl f2)), (q_5, .inl (cI, 6, .inl f3)), (q_6, .inl (cI, 3, .inl f4))] H := hP
  have hD : va_D A [(mo, .inr (6, [.int th, .int (nI nb), .int (nI nq), .int (nI nr), .ref m4, .ref m5, .ref m6, .ref m7, .ref m8, .ref m9])), (m5, .inl (cI, 20, .inl f0)), (m6, .inl (cI, 24, .inl f1)), (m7, .inl (cI, 300, .inl f2)), (m8, .inl (cI, 6, .inl f3)), (m9, .inl (cI, 3, .inl f4)), (q_1, .inl (cO, 5, .inr (.inr (.inr (.inr (va_up (va_up (va_up (va_up (va_up (fun _ => none) 0 (some q_2)) 1 (some q_3)) 2 (some q_4)) 3 (some q_5)) 4 (some q_6))))))), (q_2, .inl (cI, 20, .inl f0)), (q_3, .inl (cI, 24, .inl f1)), (q_4, .inl (cI, 300, .inl f2)), (q_5, .inl (cI, 6, .inl f3)), (q_6, .inl (cI, 3, .inl f4))] := hD
  have hP := hP.sub (ws' := [(mo, .inr (6, [.int th, .int (nI nb), .int (nI nq), .int (nI nr), .ref m4, .ref m5, .ref m6, .ref m7, .ref m8, .ref m9])), (m5, .inl (cI, 20, .inl f0)), (m6, .inl (cI, 24, .inl f1)), (m7, .inl (cI, 300, .inl f2)), (m8, .inl (cI, 6, .inl f3)), (m9, .inl (cI, 3, .inl f4)), (q_1, .inl (cO, 5, .inr (.inr (.inr (.inr (va_up (va_up (va_up (va_up (va_up (fun _ => none) 0 (some q_2)) 1 (some q_3)) 2 (some q_4)) 3 (some q_5)) 4 (some q_6))))))), (q_2, .inl (cI, 20, .inl f0)), (q_3, .inl (cI, 24, .inl f1)), (q_4, .inl (cI, 300, .inl f2)), (q_5, .inl (cI, 6, .inl f3)), (q_6, .inl (cI, 3, .inl f4))]) [0, 1, 2, 3, 4, 5, 6, 7, 8, 9, 10, 11] rfl
  have hD := hD.sub (ws' := [(mo, .inr (6, [.int th, .int (nI nb), .int (nI nq), .int (nI nr), .ref m4, .ref m5, .ref m6, .ref m7, .ref m8, .ref m9])), (m5, .inl (cI, 20, .inl f0)), (m6, .inl (cI, 24, .inl f1)), (m7, .inl (cI, 300, .inl f2)), (m8, .inl (cI, 6, .inl f3)), (m9, .inl (cI, 3, .inl f4)), (q_1, .inl (cO, 5, .inr (.inr (.inr (.inr (va_up (va_up (va_up (va_up (va_up (fun _ => none) 0 (some q_2)) 1 (some q_3)) 2 (some q_4)) 3 (some q_5)) 4 (some q_6))))))), (q_2, .inl (cI, 20, .inl f0)), (q_3, .inl (cI, 24, .inl f1)), (q_4, .inl (cI, 300, .inl f2)), (q_5, .inl (cI, 6, .inl f3)), (q_6, .inl (cI, 3, .inl f4))]) [0, 1, 2, 3, 4, 5, 6, 7, 8, 9, 10, 11] (by decide) rfl
  have hP : va_P D vwCl [(mo, .inr (6, [.int th, .int (nI nb), .int (nI nq), .int (nI nr), .ref m4, .ref m5, .ref m6, .ref m7, .ref m8, .ref m9])), (m5, .inl (cI, 20, .inl f0)), (m6, .inl (cI, 24, .inl f1)), (m7, .inl (cI, 300, .inl f2)), (m8, .inl (cI, 6, .inl f3)), (m9, .inl (cI, 3, .inl f4)), (q_1, .inl (cO, 5, .inr (.inr (.inr (.inr (gRow q_2 q_3 q_4 q_5 q_6)))))), (q_2, .inl (cI, 20, .inl f0)), (q_3, .inl (cI, 24, .inl f1)), (q_4, .inl (cI, 300, .inl f2)), (q_5, .inl (cI, 6, .inl f3)), (q_6, .inl (cI, 3, .inl f4))] H := by rw [← gRow_up]; exact hP
  have hD : va_D A [(mo, .inr (6, [.int th, .int (nI nb), .int (nI nq), .int (nI nr), .ref m4, .ref m5, .ref m6, .ref m7, .ref m8, .ref m9])), (m5, .inl (cI, 20, .inl f0)), (m6, .inl (cI, 24, .inl f1)), (m7, .inl (cI, 300, .inl f2)), (m8, .inl (cI, 6, .inl f3)), (m9, .inl (cI, 3, .inl f4)), (q_1, .inl (cO, 5, .inr (.inr (.inr (.inr (gRow q_2 q_3 q_4 q_5 q_6)))))), (q_2, .inl (cI, 20, .inl f0)), (q_3, .inl (cI, 24, .inl f1)), (q_4, .inl (cI, 300, .inl f2)), (q_5, .inl (cI, 6, .inl f3)), (q_6, .inl (cI, 3, .inl f4))] := by rw [← gRow_up]; exact hD
  refine W.widen (k := 6) (n := 358) (by omega) (by omega) ?_
  exact W.aret (v := .ref q_1) (rt := .array (.array .int)) hx hb hr (Or.inr ⟨_, rfl⟩) (Or.inr ⟨_, rfl⟩) (fun t ht hW => ⟨⟨(q_2, q_3, q_4, q_5, q_6), _, rfl, trivial, gw_hh ht hP, hD⟩, hS.F ht⟩) hS.2.2 dX6_kept_69

theorem wd_X6_bringBack_0 : (.classLink RX6 139 "[I" : Cond) ∈ wsX6_bringBack := by decide +kernel
theorem wc_X6_bringBack_X6 : ∀ w ∈ u_ws RX6 TX6 10, w ∈ wsX6_bringBack := by decide +kernel
theorem wd_X6_bringBack_2 : (.fieldLink RX6 13 "GritWheelsModel" "rock" "[I" : Cond) ∈ wsX6_bringBack := by decide +kernel
theorem wd_X6_bringBack_3 : (.fieldLink RX6 16 "GritWheelsModel" "people" "[I" : Cond) ∈ wsX6_bringBack := by decide +kernel
theorem wd_X6_bringBack_4 : (.fieldLink RX6 19 "GritWheelsModel" "stones" "[I" : Cond) ∈ wsX6_bringBack := by decide +kernel
theorem wd_X6_bringBack_5 : (.fieldLink RX6 22 "GritWheelsModel" "boats" "[I" : Cond) ∈ wsX6_bringBack := by decide +kernel
theorem wd_X6_bringBack_6 : (.fieldLink RX6 25 "GritWheelsModel" "numbers" "[I" : Cond) ∈ wsX6_bringBack := by decide +kernel
theorem wd_X6_bringBack_7 : (.methodLink RX6 144 arraycopyName : Cond) ∈ wsX6_bringBack := by decide +kernel
theorem wd_X6_bringBack_8 : (.native arraycopyName : Cond) ∈ wsX6_bringBack := by decide +kernel
theorem wd_X6_bringBack_9 : (.static arraycopyName : Cond) ∈ wsX6_bringBack := by decide +kernel
theorem wd_X6_bringBack_10 : (.initialized "java/lang/System" : Cond) ∈ wsX6_bringBack := by decide +kernel
set_option maxHeartbeats 4000000 in
set_option maxRecDepth 100000 in
theorem met_X6_bringBack (l : Launch) (D : va_G) (cI cZ cL cO : ClassId) (mo : Nat) (m4 : Nat) (m5 : Nat) (m6 : Nat) (m7 : Nat) (m8 : Nat) (m9 : Nat) (th : Int32) (nb : Nat) (nq : Nat) (nr : Nat) (f0 : Nat → Int32) (f1 : Nat → Int32) (f2 : Nat → Int32) (f3 : Nat → Int32) (f4 : Nat → Int32) (g0 : Nat → Int32) (g1 : Nat → Int32) (g2 : Nat → Int32) (g3 : Nat → Int32) (g4 : Nat → Int32) (kp : Nat) (k0 : Nat) (k1 : Nat) (k2 : Nat) (k3 : Nat) (k4 : Nat) (sz : Nat) : Met l yX6_bringBack wsX6_bringBack ({ frames := 1, cells := 1, slots := 5, locals := 64 }) (gPk [.ref mo, .ref kp] D [(mo, .inr (6, [.int th, .int (nI nb), .int (nI nq), .int (nI nr), .ref m4, .ref m5, .ref m6, .ref m7, .ref m8, .ref m9])), (m5, .inl (cI, 20, .inl g0)), (m6, .inl (cI, 24, .inl g1)), (m7, .inl (cI, 300, .inl g2)), (m8, .inl (cI, 6, .inl g3)), (m9, .inl (cI, 3, .inl g4)), (kp, .inl (cO, 5, .inr (.inr (.inr (.inr (gRow k0 k1 k2 k3 k4)))))), (k0, .inl (cI, 20, .inl f0)), (k1, .inl (cI, 24, .inl f1)), (k2, .inl (cI, 300, .inl f2)), (k3, .inl (cI, 6, .inl f3)), (k4, .inl (cI, 3, .inl f4))] (gT4 cI cZ cL cO) sz) (va_Qv (fun (_ : Unit) => True) (fun _ t => va_P D vwCl [(mo, .inr (6, [.int th, .int (nI nb), .int (nI nq), .int (nI nr), .ref m4, .ref m5, .ref m6, .ref m7, .ref m8, .ref m9])), (m5, .inl (cI, 20, .inl f0)), (m6, .inl (cI, 24, .inl f1)), (m7, .inl (cI, 300, .inl f2)), (m8, .inl (cI, 6, .inl f3)), (m9, .inl (cI, 3, .inl f4)), (kp, .inl (cO, 5, .inr (.inr (.inr (.inr (gRow k0 k1 k2 k3 k4)))))), (k0, .inl (cI, 20, .inl f0)), (k1, .inl (cI, 24, .inl f1)), (k2, .inl (cI, 300, .inl f2)), (k3, .inl (cI, 6, .inl f3)), (k4, .inl (cI, 3, .inl f4))] t.heap ∧ va_D (va_A [(mo, .inr (6, [.int th, .int (nI nb), .int (nI nq), .int (nI nr), .ref m4, .ref m5, .ref m6, .ref m7, .ref m8, .ref m9])), (m5, .inl (cI, 20, .inl g0)), (m6, .inl (cI, 24, .inl g1)), (m7, .inl (cI, 300, .inl g2)), (m8, .inl (cI, 6, .inl g3)), (m9, .inl (cI, 3, .inl g4)), (kp, .inl (cO, 5, .inr (.inr (.inr (.inr (gRow k0 k1 k2 k3 k4)))))), (k0, .inl (cI, 20, .inl f0)), (k1, .inl (cI, 24, .inl f1)), (k2, .inl (cI, 300, .inl f2)), (k3, .inl (cI, 6, .inl f3)), (k4, .inl (cI, 3, .inl f4))] sz) [(mo, .inr (6, [.int th, .int (nI nb), .int (nI nq), .int (nI nr), .ref m4, .ref m5, .ref m6, .ref m7, .ref m8, .ref m9])), (m5, .inl (cI, 20, .inl f0)), (m6, .inl (cI, 24, .inl f1)), (m7, .inl (cI, 300, .inl f2)), (m8, .inl (cI, 6, .inl f3)), (m9, .inl (cI, 3, .inl f4)), (kp, .inl (cO, 5, .inr (.inr (.inr (.inr (gRow k0 k1 k2 k3 k4)))))), (k0, .inl (cI, 20, .inl f0)), (k1, .inl (cI, 24, .inl f1)), (k2, .inl (cI, 300, .inl f2)), (k3, .inl (cI, 6, .inl f3)), (k4, .inl (cI, 3, .inl f4))]) (va_A [(mo, .inr (6, [.int th, .int (nI nb), .int (nI nq), .int (nI nr), .ref m4, .ref m5, .ref m6, .ref m7, .ref m8, .ref m9])), (m5, .inl (cI, 20, .inl g0)), (m6, .inl (cI, 24, .inl g1)), (m7, .inl (cI, 300, .inl g2)), (m8, .inl (cI, 6, .inl g3)), (m9, .inl (cI, 3, .inl g4)), (kp, .inl (cO, 5, .inr (.inr (.inr (.inr (gRow k0 k1 k2 k3 k4)))))), (k0, .inl (cI, 20, .inl f0)), (k1, .inl (cI, 24, .inl f1)), (k2, .inl (cI, 300, .inl f2)), (k3, .inl (cI, 6, .inl f3)), (k4, .inl (cI, 3, .inl f4))] sz)) 1 5 (va_A [(mo, .inr (6, [.int th, .int (nI nb), .int (nI nq), .int (nI nr), .ref m4, .ref m5, .ref m6, .ref m7, .ref m8, .ref m9])), (m5, .inl (cI, 20, .inl g0)), (m6, .inl (cI, 24, .inl g1)), (m7, .inl (cI, 300, .inl g2)), (m8, .inl (cI, 6, .inl g3)), (m9, .inl (cI, 3, .inl g4)), (kp, .inl (cO, 5, .inr (.inr (.inr (.inr (gRow k0 k1 k2 k3 k4)))))), (k0, .inl (cI, 20, .inl f0)), (k1, .inl (cI, 24, .inl f1)), (k2, .inl (cI, 300, .inl f2)), (k3, .inl (cI, 6, .inl f3)), (k4, .inl (cI, 3, .inl f4))] sz) := by
  refine Met.ofW (cc := cX6_bringBack) (maxL := 4) (ret := none) (by decide +kernel) rfl ?_
  intro p e s m args below meth c s₁ B hml hv
  obtain ⟨rfl, hsz, hP, hK4, hD0, hR⟩ := hv
  have hK : va_K D vwCl (gT cI cZ cL) s := hK4.sub [0, 1, 2] rfl
  have hx := B.exec
  have hb := B.bytes
  have hr := B.returns
  have hts := atoms_spec (ws := wsX6_bringBack) B.pre
  have hown : s.vm.findClass RX6 = some m.cls := findClass_of_methodNamed B.named
  have hlocks := B.notSynchronized
  subst hsz
  have hD := hD0.self (sz := s.heap.size)
  generalize hAe : va_A [(mo, .inr (6, [.int th, .int (nI nb), .int (nI nq), .int (nI nr), .ref m4, .ref m5, .ref m6, .ref m7, .ref m8, .ref m9])), (m5, .inl (cI, 20, .inl g0)), (m6, .inl (cI, 24, .inl g1)), (m7, .inl (cI, 300, .inl g2)), (m8, .inl (cI, 6, .inl g3)), (m9, .inl (cI, 3, .inl g4)), (kp, .inl (cO, 5, .inr (.inr (.inr (.inr (gRow k0 k1 k2 k3 k4)))))), (k0, .inl (cI, 20, .inl f0)), (k1, .inl (cI, 24, .inl f1)), (k2, .inl (cI, 300, .inl f2)), (k3, .inl (cI, 6, .inl f3)), (k4, .inl (cI, 3, .inl f4))] s.heap.size = A at hD ⊢
  have hA : ∀ q : Nat, s.heap.size ≤ q → A q := fun q h => by rw [← hAe]; exact Or.inr h
  have hS : va_S A s.heap s.heap [] := va_S.rf
  have hP : va_P D vwCl [(mo, .inr (6, [.int th, .int (nI nb), .int (nI nq), .int (nI nr), .ref m4, .ref m5, .ref m6, .ref m7, .ref m8, .ref m9])), (m5, .inl (cI, 20, .inl g0)), (m6, .inl (cI, 24, .inl g1)), (m7, .inl (cI, 300, .inl g2)), (m8, .inl (cI, 6, .inl g3)), (m9, .inl (cI, 3, .inl g4)), (kp, .inl (cO, 5, .inr (.inr (.inr (.inr (gRow k0 k1 k2 k3 k4)))))), (k0, .inl (cI, 20, .inl f0)), (k1, .inl (cI, 24, .inl f1)), (k2, .inl (cI, 300, .inl f2)), (k3, .inl (cI, 6, .inl f3)), (k4, .inl (cI, 3, .inl f4))] s.heap := hP
  have hl := lv_entry ([.ref mo, .ref kp]) (n := 4) (Nat.le_of_ble_eq_true rfl)
  rw [lg_entry_eq]
  generalize (lg_sl ([.ref mo, .ref kp]) ++ List.replicate (4 - (lg_sl ([.ref mo, .ref kp])).length) Slot.unset).toArray = ls at hl ⊢
  have hl : lv_has ls 4 [(0, .ref mo), (1, .ref kp)] := hl
  refine lv_iconst (v := 5) hx hb dX6_bringBack_0 (by decide) ?_
  refine gw_anewA hx hb hown (hts _ wd_X6_bringBack_0) hR hK4 3 rfl hP hD hS hA (n := 5) (N' := 5) (by decide) (by decide) (by decide) (Nat.le_of_ble_eq_true rfl) (Nat.le_of_ble_eq_true rfl) dX6_bringBack_1 (fun q_1 H hP hD hS => ?_)
  have hP : va_P D vwCl [(mo, .inr (6, [.int th, .int (nI nb), .int (nI nq), .int (nI nr), .ref m4, .ref m5, .ref m6, .ref m7, .ref m8, .ref m9])), (m5, .inl (cI, 20, .inl g0)), (m6, .inl (cI, 24, .inl g1)), (m7, .inl (cI, 300, .inl g2)), (m8, .inl (cI, 6, .inl g3)), (m9, .inl (cI, 3, .inl g4)), (kp, .inl (cO, 5, .inr (.inr (.inr (.inr (gRow k0 k1 k2 k3 k4)))))), (k0, .inl (cI, 20, .inl f0)), (k1, .inl (cI, 24, .inl f1)), (k2, .inl (cI, 300, .inl f2)), (k3, .inl (cI, 6, .inl f3)), (k4, .inl (cI, 3, .inl f4)), (q_1, .inl (cO, 5, .inr (.inr (.inr (.inr (fun _ => none))))))] H := hP
  have hD : va_D A [(mo, .inr (6, [.int th, .int (nI nb), .int (nI nq), .int (nI nr), .ref m4, .ref m5, .ref m6, .ref m7, .ref m8, .ref m9])), (m5, .inl (cI, 20, .inl g0)), (m6, .inl (cI, 24, .inl g1)), (m7, .inl (cI, 300, .inl g2)), (m8, .inl (cI, 6, .inl g3)), (m9, .inl (cI, 3, .inl g4)), (kp, .inl (cO, 5, .inr (.inr (.inr (.inr (gRow k0 k1 k2 k3 k4)))))), (k0, .inl (cI, 20, .inl f0)), (k1, .inl (cI, 24, .inl f1)), (k2, .inl (cI, 300, .inl f2)), (k3, .inl (cI, 6, .inl f3)), (k4, .inl (cI, 3, .inl f4)), (q_1, .inl (cO, 5, .inr (.inr (.inr (.inr (fun _ => none))))))] := hD
  refine W.widen (k := 1) (n := 5) (by omega) (by omega) ?_
  refine lv_dup hx hb dX6_bringBack_4 rfl ?_
  refine lv_iconst (v := 0) hx hb dX6_bringBack_5 (by decide) ?_
  refine lv_aload_n hx hb dX6_bringBack_6 rfl (lv_at hl 0 rfl) ?_
  refine va_get (D := D) (ci := 6) (v := .ref m5) (C := RX6) (T := TX6) (N := 10) hx hb hts wc_X6_bringBack_X6 hown hK hP 0 rfl rfl 5 (by decide) (hts _ wd_X6_bringBack_2) (fun _ h9 => h9) rfl dX6_bringBack_7 ?_
  refine gw_top2 (y := nI 0) rfl ?_
  refine gw_astA hx hb hR hK4 hP hD hS 12 3 0 1 (k := 0) rfl rfl rfl rfl (by decide) (by decide) dX6_bringBack_10 (fun H locs hP hD hS => ?_)
  have hP : va_P D vwCl [(mo, .inr (6, [.int th, .int (nI nb), .int (nI nq), .int (nI nr), .ref m4, .ref m5, .ref m6, .ref m7, .ref m8, .ref m9])), (m5, .inl (cI, 20, .inl g0)), (m6, .inl (cI, 24, .inl g1)), (m7, .inl (cI, 300, .inl g2)), (m8, .inl (cI, 6, .inl g3)), (m9, .inl (cI, 3, .inl g4)), (kp, .inl (cO, 5, .inr (.inr (.inr (.inr (gRow k0 k1 k2 k3 k4)))))), (k0, .inl (cI, 20, .inl f0)), (k1, .inl (cI, 24, .inl f1)), (k2, .inl (cI, 300, .inl f2)), (k3, .inl (cI, 6, .inl f3)), (k4, .inl (cI, 3, .inl f4)), (q_1, .inl (cO, 5, .inr (.inr (.inr (.inr (va_up (fun _ => none) 0 (some m5)))))))] H := hP
  have hD : va_D A [(mo, .inr (6, [.int th, .int (nI nb), .int (nI nq), .int (nI nr), .ref m4, .ref m5, .ref m6, .ref m7, .ref m8, .ref m9])), (m5, .inl (cI, 20, .inl g0)), (m6, .inl (cI, 24, .inl g1)), (m7, .inl (cI, 300, .inl g2)), (m8, .inl (cI, 6, .inl g3)), (m9, .inl (cI, 3, .inl g4)), (kp, .inl (cO, 5, .inr (.inr (.inr (.inr (gRow k0 k1 k2 k3 k4)))))), (k0, .inl (cI, 20, .inl f0)), (k1, .inl (cI, 24, .inl f1)), (k2, .inl (cI, 300, .inl f2)), (k3, .inl (cI, 6, .inl f3)), (k4, .inl (cI, 3, .inl f4)), (q_1, .inl (cO, 5, .inr (.inr (.inr (.inr (va_up (fun _ => none) 0 (some m5)))))))] := hD
  refine lv_dup hx hb dX6_bringBack_11 rfl ?_
  refine lv_iconst (v := 1) hx hb dX6_bringBack_12 (by decide) ?_
  refine lv_aload_n hx hb dX6_bringBack_13 rfl (lv_at hl 0 rfl) ?_
  refine va_get (D := D) (ci := 6) (v := .ref m6) (C := RX6) (T := TX6) (N := 10) hx hb hts wc_X6_bringBack_X6 hown hK hP 0 rfl rfl 6 (by decide) (hts _ wd_X6_bringBack_3) (fun _ h9 => h9) rfl dX6_bringBack_14 ?_
  refine gw_top2 (y := nI 1) rfl ?_
  refine gw_astA hx hb hR hK4 hP hD hS 12 3 0 2 (k := 1) rfl rfl rfl rfl (by decide) (by decide) dX6_bringBack_17 (fun H locs hP hD hS => ?_)
  have hP : va_P D vwCl [(mo, .inr (6, [.int th, .int (nI nb), .int (nI nq), .int (nI nr), .ref m4, .ref m5, .ref m6, .ref m7, .ref m8, .ref m9])), (m5, .inl (cI, 20, .inl g0)), (m6, .inl (cI, 24, .inl g1)), (m7, .inl (cI, 300, .inl g2)), (m8, .inl (cI, 6, .inl g3)), (m9, .inl (cI, 3, .inl g4)), (kp, .inl (cO, 5, .inr (.inr (.inr (.inr (gRow k0 k1 k2 k3 k4)))))), (k0, .inl (cI, 20, .inl f0)), (k1, .inl (cI, 24, .inl f1)), (k2, .inl (cI, 300, .inl f2)), (k3, .inl (cI, 6, .inl f3)), (k4, .inl (cI, 3, .inl f4)), (q_1, .inl (cO, 5, .inr (.inr (.inr (.inr (va_up (va_up (fun _ => none) 0 (some m5)) 1 (some m6)))))))] H := hP
  have hD : va_D A [(mo, .inr (6, [.int th, .int (nI nb), .int (nI nq), .int (nI nr), .ref m4, .ref m5, .ref m6, .ref m7, .ref m8, .ref m9])), (m5, .inl (cI, 20, .inl g0)), (m6, .inl (cI, 24, .inl g1)), (m7, .inl (cI, 300, .inl g2)), (m8, .inl (cI, 6, .inl g3)), (m9, .inl (cI, 3, .inl g4)), (kp, .inl (cO, 5, .inr (.inr (.inr (.inr (gRow k0 k1 k2 k3 k4)))))), (k0, .inl (cI, 20, .inl f0)), (k1, .inl (cI, 24, .inl f1)), (k2, .inl (cI, 300, .inl f2)), (k3, .inl (cI, 6, .inl f3)), (k4, .inl (cI, 3, .inl f4)), (q_1, .inl (cO, 5, .inr (.inr (.inr (.inr (va_up (va_up (fun _ => none) 0 (some m5)) 1 (some m6)))))))] := hD
  refine lv_dup hx hb dX6_bringBack_18 rfl ?_
  refine lv_iconst (v := 2) hx hb dX6_bringBack_19 (by decide) ?_
  refine lv_aload_n hx hb dX6_bringBack_20 rfl (lv_at hl 0 rfl) ?_
  refine va_get (D := D) (ci := 6) (v := .ref m7) (C := RX6) (T := TX6) (N := 10) hx hb hts wc_X6_bringBack_X6 hown hK hP 0 rfl rfl 7 (by decide) (hts _ wd_X6_bringBack_4) (fun _ h9 => h9) rfl dX6_bringBack_21 ?_
  refine gw_top2 (y := nI 2) rfl ?_
  refine gw_astA hx hb hR hK4 hP hD hS 12 3 0 3 (k := 2) rfl rfl rfl rfl (by decide) (by decide) dX6_bringBack_24 (fun H locs hP hD hS => ?_)
  have hP : va_P D vwCl [(mo, .inr (6, [.int th, .int (nI nb), .int (nI nq), .int (nI nr), .ref m4, .ref m5, .ref m6, .ref m7, .ref m8, .ref m9])), (m5, .inl (cI, 20, .inl g0)), (m6, .inl (cI, 24, .inl g1)), (m7, .inl (cI, 300, .inl g2)), (m8, .inl (cI, 6, .inl g3)), (m9, .inl (cI, 3, .inl g4)), (kp, .inl (cO, 5, .inr (.inr (.inr (.inr (gRow k0 k1 k2 k3 k4)))))), (k0, .inl (cI, 20, .inl f0)), (k1, .inl (cI, 24, .inl f1)), (k2, .inl (cI, 300, .inl f2)), (k3, .inl (cI, 6, .inl f3)), (k4, .inl (cI, 3, .inl f4)), (q_1, .inl (cO, 5, .inr (.inr (.inr (.inr (va_up (va_up (va_up (fun _ => none) 0 (some m5)) 1 (some m6)) 2 (some m7)))))))] H := hP
  have hD : va_D A [(mo, .inr (6, [.int th, .int (nI nb), .int (nI nq), .int (nI nr), .ref m4, .ref m5, .ref m6, .ref m7, .ref m8, .ref m9])), (m5, .inl (cI, 20, .inl g0)), (m6, .inl (cI, 24, .inl g1)), (m7, .inl (cI, 300, .inl g2)), (m8, .inl (cI, 6, .inl g3)), (m9, .inl (cI, 3, .inl g4)), (kp, .inl (cO, 5, .inr (.inr (.inr (.inr (gRow k0 k1 k2 k3 k4)))))), (k0, .inl (cI, 20, .inl f0)), (k1, .inl (cI, 24, .inl f1)), (k2, .inl (cI, 300, .inl f2)), (k3, .inl (cI, 6, .inl f3)), (k4, .inl (cI, 3, .inl f4)), (q_1, .inl (cO, 5, .inr (.inr (.inr (.inr (va_up (va_up (va_up (fun _ => none) 0 (some m5)) 1 (some m6)) 2 (some m7)))))))] := hD
  refine lv_dup hx hb dX6_bringBack_25 rfl ?_
  refine lv_iconst (v := 3) hx hb dX6_bringBack_26 (by decide) ?_
  refine lv_aload_n hx hb dX6_bringBack_27 rfl (lv_at hl 0 rfl) ?_
  refine va_get (D := D) (ci := 6) (v := .ref m8) (C := RX6) (T := TX6) (N := 10) hx hb hts wc_X6_bringBack_X6 hown hK hP 0 rfl rfl 8 (by decide) (hts _ wd_X6_bringBack_5) (fun _ h9 => h9) rfl dX6_bringBack_28 ?_
  refine gw_top2 (y := nI 3) rfl ?_
  refine gw_astA hx hb hR hK4 hP hD hS 12 3 0 4 (k := 3) rfl rfl rfl rfl (by decide) (by decide) dX6_bringBack_31 (fun H locs hP hD hS => ?_)
  have hP : va_P D vwCl [(mo, .inr (6, [.int th, .int (nI nb), .int (nI nq), .int (nI nr), .ref m4, .ref m5, .ref m6, .ref m7, .ref m8, .ref m9])), (m5, .inl (cI, 20, .inl g0)), (m6, .inl (cI, 24, .inl g1)), (m7, .inl (cI, 300, .inl g2)), (m8, .inl (cI, 6, .inl g3)), (m9, .inl (cI, 3, .inl g4)), (kp, .inl (cO, 5, .inr (.inr (.inr (.inr (gRow k0 k1 k2 k3 k4)))))), (k0, .inl (cI, 20, .inl f0)), (k1, .inl (cI, 24, .inl f1)), (k2, .inl (cI, 300, .inl f2)), (k3, .inl (cI, 6, .inl f3)), (k4, .inl (cI, 3, .inl f4)), (q_1, .inl (cO, 5, .inr (.inr (.inr (.inr (va_up (va_up (va_up (va_up (fun _ => none) 0 (some m5)) 1 (some m6)) 2 (some m7)) 3 (some m8)))))))] H := hP
  have hD : va_D A [(mo, .inr (6, [.int th, .int (nI nb), .int (nI nq), .int (nI nr), .ref m4, .ref m5, .ref m6, .ref m7, .ref m8, .ref m9])), (m5, .inl (cI, 20, .inl g0)), (m6, .inl (cI, 24, .inl g1)), (m7, .inl (cI, 300, .inl g2)), (m8, .inl (cI, 6, .inl g3)), (m9, .inl (cI, 3, .inl g4)), (kp, .inl (cO, 5, .inr (.inr (.inr (.inr (gRow k0 k1 k2 k3 k4)))))), (k0, .inl (cI, 20, .inl f0)), (k1, .inl (cI, 24, .inl f1)), (k2, .inl (cI, 300, .inl f2)), (k3, .inl (cI, 6, .inl f3)), (k4, .inl (cI, 3, .inl f4)), (q_1, .inl (cO, 5, .inr (.inr (.inr (.inr (va_up (va_up (va_up (va_up (fun _ => none) 0 (some m5)) 1 (some m6)) 2 (some m7)) 3 (some m8)))))))] := hD
  refine lv_dup hx hb dX6_bringBack_32 rfl ?_
  refine lv_iconst (v := 4) hx hb dX6_bringBack_33 (by decide) ?_
  refine lv_aload_n hx hb dX6_bringBack_34 rfl (lv_at hl 0 rfl) ?_
  refine va_get (D := D) (ci := 6) (v := .ref m9) (C := RX6) (T := TX6) (N := 10) hx hb hts wc_X6_bringBack_X6 hown hK hP 0 rfl rfl 9 (by decide) (hts _ wd_X6_bringBack_6) (fun _ h9 => h9) rfl dX6_bringBack_35 ?_
  refine gw_top2 (y := nI 4) rfl ?_
  refine gw_astA hx hb hR hK4 hP hD hS 12 3 0 5 (k := 4) rfl rfl rfl rfl (by decide) (by decide) dX6_bringBack_38 (fun H locs hP hD hS => ?_)
  have hP : va_P D vwCl [(mo, .inr (6, [.int th, .int (nI nb), .int (nI nq), .int (nI nr), .ref m4, .ref m5, .ref m6, .ref m7, .ref m8, .ref m9])), (m5, .inl (cI, 20, .inl g0)), (m6, .inl (cI, 24, .inl g1)), (m7, .inl (cI, 300, .inl g2)), (m8, .inl (cI, 6, .inl g3)), (m9, .inl (cI, 3, .inl g4)), (kp, .inl (cO, 5, .inr (.inr (.inr (.inr (gRow k0 k1 k2 k3 k4)))))), (k0, .inl (cI, 20, .inl f0)), (k1, .inl (cI, 24, .inl f1)), (k2, .inl (cI, 300, .inl f2)), (k3, .inl (cI, 6, .inl f3)), (k4, .inl (cI, 3, .inl f4)), (q_1, .inl (cO, 5, .inr (.inr (.inr (.inr (va_up (va_up (va_up (va_up (va_up (fun _ => none) 0 (some m5)) 1 (some m6)) 2 (some m7)) 3 (some m8)) 4 (some m9)))))))] H := hP
  have hD : va_D A [(mo, .inr (6, [.int th, .int (nI nb), .int (nI nq), .int (nI nr), .ref m4, .ref m5, .ref m6, .ref m7, .ref m8, .ref m9])), (m5, .inl (cI, 20, .inl g0)), (m6, .inl (cI, 24, .inl g1)), (m7, .inl (cI, 300, .inl g2)), (m8, .inl (cI, 6, .inl g3)), (m9, .inl (cI, 3, .inl g4)), (kp, .inl (cO, 5, .inr (.inr (.inr (.inr (gRow k0 k1 k2 k3 k4)))))), (k0, .inl (cI, 20, .inl f0)), (k1, .inl (cI, 24, .inl f1)), (k2, .inl (cI, 300, .inl f2)), (k3, .inl (cI, 6, .inl f3)), (k4, .inl (cI, 3, .inl f4)), (q_1, .inl (cO, 5, .inr (.inr (.inr (.inr (va_up (va_up (va_up (va_up (va_up (fun _ => none) 0 (some m5)) 1 (some m6)) 2 (some m7)) 3 (some m8)) 4 (some m9)))))))] := hD
  refine lv_astore_n (lv' := [(2, .ref q_1), (0, .ref mo), (1, .ref kp)]) hx hb dX6_bringBack_39 rfl hl (by decide) rfl (fun ls hl => ?_)
  refine lv_iconst (v := 0) hx hb dX6_bringBack_40 (by decide) ?_
  refine lv_istore_n (lv' := [(3, .int 0), (2, .ref q_1), (0, .ref mo), (1, .ref kp)]) hx hb dX6_bringBack_41 rfl hl (by decide) rfl (fun ls hl => ?_)
  refine lv_iload_n hx hb dX6_bringBack_42 rfl (lv_at hl 0 rfl) ?_
  refine lv_aload_n hx hb dX6_bringBack_43 rfl (lv_at hl 1 rfl) ?_
  refine va_alen (v := nI 5) hx hb hK4 hP 12 3 rfl rfl rfl dX6_bringBack_44 ?_
  refine lv_icmp_ge (tgt := 69) hx hb dX6_bringBack_45 (by decide) (fun c_2 => False.elim (by revert c_2; decide)) (fun _ => ?_)
  refine lv_aload_n hx hb dX6_bringBack_48 rfl (lv_at hl 3 rfl) ?_
  refine lv_iload_n hx hb dX6_bringBack_49 rfl (lv_at hl 0 rfl) ?_
  refine gw_top (y := nI 0) rfl ?_
  refine gw_aldA hx hb hK4 hP 6 3 (k := 0) (v := k0) rfl rfl rfl (by decide) (by decide) dX6_bringBack_50 ?_
  refine lv_iconst (v := 0) hx hb dX6_bringBack_51 (by decide) ?_
  refine lv_aload_n hx hb dX6_bringBack_52 rfl (lv_at hl 1 rfl) ?_
  refine lv_iload_n hx hb dX6_bringBack_53 rfl (lv_at hl 0 rfl) ?_
  refine gw_top (y := nI 0) rfl ?_
  refine gw_aldA hx hb hK4 hP 12 3 (k := 0) (v := m5) rfl rfl rfl (by decide) (by decide) dX6_bringBack_54 ?_
  refine lv_iconst (v := 0) hx hb dX6_bringBack_55 (by decide) ?_
  refine lv_aload_n hx hb dX6_bringBack_56 rfl (lv_at hl 1 rfl) ?_
  refine lv_iload_n hx hb dX6_bringBack_57 rfl (lv_at hl 0 rfl) ?_
  refine gw_top (y := nI 0) rfl ?_
  refine gw_aldA hx hb hK4 hP 12 3 (k := 0) (v := m5) rfl rfl rfl (by decide) (by decide) dX6_bringBack_58 ?_
  refine va_alen (v := nI 20) hx hb hK hP 1 0 rfl rfl rfl dX6_bringBack_59 ?_
  refine gw_copyA hx hb (by rw [hml]; exact hl.1.symm) hown (hts _ wd_X6_bringBack_7) (hts _ wd_X6_bringBack_8) (hts _ wd_X6_bringBack_9) (hts _ wd_X6_bringBack_10) hK hP hD hS 7 1 0 rfl rfl rfl (by decide) (Nat.le_of_ble_eq_true rfl) (Nat.le_of_ble_eq_true rfl) dX6_bringBack_60 (fun H locs hP hD hS => ?_)
  have hP : va_P D vwCl [(mo, .inr (6, [.int th, .int (nI nb), .int (nI nq), .int (nI nr), .ref m4, .ref m5, .ref m6, .ref m7, .ref m8, .ref m9])), (m5, .inl (cI, 20, .inl f0)), (m6, .inl (cI, 24, .inl g1)), (m7, .inl (cI, 300, .inl g2)), (m8, .inl (cI, 6, .inl g3)), (m9, .inl (cI, 3, .inl g4)), (kp, .inl (cO, 5, .inr (.inr (.inr (.inr (gRow k0 k1 k2 k3 k4)))))), (k0, .inl (cI, 20, .inl f0)), (k1, .inl (cI, 24, .inl f1)), (k2, .inl (cI, 300, .inl f2)), (k3, .inl (cI, 6, .inl f3)), (k4, .inl (cI, 3, .inl f4)), (q_1, .inl (cO, 5, .inr (.inr (.inr (.inr (va_up (va_up (va_up (va_up (va_up (fun _ => none) 0 (some m5)) 1 (some m6)) 2 (some m7)) 3 (some m8)) 4 (some m9)))))))] H := hP
  have hD : va_D A [(mo, .inr (6, [.int th, .int (nI nb), .int (nI nq), .int (nI nr), .ref m4, .ref m5, .ref m6, .ref m7, .ref m8, .ref m9])), (m5, .inl (cI, 20, .inl f0)), (m6, .inl (cI, 24, .inl g1)), (m7, .inl (cI, 300, .inl g2)), (m8, .inl (cI, 6, .inl g3)), (m9, .inl (cI, 3, .inl g4)), (kp, .inl (cO, 5, .inr (.inr (.inr (.inr (gRow k0 k1 k2 k3 k4)))))), (k0, .inl (cI, 20, .inl f0)), (k1, .inl (cI, 24, .inl f1)), (k2, .inl (cI, 300, .inl f2)), (k3, .inl (cI, 6, .inl f3)), (k4, .inl (cI, 3, .inl f4)), (q_1, .inl (cO, 5, .inr (.inr (.inr (.inr (va_up (va_up (va_up (va_up (va_up (fun _ => none) 0 (some m5)) 1 (some m6)) 2 (some m7)) 3 (some m8)) 4 (some m9)))))))] := hD
  refine lv_iinc (v := 1) (lv' := [(3, .int 1), (2, .ref q_1), (0, .ref mo), (1, .ref kp)]) hx hb dX6_bringBack_63 hl (k := 0) rfl (by decide) (by decide) rfl (fun ls hl => ?_)
  refine lv_goto (tgt := 42) hx hb dX6_bringBack_66 (by decide) ?_
  refine lv_iload_n hx hb dX6_bringBack_42 rfl (lv_at hl 0 rfl) ?_
  refine lv_aload_n hx hb dX6_bringBack_43 rfl (lv_at hl 1 rfl) ?_
  refine va_alen (v := nI 5) hx hb hK4 hP 12 3 rfl rfl rfl dX6_bringBack_44 ?_
  refine lv_icmp_ge (tgt := 69) hx hb dX6_bringBack_45 (by decide) (fun c_3 => False.elim (by revert c_3; decide)) (fun _ => ?_)
  refine lv_aload_n hx hb dX6_bringBack_48 rfl (lv_at hl 3 rfl) ?_
  refine lv_iload_n hx hb dX6_bringBack_49 rfl (lv_at hl 0 rfl) ?_
  refine gw_top (y := nI 1) rfl ?_
  refine gw_aldA hx hb hK4 hP 6 3 (k := 1) (v := k1) rfl rfl rfl (by decide) (by decide) dX6_bringBack_50 ?_
  refine lv_iconst (v := 0) hx hb dX6_bringBack_51 (by decide) ?_
  refine lv_aload_n hx hb dX6_bringBack_52 rfl (lv_at hl 1 rfl) ?_
  refine lv_iload_n hx hb dX6_bringBack_53 rfl (lv_at hl 0 rfl) ?_
  refine gw_top (y := nI 1) rfl ?_
  refine gw_aldA hx hb hK4 hP 12 3 (k := 1) (v := m6) rfl rfl rfl (by decide) (by decide) dX6_bringBack_54 ?_
  refine lv_iconst (v := 0) hx hb dX6_bringBack_55 (by decide) ?_
  refine lv_aload_n hx hb dX6_bringBack_56 rfl (lv_at hl 1 rfl) ?_
  refine lv_iload_n hx hb dX6_bringBack_57 rfl (lv_at hl 0 rfl) ?_
  refine gw_top (y := nI 1) rfl ?_
  refine gw_aldA hx hb hK4 hP 12 3 (k := 1) (v := m6) rfl rfl rfl (by decide) (by decide) dX6_bringBack_58 ?_
  refine va_alen (v := nI 24) hx hb hK hP 2 0 rfl rfl rfl dX6_bringBack_59 ?_
  refine gw_copyA hx hb (by rw [hml]; exact hl.1.symm) hown (hts _ wd_X6_bringBack_7) (hts _ wd_X6_bringBack_8) (hts _ wd_X6_bringBack_9) (hts _ wd_X6_bringBack_10) hK hP hD hS 8 2 0 rfl rfl rfl (by decide) (Nat.le_of_ble_eq_true rfl) (Nat.le_of_ble_eq_true rfl) dX6_bringBack_60 (fun H locs hP hD hS => ?_)
  have hP : va_P D vwCl [(mo, .inr (6, [.int th, .int (nI nb), .int (nI nq), .int (nI nr), .ref m4, .ref m5, .ref m6, .ref m7, .ref m8, .ref m9])), (m5, .inl (cI, 20, .inl f0)), (m6, .inl (cI, 24, .inl f1)), (m7, .inl (cI, 300, .inl g2)), (m8, .inl (cI, 6, .inl g3)), (m9, .inl (cI, 3, .inl g4)), (kp, .inl (cO, 5, .inr (.inr (.inr (.inr (gRow k0 k1 k2 k3 k4)))))), (k0, .inl (cI, 20, .inl f0)), (k1, .inl (cI, 24, .inl f1)), (k2, .inl (cI, 300, .inl f2)), (k3, .inl (cI, 6, .inl f3)), (k4, .inl (cI, 3, .inl f4)), (q_1, .inl (cO, 5, .inr (.inr (.inr (.inr (va_up (va_up (va_up (va_up (va_up (fun _ => none) 0 (some m5)) 1 (some m6)) 2 (some m7)) 3 (some m8)) 4 (some m9)))))))] H := hP
  have hD : va_D A [(mo, .inr (6, [.int th, .int (nI nb), .int (nI nq), .int (nI nr), .ref m4, .ref m5, .ref m6, .ref m7, .ref m8, .ref m9])), (m5, .inl (cI, 20, .inl f0)), (m6, .inl (cI, 24, .inl f1)), (m7, .inl (cI, 300, .inl g2)), (m8, .inl (cI, 6, .inl g3)), (m9, .inl (cI, 3, .inl g4)), (kp, .inl (cO, 5, .inr (.inr (.inr (.inr (gRow k0 k1 k2 k3 k4)))))), (k0, .inl (cI, 20, .inl f0)), (k1, .inl (cI, 24, .inl f1)), (k2, .inl (cI, 300, .inl f2)), (k3, .inl (cI, 6, .inl f3)), (k4, .inl (cI, 3, .inl f4)), (q_1, .inl (cO, 5, .inr (.inr (.inr (.inr (va_up (va_up (va_up (va_up (va_up (fun _ => none) 0 (some m5)) 1 (some m6)) 2 (some m7)) 3 (some m8)) 4 (some m9)))))))] := hD
  refine lv_iinc (v := 2) (lv' := [(3, .int 2), (2, .ref q_1), (0, .ref mo), (1, .ref kp)]) hx hb dX6_bringBack_63 hl (k := 0) rfl (by decide) (by decide) rfl (fun ls hl => ?_)
  refine lv_goto (tgt := 42) hx hb dX6_bringBack_66 (by decide) ?_
  refine lv_iload_n hx hb dX6_bringBack_42 rfl (lv_at hl 0 rfl) ?_
  refine lv_aload_n hx hb dX6_bringBack_43 rfl (lv_at hl 1 rfl) ?_
  refine va_alen (v := nI 5) hx hb hK4 hP 12 3 rfl rfl rfl dX6_bringBack_44 ?_
  refine lv_icmp_ge (tgt := 69) hx hb dX6_bringBack_45 (by decide) (fun c_4 => False.elim (by revert c_4; decide)) (fun _ => ?_)
  refine lv_aload_n hx hb dX6_bringBack_48 rfl (lv_at hl 3 rfl) ?_
  refine lv_iload_n hx hb dX6_bringBack_49 rfl (lv_at hl 0 rfl) ?_
  refine gw_top (y := nI 2) rfl ?_
  refine gw_aldA hx hb hK4 hP 6 3 (k := 2) (v := k2) rfl rfl rfl (by decide) (by decide) dX6_bringBack_50 ?_
  refine lv_iconst (v := 0) hx hb dX6_bringBack_51 (by decide) ?_
  refine lv_aload_n hx hb dX6_bringBack_52 rfl (lv_at hl 1 rfl) ?_
  refine lv_iload_n hx hb dX6_bringBack_53 rfl (lv_at hl 0 rfl) ?_
  refine gw_top (y := nI 2) rfl ?_
  refine gw_aldA hx hb hK4 hP 12 3 (k := 2) (v := m7) rfl rfl rfl (by decide) (by decide) dX6_bringBack_54 ?_
  refine lv_iconst (v := 0) hx hb dX6_bringBack_55 (by decide) ?_
  refine lv_aload_n hx hb dX6_bringBack_56 rfl (lv_at hl 1 rfl) ?_
  refine lv_iload_n hx hb dX6_bringBack_57 rfl (lv_at hl 0 rfl) ?_
  refine gw_top (y := nI 2) rfl ?_
  refine gw_aldA hx hb hK4 hP 12 3 (k := 2) (v := m7) rfl rfl rfl (by decide) (by decide) dX6_bringBack_58 ?_
  refine va_alen (v := nI 300) hx hb hK hP 3 0 rfl rfl rfl dX6_bringBack_59 ?_
  refine gw_copyA hx hb (by rw [hml]; exact hl.1.symm) hown (hts _ wd_X6_bringBack_7) (hts _ wd_X6_bringBack_8) (hts _ wd_X6_bringBack_9) (hts _ wd_X6_bringBack_10) hK hP hD hS 9 3 0 rfl rfl rfl (by decide) (Nat.le_of_ble_eq_true rfl) (Nat.le_of_ble_eq_true rfl) dX6_bringBack_60 (fun H locs hP hD hS => ?_)
  have hP : va_P D vwCl [(mo, .inr (6, [.int th, .int (nI nb), .int (nI nq), .int (nI nr), .ref m4, .ref m5, .ref m6, .ref m7, .ref m8, .ref m9])), (m5, .inl (cI, 20, .inl f0)), (m6, .inl (cI, 24, .inl f1)), (m7, .inl (cI, 300, .inl f2)), (m8, .inl (cI, 6, .inl g3)), (m9, .inl (cI, 3, .inl g4)), (kp, .inl (cO, 5, .inr (.inr (.inr (.inr (gRow k0 k1 k2 k3 k4)))))), (k0, .inl (cI, 20, .inl f0)), (k1, .inl (cI, 24, .inl f1)), (k2, .inl (cI, 300, .inl f2)), (k3, .inl (cI, 6, .inl f3)), (k4, .inl (cI, 3, .inl f4)), (q_1, .inl (cO, 5, .inr (.inr (.inr (.inr (va_up (va_up (va_up (va_up (va_up (fun _ => none) 0 (some m5)) 1 (some m6)) 2 (some m7)) 3 (some m8)) 4 (some m9)))))))] H := hP
  have hD : va_D A [(mo, .inr (6, [.int th, .int (nI nb), .int (nI nq), .int (nI nr), .ref m4, .ref m5, .ref m6, .ref m7, .ref m8, .ref m9])), (m5, .inl (cI, 20, .inl f0)), (m6, .inl (cI, 24, .inl f1)), (m7, .inl (cI, 300, .inl f2)), (m8, .inl (cI, 6, .inl g3)), (m9, .inl (cI, 3, .inl g4)), (kp, .inl (cO, 5, .inr (.inr (.inr (.inr (gRow k0 k1 k2 k3 k4)))))), (k0, .inl (cI, 20, .inl f0)), (k1, .inl (cI, 24, .inl f1)), (k2, .inl (cI, 300, .inl f2)), (k3, .inl (cI, 6, .inl f3)), (k4, .inl (cI, 3, .inl f4)), (q_1, .inl (cO, 5, .inr (.inr (.inr (.inr (va_up (va_up (va_up (va_up (va_up (fun _ => none) 0 (some m5)) 1 (some m6)) 2 (some m7)) 3 (some m8)) 4 (some m9)))))))] := hD
  refine lv_iinc (v := 3) (lv' := [(3, .int 3), (2, .ref q_1), (0, .ref mo), (1, .ref kp)]) hx hb dX6_bringBack_63 hl (k := 0) rfl (by decide) (by decide) rfl (fun ls hl => ?_)
  refine lv_goto (tgt := 42) hx hb dX6_bringBack_66 (by decide) ?_
  refine lv_iload_n hx hb dX6_bringBack_42 rfl (lv_at hl 0 rfl) ?_
  refine lv_aload_n hx hb dX6_bringBack_43 rfl (lv_at hl 1 rfl) ?_
  refine va_alen (v := nI 5) hx hb hK4 hP 12 3 rfl rfl rfl dX6_bringBack_44 ?_
  refine lv_icmp_ge (tgt := 69) hx hb dX6_bringBack_45 (by decide) (fun c_5 => False.elim (by revert c_5; decide)) (fun _ => ?_)
  refine lv_aload_n hx hb dX6_bringBack_48 rfl (lv_at hl 3 rfl) ?_
  refine lv_iload_n hx hb dX6_bringBack_49 rfl (lv_at hl 0 rfl) ?_
  refine gw_top (y := nI 3) rfl ?_
  refine gw_aldA hx hb hK4 hP 6 3 (k := 3) (v := k3) rfl rfl rfl (by decide) (by decide) dX6_bringBack_50 ?_
  refine lv_iconst (v := 0) hx hb dX6_bringBack_51 (by decide) ?_
  refine lv_aload_n hx hb dX6_bringBack_52 rfl (lv_at hl 1 rfl) ?_
  refine lv_iload_n hx hb dX6_bringBack_53 rfl (lv_at hl 0 rfl) ?_
  refine gw_top (y := nI 3) rfl ?_
  refine gw_aldA hx hb hK4 hP 12 3 (k := 3) (v := m8) rfl rfl rfl (by decide) (by decide) dX6_bringBack_54 ?_
  refine lv_iconst (v := 0) hx hb dX6_bringBack_55 (by decide) ?_
  refine lv_aload_n hx hb dX6_bringBack_56 rfl (lv_at hl 1 rfl) ?_
  refine lv_iload_n hx hb dX6_bringBack_57 rfl (lv_at hl 0 rfl) ?_
  refine gw_top (y := nI 3) rfl ?_
  refine gw_aldA hx hb hK4 hP 12 3 (k := 3) (v := m8) rfl rfl rfl (by decide) (by decide) dX6_bringBack_58 ?_
  refine va_alen (v := nI 6) hx hb hK hP 4 0 rfl rfl rfl dX6_bringBack_59 ?_
  refine gw_copyA hx hb (by rw [hml]; exact hl.1.symm) hown (hts _ wd_X6_bringBack_7) (hts _ wd_X6_bringBack_8) (hts _ wd_X6_bringBack_9) (hts _ wd_X6_bringBack_10) hK hP hD hS 10 4 0 rfl rfl rfl (by decide) (Nat.le_of_ble_eq_true rfl) (Nat.le_of_ble_eq_true rfl) dX6_bringBack_60 (fun H locs hP hD hS => ?_)
  have hP : va_P D vwCl [(mo, .inr (6, [.int th, .int (nI nb), .int (nI nq), .int (nI nr), .ref m4, .ref m5, .ref m6, .ref m7, .ref m8, .ref m9])), (m5, .inl (cI, 20, .inl f0)), (m6, .inl (cI, 24, .inl f1)), (m7, .inl (cI, 300, .inl f2)), (m8, .inl (cI, 6, .inl f3)), (m9, .inl (cI, 3, .inl g4)), (kp, .inl (cO, 5, .inr (.inr (.inr (.inr (gRow k0 k1 k2 k3 k4)))))), (k0, .inl (cI, 20, .inl f0)), (k1, .inl (cI, 24, .inl f1)), (k2, .inl (cI, 300, .inl f2)), (k3, .inl (cI, 6, .inl f3)), (k4, .inl (cI, 3, .inl f4)), (q_1, .inl (cO, 5, .inr (.inr (.inr (.inr (va_up (va_up (va_up (va_up (va_up (fun _ => none) 0 (some m5)) 1 (some m6)) 2 (some m7)) 3 (some m8)) 4 (some m9)))))))] H := hP
  have hD : va_D A [(mo, .inr (6, [.int th, .int (nI nb), .int (nI nq), .int (nI nr), .ref m4, .ref m5, .ref m6, .ref m7, .ref m8, .ref m9])), (m5, .inl (cI, 20, .inl f0)), (m6, .inl (cI, 24, .inl f1)), (m7, .inl (cI, 300, .inl f2)), (m8, .inl (cI, 6, .inl f3)), (m9, .inl (cI, 3, .inl g4)), (kp, .inl (cO, 5, .inr (.inr (.inr (.inr (gRow k0 k1 k2 k3 k4)))))), (k0, .inl (cI, 20, .inl f0)), (k1, .inl (cI, 24, .inl f1)), (k2, .inl (cI, 300, .inl f2)), (k3, .inl (cI, 6, .inl f3)), (k4, .inl (cI, 3, .inl f4)), (q_1, .inl (cO, 5, .inr (.inr (.inr (.inr (va_up (va_up (va_up (va_up (va_up (fun _ => none) 0 (some m5)) 1 (some m6)) 2 (some m7)) 3 (some m8)) 4 (some m9)))))))] := hD
  refine lv_iinc (v := 4) (lv' := [(3, .int 4), (2, .ref q_1), (0, .ref mo), (1, .ref kp)]) hx hb dX6_bringBack_63 hl (k := 0) rfl (by decide) (by decide) rfl (fun ls hl => ?_)
  refine lv_goto (tgt := 42) hx hb dX6_bringBack_66 (by decide) ?_
  refine lv_iload_n hx hb dX6_bringBack_42 rfl (lv_at hl 0 rfl) ?_
  refine lv_aload_n hx hb dX6_bringBack_43 rfl (lv_at hl 1 rfl) ?_
  refine va_alen (v := nI 5) hx hb hK4 hP 12 3 rfl rfl rfl dX6_bringBack_44 ?_
  refine lv_icmp_ge (tgt := 69) hx hb dX6_bringBack_45 (by decide) (fun c_6 => False.elim (by revert c_6; decide)) (fun _ => ?_)
  refine lv_aload_n hx hb dX6_bringBack_48 rfl (lv_at hl 3 rfl) ?_
  refine lv_iload_n hx hb dX6_bringBack_49 rfl (lv_at hl 0 rfl) ?_
  refine gw_top (y := nI 4) rfl ?_
  refine gw_aldA hx hb hK4 hP 6 3 (k := 4) (v := k4) rfl rfl rfl (by decide) (by decide) dX6_bringBack_50 ?_
  refine lv_iconst (v := 0) hx hb dX6_bringBack_51 (by decide) ?_
  refine lv_aload_n hx hb dX6_bringBack_52 rfl (lv_at hl 1 rfl) ?_
  refine lv_iload_n hx hb dX6_bringBack_53 rfl (lv_at hl 0 rfl) ?_
  refine gw_top (y := nI 4) rfl ?_
  refine gw_aldA hx hb hK4 hP 12 3 (k := 4) (v := m9) rfl rfl rfl (by decide) (by decide) dX6_bringBack_54 ?_
  refine lv_iconst (v := 0) hx hb dX6_bringBack_55 (by decide) ?_
  refine lv_aload_n hx hb dX6_bringBack_56 rfl (lv_at hl 1 rfl) ?_
  refine lv_iload_n hx hb dX6_bringBack_57 rfl (lv_at hl 0 rfl) ?_
  refine gw_top (y := nI 4) rfl ?_
  refine gw_aldA hx hb hK4 hP 12 3 (k := 4) (v := m9) rfl rfl rfl (by decide) (by decide) dX6_bringBack_58 ?_
  refine va_alen (v := nI 3) hx hb hK hP 5 0 rfl rfl rfl dX6_bringBack_59 ?_
  refine gw_copyA hx hb (by rw [hml]; exact hl.1.symm) hown (hts _ wd_X6_bringBack_7) (hts _ wd_X6_bringBack_8) (hts _ wd_X6_bringBack_9) (hts _ wd_X6_bringBack_10) hK hP hD hS 11 5 0 rfl rfl rfl (by decide) (Nat.le_of_ble_eq_true rfl) (Nat.le_of_ble_eq_true rfl) dX6_bringBack_60 (fun H locs hP hD hS => ?_)
  have hP : va_P D vwCl [(mo, .inr (6, [.int th, .int (nI nb), .int (nI nq), .int (nI nr), .ref m4, .ref m5, .ref m6, .ref m7, .ref m8, .ref m9])), (m5, .inl (cI, 20, .inl f0)), (m6, .inl (cI, 24, .inl f1)), (m7, .inl (cI, 300, .inl f2)), (m8, .inl (cI, 6, .inl f3)), (m9, .inl (cI, 3, .inl f4)), (kp, .inl (cO, 5, .inr (.inr (.inr (.inr (gRow k0 k1 k2 k3 k4)))))), (k0, .inl (cI, 20, .inl f0)), (k1, .inl (cI, 24, .inl f1)), (k2, .inl (cI, 300, .inl f2)), (k3, .inl (cI, 6, .inl f3)), (k4, .inl (cI, 3, .inl f4)), (q_1, .inl (cO, 5, .inr (.inr (.inr (.inr (va_up (va_up (va_up (va_up (va_up (fun _ => none) 0 (some m5)) 1 (some m6)) 2 (some m7)) 3 (some m8)) 4 (some m9)))))))] H := hP
  have hD : va_D A [(mo, .inr (6, [.int th, .int (nI nb), .int (nI nq), .int (nI nr), .ref m4, .ref m5, .ref m6, .ref m7, .ref m8, .ref m9])), (m5, .inl (cI, 20, .inl f0)), (m6, .inl (cI, 24, .inl f1)), (m7, .inl (cI, 300, .inl f2)), (m8, .inl (cI, 6, .inl f3)), (m9, .inl (cI, 3, .inl f4)), (kp, .inl (cO, 5, .inr (.inr (.inr (.inr (gRow k0 k1 k2 k3 k4)))))), (k0, .inl (cI, 20, .inl f0)), (k1, .inl (cI, 24, .inl f1)), (k2, .inl (cI, 300, .inl f2)), (k3, .inl (cI, 6, .inl f3)), (k4, .inl (cI, 3, .inl f4)), (q_1, .inl (cO, 5, .inr (.inr (.inr (.inr (va_up (va_up (va_up (va_up (va_up (fun _ => none) 0 (some m5)) 1 (some m6)) 2 (some m7)) 3 (some m8)) 4 (some m9)))))))] := hD
  refine lv_iinc (v := 5) (lv' := [(3, .int 5), (2, .ref q_1), (0, .ref mo), (1, .ref kp)]) hx hb dX6_bringBack_63 hl (k := 0) rfl (by decide) (by decide) rfl (fun ls hl => ?_)
  refine lv_goto (tgt := 42) hx hb dX6_bringBack_66 (by decide) ?_
  refine lv_iload_n hx hb dX6_bringBack_42 rfl (lv_at hl 0 rfl) ?_
  refine lv_aload_n hx hb dX6_bringBack_43 rfl (lv_at hl 1 rfl) ?_
  refine va_alen (v := nI 5) hx hb hK4 hP 12 3 rfl rfl rfl dX6_bringBack_44 ?_
  refine lv_icmp_ge (tgt := 69) hx hb dX6_bringBack_45 (by decide) (fun _ => ?_) (fun c_7 => False.elim (by revert c_7; decide))
  have hP := hP.sub (ws' := [(mo, .inr (6, [.int th, .int (nI nb), .int (nI nq), .int (nI nr), .ref m4, .ref m5, .ref m6, .ref m7, .ref m8, .ref m9])), (m5, .inl (cI, 20, .inl f0)), (m6, .inl (cI, 24, .inl f1)), (m7, .inl (cI, 300, .inl f2)), (m8, .inl (cI, 6, .inl f3)), (m9, .inl (cI, 3, .inl f4)), (kp, .inl (cO, 5, .inr (.inr (.inr (.inr (gRow k0 k1 k2 k3 k4)))))), (k0, .inl (cI, 20, .inl f0)), (k1, .inl (cI, 24, .inl f1)), (k2, .inl (cI, 300, .inl f2)), (k3, .inl (cI, 6, .inl f3)), (k4, .inl (cI, 3, .inl f4))]) [0, 1, 2, 3, 4, 5, 6, 7, 8, 9, 10, 11] rfl
  have hD := hD.sub (ws' := [(mo, .inr (6, [.int th, .int (nI nb), .int (nI nq), .int (nI nr), .ref m4, .ref m5, .ref m6, .ref m7, .ref m8, .ref m9])), (m5, .inl (cI, 20, .inl f0)), (m6, .inl (cI, 24, .inl f1)), (m7, .inl (cI, 300, .inl f2)), (m8, .inl (cI, 6, .inl f3)), (m9, .inl (cI, 3, .inl f4)), (kp, .inl (cO, 5, .inr (.inr (.inr (.inr (gRow k0 k1 k2 k3 k4)))))), (k0, .inl (cI, 20, .inl f0)), (k1, .inl (cI, 24, .inl f1)), (k2, .inl (cI, 300, .inl f2)), (k3, .inl (cI, 6, .inl f3)), (k4, .inl (cI, 3, .inl f4))]) [0, 1, 2, 3, 4, 5, 6, 7, 8, 9, 10, 11] (by decide) rfl
  have hP : va_P D vwCl [(mo, .inr (6, [.int th, .int (nI nb), .int (nI nq), .int (nI nr), .ref m4, .ref m5, .ref m6, .ref m7, .ref m8, .ref m9])), (m5, .inl (cI, 20, .inl f0)), (m6, .inl (cI, 24, .inl f1)), (m7, .inl (cI, 300, .inl f2)), (m8, .inl (cI, 6, .inl f3)), (m9, .inl (cI, 3, .inl f4)), (kp, .inl (cO, 5, .inr (.inr (.inr (.inr (gRow k0 k1 k2 k3 k4)))))), (k0, .inl (cI, 20, .inl f0)), (k1, .inl (cI, 24, .inl f1)), (k2, .inl (cI, 300, .inl f2)), (k3, .inl (cI, 6, .inl f3)), (k4, .inl (cI, 3, .inl f4))] H := hP
  have hD : va_D A [(mo, .inr (6, [.int th, .int (nI nb), .int (nI nq), .int (nI nr), .ref m4, .ref m5, .ref m6, .ref m7, .ref m8, .ref m9])), (m5, .inl (cI, 20, .inl f0)), (m6, .inl (cI, 24, .inl f1)), (m7, .inl (cI, 300, .inl f2)), (m8, .inl (cI, 6, .inl f3)), (m9, .inl (cI, 3, .inl f4)), (kp, .inl (cO, 5, .inr (.inr (.inr (.inr (gRow k0 k1 k2 k3 k4)))))), (k0, .inl (cI, 20, .inl f0)), (k1, .inl (cI, 24, .inl f1)), (k2, .inl (cI, 300, .inl f2)), (k3, .inl (cI, 6, .inl f3)), (k4, .inl (cI, 3, .inl f4))] := hD
  refine W.widen (k := 1) (n := 5) (by omega) (by omega) ?_
  exact W.vret hx hb hr (fun t ht hW => ⟨⟨(), rfl, trivial, gw_hh ht hP, hD⟩, hS.F ht⟩) hS.2.2 dX6_bringBack_69
