/-! Wheel.<init>. -/
theorem wd_X7_init_0 : (.methodLink RX7 1 objectInit : Cond) ∈ wsX7_init := by decide +kernel
theorem wd_X7_init_1 : (.instanceMethod objectInit : Cond) ∈ wsX7_init := by decide +kernel
theorem wd_X7_init_2 : (.code objectInit ⟨#[0xb1]⟩ 1 none : Cond) ∈ wsX7_init := by decide +kernel
theorem wc_X7_init_X7 : ∀ w ∈ u_ws RX7 TX7 5, w ∈ wsX7_init := by decide +kernel
theorem wd_X7_init_4 : (.fieldLink RX7 7 "GritWheelsLaw$Wheel" "raft" "I" : Cond) ∈ wsX7_init := by decide +kernel
set_option maxHeartbeats 4000000 in
set_option maxRecDepth 100000 in
theorem met_X7_init (l : Launch) (D : va_G) (cI cZ cW cO : ClassId) (wq : Nat) : Met l yX7_init wsX7_init ({ frames := 1, cells := 0, slots := 0, locals := 12 }) (gPw [.ref wq] D [(wq, .inr (7, [.int 0, .int 0, .int 0, .int 0, .int 0]))] (sT cI cZ cW cO)) (va_Qv (fun (_ : Unit) => True) (fun _ t => va_P D vwCl [(wq, .inr (7, [.int 0, .int 0, .int 0, .int 0, .int (-1)]))] t.heap) (gA (gL [(wq, .inr (7, [.int 0, .int 0, .int 0, .int 0, .int 0]))]))) 0 0 (gA (gL [(wq, .inr (7, [.int 0, .int 0, .int 0, .int 0, .int 0]))])) := by
  refine Met.ofW (cc := cX7_init) (maxL := 1) (ret := none) (by decide +kernel) rfl ?_
  intro p e s m args below meth c s₁ B hml hv
  obtain ⟨rfl, hP, hK, hD0⟩ := hv
  have hx := B.exec
  have hb := B.bytes
  have hr := B.returns
  have hts := atoms_spec (ws := wsX7_init) B.pre
  have hown : s.vm.findClass RX7 = some m.cls := findClass_of_methodNamed B.named
  have hlocks := B.notSynchronized
  have hD := gw_self hD0
  generalize hAe : gA (gL [(wq, .inr (7, [.int 0, .int 0, .int 0, .int 0, .int 0]))]) = A at hD ⊢
  have hS : va_S A s.heap s.heap [] := va_S.rf
  have hP : va_P D vwCl [(wq, .inr (7, [.int 0, .int 0, .int 0, .int 0, .int 0]))] s.heap := hP
  have hl := lv_entry ([.ref wq]) (n := 1) (Nat.le_of_ble_eq_true rfl)
  rw [lg_entry_eq]
  generalize (lg_sl ([.ref wq]) ++ List.replicate (1 - (lg_sl ([.ref wq])).length) Slot.unset).toArray = ls at hl ⊢
  have hl : lv_has ls 1 [(0, .ref wq)] := hl
  refine lv_aload_n hx hb dX7_init_0 rfl (lv_at hl 0 rfl) ?_
  refine W.objInit hx hb hown (hts _ wd_X7_init_0) (hts _ wd_X7_init_1) (hts _ wd_X7_init_2) rfl (by rw [hml]; exact hl.1) rfl dX7_init_1 (Nat.le_of_ble_eq_true rfl) (Nat.le_of_ble_eq_true rfl) ?_
  refine W.eq (g2 := F0 m 4 ls []) rfl ?_
  refine lv_aload_n hx hb dX7_init_4 rfl (lv_at hl 0 rfl) ?_
  refine lv_iconst (v := (-1)) hx hb dX7_init_5 (by decide) ?_
  refine va_put (D := D) (ci := 7) (v := .int (-1)) (ty := .int) (C := RX7) (T := TX7) (N := 5) hx hb hts wc_X7_init_X7 tyX7 tyX7_ok nmX7 hown hK hP hD hS 0 rfl rfl 4 (by decide) (hts _ wd_X7_init_4) (fun _ h9 => h9) rfl (by decide +kernel) rfl rfl (Nat.le_of_ble_eq_true rfl) dX7_init_6 (fun H locs hP hD hS => ?_)
  have hP : va_P D vwCl [(wq, .inr (7, [.int 0, .int 0, .int 0, .int 0, .int (-1)]))] H := hP
  have hD : va_D A [(wq, .inr (7, [.int 0, .int 0, .int 0, .int 0, .int (-1)]))] := hD
  exact W.vret hx hb hr (fun t ht hW => ⟨⟨(), rfl, trivial, gw_hh ht hP⟩, hS.F ht⟩) hS.2.2 dX7_init_9
