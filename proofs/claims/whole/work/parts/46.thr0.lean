/-! What the class's throws rest on: the statics of Throwable, the texts, the words that are not kept by all. -/
abbrev gNs : List String := ["java/lang/RuntimeException", "java/lang/Exception"]
abbrev gE1 : String := "java/lang/IndexOutOfBoundsException"
abbrev gE2 : String := "java/lang/IllegalArgumentException"
abbrev gE3 : String := "java/lang/IllegalStateException"
def gStr : List (Nat × String) := [(32, "the day is not 0 to 8"), (39, "the water is not 0 to 9"), (46, "grit is not 1 to 9, flaw not 0 to 9, or stone not 0 to 200"), (60, "there are 5 beds"), (67, "skill is not 1 to 9"), (76, "there are 6 quarriers"), (85, "no such quarrier"), (88, "neither -1 nor a bed"), (100, "no such wheel"), (105, "the wheel is shipped or broken"), (110, "the wheel is loaded, shipped or broken"), (122, "a raft carries 20 to 400"), (125, "there are 3 rafts"), (129, "no such wheel or raft"), (131, "the wheel is not dressed"), (140, "the raft is away"), (148, "the wheel is too heavy"), (154, "no such raft"), (163, "the raft is away or empty, or there is too little water"), (174, "no such bed, or what is not 0 to 5"), (179, "no such quarrier, or what is not 0 to 4"), (184, "no such wheel, or what is not 0 to 5"), (189, "no such raft, or what is not 0 to 3"), (194, "what is not 0 to 9"), (199, "days are not 1 to 40"), (206, "what is not 3, 4, 5 or 9"), (213, "days are not 1 to 20")]
def gBad : List Cond := (vx_atS RX5 34 gE1 gNs).filter (fun w => !goodWord w) ++ ((vx_atS RX5 41 gE2 gNs).filter (fun w => !goodWord w) ++ (vx_atS RX5 62 gE3 gNs).filter (fun w => !goodWord w))
theorem gBad_1 : ∀ w ∈ (vx_atS RX5 34 gE1 gNs).filter (fun w => !goodWord w), w ∈ gBad := fun w h => List.mem_append_left _ h
theorem gBad_2 : ∀ w ∈ (vx_atS RX5 41 gE2 gNs).filter (fun w => !goodWord w), w ∈ gBad := fun w h => List.mem_append_right _ (List.mem_append_left _ h)
theorem gBad_3 : ∀ w ∈ (vx_atS RX5 62 gE3 gNs).filter (fun w => !goodWord w), w ∈ gBad := fun w h => List.mem_append_right _ (List.mem_append_right _ h)
theorem gBad_ok : ∀ w ∈ gBad, (w.keepsFace && w.onTables) = true := by decide +kernel
/-- what a state must hold for the class to throw in it -/
def gX (U : State) : Prop := vx_Zq Bundle.tN "UNASSIGNED_STACK" Bundle.steD gN U U.heap ∧ vx_Zq Bundle.tN "SUPPRESSED_SENTINEL" Bundle.listD gN U U.heap ∧ (∀ q ∈ gStr, ∃ sa, vk_R RX5 q.1 q.2 sa U) ∧ ∀ w ∈ gBad, w.before #[] U = true
abbrev gPx (av : List Value) (D : va_G) (ws : va_W) (tys : List (ClassId × FieldType)) : Array Value → State → Prop := va_Pc av (fun U => va_P D vwCl ws U.heap ∧ va_K D vwCl tys U ∧ gX U)
theorem gw_face {args a' : Array Value} {s U : State} (hW : s.WarmedH U.vm) {w : Cond} (hf : (w.keepsFace && w.onTables) = true) (h : w.before args s = true) : w.before a' U = true := by
  simp only [Bool.and_eq_true] at hf
  exact va_tabs hf.2 (u := s.setVm U.vm) rfl (Cond.before_shiftedFace (State.Shifted.of_warmed hW) w hf.1 h)
theorem gX_call {U : State} {g : JFrame} {mk : MethodId} {a : Array Value} (h : gX U) : gX (U.calling g mk a) := by
  obtain ⟨h1, h2, h3, h4⟩ := h
  refine ⟨vx_Zq.moved (u := U) (U := U.calling g mk a) (Vm.Alike.refl U.vm) h1, vx_Zq.moved (u := U) (U := U.calling g mk a) (Vm.Alike.refl U.vm) h2, fun q hq => ?_, fun w hw => ?_⟩
  · obtain ⟨sa, hs⟩ := h3 q hq
    exact ⟨sa, vk_R.same (u := U) rfl hs⟩
  · have := gBad_ok w hw
    simp only [Bool.and_eq_true] at this
    exact va_tabs this.2 (u := U) rfl (h4 w hw)
theorem gw_blx {av : List Value} {D : va_G} {ws : va_W} {tys : List (ClassId × FieldType)} : FrameBlind (gPx av D ws tys) := fun a U g mk q => by
  obtain ⟨q0, qP, qK, qX⟩ := q
  exact ⟨q0, qP, va_K.moved (u := U) (U := U.calling g mk a) (Vm.Alike.refl U.vm) qK, gX_call qX⟩
theorem gw_xF {s t : State} {H : Heap} {locs : List Loc} (hS : va_S gN s.heap H locs) (hz : H.size ≤ t.heap.size) (hq : ∀ q : Nat, q < H.size → t.heap[q]? = H[q]?) : va_F gN s t := ⟨Nat.le_trans hS.1 hz, fun q h1 h2 => by rw [hq q (Nat.lt_of_lt_of_le h1 hS.1)]; exact hS.2.1 q h1 h2⟩
theorem gw_hat {args : Array Value} {s : State} {L : List Cond} (h1 : ∀ w ∈ L.filter goodWord, w.before args s = true) (h2 : ∀ w ∈ L.filter (fun w => !goodWord w), w ∈ gBad) (h3 : ∀ w ∈ gBad, w.before #[] s = true) : ∀ w ∈ L, w.before args s = true := vx_hat h1 h2 fun w hw => by
  have := gBad_ok w hw
  simp only [Bool.and_eq_true] at this
  exact va_tabs this.2 rfl (h3 w hw)
theorem gOt_1 : ∀ w ∈ Cond.classLink RX5 30 gE1 :: Cond.initialized gE1 :: vx_atS RX5 34 gE1 gNs, vx_ot w = true := by decide +kernel
theorem gOt_2 : ∀ w ∈ Cond.classLink RX5 37 gE2 :: Cond.initialized gE2 :: vx_atS RX5 41 gE2 gNs, vx_ot w = true := by decide +kernel
theorem gOt_3 : ∀ w ∈ Cond.classLink RX5 58 gE3 :: Cond.initialized gE3 :: vx_atS RX5 62 gE3 gNs, vx_ot w = true := by decide +kernel
