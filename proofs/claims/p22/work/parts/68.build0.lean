/-! Before the law's build. -/
/-- the start of build: a world, and the script beside it -/
abbrev gPb (av : List Value) (D : va_G) (ws : va_W) (tys : List (ClassId × FieldType)) (sz b L : Nat) (xs : Nat → Int32) : Array Value → State → Prop := va_Pc av (fun U => (U.heap.size = sz ∧ va_P D vwCl ws U.heap ∧ va_K D vwCl tys U ∧ va_D (fun _ => True) ws ∧ gAr U) ∧ (va_X b L xs U U.heap ∧ b < U.heap.size) ∧ b ∉ gL ws)
theorem gw_blb {av : List Value} {D : va_G} {ws : va_W} {tys : List (ClassId × FieldType)} {sz b L : Nat} {xs : Nat → Int32} : FrameBlind (gPb av D ws tys sz b L xs) := fun a U g mk q => by
  obtain ⟨q0, q1, q2, q3⟩ := q
  exact ⟨q0, (gw_bls (av := av) a U g mk ⟨q0, q1⟩).2, (gw_blx (av := av) a U g mk ⟨q0, q2⟩).2, q3⟩
theorem gv_psb {s : State} {H H0 : Heap} {D : va_G} {wc : va_W} {tys : List (ClassId × FieldType)} {As : List Value} {A : Nat → Prop} {b L : Nat} {xs : Nat → Int32} {locs : List Loc} (hK : va_K D vwCl tys s) (hR : gAr s) (hP : va_P D vwCl wc H) (hD : va_D A wc) (hX : va_X b L xs s H0) (hbl : b < H0.size) (hbA : ¬ A b) (hS : va_S A H0 H locs) (hbw : b ∉ gL wc) : PreS s H (gPb As D wc tys H.size b L xs) As :=
  ⟨gw_blb, fun U hU hW => ⟨rfl, ((gv_pss (As := As) hK hR hP hD).2 U hU hW).2, ((gv_psx (As := As) hX hbl hbA hS).2 U hU hW).2, hbw⟩⟩
theorem gv_notin {wc : va_W} {A : Nat → Prop} {b : Nat} (hD : va_D A wc) (hbA : ¬ A b) : b ∉ gL wc := fun h => by
  obtain ⟨z, hz, e⟩ := List.mem_map.mp h
  exact hbA (by rw [← e]; exact (gD_iff.mp hD).2 z hz)
/-- what a method made of a part of the world, beside the rest -/
theorem gv_join {D : va_G} {cl : List vw_C} {A : Nat → Prop} {H H1 : Heap} {wc wr w1 : va_W} (hP : va_P D cl (wc ++ wr) H) (hD : va_D A (wc ++ wr)) (hk : ∀ q : Nat, q < H.size → ¬ va_A wc H.size q → H1[q]? = H[q]?) (hF : ∀ q, va_A wc H.size q → A q) (hP1 : va_P D cl w1 H1) (hD1 : va_D (va_A wc H.size) w1) : va_P D cl (w1 ++ wr) H1 ∧ va_D A (w1 ++ wr) := by
  have hPm := gP_mem.mp hP
  obtain ⟨hN, hM⟩ := gD_iff.mp hD
  obtain ⟨hN1, hM1⟩ := gD_iff.mp hD1
  have hN' : (gL wc ++ gL wr).Nodup := by
    have h9 : gL (wc ++ wr) = gL wc ++ gL wr := List.map_append
    rw [← h9]; exact hN
  obtain ⟨-, hNr, hdis⟩ := List.nodup_append.mp hN'
  have hPr : va_P D cl wr H := gP_mem.mpr (fun q hq => hPm q (List.mem_append_right _ hq))
  have hlt : ∀ q ∈ wr, q.1 < H.size := fun q hq => by
    obtain ⟨k, hk9⟩ := List.getElem?_of_mem hq
    exact (hPr k q hk9).lt
  have hnin : ∀ q ∈ wr, ¬ va_A wc H.size q.1 := fun q hq h => by
    rcases va_A_mem.mp h with h | h
    · exact hdis _ h _ (List.mem_map.mpr ⟨q, hq, rfl⟩) rfl
    · have := hlt q hq; omega
  have hPr1 : va_P D cl wr H1 := hPr.kept (fun k q hq => hk q.1 (hlt q (List.mem_of_getElem? hq)) (hnin q (List.mem_of_getElem? hq)))
  refine ⟨gP_mem.mpr fun q hq => ?_, gD_iff.mpr ⟨?_, fun q hq => ?_⟩⟩
  · rcases List.mem_append.mp hq with h | h
    · exact gP_mem.mp hP1 q h
    · exact gP_mem.mp hPr1 q h
  · have h9 : gL (w1 ++ wr) = gL w1 ++ gL wr := List.map_append
    rw [h9]
    refine List.nodup_append.mpr ⟨hN1, hNr, fun x hx9 y hy e => ?_⟩
    obtain ⟨z, hz, ez⟩ := List.mem_map.mp hx9
    obtain ⟨z2, hz2, ez2⟩ := List.mem_map.mp hy
    have h1 := hM1 z hz
    rw [ez, e, ← ez2] at h1
    exact hnin z2 hz2 h1
  · rcases List.mem_append.mp hq with h | h
    · exact hF _ (hM1 q h)
    · exact hM q (List.mem_append_right _ h)
theorem sRf_0 {ad : Nat × Nat → Nat} {c : Nat} : sRf ad c 0 = fun _ => none := by
  funext k
  exact if_neg (Nat.not_lt_zero k)
theorem lb_start {a : Nat → Nat} {si fa ob op oc ow : Nat} {cI cZ cW cO : ClassId} {T : Nat → Nat → Int32} {nbt nqt nwt dayt : Nat} :
    [(si, .inr (6, [.ref fa, .ref ob, .ref op, .ref oc, .ref ow, .int 0, .int 0, .int 0])), (fa, .inl (cI, 9, .inl (gZero 0))), (ob, .inl (cO, 0, .inr (.inr (.inr (.inr (fun _ => none)))))), (op, .inl (cO, 0, .inr (.inr (.inr (.inr (fun _ => none)))))), (oc, .inl (cO, 0, .inr (.inr (.inr (.inr (fun _ => none)))))), (ow, .inl (cW, 60, .inr (.inr (.inr (.inr (fun _ => none))))))] ++ gG a cI cZ gZero T 0 0 0 0 0 nbt nqt nwt dayt 0 (fun _ => 0) (fun _ => 0) = lW [] a si fa ob op oc ow (fun _ => 0) cI cZ cW cO gZero T 0 0 0 0 0 nbt nqt nwt dayt 0 (fun _ => 0) (fun _ => 0) (fun _ => 0) (fun _ => 0) := by
  unfold lW
  rw [sRf_0, sRf_0, sRf_0, sRf_0]
  have h1 : ∀ en, sPl 0 0 0 0 (fun _ => 0) en = [] := fun _ => rfl
  rw [h1, List.append_nil, List.nil_append]
  rfl
theorem gInv_0 : gInv 0 gZero 0 0 0 0 0 (fun _ => 0) (fun _ => 0) :=
  ⟨by omega, by omega, by omega, by omega, by omega, by omega, fun i h => absurd h (Nat.not_lt_zero i), ⟨fun w h => absurd h (Nat.not_lt_zero w), fun j => Or.inl rfl, fun w h => absurd h (Nat.not_lt_zero w), fun _ => (by decide : (0 : Int32) ≤ 0 ∧ (0 : Int32) ≤ 6)⟩, fun _ => (by decide : (0 : Int32) ≤ 0 ∧ (0 : Int32) ≤ 9), fun _ => (by decide : (0 : Int32) ≤ 0 ∧ (0 : Int32) ≤ 100), fun b h => absurd h (Nat.not_lt_zero b), fun r h => absurd h (Nat.not_lt_zero r), fun _ _ => rfl⟩
theorem pX_0 : pX gZero 0 0 0 0 (fun _ => 0) (fun _ => 0) (fun _ => 0) := by
  refine ⟨fun d => ?_, fun b h => absurd h (Nat.not_lt_zero b), fun _ _ => rfl, fun _ _ => ⟨rfl, rfl⟩, fun b h => absurd h (Nat.not_lt_zero b), fun b h => absurd h (Nat.not_lt_zero b), fun b h => absurd h (Nat.not_lt_zero b), fun b h => absurd h (Nat.not_lt_zero b)⟩
  show (0 : Int32) ≤ gM 9 (fun _ => 5) (fun _ => 0) d ∧ gM 9 (fun _ => 5) (fun _ => 0) d ≤ 9
  by_cases h9 : d < 9
  · rw [gM_lo h9]; exact (by decide : (0 : Int32) ≤ 5 ∧ (5 : Int32) ≤ 9)
  · rw [gM_at (by omega)]; exact (by decide : (0 : Int32) ≤ 0 ∧ (0 : Int32) ≤ 9)
theorem lb_rem16 {j : Nat} (h : j < 40) : nI j - nI j / 16 * 16 = nI (j % 16) := by
  have t : ∀ j, j < 40 → nI j - nI j / 16 * 16 = nI (j % 16) := by decide +kernel
  exact t j h
/-- the quarry and its twin behind the law's build -/
def bOut (D : va_G) (A : Nat → Prop) (cI cZ cW cO : ClassId) (a : Nat → Nat) (T : Nat → Nat → Int32) (nbt nqt nwt dayt si : Nat) (t : State) : Prop :=
  ∃ (fa ob op oc ow : Nat) (ad : Nat × Nat → Nat) (Q : Nat → Nat → Int32) (nb nq nw nr day : Nat) (co : Int32) (ca bo sv rl : Nat → Int32),
    va_P D vwCl (lW [] a si fa ob op oc ow ad cI cZ cW cO Q T nb nq nw nr day nbt nqt nwt dayt co ca bo sv rl) t.heap ∧ va_D A (lW [] a si fa ob op oc ow ad cI cZ cW cO Q T nb nq nw nr day nbt nqt nwt dayt co ca bo sv rl) ∧
    gInv 136 Q nb nq nw day nr bo sv ∧ pX Q nb nq nw nr ca sv rl
theorem gDay_0 {Q : Nat → Nat → Int32} {nq nw day : Nat} : (gDay Q nq nw day).1 0 = Q 0 := gCrew_6 day nq 0 Q nw 0 (Or.inl rfl)
