/-! Before the law's body: arrays of rows beside the world. -/
theorem gif {P Q : Prop} [Decidable P] [Decidable Q] {a b : Int32} (h : P ↔ Q) : (if P then a else b) = (if Q then a else b) := by
  by_cases hp : P
  · rw [if_pos hp, if_pos (h.mp hp)]
  · rw [if_neg hp, if_neg (fun hq => hp (h.mpr hq))]
/-- rows of ints, N of them -/
def gRw (cI : ClassId) (r : Nat → Nat) (N M : Nat) (F : Nat → Nat → Int32) : va_W := (List.range N).map (fun k => (r k, .inl (cI, M, .inl (F k))))
def rRf (r : Nat → Nat) (N : Nat) : Nat → Option Nat := fun k => if k < N then some (r k) else none
theorem rRf_at {r : Nat → Nat} {N k : Nat} (h : k < N) : rRf r N k = some (r k) := if_pos h
theorem gRw_mem {cI : ClassId} {r : Nat → Nat} {N M k : Nat} {F : Nat → Nat → Int32} (h : k < N) : ((r k, .inl (cI, M, .inl (F k))) : Nat × va_E) ∈ gRw cI r N M F := List.mem_map.mpr ⟨k, List.mem_range.mpr h, rfl⟩
theorem gRw_len {cI : ClassId} {r : Nat → Nat} {N M : Nat} {F : Nat → Nat → Int32} : (gRw cI r N M F).length = N := by simp [gRw]
theorem rm_set {f : Nat → Nat × va_E} {N k : Nat} {q : Nat × va_E} : ((List.range N).map f).set k q = (List.range N).map (fun j => if j = k then q else f j) := by
  refine List.ext_getElem (by simp) fun j h1 h2 => ?_
  rw [List.getElem_set, List.getElem_map, List.getElem_map, List.getElem_range]
  by_cases e : k = j
  · rw [if_pos e, if_pos e.symm]
  · rw [if_neg e, if_neg (fun h => e h.symm)]
/-- a row of the first array of rows -/
theorem rAt {A T C G L : va_W} {cI : ClassId} {r : Nat → Nat} {N M k : Nat} {F : Nat → Nat → Int32} (hk : k < N) : ∃ i : Nat, (A ++ (((T ++ (gRw cI r N M F ++ C)) ++ G) ++ L))[i]? = some (r k, .inl (cI, M, .inl (F k))) ∧ ∀ f : Nat → Int32, (A ++ (((T ++ (gRw cI r N M F ++ C)) ++ G) ++ L)).set i (r k, .inl (cI, M, .inl f)) = A ++ (((T ++ (gRw cI r N M (fun j => if j = k then f else F j) ++ C)) ++ G) ++ L) := by
  have e : ∀ P : va_W, A ++ (((T ++ (P ++ C)) ++ G) ++ L) = (A ++ T) ++ (P ++ (C ++ (G ++ L))) := fun P => by simp only [List.append_assoc]
  have hkl : k < (gRw cI r N M F).length := by rw [gRw_len]; exact hk
  refine ⟨(A ++ T).length + k, ?_, fun f => ?_⟩
  · rw [e, List.getElem?_append_right (Nat.le_add_right _ _), Nat.add_sub_cancel_left, List.getElem?_append_left hkl]
    unfold gRw
    rw [List.getElem?_map, List.getElem?_range hk]
    rfl
  · rw [e, e, List.set_append_right _ _ (Nat.le_add_right _ _), Nat.add_sub_cancel_left, List.set_append_left _ _ hkl]
    unfold gRw
    rw [rm_set]
    congr 2
    refine List.map_congr_left fun j _ => ?_
    by_cases h : j = k
    · subst h; simp
    · simp [h]
/-- a row, to be read -/
theorem rRd {A T C G L : va_W} {x : Nat × va_E} (h : x ∈ C) : ∃ i : Nat, (A ++ (((T ++ C) ++ G) ++ L))[i]? = some x :=
  List.getElem?_of_mem (List.mem_append_right _ (List.mem_append_left _ (List.mem_append_left _ (List.mem_append_right _ h))))
/-- rows filled up to (i, j) -/
def gFl (i j M : Nat) (S : Nat → Nat → Int32) : Nat → Nat → Int32 := fun k v => if (k < i ∧ v < M) ∨ (k = i ∧ v < j) then S k v else 0
theorem gFl_0 {M : Nat} {S : Nat → Nat → Int32} : gFl 0 0 M S = fun _ _ => 0 := by
  funext k v
  exact if_neg (by omega)
theorem gFl_r {i M : Nat} {S : Nat → Nat → Int32} : gFl i M M S = gFl (i + 1) 0 M S := by
  funext k v
  exact gif (by omega)
theorem gFl_s {i j M : Nat} {S : Nat → Nat → Int32} {x : Int32} (h : x = S i j) : (fun k => if k = i then upd (gFl i j M S i) j x else gFl i j M S k) = gFl i (j + 1) M S := by
  subst h
  funext k
  by_cases e : k = i
  · subst e
    rw [if_pos rfl]
    funext v
    by_cases e2 : v = j
    · subst e2
      rw [upd_at]
      exact (if_pos (by omega)).symm
    · rw [upd_ne e2]
      exact gif (by omega)
  · rw [if_neg e]
    funext v
    exact gif (by omega)
theorem gFl_at {N M k v : Nat} {S : Nat → Nat → Int32} (hk : k < N) (hv : v < M) : gFl N 0 M S k v = S k v := if_pos (Or.inl ⟨hk, hv⟩)
theorem gPD_mna {D : va_G} {cl : List vw_C} {P : Nat → Prop} {H : Heap} {X T ts G L rows : va_W} {q : Nat × va_E} (hP : va_P D cl (((X ++ (((T ++ ts) ++ G) ++ L)) ++ [q]) ++ rows) H) (hD : va_D P (((X ++ (((T ++ ts) ++ G) ++ L)) ++ [q]) ++ rows)) : va_P D cl (X ++ ((((q :: T) ++ (rows ++ ts)) ++ G) ++ L)) H ∧ va_D P (X ++ ((((q :: T) ++ (rows ++ ts)) ++ G) ++ L)) := by
  refine gPD_perm ?_ hP hD
  have h1 : ((X ++ (((T ++ ts) ++ G) ++ L)) ++ [q]) ++ rows = X ++ ((T ++ (ts ++ (G ++ L))) ++ (q :: rows)) := by simp only [List.append_assoc, List.cons_append, List.nil_append]
  have h2 : X ++ ((((q :: T) ++ (rows ++ ts)) ++ G) ++ L) = X ++ (q :: (T ++ (rows ++ (ts ++ (G ++ L))))) := by simp only [List.append_assoc, List.cons_append]
  rw [h1, h2]
  refine List.Perm.append_left X (List.perm_append_comm.trans ?_)
  exact List.Perm.cons q (List.perm_append_comm_assoc rows T (ts ++ (G ++ L)))
section
variable {p : Program} {l : Launch} {e : Env} {R : Room} {s : State} {m : MethodId} {args : Array Value} {below : List Frame} {meth : Method} {c : Code} {H : Heap} {locs : List Loc} {cells slots : Nat} {Q : State → Prop}
variable {cc : ByteArray} {pc : Nat} {ls : Array Slot} {rest : List Value} {D : va_G} {cl : List vw_C} {A : Nat → Prop} {tys : List (ClassId × FieldType)} {H0 : Heap}
theorem gw_mnaR {X T ts G L : va_W} (hexec : p.tables.exec = Jvm.exec) (hb : c.code = cc) {own : String} {index : Nat} (hown : s.vm.findClass own = some m.cls) (hclink : (Cond.classLink own index ("[" ++ (FieldType.array .int).toString)).before args s = true) (hover : gAO s) (harr : (Cond.arrayClass .int).before args s = true)
    (hK : va_K D cl tys s) (t0 t1 : Nat) {cO cI : ClassId} (ht : tys[t0]? = some (cO, .array .int)) (ht1 : tys[t1]? = some (cI, .int)) (hP : va_P D cl (X ++ (((T ++ ts) ++ G) ++ L)) H) (hD : va_D A (X ++ (((T ++ ts) ++ G) ++ L))) (hS : va_S A H0 H locs) (hA : ∀ q, H0.size ≤ q → A q) {n k : Int32} {N M : Nat} (hn : ¬ n < 0) (hk : ¬ k < 0) (hN : n.toNatClampNeg = N) (hM : k.toNatClampNeg = M)
    (hb1 : N * 4 ≤ 536870912) (hb2 : M * 4 ≤ 536870912) (hcells : cells + (1 + N) ≤ R.cells) (hslots : slots + (N + N * M) ≤ R.slots) (hdg : decode cc pc = .ok (.multianewarray index 2, 4))
    (kk : ∀ (q : Nat) (r : Nat → Nat) (H1 : Heap), va_P D cl (X ++ (((((q, .inl (cO, N, .inr (.inr (.inr (.inr (rRf r N)))))) :: T) ++ (gRw cI r N M (fun _ _ => 0) ++ ts)) ++ G) ++ L)) H1 → va_D A (X ++ (((((q, .inl (cO, N, .inr (.inr (.inr (.inr (rRf r N)))))) :: T) ++ (gRw cI r N M (fun _ _ => 0) ++ ts)) ++ G) ++ L)) → va_S A H0 H1 locs →
      W p l e R s m args below meth c H1 locs (cells + 1 + N) (slots + N + N * M) Q (F0 m (pc + 4) ls (.ref q :: rest))) : W p l e R s m args below meth c H locs cells slots Q (F0 m pc ls (.int k :: .int n :: rest)) := by
  have hcy : s.vm.findClass (FieldType.array .int).toString = some cI := by
    rw [gI_str]
    exact va_nm_int (hK.2 t1 _ ht1).2
  refine gw_mna (X := X ++ (((T ++ ts) ++ G) ++ L)) (L := []) (f := fun _ => .inr (0, [])) (z := (M, .inl (fun _ => 0))) hexec hb hown hclink hover harr hcy hK (by rw [show va_pl [] (fun _ => ((.inr (0, [])) : va_E)) = [] from rfl, List.append_nil]; exact hP) (by rw [show va_pl [] (fun _ => ((.inr (0, [])) : va_E)) = [] from rfl, List.append_nil]; exact hD) hS hA hn hk hN hM hb1 hb2 (by omega) rfl rfl hcells hslots (fun c9 => by rw [vp_cell_i]; exact arrV_new c9 M (.int 0)) hdg fun q r cA H1 hr1 hr2 hK2 hP2 hD2 hS2 => ?_
  have hcA : cA = cO := Option.some.inj ((hK2.2 tys.length (cA, .array .int) (by simp)).2.symm.trans (hK.2 t0 _ ht).2)
  subst hcA
  have hrow : va_pl ([] ++ (List.range N).map r) (vr_up (fun _ => ((.inr (0, [])) : va_E)) ((List.range N).map r) (.inl (cI, (M, .inl (fun _ => 0))))) = gRw cI r N M (fun _ _ => 0) := by
    rw [List.nil_append]
    show ((List.range N).map r).map (fun a => (a, _)) = _
    rw [List.map_map]
    refine List.map_congr_left fun k hk9 => ?_
    show (r k, vr_up _ _ _ (r k)) = _
    rw [vr_up_in (List.mem_map.mpr ⟨k, hk9, rfl⟩)]
  rw [hrow] at hP2 hD2
  obtain ⟨hP3, hD3⟩ := gPD_mna hP2 hD2
  exact kk q r H1 hP3 hD3 hS2
end
