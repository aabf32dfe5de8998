/-! Worlds of which a part is rows in any number. -/
theorem gP_mem {D : va_G} {cl : List vw_C} {ws : va_W} {H : Heap} : va_P D cl ws H ↔ ∀ q ∈ ws, va_at D cl q H :=
  ⟨fun h q hq => by obtain ⟨i, hi⟩ := List.getElem?_of_mem hq; exact h i q hi, fun h _ q hk => h q (List.mem_of_getElem? hk)⟩
theorem gD_iff {A : Nat → Prop} {ws : va_W} : va_D A ws ↔ (gL ws).Nodup ∧ ∀ q ∈ ws, A q.1 := by
  constructor
  · intro h
    refine ⟨List.pairwise_iff_getElem.mpr fun i j hi hj hij he => ?_, fun q hq => ?_⟩
    · have hi' : i < ws.length := by simpa [gL] using hi
      have hj' : j < ws.length := by simpa [gL] using hj
      have h1 := h.1 i j ws[i] ws[j] (List.getElem?_eq_getElem hi') (List.getElem?_eq_getElem hj') (by simpa [gL] using he)
      omega
    · obtain ⟨i, hi⟩ := List.getElem?_of_mem hq
      exact h.2 i q hi
  · intro h
    have hp := List.pairwise_iff_getElem.mp h.1
    have key : ∀ (i j : Nat) (p q : Nat × va_E), ws[i]? = some p → ws[j]? = some q → p.1 = q.1 → ¬ i < j := by
      intro i j p q hi hj hpq hij
      obtain ⟨hi', ei⟩ := List.getElem?_eq_some_iff.mp hi
      obtain ⟨hj', ej⟩ := List.getElem?_eq_some_iff.mp hj
      refine hp i j (by simpa [gL] using hi') (by simpa [gL] using hj') hij ?_
      simp [gL, ei, ej, hpq]
    refine ⟨fun i j p q hi hj hpq => ?_, fun k q hk => h.2 q (List.mem_of_getElem? hk)⟩
    have h1 := key i j p q hi hj hpq
    have h2 := key j i q p hj hi hpq.symm
    omega
section
variable {D : va_G} {cl : List vw_C} {A : Nat → Prop} {H H1 : Heap}
theorem gPD_perm {ws ws' : va_W} (hp : ws.Perm ws') (hP : va_P D cl ws H) (hD : va_D A ws) : va_P D cl ws' H ∧ va_D A ws' :=
  ⟨gP_mem.mpr fun q hq => gP_mem.mp hP q (hp.mem_iff.mpr hq), gD_iff.mpr ⟨(hp.map _).nodup (gD_iff.mp hD).1, fun q hq => (gD_iff.mp hD).2 q (hp.mem_iff.mpr hq)⟩⟩
theorem gPD_sub {ws ws' : va_W} (hs : ws'.Sublist ws) (hP : va_P D cl ws H) (hD : va_D A ws) : va_P D cl ws' H ∧ va_D A ws' :=
  ⟨gP_mem.mpr fun q hq => gP_mem.mp hP q (hs.subset hq), gD_iff.mpr ⟨List.Pairwise.sublist (hs.map _) (gD_iff.mp hD).1, fun q hq => (gD_iff.mp hD).2 q (hs.subset hq)⟩⟩
/-- a new cell, behind all: put ahead of R -/
theorem gPD_new {X R L : va_W} {x : Nat × va_E} (hP : va_P D cl ((X ++ (R ++ L)) ++ [x]) H) (hD : va_D A ((X ++ (R ++ L)) ++ [x])) : va_P D cl (X ++ ((x :: R) ++ L)) H ∧ va_D A (X ++ ((x :: R) ++ L)) := by
  refine gPD_perm ?_ hP hD
  rw [List.append_assoc]
  exact (List.perm_append_singleton x (R ++ L)).append_left X
/-- the first cell of R left out -/
theorem gPD_drop {X R L : va_W} {x : Nat × va_E} (hP : va_P D cl (X ++ ((x :: R) ++ L)) H) (hD : va_D A (X ++ ((x :: R) ++ L))) : va_P D cl (X ++ (R ++ L)) H ∧ va_D A (X ++ (R ++ L)) :=
  gPD_sub (List.Sublist.append (List.Sublist.refl X) (List.sublist_cons_self x (R ++ L))) hP hD
/-- a part of R left out -/
theorem gPD_dropA {X T R L : va_W} (hP : va_P D cl (X ++ ((T ++ R) ++ L)) H) (hD : va_D A (X ++ ((T ++ R) ++ L))) : va_P D cl (X ++ (R ++ L)) H ∧ va_D A (X ++ (R ++ L)) :=
  gPD_sub (List.Sublist.append (List.Sublist.refl X) (List.Sublist.append (List.sublist_append_right T R) (List.Sublist.refl L))) hP hD
/-- f, but q at the key -/
def gUp (f : Nat × Nat → Nat × va_E) (key : Nat × Nat) (q : Nat × va_E) : Nat × Nat → Nat × va_E := fun k => if k = key then q else f k
theorem gp_set {I : List (Nat × Nat)} {F : Nat × Nat → Nat × va_E} {key : Nat × Nat} (hn : I.Nodup) {j : Nat} (hj : I[j]? = some key) (q : Nat × va_E) : (I.map F).set j q = I.map (gUp F key q) := by
  have hjl := (List.getElem?_eq_some_iff.mp hj).1
  have hp := List.pairwise_iff_getElem.mp hn
  refine List.ext_getElem? fun n => ?_
  by_cases e : n = j
  · subst e
    rw [List.getElem?_set_self (by simpa using hjl), List.getElem?_map, hj]
    simp [gUp]
  · rw [List.getElem?_set_ne (Ne.symm e), List.getElem?_map, List.getElem?_map]
    cases hk : I[n]? with
    | none => rfl
    | some k =>
      have hne : k ≠ key := by
        intro he
        subst he
        obtain ⟨h1, e1⟩ := List.getElem?_eq_some_iff.mp hk
        obtain ⟨h2, e2⟩ := List.getElem?_eq_some_iff.mp hj
        rcases Nat.lt_or_gt_of_ne e with h | h
        · exact hp n j h1 h2 h (e1.trans e2.symm)
        · exact hp j n h2 h1 h (e2.trans e1.symm)
      simp [gUp, hne]
/-- a row of the pool between B and C: its place, and what a write there is -/
theorem gp_at {B C : va_W} {I : List (Nat × Nat)} {F : Nat × Nat → Nat × va_E} {key : Nat × Nat} (hn : I.Nodup) (h : key ∈ I) : ∃ i : Nat, (B ++ (I.map F ++ C))[i]? = some (F key) ∧ ∀ q, (B ++ (I.map F ++ C)).set i q = B ++ (I.map (gUp F key q) ++ C) := by
  obtain ⟨j, hj⟩ := List.getElem?_of_mem h
  have hjl : j < (I.map F).length := by simpa using (List.getElem?_eq_some_iff.mp hj).1
  refine ⟨B.length + j, ?_, fun q => ?_⟩
  · rw [List.getElem?_append_right (by omega), show B.length + j - B.length = j by omega, List.getElem?_append_left hjl, List.getElem?_map, hj]
    rfl
  · rw [List.set_append_right _ _ (by omega), show B.length + j - B.length = j by omega, List.set_append_left _ _ hjl, gp_set hn hj]
theorem gp_end {X R : va_W} {I : List (Nat × Nat)} {F : Nat × Nat → Nat × va_E} {key : Nat × Nat} (hn : I.Nodup) (h : key ∈ I) : ∃ i : Nat, (X ++ (R ++ I.map F))[i]? = some (F key) ∧ ∀ q, (X ++ (R ++ I.map F)).set i q = X ++ (R ++ I.map (gUp F key q)) := by
  obtain ⟨i, h1, h2⟩ := gp_at (B := X ++ R) (C := []) (F := F) hn h
  refine ⟨i, ?_, fun q => ?_⟩
  · rw [← h1]; simp
  · have := h2 q
    simpa using this
/-- the first cell of R made a row of the pool -/
theorem gPD_key {X R : va_W} {I I' : List (Nat × Nat)} {F : Nat × Nat → Nat × va_E} {key : Nat × Nat} {x : Nat × va_E} (hk : key ∉ I) (hI : (I ++ [key]).Perm I') (hP : va_P D cl (X ++ ((x :: R) ++ I.map F)) H) (hD : va_D A (X ++ ((x :: R) ++ I.map F))) : va_P D cl (X ++ (R ++ I'.map (gUp F key x))) H ∧ va_D A (X ++ (R ++ I'.map (gUp F key x))) := by
  have h1 : I.map F ++ [x] = (I ++ [key]).map (gUp F key x) := by
    rw [List.map_append]
    congr 1
    · refine List.map_congr_left fun k hkm => ?_
      have : k ≠ key := fun e => hk (e ▸ hkm)
      simp [gUp, this]
    · simp [gUp]
  refine gPD_perm (List.Perm.append_left X ?_) hP hD
  show (x :: (R ++ I.map F)).Perm _
  refine (List.perm_append_singleton x (R ++ I.map F)).symm.trans ?_
  rw [List.append_assoc, h1]
  exact (hI.map _).append_left R
/-- cells that hold the same -/
def gE (q q' : Nat × va_E) : Prop := q.1 = q'.1 ∧ ∀ (D : va_G) (cl : List vw_C) (H : Heap), va_at D cl q H → va_at D cl q' H
theorem gE.rf {q : Nat × va_E} : gE q q := ⟨rfl, fun _ _ _ h => h⟩
theorem gE.of {q q' : Nat × va_E} (h : q = q') : gE q q' := by subst h; exact gE.rf
theorem arrV_ext {c n : Nat} {f g : Nat → Value} (h : ∀ j, j < n → f j = g j) : arrV c n f = arrV c n g := by
  have hs : (arrV c n f).slots = (arrV c n g).slots := by
    refine Array.ext (by simp [arrV]) fun i h1 h2 => ?_
    have hi : i < n := by simpa [arrV] using h1
    simp [arrV, h i hi]
  show ({ cls := c, slots := (arrV c n f).slots, vm := .none } : Cell) = { cls := c, slots := (arrV c n g).slots, vm := .none }
  rw [hs]
theorem gE_arr {a : Nat} {c : ClassId} {n : Nat} {f g : Nat → Int32} (h : ∀ j, j < n → f j = g j) : gE (a, .inl (c, n, .inl f)) (a, .inl (c, n, .inl g)) := by
  refine ⟨rfl, fun D cl H hh => ?_⟩
  have e : vp_cell c (n, .inl f) = vp_cell c (n, .inl g) := by
    show arrV c n (fun j => .int (f j)) = arrV c n (fun j => .int (g j))
    exact arrV_ext (fun j hj => by rw [h j hj])
  exact hh.trans (congrArg some e)
theorem gE_ref {a : Nat} {c : ClassId} {n : Nat} {f g : Nat → Option Nat} (h : ∀ j, j < n → f j = g j) : gE (a, .inl (c, n, .inr (.inr (.inr (.inr f))))) (a, .inl (c, n, .inr (.inr (.inr (.inr g))))) := by
  refine ⟨rfl, fun D cl H hh => ?_⟩
  have e : vp_cell c (n, .inr (.inr (.inr (.inr f)))) = vp_cell c (n, .inr (.inr (.inr (.inr g)))) := by
    rw [vp_cell_q, vp_cell_q]
    exact arrV_ext (fun j hj => by rw [h j hj])
  exact hh.trans (congrArg some e)
def gEs : va_W → va_W → Prop
  | [], [] => True
  | q :: a, q' :: b => gE q q' ∧ gEs a b
  | _, _ => False
theorem gEs_L : ∀ {a b : va_W}, gEs a b → gL a = gL b
  | [], [], _ => rfl
  | q :: a, q' :: b, h => by
    show q.1 :: gL a = q'.1 :: gL b
    rw [h.1.1, gEs_L h.2]
  | [], _ :: _, h => h.elim
  | _ :: _, [], h => h.elim
theorem gEs_P : ∀ {a b : va_W}, gEs a b → (∀ q ∈ a, va_at D cl q H) → ∀ q ∈ b, va_at D cl q H
  | [], [], _, _ => fun q hq => absurd hq List.not_mem_nil
  | x :: a, y :: b, h, ha => fun q hq => by
    rcases List.mem_cons.mp hq with e | hq
    · subst e; exact h.1.2 D cl H (ha x List.mem_cons_self)
    · exact gEs_P h.2 (fun z hz => ha z (List.mem_cons_of_mem _ hz)) q hq
  | [], _ :: _, h, _ => h.elim
  | _ :: _, [], h, _ => h.elim
theorem gEs_rf : ∀ {a : va_W}, gEs a a
  | [] => trivial
  | _ :: _ => ⟨gE.rf, gEs_rf⟩
theorem gEs_app : ∀ {a b c d : va_W}, gEs a b → gEs c d → gEs (a ++ c) (b ++ d)
  | [], [], _, _, _, h => h
  | _ :: _, _ :: _, _, _, h1, h2 => ⟨h1.1, gEs_app h1.2 h2⟩
  | [], _ :: _, _, _, h, _ => h.elim
  | _ :: _, [], _, _, h, _ => h.elim
theorem gEs_map {F G : Nat × Nat → Nat × va_E} : ∀ {I : List (Nat × Nat)}, (∀ k ∈ I, gE (F k) (G k)) → gEs (I.map F) (I.map G)
  | [], _ => trivial
  | x :: I, h => ⟨h x List.mem_cons_self, gEs_map (fun k hk => h k (List.mem_cons_of_mem _ hk))⟩
theorem gPD_e {a b : va_W} (h : gEs a b) (hP : va_P D cl a H) (hD : va_D A a) : va_P D cl b H ∧ va_D A b := by
  refine ⟨gP_mem.mpr (gEs_P h (gP_mem.mp hP)), gD_iff.mpr ?_⟩
  obtain ⟨h1, h2⟩ := gD_iff.mp hD
  rw [← gEs_L h]
  refine ⟨h1, fun q hq => ?_⟩
  have hm : q.1 ∈ gL b := List.mem_map_of_mem hq
  rw [← gEs_L h] at hm
  obtain ⟨z, hz, e⟩ := List.mem_map.mp hm
  rw [← e]; exact h2 z hz
/-- behind a call that changes G alone, and makes no cell of a world -/
theorem gPD_G {X T G G' L : va_W} (hP : va_P D cl (X ++ ((T ++ G) ++ L)) H) (hD : va_D A (X ++ ((T ++ G) ++ L))) (hL : gL G' = gL G) (hk : ∀ q : Nat, q < H.size → ¬ gA (gL G) q → H1[q]? = H[q]?) (hP1 : va_P D cl G' H1) : va_P D cl (X ++ ((T ++ G') ++ L)) H1 ∧ va_D A (X ++ ((T ++ G') ++ L)) := by
  have eL : gL (X ++ ((T ++ G') ++ L)) = gL (X ++ ((T ++ G) ++ L)) := by
    simp only [gL, List.map_append] at hL ⊢
    rw [hL]
  obtain ⟨h1, h2⟩ := gD_iff.mp hD
  refine ⟨gP_mem.mpr fun q hq => ?_, gD_iff.mpr ⟨by rw [eL]; exact h1, fun q hq => ?_⟩⟩
  · by_cases hg : q ∈ G'
    · exact gP_mem.mp hP1 q hg
    · have hq0 : q ∈ X ∨ q ∈ T ∨ q ∈ L := by
        simp only [List.mem_append] at hq
        rcases hq with h | (h | h) | h
        · exact Or.inl h
        · exact Or.inr (Or.inl h)
        · exact absurd h hg
        · exact Or.inr (Or.inr h)
      have hq1 : q ∈ X ++ ((T ++ G) ++ L) := by
        simp only [List.mem_append]
        rcases hq0 with h | h | h
        · exact Or.inl h
        · exact Or.inr (Or.inl (Or.inl h))
        · exact Or.inr (Or.inr h)
      have hat := gP_mem.mp hP q hq1
      refine hat.kept (hk q.1 hat.lt fun hin => ?_)
      -- q's address would be twice in the world
      have hp : ((X ++ T) ++ (G ++ L)).map (fun q => q.1) = gL (X ++ ((T ++ G) ++ L)) := by simp [gL, List.append_assoc]
      have hin' : q.1 ∈ gL G := hin
      rcases hq0 with h | h | h
      · have hn := h1
        simp only [gL, List.map_append] at hn
        exact (List.nodup_append.mp hn).2.2 q.1 (List.mem_map_of_mem h) q.1 (List.mem_append_left _ (List.mem_append_right _ hin')) rfl
      · have hn := h1
        simp only [gL, List.map_append] at hn
        have hn2 := (List.nodup_append.mp (List.nodup_append.mp hn).2.1).1
        exact (List.nodup_append.mp hn2).2.2 q.1 (List.mem_map_of_mem h) q.1 hin' rfl
      · have hn := h1
        simp only [gL, List.map_append] at hn
        have hn2 := (List.nodup_append.mp hn).2.1
        exact (List.nodup_append.mp hn2).2.2 q.1 (List.mem_append_right _ hin') q.1 (List.mem_map_of_mem h) rfl
  · have hm : q.1 ∈ gL (X ++ ((T ++ G') ++ L)) := List.mem_map_of_mem hq
    rw [eL] at hm
    obtain ⟨z, hz, e⟩ := List.mem_map.mp hm
    rw [← e]; exact h2 z hz
theorem gP_G {X T G L : va_W} (hP : va_P D cl (X ++ ((T ++ G) ++ L)) H) : va_P D cl G H := gP_mem.mpr fun q hq => gP_mem.mp hP q (by simp [hq])
theorem gD_G {X T G L : va_W} (hD : va_D A (X ++ ((T ++ G) ++ L))) : va_D (fun _ => True) G := by
  refine gD_iff.mpr ⟨?_, fun _ _ => trivial⟩
  have hn := (gD_iff.mp hD).1
  simp only [gL, List.map_append] at hn
  exact (List.nodup_append.mp (List.nodup_append.mp (List.nodup_append.mp hn).2.1).1).2.1
theorem gA_G {X T G L : va_W} (hD : va_D A (X ++ ((T ++ G) ++ L))) : ∀ q, gA (gL G) q → A q := fun q hq => by
  obtain ⟨z, hz, e⟩ := List.mem_map.mp hq
  rw [← e]
  exact (gD_iff.mp hD).2 z (by simp [hz])
theorem va_A_mem {ws : va_W} {sz q : Nat} : va_A ws sz q ↔ q ∈ gL ws ∨ sz ≤ q := by
  constructor
  · rintro (⟨k, e, h⟩ | h)
    · exact Or.inl (List.mem_map.mpr ⟨(q, e), List.mem_of_getElem? h, rfl⟩)
    · exact Or.inr h
  · rintro (h | h)
    · obtain ⟨z, hz, e⟩ := List.mem_map.mp h
      obtain ⟨k, hk⟩ := List.getElem?_of_mem hz
      exact Or.inl ⟨k, z.2, by rw [hk, ← e]⟩
    · exact Or.inr h
end
/-- a contract, its start made narrower, its end wider -/
theorem Met.mono {l : Launch} {y : MethodName} {ws : List Cond} {rm : Room} {Pc Pc' : Array Value → State → Prop} {Qc Qc' : Array Value → State → Outcome → State → Prop} {mc ms : Nat} {free free' : Addr → Prop} (hM : Met l y ws rm Pc Qc mc ms free) (hp : ∀ a s, Pc' a s → Pc a s) (hq : ∀ a s o t, Pc' a s → Qc a s o t → Qc' a s o t) (hf : ∀ q, free q → free' q) : Met l y ws rm Pc' Qc' mc ms free' := by
  intro p e ha hc hk s m args below hfr happ hP hK
  obtain ⟨n, o, h1, h2, h3, h4, L, h5, h6⟩ := hM p e ha hc hk s m args below hfr happ (hp _ _ hP) hK
  exact ⟨n, o, h1, h2, h3, hq _ _ _ _ hP h4, L, h5, fun q hq => hf _ (h6 q hq)⟩
