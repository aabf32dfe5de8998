/-! The law's own world: Sim's six cells, and its rows in any number. -/
def r4 (a b c d : Int32) : Nat → Int32 := fun j => match j with | 0 => a | 1 => b | 2 => c | 3 => d | _ => 0
def r2 (a b : Int32) : Nat → Int32 := fun j => match j with | 0 => a | 1 => b | _ => 0
theorem r4_u0 {a b c d v : Int32} : upd (r4 a b c d) 0 v = r4 v b c d := by
  funext j; rcases j with _ | _ | _ | _ | j <;> simp [upd, r4]
theorem r4_u1 {a b c d v : Int32} : upd (r4 a b c d) 1 v = r4 a v c d := by
  funext j; rcases j with _ | _ | _ | _ | j <;> simp [upd, r4]
theorem r4_u2 {a b c d v : Int32} : upd (r4 a b c d) 2 v = r4 a b v d := by
  funext j; rcases j with _ | _ | _ | _ | j <;> simp [upd, r4]
theorem r4_u3 {a b c d v : Int32} : upd (r4 a b c d) 3 v = r4 a b c v := by
  funext j; rcases j with _ | _ | _ | _ | j <;> simp [upd, r4]
theorem r2_u0 {a b v : Int32} : upd (r2 a b) 0 v = r2 v b := by
  funext j; rcases j with _ | _ | j <;> simp [upd, r2]
theorem r2_u1 {a b v : Int32} : upd (r2 a b) 1 v = r2 a v := by
  funext j; rcases j with _ | _ | j <;> simp [upd, r2]
/-- references to rows of a kind, n of them -/
def sRf (ad : Nat × Nat → Nat) (c n : Nat) : Nat → Option Nat := fun k => if k < n then some (ad (c, k)) else none
theorem sRf_at {ad : Nat × Nat → Nat} {c n k : Nat} (h : k < n) : sRf ad c n k = some (ad (c, k)) := if_pos h
/-- what the rows hold: beds, people, rafts, wheels -/
def sEn (cI : ClassId) (q1 q2 q3 q4 q5 q6 q7 q8 q9 qb qc qd ca sv rl : Nat → Int32) : Nat × Nat → va_E := fun key => match key with
  | (0, k) => .inl (cI, 4, .inl (r4 (q1 k) (q2 k) (q3 k) (q4 k)))
  | (1, k) => .inl (cI, 4, .inl (r4 (q5 k) (q6 k) (q7 k) (q8 k)))
  | (2, k) => .inl (cI, 2, .inl (r2 (ca k) (sv k)))
  | (3, k) => .inr (7, [.int (q9 k), .int (qb k), .int (qc k), .int (qd k), .int (rl k)])
  | (_, _) => .inr (0, [])
def sF (ad : Nat × Nat → Nat) (en : Nat × Nat → va_E) : Nat × Nat → Nat × va_E := fun key => (ad key, en key)
/-- the rows that there are -/
def sK (nb nq nr nw : Nat) : List (Nat × Nat) := (List.range nb).map (fun k => (0, k)) ++ ((List.range nq).map (fun k => (1, k)) ++ ((List.range nr).map (fun k => (2, k)) ++ (List.range nw).map (fun k => (3, k))))
abbrev sPl (nb nq nr nw : Nat) (ad : Nat × Nat → Nat) (en : Nat × Nat → va_E) : va_W := (sK nb nq nr nw).map (sF ad en)
theorem sK_mem {nb nq nr nw c k : Nat} : (c, k) ∈ sK nb nq nr nw ↔ (c = 0 ∧ k < nb) ∨ (c = 1 ∧ k < nq) ∨ (c = 2 ∧ k < nr) ∨ (c = 3 ∧ k < nw) := by
  simp only [sK, List.mem_append, List.mem_map, List.mem_range, Prod.mk.injEq]
  constructor
  · rintro (⟨a, h, rfl, rfl⟩ | ⟨a, h, rfl, rfl⟩ | ⟨a, h, rfl, rfl⟩ | ⟨a, h, rfl, rfl⟩)
    · exact Or.inl ⟨rfl, h⟩
    · exact Or.inr (Or.inl ⟨rfl, h⟩)
    · exact Or.inr (Or.inr (Or.inl ⟨rfl, h⟩))
    · exact Or.inr (Or.inr (Or.inr ⟨rfl, h⟩))
  · rintro (⟨rfl, h⟩ | ⟨rfl, h⟩ | ⟨rfl, h⟩ | ⟨rfl, h⟩)
    · exact Or.inl ⟨k, h, rfl, rfl⟩
    · exact Or.inr (Or.inl ⟨k, h, rfl, rfl⟩)
    · exact Or.inr (Or.inr (Or.inl ⟨k, h, rfl, rfl⟩))
    · exact Or.inr (Or.inr (Or.inr ⟨k, h, rfl, rfl⟩))
theorem sK_nd1 (c n : Nat) : ((List.range n).map (fun k => ((c, k) : Nat × Nat))).Nodup :=
  List.pairwise_map.mpr (List.Pairwise.imp (fun {a b} (h : a ≠ b) e => h (Prod.mk.inj e).2) List.nodup_range)
theorem sK_nd (nb nq nr nw : Nat) : (sK nb nq nr nw).Nodup := by
  have m : ∀ {c n : Nat} {q : Nat × Nat}, q ∈ (List.range n).map (fun k => ((c, k) : Nat × Nat)) → q.1 = c := by
    intro c n q h
    obtain ⟨k, -, rfl⟩ := List.mem_map.mp h
    rfl
  refine List.nodup_append.mpr ⟨sK_nd1 0 nb, List.nodup_append.mpr ⟨sK_nd1 1 nq, List.nodup_append.mpr ⟨sK_nd1 2 nr, sK_nd1 3 nw, ?_⟩, ?_⟩, ?_⟩
  · intro a ha b hb e
    have h1 := m ha
    have h2 := m hb
    rw [e] at h1; omega
  · intro a ha b hb e
    have h1 := m ha
    rcases List.mem_append.mp hb with hb | hb
    · have h2 := m hb
      rw [e] at h1; omega
    · have h2 := m hb
      rw [e] at h1; omega
  · intro a ha b hb e
    have h1 := m ha
    rcases List.mem_append.mp hb with hb | hb
    · have h2 := m hb
      rw [e] at h1; omega
    · rcases List.mem_append.mp hb with hb | hb
      · have h2 := m hb
        rw [e] at h1; omega
      · have h2 := m hb
        rw [e] at h1; omega
theorem sK_s (c n : Nat) : (List.range (n + 1)).map (fun k => ((c, k) : Nat × Nat)) = (List.range n).map (fun k => (c, k)) ++ [(c, n)] := by
  rw [List.range_succ, List.map_append]
  rfl
theorem sK_q (A B : List (Nat × Nat)) (x : Nat × Nat) : ((A ++ B) ++ [x]).Perm ((A ++ [x]) ++ B) := by
  rw [List.append_assoc, List.append_assoc]
  exact List.Perm.append_left A List.perm_append_comm
theorem sK_q2 (A B C : List (Nat × Nat)) (x : Nat × Nat) : ((A ++ (B ++ C)) ++ [x]).Perm (A ++ ((B ++ [x]) ++ C)) := by
  rw [List.append_assoc]
  exact List.Perm.append_left A (sK_q B C x)
theorem sK_q3 (A B C E : List (Nat × Nat)) (x : Nat × Nat) : ((A ++ (B ++ (C ++ E))) ++ [x]).Perm (A ++ (B ++ ((C ++ [x]) ++ E))) := by
  rw [List.append_assoc]
  exact List.Perm.append_left A (sK_q2 B C E x)
theorem sK_p0 (nb nq nr nw : Nat) : (sK nb nq nr nw ++ [(0, nb)]).Perm (sK (nb + 1) nq nr nw) := by
  unfold sK
  rw [sK_s]
  exact sK_q _ _ _
theorem sK_p1 (nb nq nr nw : Nat) : (sK nb nq nr nw ++ [(1, nq)]).Perm (sK nb (nq + 1) nr nw) := by
  unfold sK
  rw [sK_s]
  exact sK_q2 _ _ _ _
theorem sK_p2 (nb nq nr nw : Nat) : (sK nb nq nr nw ++ [(2, nr)]).Perm (sK nb nq (nr + 1) nw) := by
  unfold sK
  rw [sK_s]
  exact sK_q3 _ _ _ _ _
theorem sK_p3 (nb nq nr nw : Nat) : (sK nb nq nr nw ++ [(3, nw)]).Perm (sK nb nq nr (nw + 1)) := by
  unfold sK
  rw [sK_s, List.append_assoc, List.append_assoc, List.append_assoc]
/-- Sim, its fall, its rows of rows, its wheels -/
def sW (si fa ob op oc ow : Nat) (cI cW cO : ClassId) (q0 : Nat → Int32) (n0 n1 n2 : Nat) (f0 f1 f2 fw : Nat → Option Nat) (many day co : Int32) : va_W :=
  [(si, .inr (6, [.ref fa, .ref ob, .ref op, .ref oc, .ref ow, .int many, .int day, .int co])), (fa, .inl (cI, 9, .inl q0)), (ob, .inl (cO, n0, .inr (.inr (.inr (.inr f0))))), (op, .inl (cO, n1, .inr (.inr (.inr (.inr f1))))), (oc, .inl (cO, n2, .inr (.inr (.inr (.inr f2))))), (ow, .inl (cW, 60, .inr (.inr (.inr (.inr fw)))))]
section
variable {D : va_G} {cl : List vw_C} {H : Heap} {X R : va_W} {nb nq nr nw k : Nat} {ad : Nat × Nat → Nat} {cI : ClassId} {q1 q2 q3 q4 q5 q6 q7 q8 q9 qb qc qd ca sv rl : Nat → Int32}
theorem sAt0 (_ : va_P D cl (X ++ (R ++ sPl nb nq nr nw ad (sEn cI q1 q2 q3 q4 q5 q6 q7 q8 q9 qb qc qd ca sv rl))) H) (h : k < nb) : ∃ i : Nat, (X ++ (R ++ sPl nb nq nr nw ad (sEn cI q1 q2 q3 q4 q5 q6 q7 q8 q9 qb qc qd ca sv rl)))[i]? = some (ad (0, k), .inl (cI, 4, .inl (r4 (q1 k) (q2 k) (q3 k) (q4 k)))) ∧ ∀ q, (X ++ (R ++ sPl nb nq nr nw ad (sEn cI q1 q2 q3 q4 q5 q6 q7 q8 q9 qb qc qd ca sv rl))).set i q = X ++ (R ++ (sK nb nq nr nw).map (gUp (sF ad (sEn cI q1 q2 q3 q4 q5 q6 q7 q8 q9 qb qc qd ca sv rl)) (0, k) q)) :=
  gp_end (sK_nd _ _ _ _) (sK_mem.mpr (Or.inl ⟨rfl, h⟩))
theorem sAt1 (_ : va_P D cl (X ++ (R ++ sPl nb nq nr nw ad (sEn cI q1 q2 q3 q4 q5 q6 q7 q8 q9 qb qc qd ca sv rl))) H) (h : k < nq) : ∃ i : Nat, (X ++ (R ++ sPl nb nq nr nw ad (sEn cI q1 q2 q3 q4 q5 q6 q7 q8 q9 qb qc qd ca sv rl)))[i]? = some (ad (1, k), .inl (cI, 4, .inl (r4 (q5 k) (q6 k) (q7 k) (q8 k)))) ∧ ∀ q, (X ++ (R ++ sPl nb nq nr nw ad (sEn cI q1 q2 q3 q4 q5 q6 q7 q8 q9 qb qc qd ca sv rl))).set i q = X ++ (R ++ (sK nb nq nr nw).map (gUp (sF ad (sEn cI q1 q2 q3 q4 q5 q6 q7 q8 q9 qb qc qd ca sv rl)) (1, k) q)) :=
  gp_end (sK_nd _ _ _ _) (sK_mem.mpr (Or.inr (Or.inl ⟨rfl, h⟩)))
theorem sAt2 (_ : va_P D cl (X ++ (R ++ sPl nb nq nr nw ad (sEn cI q1 q2 q3 q4 q5 q6 q7 q8 q9 qb qc qd ca sv rl))) H) (h : k < nr) : ∃ i : Nat, (X ++ (R ++ sPl nb nq nr nw ad (sEn cI q1 q2 q3 q4 q5 q6 q7 q8 q9 qb qc qd ca sv rl)))[i]? = some (ad (2, k), .inl (cI, 2, .inl (r2 (ca k) (sv k)))) ∧ ∀ q, (X ++ (R ++ sPl nb nq nr nw ad (sEn cI q1 q2 q3 q4 q5 q6 q7 q8 q9 qb qc qd ca sv rl))).set i q = X ++ (R ++ (sK nb nq nr nw).map (gUp (sF ad (sEn cI q1 q2 q3 q4 q5 q6 q7 q8 q9 qb qc qd ca sv rl)) (2, k) q)) :=
  gp_end (sK_nd _ _ _ _) (sK_mem.mpr (Or.inr (Or.inr (Or.inl ⟨rfl, h⟩))))
theorem sAt3 (_ : va_P D cl (X ++ (R ++ sPl nb nq nr nw ad (sEn cI q1 q2 q3 q4 q5 q6 q7 q8 q9 qb qc qd ca sv rl))) H) (h : k < nw) : ∃ i : Nat, (X ++ (R ++ sPl nb nq nr nw ad (sEn cI q1 q2 q3 q4 q5 q6 q7 q8 q9 qb qc qd ca sv rl)))[i]? = some (ad (3, k), .inr (7, [.int (q9 k), .int (qb k), .int (qc k), .int (qd k), .int (rl k)])) ∧ ∀ q, (X ++ (R ++ sPl nb nq nr nw ad (sEn cI q1 q2 q3 q4 q5 q6 q7 q8 q9 qb qc qd ca sv rl))).set i q = X ++ (R ++ (sK nb nq nr nw).map (gUp (sF ad (sEn cI q1 q2 q3 q4 q5 q6 q7 q8 q9 qb qc qd ca sv rl)) (3, k) q)) :=
  gp_end (sK_nd _ _ _ _) (sK_mem.mpr (Or.inr (Or.inr (Or.inr ⟨rfl, h⟩))))
theorem sU0_0 {v : Int32} : gUp (sF ad (sEn cI q1 q2 q3 q4 q5 q6 q7 q8 q9 qb qc qd ca sv rl)) (0, k) (ad (0, k), .inl (cI, 4, .inl (upd (r4 (q1 k) (q2 k) (q3 k) (q4 k)) 0 v))) = sF ad (sEn cI (upd q1 k v) q2 q3 q4 q5 q6 q7 q8 q9 qb qc qd ca sv rl) := by
  funext key
  obtain ⟨c, j⟩ := key
  by_cases e : (c, j) = (0, k)
  · cases e
    simp [gUp, sF, sEn, upd_at, r4_u0]
  · show (if (c, j) = (0, k) then _ else _) = _
    rw [if_neg e]
    rcases c with _ | _ | _ | _ | c
    · have e2 : j ≠ k := fun h => e (by rw [h])
      simp [sF, sEn, upd_ne e2]
    · rfl
    · rfl
    · rfl
    · rfl
theorem sU0_1 {v : Int32} : gUp (sF ad (sEn cI q1 q2 q3 q4 q5 q6 q7 q8 q9 qb qc qd ca sv rl)) (0, k) (ad (0, k), .inl (cI, 4, .inl (upd (r4 (q1 k) (q2 k) (q3 k) (q4 k)) 1 v))) = sF ad (sEn cI q1 (upd q2 k v) q3 q4 q5 q6 q7 q8 q9 qb qc qd ca sv rl) := by
  funext key
  obtain ⟨c, j⟩ := key
  by_cases e : (c, j) = (0, k)
  · cases e
    simp [gUp, sF, sEn, upd_at, r4_u1]
  · show (if (c, j) = (0, k) then _ else _) = _
    rw [if_neg e]
    rcases c with _ | _ | _ | _ | c
    · have e2 : j ≠ k := fun h => e (by rw [h])
      simp [sF, sEn, upd_ne e2]
    · rfl
    · rfl
    · rfl
    · rfl
theorem sU0_2 {v : Int32} : gUp (sF ad (sEn cI q1 q2 q3 q4 q5 q6 q7 q8 q9 qb qc qd ca sv rl)) (0, k) (ad (0, k), .inl (cI, 4, .inl (upd (r4 (q1 k) (q2 k) (q3 k) (q4 k)) 2 v))) = sF ad (sEn cI q1 q2 (upd q3 k v) q4 q5 q6 q7 q8 q9 qb qc qd ca sv rl) := by
  funext key
  obtain ⟨c, j⟩ := key
  by_cases e : (c, j) = (0, k)
  · cases e
    simp [gUp, sF, sEn, upd_at, r4_u2]
  · show (if (c, j) = (0, k) then _ else _) = _
    rw [if_neg e]
    rcases c with _ | _ | _ | _ | c
    · have e2 : j ≠ k := fun h => e (by rw [h])
      simp [sF, sEn, upd_ne e2]
    · rfl
    · rfl
    · rfl
    · rfl
theorem sU0_3 {v : Int32} : gUp (sF ad (sEn cI q1 q2 q3 q4 q5 q6 q7 q8 q9 qb qc qd ca sv rl)) (0, k) (ad (0, k), .inl (cI, 4, .inl (upd (r4 (q1 k) (q2 k) (q3 k) (q4 k)) 3 v))) = sF ad (sEn cI q1 q2 q3 (upd q4 k v) q5 q6 q7 q8 q9 qb qc qd ca sv rl) := by
  funext key
  obtain ⟨c, j⟩ := key
  by_cases e : (c, j) = (0, k)
  · cases e
    simp [gUp, sF, sEn, upd_at, r4_u3]
  · show (if (c, j) = (0, k) then _ else _) = _
    rw [if_neg e]
    rcases c with _ | _ | _ | _ | c
    · have e2 : j ≠ k := fun h => e (by rw [h])
      simp [sF, sEn, upd_ne e2]
    · rfl
    · rfl
    · rfl
    · rfl
theorem sU1_0 {v : Int32} : gUp (sF ad (sEn cI q1 q2 q3 q4 q5 q6 q7 q8 q9 qb qc qd ca sv rl)) (1, k) (ad (1, k), .inl (cI, 4, .inl (upd (r4 (q5 k) (q6 k) (q7 k) (q8 k)) 0 v))) = sF ad (sEn cI q1 q2 q3 q4 (upd q5 k v) q6 q7 q8 q9 qb qc qd ca sv rl) := by
  funext key
  obtain ⟨c, j⟩ := key
  by_cases e : (c, j) = (1, k)
  · cases e
    simp [gUp, sF, sEn, upd_at, r4_u0]
  · show (if (c, j) = (1, k) then _ else _) = _
    rw [if_neg e]
    rcases c with _ | _ | _ | _ | c
    · rfl
    · have e2 : j ≠ k := fun h => e (by rw [h])
      simp [sF, sEn, upd_ne e2]
    · rfl
    · rfl
    · rfl
theorem sU1_1 {v : Int32} : gUp (sF ad (sEn cI q1 q2 q3 q4 q5 q6 q7 q8 q9 qb qc qd ca sv rl)) (1, k) (ad (1, k), .inl (cI, 4, .inl (upd (r4 (q5 k) (q6 k) (q7 k) (q8 k)) 1 v))) = sF ad (sEn cI q1 q2 q3 q4 q5 (upd q6 k v) q7 q8 q9 qb qc qd ca sv rl) := by
  funext key
  obtain ⟨c, j⟩ := key
  by_cases e : (c, j) = (1, k)
  · cases e
    simp [gUp, sF, sEn, upd_at, r4_u1]
  · show (if (c, j) = (1, k) then _ else _) = _
    rw [if_neg e]
    rcases c with _ | _ | _ | _ | c
    · rfl
    · have e2 : j ≠ k := fun h => e (by rw [h])
      simp [sF, sEn, upd_ne e2]
    · rfl
    · rfl
    · rfl
theorem sU1_2 {v : Int32} : gUp (sF ad (sEn cI q1 q2 q3 q4 q5 q6 q7 q8 q9 qb qc qd ca sv rl)) (1, k) (ad (1, k), .inl (cI, 4, .inl (upd (r4 (q5 k) (q6 k) (q7 k) (q8 k)) 2 v))) = sF ad (sEn cI q1 q2 q3 q4 q5 q6 (upd q7 k v) q8 q9 qb qc qd ca sv rl) := by
  funext key
  obtain ⟨c, j⟩ := key
  by_cases e : (c, j) = (1, k)
  · cases e
    simp [gUp, sF, sEn, upd_at, r4_u2]
  · show (if (c, j) = (1, k) then _ else _) = _
    rw [if_neg e]
    rcases c with _ | _ | _ | _ | c
    · rfl
    · have e2 : j ≠ k := fun h => e (by rw [h])
      simp [sF, sEn, upd_ne e2]
    · rfl
    · rfl
    · rfl
theorem sU1_3 {v : Int32} : gUp (sF ad (sEn cI q1 q2 q3 q4 q5 q6 q7 q8 q9 qb qc qd ca sv rl)) (1, k) (ad (1, k), .inl (cI, 4, .inl (upd (r4 (q5 k) (q6 k) (q7 k) (q8 k)) 3 v))) = sF ad (sEn cI q1 q2 q3 q4 q5 q6 q7 (upd q8 k v) q9 qb qc qd ca sv rl) := by
  funext key
  obtain ⟨c, j⟩ := key
  by_cases e : (c, j) = (1, k)
  · cases e
    simp [gUp, sF, sEn, upd_at, r4_u3]
  · show (if (c, j) = (1, k) then _ else _) = _
    rw [if_neg e]
    rcases c with _ | _ | _ | _ | c
    · rfl
    · have e2 : j ≠ k := fun h => e (by rw [h])
      simp [sF, sEn, upd_ne e2]
    · rfl
    · rfl
    · rfl
theorem sU2_0 {v : Int32} : gUp (sF ad (sEn cI q1 q2 q3 q4 q5 q6 q7 q8 q9 qb qc qd ca sv rl)) (2, k) (ad (2, k), .inl (cI, 2, .inl (upd (r2 (ca k) (sv k)) 0 v))) = sF ad (sEn cI q1 q2 q3 q4 q5 q6 q7 q8 q9 qb qc qd (upd ca k v) sv rl) := by
  funext key
  obtain ⟨c, j⟩ := key
  by_cases e : (c, j) = (2, k)
  · cases e
    simp [gUp, sF, sEn, upd_at, r2_u0]
  · show (if (c, j) = (2, k) then _ else _) = _
    rw [if_neg e]
    rcases c with _ | _ | _ | _ | c
    · rfl
    · rfl
    · have e2 : j ≠ k := fun h => e (by rw [h])
      simp [sF, sEn, upd_ne e2]
    · rfl
    · rfl
theorem sU2_1 {v : Int32} : gUp (sF ad (sEn cI q1 q2 q3 q4 q5 q6 q7 q8 q9 qb qc qd ca sv rl)) (2, k) (ad (2, k), .inl (cI, 2, .inl (upd (r2 (ca k) (sv k)) 1 v))) = sF ad (sEn cI q1 q2 q3 q4 q5 q6 q7 q8 q9 qb qc qd ca (upd sv k v) rl) := by
  funext key
  obtain ⟨c, j⟩ := key
  by_cases e : (c, j) = (2, k)
  · cases e
    simp [gUp, sF, sEn, upd_at, r2_u1]
  · show (if (c, j) = (2, k) then _ else _) = _
    rw [if_neg e]
    rcases c with _ | _ | _ | _ | c
    · rfl
    · rfl
    · have e2 : j ≠ k := fun h => e (by rw [h])
      simp [sF, sEn, upd_ne e2]
    · rfl
    · rfl
theorem sU3_0 {v : Int32} : gUp (sF ad (sEn cI q1 q2 q3 q4 q5 q6 q7 q8 q9 qb qc qd ca sv rl)) (3, k) (ad (3, k), .inr (7, [.int v, .int (qb k), .int (qc k), .int (qd k), .int (rl k)])) = sF ad (sEn cI q1 q2 q3 q4 q5 q6 q7 q8 (upd q9 k v) qb qc qd ca sv rl) := by
  funext key
  obtain ⟨c, j⟩ := key
  by_cases e : (c, j) = (3, k)
  · cases e
    simp [gUp, sF, sEn, upd_at]
  · show (if (c, j) = (3, k) then _ else _) = _
    rw [if_neg e]
    rcases c with _ | _ | _ | _ | c
    · rfl
    · rfl
    · rfl
    · have e2 : j ≠ k := fun h => e (by rw [h])
      simp [sF, sEn, upd_ne e2]
    · rfl
theorem sU3_1 {v : Int32} : gUp (sF ad (sEn cI q1 q2 q3 q4 q5 q6 q7 q8 q9 qb qc qd ca sv rl)) (3, k) (ad (3, k), .inr (7, [.int (q9 k), .int v, .int (qc k), .int (qd k), .int (rl k)])) = sF ad (sEn cI q1 q2 q3 q4 q5 q6 q7 q8 q9 (upd qb k v) qc qd ca sv rl) := by
  funext key
  obtain ⟨c, j⟩ := key
  by_cases e : (c, j) = (3, k)
  · cases e
    simp [gUp, sF, sEn, upd_at]
  · show (if (c, j) = (3, k) then _ else _) = _
    rw [if_neg e]
    rcases c with _ | _ | _ | _ | c
    · rfl
    · rfl
    · rfl
    · have e2 : j ≠ k := fun h => e (by rw [h])
      simp [sF, sEn, upd_ne e2]
    · rfl
theorem sU3_2 {v : Int32} : gUp (sF ad (sEn cI q1 q2 q3 q4 q5 q6 q7 q8 q9 qb qc qd ca sv rl)) (3, k) (ad (3, k), .inr (7, [.int (q9 k), .int (qb k), .int v, .int (qd k), .int (rl k)])) = sF ad (sEn cI q1 q2 q3 q4 q5 q6 q7 q8 q9 qb (upd qc k v) qd ca sv rl) := by
  funext key
  obtain ⟨c, j⟩ := key
  by_cases e : (c, j) = (3, k)
  · cases e
    simp [gUp, sF, sEn, upd_at]
  · show (if (c, j) = (3, k) then _ else _) = _
    rw [if_neg e]
    rcases c with _ | _ | _ | _ | c
    · rfl
    · rfl
    · rfl
    · have e2 : j ≠ k := fun h => e (by rw [h])
      simp [sF, sEn, upd_ne e2]
    · rfl
theorem sU3_3 {v : Int32} : gUp (sF ad (sEn cI q1 q2 q3 q4 q5 q6 q7 q8 q9 qb qc qd ca sv rl)) (3, k) (ad (3, k), .inr (7, [.int (q9 k), .int (qb k), .int (qc k), .int v, .int (rl k)])) = sF ad (sEn cI q1 q2 q3 q4 q5 q6 q7 q8 q9 qb qc (upd qd k v) ca sv rl) := by
  funext key
  obtain ⟨c, j⟩ := key
  by_cases e : (c, j) = (3, k)
  · cases e
    simp [gUp, sF, sEn, upd_at]
  · show (if (c, j) = (3, k) then _ else _) = _
    rw [if_neg e]
    rcases c with _ | _ | _ | _ | c
    · rfl
    · rfl
    · rfl
    · have e2 : j ≠ k := fun h => e (by rw [h])
      simp [sF, sEn, upd_ne e2]
    · rfl
theorem sU3_4 {v : Int32} : gUp (sF ad (sEn cI q1 q2 q3 q4 q5 q6 q7 q8 q9 qb qc qd ca sv rl)) (3, k) (ad (3, k), .inr (7, [.int (q9 k), .int (qb k), .int (qc k), .int (qd k), .int v])) = sF ad (sEn cI q1 q2 q3 q4 q5 q6 q7 q8 q9 qb qc qd ca sv (upd rl k v)) := by
  funext key
  obtain ⟨c, j⟩ := key
  by_cases e : (c, j) = (3, k)
  · cases e
    simp [gUp, sF, sEn, upd_at]
  · show (if (c, j) = (3, k) then _ else _) = _
    rw [if_neg e]
    rcases c with _ | _ | _ | _ | c
    · rfl
    · rfl
    · rfl
    · have e2 : j ≠ k := fun h => e (by rw [h])
      simp [sF, sEn, upd_ne e2]
    · rfl
end
/-- a method that reads, its world as it stands -/
theorem gv_pvr {s : State} {H : Heap} {D : va_G} {wc : va_W} {tys : List (ClassId × FieldType)} {C : String} {b : Nat} {As : List Value} (hK : va_K D vwCl tys s) (hP : va_P D vwCl wc H) (ci : Nat) {r : vw_C} {fs : List Value} (hc : vwCl[ci]? = some r) (hC : r.1 = C) (he : wc[0]? = some (b, .inr (ci, fs))) : PreV s H C b (gPr (.ref b :: As) D wc tys) As :=
  ⟨gw_blr, by rw [← hC]; exact va_recv hK hP hc he, fun U hU hW => ⟨rfl, by rw [hU]; exact hP, va_K.moved hW.alike hK⟩⟩
theorem gv_pvw {s : State} {H : Heap} {D : va_G} {wc : va_W} {tys : List (ClassId × FieldType)} {C : String} {b : Nat} {As : List Value} (hK : va_K D vwCl tys s) (hP : va_P D vwCl wc H) (hD : va_D (fun _ => True) wc) (ci : Nat) {r : vw_C} {fs : List Value} (hc : vwCl[ci]? = some r) (hC : r.1 = C) (he : wc[0]? = some (b, .inr (ci, fs))) : PreV s H C b (gPw (.ref b :: As) D wc tys) As :=
  ⟨gw_blw, by rw [← hC]; exact va_recv hK hP hc he, fun U hU hW => ⟨rfl, by rw [hU]; exact hP, va_K.moved hW.alike hK, hD⟩⟩
theorem gv_psr {s : State} {H : Heap} {D : va_G} {wc : va_W} {tys : List (ClassId × FieldType)} {As : List Value} (hK : va_K D vwCl tys s) (hP : va_P D vwCl wc H) : PreS s H (gPr As D wc tys) As :=
  ⟨gw_blr, fun U hU hW => ⟨rfl, by rw [hU]; exact hP, va_K.moved hW.alike hK⟩⟩
