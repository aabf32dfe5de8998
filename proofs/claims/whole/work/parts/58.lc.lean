/-! The law's cases. -/
/-- what stays as it is while the law runs -/
def gLC (p : Program) (s : State) (m : MethodId) (c : Code) (args : Array Value) (b L : Nat) (xs : Nat → Int32) (D : va_G) (cI cZ cL cO : ClassId) (A : Nat → Prop) : Prop :=
  p.tables.exec = Jvm.exec ∧ c.code = code ∧ c.maxLocals = 9 ∧ s.vm.findClass RL = some m.cls ∧ (∀ w ∈ wsL_law, w.before args s = true) ∧ (∀ w ∈ lw_tbl, w.before args s = true) ∧ va_K D vwCl (gT4 cI cZ cL cO) s ∧ gAr s ∧ va_X b L xs s s.heap ∧ b < s.heap.size ∧ (¬ A b) ∧ gXA A s s.heap ∧ gC s ∧ (∀ q, s.heap.size ≤ q → A q) ∧ L ≤ 2048
