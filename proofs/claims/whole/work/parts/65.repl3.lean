/-- what came of the class's 'replaced' where it returned, and where it threw -/
def chc (o : Nat × Nat × Tb) (r : Int32) (u : LvS) : Prop := o.1 = 0 ∧ r = nI o.2.1 ∧ u.2.2.2.2.2.2 = o.2.2.2 ∧ LvU o.2.2.1 u
def chx (o : Nat × Nat × Tb) (X : String) (u : LvS) : Prop := o.1 ≠ 0 ∧ xc X o.1 ∧ u.2.2.2.2.2.2 = o.2.2.2 ∧ LvU o.2.2.1 u
