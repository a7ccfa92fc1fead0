/-! ===== reading: a node's head ===== -/
/-- the head of a node at level lv, with cnt nodes before it: the fault, its place; without one the new place, kind, number -/
def nhR (B : Nat → Nat) (n a lv cnt : Nat) (f pl a2 k v : Nat) : Prop :=
  ∃ f0, hdR B n (0 = 1) a f0 pl a2 k v ∧ ((f0 ≠ 0 ∧ f = f0) ∨ (f0 = 0 ∧ ¬ nfit k v ∧ f = 3) ∨ (f0 = 0 ∧ nfit k v ∧ 12 < lv ∧ f = 4) ∨ (f0 = 0 ∧ nfit k v ∧ lv ≤ 12 ∧ 200 ≤ cnt ∧ f = 5) ∨ (f0 = 0 ∧ nfit k v ∧ lv ≤ 12 ∧ cnt < 200 ∧ f = 0))
