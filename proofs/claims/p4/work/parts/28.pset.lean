def pset (B : Nat → Nat) (o k : Nat) (G : Nat → Nat) : Nat → Nat := fun j => if o ≤ j ∧ j < o + k then G (j - o) else B j
theorem pset_0 (B : Nat → Nat) (o : Nat) (G : Nat → Nat) : pset B o 0 G = B := by
  funext j
  unfold pset
  rw [if_neg (by omega)]
theorem pset_s (B : Nat → Nat) (o k : Nat) (G : Nat → Nat) : up (pset B o k G) (o + k) (G k) = pset B o (k + 1) G := by
  funext j
  unfold up pset
  by_cases e : j = o + k
  · rw [if_pos e, if_pos (by omega), e, show o + k - o = k by omega]
  · rw [if_neg e]
    by_cases g : o ≤ j ∧ j < o + k
    · rw [if_pos g, if_pos (by omega)]
    · rw [if_neg g, if_neg (by omega)]
