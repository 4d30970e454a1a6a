/-! small words of the pure side -/
theorem gi_tb0 {w : Cond} (h : w ∈ TB) : GoodIn TB (w :: TB) := fun v hv => by
  rcases List.mem_cons.mp hv with rfl | h'
  · exact ⟨h, (TB_good _ h).2⟩
  · exact TB_good _ h'
theorem gi_c0 {w : Cond} {l : List Cond} (h : w ∈ TB) (hl : GoodIn TB l) : GoodIn TB (w :: l) := fun v hv => by
  rcases List.mem_cons.mp hv with rfl | h'
  · exact ⟨h, (TB_good _ h).2⟩
  · exact hl v h'
theorem bt_lt (b : Bool) : b.toNat < 2 ^ 31 := by cases b <;> decide
theorem bt_le (b : Bool) : b.toNat ≤ 1 := by cases b <;> decide
theorem bt0 {b : Bool} (h : b.toNat = 0) : b = false := by cases b; rfl; exact absurd h (by decide)
theorem bt1 {b : Bool} (h : b.toNat ≠ 0) : b = true := by cases b; exact absurd rfl h; rfl
theorem nar_b (b : Bool) : narrow .boolean (.int (nI b.toNat)) = .int (nI b.toNat) := by cases b <;> rfl
theorem fit_b (b : Bool) : fits .boolean (.int (nI b.toNat)) = true := by cases b <;> rfl
/-- 64 places of one row are the same as 64 of another -/
def sameB (F : Nat → Nat) (i : Nat) (G : Nat → Nat) (j : Nat) : Bool := (List.range 64).all (fun k => F (i + k) == G (j + k))
theorem sameB_iff {F G : Nat → Nat} {i j : Nat} : sameB F i G j = true ↔ ∀ k, k < 64 → F (i + k) = G (j + k) := by
  unfold sameB
  rw [List.all_eq_true]
  constructor
  · intro h k hk
    exact eq_of_beq (h k (List.mem_range.mpr hk))
  · intro h k hk
    exact beq_iff_eq.mpr (h k (List.mem_range.mp hk))
theorem sameB_t {F G : Nat → Nat} {i j : Nat} (h : ∀ k, k < 64 → F (i + k) = G (j + k)) : sameB F i G j = true := sameB_iff.mpr h
theorem sameB_f {F G : Nat → Nat} {i j k : Nat} (hk : k < 64) (h : F (i + k) ≠ G (j + k)) : sameB F i G j = false := by
  cases q : sameB F i G j
  · rfl
  · exact absurd (sameB_iff.mp q k hk) h
/-- r is the least place below n where P holds, or -1 -/
def isFind (P : Nat → Bool) (n : Nat) (r : Int32) : Prop := (r = -1 ∧ ∀ i, i < n → P i = false) ∨ ∃ i, i < n ∧ r = nI i ∧ P i = true ∧ ∀ j, j < i → P j = false
theorem isFind_uniq {P P' : Nat → Bool} {n : Nat} {r r' : Int32} (hn : n < 2 ^ 31) (he : ∀ i, i < n → P i = P' i) (h : isFind P n r) (h' : isFind P' n r') : r = r' := by
  rcases h with ⟨h1, h2⟩ | ⟨i, h1, h2, h3, h4⟩ <;> rcases h' with ⟨g1, g2⟩ | ⟨j, g1, g2, g3, g4⟩
  · rw [h1, g1]
  · have := h2 j g1
    rw [he j g1, g3] at this
    exact absurd this (by decide)
  · have := g2 i h1
    rw [← he i h1, h3] at this
    exact absurd this (by decide)
  · have h5 : i = j := by
      rcases Nat.lt_trichotomy i j with q | q | q
      · have := g4 i q
        rw [← he i h1, h3] at this
        exact absurd this (by decide)
      · exact q
      · have := h4 j q
        rw [he j g1, g3] at this
        exact absurd this (by decide)
    rw [h2, g2, h5]
/-- how many places below n where P does not hold -/
def cntN (P : Nat → Bool) : Nat → Nat
  | 0 => 0
  | n + 1 => cntN P n + (!P n).toNat
theorem cntN_le (P : Nat → Bool) : ∀ n, cntN P n ≤ n
  | 0 => Nat.le_refl 0
  | n + 1 => by
    have h1 := cntN_le P n
    have h2 := bt_le (!P n)
    show cntN P n + (!P n).toNat ≤ n + 1
    omega
theorem cntN_t {P : Nat → Bool} {n : Nat} (h : P n = true) : cntN P (n + 1) = cntN P n := by show cntN P n + (!P n).toNat = _; rw [h]; rfl
theorem cntN_f {P : Nat → Bool} {n : Nat} (h : P n = false) : cntN P (n + 1) = cntN P n + 1 := by show cntN P n + (!P n).toNat = _; rw [h]; rfl
theorem cntN_eq {P P' : Nat → Bool} : ∀ {n : Nat}, (∀ i, i < n → P i = P' i) → cntN P n = cntN P' n
  | 0, _ => rfl
  | n + 1, h => by
    show cntN P n + (!P n).toNat = cntN P' n + (!P' n).toNat
    rw [cntN_eq (fun i hi => h i (Nat.lt_succ_of_lt hi)), h n (Nat.lt_succ_self n)]
/-- an array's contents matter below its length alone -/
theorem nF_cell {cA : ClassId} {n : Nat} {F G : Nat → Nat} (h : ∀ j, j < n → F j = G j) : vp_cell cA (n, .inl (nF F)) = vp_cell cA (n, .inl (nF G)) := by
  show arrV cA n (fun j => .int (nF F j)) = arrV cA n (fun j => .int (nF G j))
  unfold arrV
  congr 1
  apply Array.ext
  · simp
  · intro i h1 h2
    simp at h1
    simp [nF, h i h1]
theorem hP_arr {D : va_G} {cl : List vw_C} {ws : va_W} {H : Heap} {q0 a : Nat} {cA : ClassId} {n : Nat} {F G : Nat → Nat} (hP : va_P D cl ws H) (hq : ws[q0]? = some (a, .inl (cA, n, .inl (nF F)))) (h : ∀ j, j < n → F j = G j) : va_P D cl (ws.set q0 (a, .inl (cA, n, .inl (nF G)))) H := by
  intro k q hk
  rw [List.getElem?_set] at hk
  by_cases e : q0 = k
  · subst e
    rw [if_pos rfl] at hk
    by_cases hl : q0 < ws.length
    · rw [if_pos hl] at hk
      cases hk
      have := hP q0 _ hq
      show H[a]? = some (vp_cell cA (n, .inl (nF G)))
      rw [← nF_cell h]
      exact this
    · rw [if_neg hl] at hk
      cases hk
  · rw [if_neg e] at hk
    exact hP k q hk
