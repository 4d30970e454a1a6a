/-! THE READING OF AN UPDATE, pure: bytes beyond the end read as 0; x is the place as if there were no end -/
def rd (W : Nat → Nat) (en i : Nat) : Nat := if i < en then W i else 0
def wq (en x wg : Nat) : Nat := if x ≤ en then wg else 1
def pr2 (W : Nat → Nat) (en i : Nat) : Nat := rd W en i * 256 + rd W en (i + 1)
theorem rd_in {W : Nat → Nat} {en i : Nat} (h : i < en) : rd W en i = W i := if_pos h
theorem rd_out {W : Nat → Nat} {en i : Nat} (h : en ≤ i) : rd W en i = 0 := if_neg (by omega)
theorem rd_lt {W : Nat → Nat} (h : ∀ j, W j < 256) (en i : Nat) : rd W en i < 256 := by
  unfold rd
  split
  · exact h i
  · decide
theorem pr2_lt {W : Nat → Nat} (h : ∀ j, W j < 256) (en i : Nat) : pr2 W en i < 65536 := by
  have h1 := rd_lt h en i
  have h2 := rd_lt h en (i + 1)
  unfold pr2
  omega
theorem wq_in {en x wg : Nat} (h : x ≤ en) : wq en x wg = wg := if_pos h
theorem wq_out {en x wg : Nat} (h : en < x) : wq en x wg = 1 := if_neg (by omega)
theorem wq_1 (en x : Nat) : wq en x 1 = 1 := by unfold wq; split <;> rfl
theorem wq_le {wg : Nat} (h : wg ≤ 1) (en x : Nat) : wq en x wg ≤ 1 := by unfold wq; split <;> omega
theorem wq_0 {en x wg : Nat} (h : wg ≤ 1) : wq en x wg = 0 ↔ x ≤ en ∧ wg = 0 := by
  unfold wq
  split <;> omega
/-- a row with one colour from lo to hi; with G's values from o on, k of them -/
def pnt (B : Nat → Nat) (lo hi c : Nat) : Nat → Nat := fun j => if lo ≤ j ∧ j < hi then c else B j
theorem pnt_0 (B : Nat → Nat) (lo c : Nat) : pnt B lo lo c = B := by
  funext j
  unfold pnt
  rw [if_neg (by omega)]
theorem pnt_s {B : Nat → Nat} {lo hi c : Nat} (h : lo ≤ hi) : up (pnt B lo hi c) hi c = pnt B lo (hi + 1) c := by
  funext j
  unfold up pnt
  by_cases e : j = hi
  · rw [if_pos e, if_pos (by omega)]
  · rw [if_neg e]
    by_cases g : lo ≤ j ∧ j < hi
    · rw [if_pos g, if_pos (by omega)]
    · rw [if_neg g, if_neg (by omega)]
theorem pset_in {B : Nat → Nat} {o k : Nat} {G : Nat → Nat} {j : Nat} (h1 : o ≤ j) (h2 : j < o + k) : pset B o k G j = G (j - o) := if_pos ⟨h1, h2⟩
theorem pset_out {B : Nat → Nat} {o k : Nat} {G : Nat → Nat} {j : Nat} (h : j < o ∨ o + k ≤ j) : pset B o k G j = B j := if_neg (by omega)
theorem pset_eq {B : Nat → Nat} {o k : Nat} {G G' : Nat → Nat} (h : ∀ j, j < k → G j = G' j) : pset B o k G = pset B o k G' := by
  funext j
  by_cases g : o ≤ j ∧ j < o + k
  · rw [pset_in g.1 g.2, pset_in g.1 g.2, h _ (by omega)]
  · rw [pset_out (by omega), pset_out (by omega)]
theorem pset_lt {B : Nat → Nat} {b : Nat} (hB : ∀ j, B j < b) {o k : Nat} {G : Nat → Nat} (hG : ∀ j, j < k → G j < b) : ∀ j, pset B o k G j < b := fun j => by
  by_cases g : o ≤ j ∧ j < o + k
  · rw [pset_in g.1 g.2]; exact hG _ (by omega)
  · rw [pset_out (by omega)]; exact hB j
theorem pnt_lt {B : Nat → Nat} {b : Nat} (hB : ∀ j, B j < b) {lo hi c : Nat} (hc : c < b) : ∀ j, pnt B lo hi c j < b := fun j => by
  unfold pnt
  split
  · exact hc
  · exact hB j
theorem cpy_pset (F B : Nat → Nat) (sp dp n : Nat) : va_cpy F B sp dp n = pset B dp n (fun k => F (sp + k)) := rfl
theorem pnt_pset (B : Nat → Nat) (o n c : Nat) : pnt B o (o + n) c = pset B o n (fun _ => c) := rfl
/-- the place of a pixel's colour in bits that begin at y, w a pixel -/
def bidx (W : Nat → Nat) (en y w k : Nat) : Nat := rd W en (y + k * w / 8) / 2 ^ (8 - k * w % 8 - w) % 2 ^ w
def gdN (f : Nat → Nat) (n : Nat) : Nat → Bool
  | 0 => true
  | k + 1 => gdN f n k && decide (f k < n)
theorem gdN_iff {f : Nat → Nat} {n : Nat} : ∀ {k : Nat}, gdN f n k = true ↔ ∀ j, j < k → f j < n
  | 0 => ⟨fun _ j hj => absurd hj (Nat.not_lt_zero j), fun _ => rfl⟩
  | k + 1 => by
    show (gdN f n k && decide (f k < n)) = true ↔ _
    rw [Bool.and_eq_true, gdN_iff, decide_eq_true_iff]
    constructor
    · rintro ⟨h1, h2⟩ j hj
      rcases (show j < k ∨ j = k by omega) with q | q
      · exact h1 j q
      · rw [q]; exact h2
    · intro h
      exact ⟨fun j hj => h j (by omega), h k (Nat.lt_succ_self k)⟩
theorem gdN_t {f : Nat → Nat} {n k : Nat} (h : f k < n) : gdN f n (k + 1) = gdN f n k := by
  show (gdN f n k && decide (f k < n)) = _
  rw [decide_eq_true h, Bool.and_true]
theorem gdN_f {f : Nat → Nat} {n k : Nat} (h : ¬ f k < n) : gdN f n (k + 1) = false := by
  show (gdN f n k && decide (f k < n)) = _
  rw [decide_eq_false h, Bool.and_false]
/-- runs: pixels and how many, after i of them, from y on -/
def rnS (W : Nat → Nat) (en y : Nat) : Nat → (Nat → Nat) × Nat
  | 0 => (fun _ => 0, 0)
  | i + 1 => (fun k => if (rnS W en y i).2 ≤ k ∧ k < (rnS W en y i).2 + rd W en (y + 3 * i) then pr2 W en (y + 3 * i + 1) else (rnS W en y i).1 k, (rnS W en y i).2 + rd W en (y + 3 * i))
def okR (W : Nat → Nat) (en y : Nat) : Nat → Bool
  | 0 => true
  | i + 1 => okR W en y i && (decide (rd W en (y + 3 * i) ≠ 0) && decide ((rnS W en y i).2 + rd W en (y + 3 * i) ≤ 64))
theorem okR_t {W : Nat → Nat} {en y i : Nat} (h1 : rd W en (y + 3 * i) ≠ 0) (h2 : (rnS W en y i).2 + rd W en (y + 3 * i) ≤ 64) : okR W en y (i + 1) = okR W en y i := by
  show (okR W en y i && (decide _ && decide _)) = _
  rw [decide_eq_true h1, decide_eq_true h2, Bool.and_true, Bool.and_true]
theorem okR_f {W : Nat → Nat} {en y i : Nat} (h : rd W en (y + 3 * i) = 0 ∨ 64 < (rnS W en y i).2 + rd W en (y + 3 * i)) : okR W en y (i + 1) = false := by
  show (okR W en y i && (decide _ && decide _)) = _
  rcases h with h | h
  · rw [decide_eq_false (by omega : ¬ rd W en (y + 3 * i) ≠ 0), Bool.false_and, Bool.and_false]
  · rw [decide_eq_false (by omega : ¬ (rnS W en y i).2 + rd W en (y + 3 * i) ≤ 64), Bool.and_false, Bool.and_false]
theorem okR_mono {W : Nat → Nat} {en y i : Nat} : ∀ {n : Nat}, i ≤ n → okR W en y n = true → okR W en y i = true := by
  intro n
  induction n with
  | zero => intro h g; rw [show i = 0 by omega]; exact g
  | succ n ih =>
    intro h g
    rcases (show i ≤ n ∨ i = n + 1 by omega) with q | q
    · refine ih q ?_
      have g2 : (okR W en y n && _) = true := g
      rw [Bool.and_eq_true] at g2
      exact g2.1
    · rw [q]; exact g
theorem rnS_lt {W : Nat → Nat} (h : ∀ j, W j < 256) (en y : Nat) : ∀ i k, (rnS W en y i).1 k < 65536
  | 0, k => by show (0 : Nat) < _; decide
  | i + 1, k => by
    show (if _ then _ else _) < 65536
    split
    · exact pr2_lt h _ _
    · exact rnS_lt h en y i k
theorem rnS_pset {W : Nat → Nat} {en y i o : Nat} {B : Nat → Nat} : pnt (pset B o (rnS W en y i).2 (rnS W en y i).1) (o + (rnS W en y i).2) (o + (rnS W en y i).2 + rd W en (y + 3 * i)) (pr2 W en (y + 3 * i + 1)) = pset B o (rnS W en y (i + 1)).2 (rnS W en y (i + 1)).1 := by
  funext j
  have e2 : (rnS W en y (i + 1)).2 = (rnS W en y i).2 + rd W en (y + 3 * i) := rfl
  have e1 : ∀ k, (rnS W en y (i + 1)).1 k = if (rnS W en y i).2 ≤ k ∧ k < (rnS W en y i).2 + rd W en (y + 3 * i) then pr2 W en (y + 3 * i + 1) else (rnS W en y i).1 k := fun k => rfl
  by_cases g : o + (rnS W en y i).2 ≤ j ∧ j < o + (rnS W en y i).2 + rd W en (y + 3 * i)
  · rw [pset_in (by omega) (by omega), e1, if_pos (by omega)]
    exact if_pos g
  · rw [show pnt _ _ _ _ j = pset B o (rnS W en y i).2 (rnS W en y i).1 j from if_neg g]
    by_cases q : o ≤ j ∧ j < o + (rnS W en y i).2
    · rw [pset_in q.1 q.2, pset_in (by omega) (by omega), e1, if_neg (by omega)]
    · rw [pset_out (by omega), pset_out (by omega)]
/-- a record's content from y on: is it one, how long, which pixels -/
def rOk (W : Nat → Nat) (en us kd y : Nat) : Bool := match kd with
  | 0 => true
  | 1 => decide (rd W en y < 48)
  | 2 => decide (rd W en y < us)
  | 3 => true
  | 4 => (rd W en y == 3 || rd W en y == 4) && gdN (bidx W en (y + 1 + 2 * rd W en y) 2) (rd W en y) 64
  | 5 => okR W en (y + 1) (rd W en y) && (rnS W en (y + 1) (rd W en y)).2 == 64
  | 6 => true
  | _ => false
def rLen (W : Nat → Nat) (en kd y : Nat) : Nat := match kd with
  | 0 => 2
  | 1 => 1
  | 2 => 1
  | 3 => 12
  | 4 => 1 + 2 * rd W en y + 16
  | 5 => 1 + 3 * rd W en y
  | _ => 128
def rPix (W : Nat → Nat) (en kd y : Nat) (F C : Nat → Nat) (k : Nat) : Nat := match kd with
  | 0 => pr2 W en y
  | 1 => F (rd W en y * 64 + k)
  | 2 => C (rd W en y * 64 + k)
  | 3 => pr2 W en (y + 2 * bidx W en (y + 4) 1 k)
  | 4 => pr2 W en (y + 1 + 2 * bidx W en (y + 1 + 2 * rd W en y) 2 k)
  | 5 => (rnS W en (y + 1) (rd W en y)).1 k
  | _ => pr2 W en (y + 2 * k)
def rVal (W : Nat → Nat) (en us x : Nat) : Bool := decide (rd W en (x + 1) < 48) && (rOk W en us (rd W en x) (x + 2) && decide (x + 2 + rLen W en (rd W en x) (x + 2) ≤ en))
theorem rPix_lt {W F C : Nat → Nat} (hW : ∀ j, W j < 256) (hF : ∀ j, F j < 65536) (hC : ∀ j, C j < 65536) (en kd y k : Nat) : rPix W en kd y F C k < 65536 := by
  unfold rPix
  split
  · exact pr2_lt hW _ _
  · exact hF _
  · exact hC _
  · exact pr2_lt hW _ _
  · exact pr2_lt hW _ _
  · exact rnS_lt hW _ _ _ _
  · exact pr2_lt hW _ _
theorem held_a {k w : Nat} (hw : w = 1 ∨ w = 2) (h : (8 - k * w % 8) % 8 = 0) : k * w % 8 = 0 := by omega
theorem held_b {k w : Nat} (hw : w = 1 ∨ w = 2) : (8 - (k + 1) * w % 8) % 8 = 8 - k * w % 8 - w := by rcases hw with rfl | rfl <;> omega
