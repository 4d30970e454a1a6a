/-! THE CODING OF A TILE, pure: lists of bytes, the colours of a tile, its runs, kinds of records and their choice -/
/-- a list of bytes written into a row from a place on -/
def wr (B : Nat → Nat) (i : Nat) (L : List Nat) : Nat → Nat := fun j => if i ≤ j ∧ j - i < L.length then L.getD (j - i) 0 else B j
theorem wr_nil (B : Nat → Nat) (i : Nat) : wr B i [] = B := by
  funext j
  unfold wr
  rw [if_neg (by simp)]
theorem wr_in {B : Nat → Nat} {i j : Nat} {L : List Nat} (h1 : i ≤ j) (h2 : j - i < L.length) : wr B i L j = L.getD (j - i) 0 := if_pos ⟨h1, h2⟩
theorem wr_out {B : Nat → Nat} {i j : Nat} {L : List Nat} (h : j < i ∨ i + L.length ≤ j) : wr B i L j = B j := if_neg (by omega)
theorem wr_snoc (B : Nat → Nat) (i : Nat) (L : List Nat) (x : Nat) : up (wr B i L) (i + L.length) x = wr B i (L ++ [x]) := by
  funext j
  by_cases h : j = i + L.length
  · subst h
    rw [up_s, wr_in (by omega) (by simp)]
    rw [List.getD_eq_getElem?_getD, show i + L.length - i = L.length by omega, List.getElem?_append_right (Nat.le_refl _)]
    simp
  · rw [up_n _ _ h]
    by_cases h1 : i ≤ j ∧ j - i < L.length
    · rw [wr_in h1.1 h1.2, wr_in h1.1 (by simp; omega)]
      rw [List.getD_eq_getElem?_getD, List.getD_eq_getElem?_getD, List.getElem?_append_left h1.2]
    · rw [wr_out (by omega), wr_out (by simp; omega)]
theorem wr_app (B : Nat → Nat) (i : Nat) (L M : List Nat) : wr (wr B i L) (i + L.length) M = wr B i (L ++ M) := by
  funext j
  by_cases h1 : i + L.length ≤ j ∧ j - (i + L.length) < M.length
  · rw [wr_in h1.1 h1.2, wr_in (by omega) (by simp; omega)]
    rw [List.getD_eq_getElem?_getD, List.getD_eq_getElem?_getD, List.getElem?_append_right (by omega), show j - i - L.length = j - (i + L.length) by omega]
  · rw [wr_out (by omega)]
    by_cases h2 : i ≤ j ∧ j - i < L.length
    · rw [wr_in h2.1 h2.2, wr_in h2.1 (by simp; omega)]
      rw [List.getD_eq_getElem?_getD, List.getD_eq_getElem?_getD, List.getElem?_append_left h2.2]
    · rw [wr_out (by omega), wr_out (by simp; omega)]
theorem wr_lt {B : Nat → Nat} {i b : Nat} {L : List Nat} (hB : ∀ j, B j < b) (hL : ∀ x ∈ L, x < b) : ∀ j, wr B i L j < b := fun j => by
  by_cases h : i ≤ j ∧ j - i < L.length
  · rw [wr_in h.1 h.2, List.getD_eq_getElem?_getD, List.getElem?_eq_getElem h.2]
    exact hL _ (List.getElem_mem h.2)
  · rw [wr_out (by omega)]; exact hB j
def p2 (x : Nat) : List Nat := [x / 256 % 256, x % 256]
theorem wr_p2 (B : Nat → Nat) (i : Nat) (L : List Nat) (x : Nat) : up (up (wr B i L) (i + L.length) (x / 256 % 256)) (i + L.length + 1) (x % 256) = wr B i (L ++ p2 x) := by
  have e := wr_snoc B i (L ++ [x / 256 % 256]) (x % 256)
  rw [List.length_append] at e
  rw [wr_snoc, show i + L.length + 1 = i + (L.length + [x / 256 % 256].length) from rfl, e, List.append_assoc]
  rfl
theorem p2_lt (x : Nat) : ∀ y ∈ p2 x, y < 256 := by
  intro y hy
  simp only [p2, List.mem_cons, List.not_mem_nil, or_false] at hy
  rcases hy with rfl | rfl <;> exact Nat.mod_lt _ (by decide)
def rawL (T : Nat → Nat) : Nat → List Nat
  | 0 => []
  | k + 1 => rawL T k ++ p2 (T k)
theorem rawL_len (T : Nat → Nat) : ∀ k, (rawL T k).length = 2 * k
  | 0 => rfl
  | k + 1 => by
    show (rawL T k ++ p2 (T k)).length = _
    rw [List.length_append, rawL_len T k]
    show 2 * k + 2 = _
    omega
theorem rawL_lt (T : Nat → Nat) : ∀ k, ∀ x ∈ rawL T k, x < 256
  | 0, x, h => by cases h
  | k + 1, x, h => by
    rcases List.mem_append.mp h with h | h
    · exact rawL_lt T k x h
    · exact p2_lt _ x h
theorem rawL_eq {T T' : Nat → Nat} : ∀ {k : Nat}, (∀ j, j < k → T j = T' j) → rawL T k = rawL T' k
  | 0, _ => rfl
  | k + 1, h => by
    show rawL T k ++ p2 (T k) = rawL T' k ++ p2 (T' k)
    rw [rawL_eq (fun j hj => h j (Nat.lt_succ_of_lt hj)), h k (Nat.lt_succ_self k)]
/-- bits of pixels, w a pixel: what is held, what has gone out -/
def bacc (f : Nat → Nat) (w : Nat) : Nat → Nat
  | 0 => 0
  | k + 1 => if (k + 1) * w % 8 = 0 then 0 else bacc f w k * 2 ^ w + f k
def bL (f : Nat → Nat) (w : Nat) : Nat → List Nat
  | 0 => []
  | k + 1 => if (k + 1) * w % 8 = 0 then bL f w k ++ [bacc f w k * 2 ^ w + f k] else bL f w k
theorem bacc_eq {f g : Nat → Nat} {w : Nat} : ∀ {k : Nat}, (∀ j, j < k → f j = g j) → bacc f w k = bacc g w k ∧ bL f w k = bL g w k
  | 0, _ => ⟨rfl, rfl⟩
  | k + 1, h => by
    obtain ⟨h1, h2⟩ := bacc_eq (w := w) (fun j hj => h j (Nat.lt_succ_of_lt hj))
    have h3 := h k (Nat.lt_succ_self k)
    unfold bacc bL
    rw [h1, h2, h3]
    exact ⟨rfl, rfl⟩
theorem bL_len {f : Nat → Nat} {w : Nat} (hw : w = 1 ∨ w = 2) : ∀ k, (bL f w k).length = k * w / 8
  | 0 => by rcases hw with rfl | rfl <;> rfl
  | k + 1 => by
    have h := bL_len (f := f) hw k
    unfold bL
    rcases hw with rfl | rfl <;> split <;> (try rw [List.length_append]) <;> (try rw [h]) <;> (try simp only [List.length_cons, List.length_nil]) <;> omega
theorem bacc_lt {f : Nat → Nat} {w n : Nat} (hw : w = 1 ∨ w = 2) (hf : ∀ j, j < n → f j < 2 ^ w) : ∀ k, k ≤ n → bacc f w k < 2 ^ (k * w % 8)
  | 0, _ => by rcases hw with rfl | rfl <;> exact Nat.zero_lt_one
  | k + 1, hk => by
    have h := bacc_lt hw hf k (by omega)
    have h2 := hf k (by omega)
    unfold bacc
    rcases hw with rfl | rfl
    · by_cases h3 : (k + 1) * 1 % 8 = 0
      · rw [if_pos h3, h3]; decide
      · rw [if_neg h3]
        rw [show (k + 1) * 1 % 8 = k * 1 % 8 + 1 by omega, Nat.pow_succ]
        omega
    · by_cases h3 : (k + 1) * 2 % 8 = 0
      · rw [if_pos h3, h3]; decide
      · rw [if_neg h3]
        rw [show (k + 1) * 2 % 8 = k * 2 % 8 + 2 by omega, Nat.pow_add]
        omega
theorem bacc_128 {f : Nat → Nat} {w n : Nat} (hw : w = 1 ∨ w = 2) (hf : ∀ j, j < n → f j < 2 ^ w) (k : Nat) (hk : k ≤ n) : bacc f w k < 128 := by
  have h := bacc_lt hw hf k hk
  have h3 : 2 ^ (k * w % 8) ≤ 2 ^ 7 := Nat.pow_le_pow_right (by decide) (by omega)
  omega
theorem bval_lt {f : Nat → Nat} {w n : Nat} (hw : w = 1 ∨ w = 2) (hf : ∀ j, j < n → f j < 2 ^ w) (k : Nat) (hk : k < n) : bacc f w k * 2 ^ w + f k < 256 := by
  have h := bacc_lt hw hf k (by omega)
  have h2 := hf k hk
  rcases hw with rfl | rfl
  · have h3 : 2 ^ (k * 1 % 8) ≤ 2 ^ 7 := Nat.pow_le_pow_right (by decide) (by omega)
    omega
  · have h3 : 2 ^ (k * 2 % 8) ≤ 2 ^ 6 := Nat.pow_le_pow_right (by decide) (by omega)
    omega
theorem bL_lt {f : Nat → Nat} {w n : Nat} (hw : w = 1 ∨ w = 2) (hf : ∀ j, j < n → f j < 2 ^ w) : ∀ k, k ≤ n → ∀ x ∈ bL f w k, x < 256
  | 0, _, x, h => by cases h
  | k + 1, hk, x, h => by
    unfold bL at h
    split at h
    · rcases List.mem_append.mp h with h | h
      · exact bL_lt hw hf k (by omega) x h
      · rw [List.mem_singleton] at h
        subst h
        exact bval_lt hw hf k (by omega)
    · exact bL_lt hw hf k (by omega) x h
/-- runs: where a pixel's run begins; what has gone out -/
def rst (T : Nat → Nat) : Nat → Nat
  | 0 => 0
  | k + 1 => if T (k + 1) = T k then rst T k else k + 1
theorem rst_le (T : Nat → Nat) : ∀ k, rst T k ≤ k
  | 0 => Nat.le_refl 0
  | k + 1 => by
    have := rst_le T k
    unfold rst
    split <;> omega
def rend (T : Nat → Nat) (k : Nat) : Prop := k = 63 ∨ T (k + 1) ≠ T k
theorem rend_or (T : Nat → Nat) (k : Nat) : rend T k ∨ ¬ rend T k := Classical.em _
noncomputable def runL (T : Nat → Nat) : Nat → List Nat
  | 0 => []
  | k + 1 => if (k == 63 || T (k + 1) != T k) = true then runL T k ++ (k + 1 - rst T k) :: p2 (T k) else runL T k
def rendB (T : Nat → Nat) (k : Nat) : Bool := k == 63 || T (k + 1) != T k
theorem rendB_t {T : Nat → Nat} {k : Nat} (h : k = 63 ∨ T (k + 1) ≠ T k) : rendB T k = true := by
  unfold rendB
  rcases h with h | h
  · rw [h]; rfl
  · simp [h]
theorem rendB_f {T : Nat → Nat} {k : Nat} (h1 : k ≠ 63) (h2 : T (k + 1) = T k) : ¬ rendB T k = true := by
  unfold rendB
  simp [h1, h2]
theorem runL_t {T : Nat → Nat} {k : Nat} (h : rendB T k = true) : runL T (k + 1) = runL T k ++ (k + 1 - rst T k) :: p2 (T k) := if_pos h
theorem runL_f {T : Nat → Nat} {k : Nat} (h : ¬ rendB T k = true) : runL T (k + 1) = runL T k := if_neg h
theorem runL_lt (T : Nat → Nat) : ∀ k, k ≤ 64 → ∀ x ∈ runL T k, x < 256
  | 0, _, x, h => by cases h
  | k + 1, hk, x, h => by
    by_cases hr : rendB T k = true
    · rw [runL_t hr] at h
      rcases List.mem_append.mp h with h | h
      · exact runL_lt T k (by omega) x h
      · rcases List.mem_cons.mp h with h | h
        · omega
        · exact p2_lt _ x h
    · rw [runL_f hr] at h
      exact runL_lt T k (by omega) x h
/-- as many ends of runs as beginnings -/
theorem runL_len (T : Nat → Nat) : ∀ k, k ≤ 63 → (runL T k).length + 3 = 3 * runsN T (k + 1)
  | 0, _ => by simp [runL, runsN, sameP]
  | k + 1, hk => by
    have h := runL_len T k (by omega)
    by_cases e : T (k + 1) = T k
    · rw [runL_f (rendB_f (by omega) e), runsN_t (by simp [sameP, e]), h]
    · rw [runL_t (rendB_t (Or.inr e)), runsN_f (by simp [sameP, e]), List.length_append]
      show (runL T k).length + 3 + 3 = _
      omega
theorem runL_64 (T : Nat → Nat) : (runL T 64).length = 3 * runsN T 64 := by
  have h := runL_len T 63 (by decide)
  rw [runL_t (rendB_t (Or.inl rfl)), List.length_append, ← h]
  rfl
theorem runsN_pos (T : Nat → Nat) : 0 < runsN T 64 := by
  have h := runL_len T 63 (by decide)
  show 0 < runsN T (63 + 1)
  omega
/-- the least place below n of a colour, or n -/
def numOf (P : Nat → Nat) (n x : Nat) : Nat := (List.range n).findIdx (fun i => P i == x)
theorem numOf_is {P : Nat → Nat} {n x i : Nat} (hi : i < n) (h : P i = x) (hl : ∀ j, j < i → P j ≠ x) : numOf P n x = i := by
  unfold numOf
  rw [List.findIdx_eq (by simpa using hi)]
  refine ⟨by simp [h], fun j hj => ?_⟩
  simp [hl j hj]
theorem numOf_no {P : Nat → Nat} {n x : Nat} (hl : ∀ j, j < n → P j ≠ x) : numOf P n x = n := by
  unfold numOf
  have : (List.range n).findIdx (fun i => P i == x) = (List.range n).length := List.findIdx_eq_length.mpr (fun i hi => by simp [hl i (List.mem_range.mp hi)])
  rw [this, List.length_range]
theorem numOf_le (P : Nat → Nat) (n x : Nat) : numOf P n x ≤ n := by
  unfold numOf
  have := List.findIdx_le_length (xs := List.range n) (p := fun i => P i == x)
  rw [List.length_range] at this
  exact this
theorem numOf_lt {P : Nat → Nat} {n x i : Nat} (hi : i < n) (h : P i = x) : numOf P n x < n := by
  unfold numOf
  have : (List.range n).findIdx (fun i => P i == x) < (List.range n).length := List.findIdx_lt_length.mpr ⟨i, List.mem_range.mpr hi, by simp [h]⟩
  rw [List.length_range] at this
  exact this
theorem numOf_eq {P P' : Nat → Nat} {n x : Nat} (h : ∀ i, i < n → P i = P' i) : numOf P n x = numOf P' n x := by
  by_cases q : ∃ i, i < n ∧ P i = x
  · obtain ⟨i, ⟨h1, h2⟩, h3⟩ := pk_least _ q
    rw [numOf_is h1 h2 (fun j hj e => h3 j hj ⟨by omega, e⟩), numOf_is h1 ((h i h1).symm.trans h2) (fun j hj e => h3 j hj ⟨by omega, (h j (by omega)).trans e⟩)]
  · rw [numOf_no (fun j hj e => q ⟨j, hj, e⟩), numOf_no (fun j hj e => q ⟨j, hj, (h j hj).trans e⟩)]
theorem wr_snoc' {B : Nat → Nat} {i s : Nat} {L : List Nat} {x : Nat} (h : s = i + L.length) : up (wr B i L) s x = wr B i (L ++ [x]) := by rw [h]; exact wr_snoc B i L x
theorem wr_p2' {B : Nat → Nat} {i s : Nat} {L : List Nat} {x : Nat} (h : s = i + L.length) : up (up (wr B i L) s (x / 256 % 256)) (s + 1) (x % 256) = wr B i (L ++ p2 x) := by rw [h]; exact wr_p2 B i L x
theorem wr_app' {B : Nat → Nat} {i s : Nat} {L M : List Nat} (h : s = i + L.length) : wr (wr B i L) s M = wr B i (L ++ M) := by rw [h]; exact wr_app B i L M
theorem or_add {a b w : Nat} (hb : b < 2 ^ w) : a * 2 ^ w ||| b = a * 2 ^ w + b := by
  rw [Nat.mul_comm, ← Nat.two_pow_add_eq_or_of_lt hb]
theorem held_8 {k w : Nat} (hw : w = 1 ∨ w = 2) (h : k * w % 8 + w = 8) : (k + 1) * w % 8 = 0 := by rcases hw with rfl | rfl <;> omega
theorem held_n {k w : Nat} (hw : w = 1 ∨ w = 2) (h : k * w % 8 + w ≠ 8) : (k + 1) * w % 8 = k * w % 8 + w := by rcases hw with rfl | rfl <;> omega
theorem bL_t {f : Nat → Nat} {w k : Nat} (h : (k + 1) * w % 8 = 0) : bL f w (k + 1) = bL f w k ++ [bacc f w k * 2 ^ w + f k] := if_pos h
theorem bL_f {f : Nat → Nat} {w k : Nat} (h : ¬ (k + 1) * w % 8 = 0) : bL f w (k + 1) = bL f w k := if_neg h
theorem bacc_t {f : Nat → Nat} {w k : Nat} (h : (k + 1) * w % 8 = 0) : bacc f w (k + 1) = 0 := if_pos h
theorem bacc_f {f : Nat → Nat} {w k : Nat} (h : ¬ (k + 1) * w % 8 = 0) : bacc f w (k + 1) = bacc f w k * 2 ^ w + f k := if_neg h
/-- a sum of m places from f on -/
def sumF (B : Nat → Nat) (f : Nat) : Nat → Nat
  | 0 => 0
  | m + 1 => sumF B f m + B (f + m)
theorem sumF_s (B : Nat → Nat) {f k : Nat} (h : f ≤ k) : sumF B f (k + 1 - f) = sumF B f (k - f) + B k := by
  rw [show k + 1 - f = (k - f) + 1 by omega]
  show sumF B f (k - f) + B (f + (k - f)) = _
  rw [show f + (k - f) = k by omega]
theorem sumF_le {B : Nat → Nat} {b : Nat} (h : ∀ j, B j < b) (f : Nat) : ∀ m, sumF B f m ≤ b * m
  | 0 => Nat.zero_le _
  | m + 1 => by
    have h1 := sumF_le h f m
    have h2 := h (f + m)
    show sumF B f m + B (f + m) ≤ b * (m + 1)
    rw [Nat.mul_succ]
    omega
theorem sumF_eq {B C : Nat → Nat} {f g : Nat} : ∀ {m : Nat}, (∀ j, j < m → B (f + j) = C (g + j)) → sumF B f m = sumF C g m
  | 0, _ => rfl
  | m + 1, h => by
    show sumF B f m + B (f + m) = sumF C g m + C (g + m)
    rw [sumF_eq (fun j hj => h j (Nat.lt_succ_of_lt hj)), h m (Nat.lt_succ_self m)]
/-- the colours of a tile's first k pixels, as they come first -/
def cols (T : Nat → Nat) : Nat → List Nat
  | 0 => []
  | k + 1 => if (cols T k).contains (T k) then cols T k else cols T k ++ [T k]
theorem cols_t {T : Nat → Nat} {k : Nat} (h : T k ∈ cols T k) : cols T (k + 1) = cols T k := if_pos (List.contains_iff_mem.mpr h)
theorem cols_f {T : Nat → Nat} {k : Nat} (h : T k ∉ cols T k) : cols T (k + 1) = cols T k ++ [T k] := if_neg (fun q => h (List.contains_iff_mem.mp q))
theorem cols_mem (T : Nat → Nat) : ∀ k j, j < k → T j ∈ cols T k
  | 0, j, h => absurd h (Nat.not_lt_zero j)
  | k + 1, j, h => by
    by_cases q : T k ∈ cols T k
    · rw [cols_t q]
      rcases (show j < k ∨ j = k by omega) with e | e
      · exact cols_mem T k j e
      · rw [e]; exact q
    · rw [cols_f q]
      rcases (show j < k ∨ j = k by omega) with e | e
      · exact List.mem_append_left _ (cols_mem T k j e)
      · rw [e]; exact List.mem_append_right _ (List.mem_singleton.mpr rfl)
theorem cols_eq {T T' : Nat → Nat} : ∀ {k : Nat}, (∀ j, j < k → T j = T' j) → cols T k = cols T' k
  | 0, _ => rfl
  | k + 1, h => by
    have h1 := cols_eq (fun j hj => h j (Nat.lt_succ_of_lt hj))
    unfold cols
    rw [h1, h k (Nat.lt_succ_self k)]
theorem cols_len (T : Nat → Nat) : ∀ k, (cols T k).length ≤ k
  | 0 => Nat.le_refl 0
  | k + 1 => by
    have h := cols_len T k
    by_cases q : T k ∈ cols T k
    · rw [cols_t q]; omega
    · rw [cols_f q, List.length_append]; simp only [List.length_cons, List.length_nil]; omega
theorem cols_lt {T : Nat → Nat} {b : Nat} (h : ∀ j, T j < b) : ∀ k, ∀ x ∈ cols T k, x < b
  | 0, x, hx => by cases hx
  | k + 1, x, hx => by
    by_cases q : T k ∈ cols T k
    · rw [cols_t q] at hx; exact cols_lt h k x hx
    · rw [cols_f q] at hx
      rcases List.mem_append.mp hx with g | g
      · exact cols_lt h k x g
      · rw [List.mem_singleton] at g; subst g; exact h k
def colN (T : Nat → Nat) : Nat := (cols T 64).length
def palA (T : Nat → Nat) (i : Nat) : Nat := (cols T 64).getD i 0
theorem getD_mem {L : List Nat} {i : Nat} (h : i < L.length) : L.getD i 0 ∈ L := by
  rw [List.getD_eq_getElem?_getD, List.getElem?_eq_getElem h]
  exact List.getElem_mem h
theorem mem_getD {L : List Nat} {x : Nat} (h : x ∈ L) : ∃ i, i < L.length ∧ L.getD i 0 = x := by
  obtain ⟨i, hi, e⟩ := List.getElem_of_mem h
  refine ⟨i, hi, ?_⟩
  rw [List.getD_eq_getElem?_getD, List.getElem?_eq_getElem hi]
  exact e
theorem getD_app {L M : List Nat} {i : Nat} (h : i < L.length) : (L ++ M).getD i 0 = L.getD i 0 := by
  rw [List.getD_eq_getElem?_getD, List.getD_eq_getElem?_getD, List.getElem?_append_left h]
theorem getD_new {L : List Nat} {x : Nat} : (L ++ [x]).getD L.length 0 = x := by
  rw [List.getD_eq_getElem?_getD, List.getElem?_append_right (Nat.le_refl _)]
  simp
/-- what the class's look holds against the colours themselves -/
def SR (L : List Nat) (P : Nat → Nat) (nc : Nat) : Prop := ((L.length ≤ 4 ∧ nc = L.length) ∨ (4 < L.length ∧ 4 < nc)) ∧ ∀ j, j < min L.length 4 → P j = L.getD j 0
theorem SR_me {L : List Nat} {P : Nat → Nat} {nc x : Nat} (h : SR L P nc) : SR (if L.contains x then L else L ++ [x]) (meP P nc x) (meN P nc x) := by
  obtain ⟨h1, h2⟩ := h
  rcases h1 with ⟨h1, h3⟩ | ⟨h1, h3⟩
  · have hin : inPal P nc x = true ↔ x ∈ L := by
      rw [inPal_iff]
      constructor
      · rintro ⟨i, g1, g2⟩
        rw [← g2, h2 i (by omega)]
        exact getD_mem (by omega)
      · intro g
        obtain ⟨i, g1, g2⟩ := mem_getD g
        exact ⟨i, by omega, by rw [h2 i (by omega)]; exact g2⟩
    by_cases q : x ∈ L
    · rw [if_pos (List.contains_iff_mem.mpr q), show meP P nc x = P from if_pos (hin.mpr q), show meN P nc x = nc from if_pos (hin.mpr q)]
      exact ⟨Or.inl ⟨h1, h3⟩, h2⟩
    · have q2 : ¬ inPal P nc x = true := fun g => q (hin.mp g)
      rw [if_neg (fun g => q (List.contains_iff_mem.mp g)), show meN P nc x = nc + 1 from if_neg q2]
      by_cases g : nc < 4
      · rw [show meP P nc x = up P nc x from (if_neg q2).trans (if_pos g)]
        refine ⟨Or.inl ⟨by simp; omega, by simp [h3]⟩, fun j hj => ?_⟩
        simp only [List.length_append, List.length_cons, List.length_nil] at hj
        by_cases e : j = nc
        · rw [e, up_s, h3, getD_new]
        · rw [up_n _ _ e, getD_app (by omega)]
          exact h2 j (by omega)
      · rw [show meP P nc x = P from (if_neg q2).trans (if_neg g)]
        refine ⟨Or.inr ⟨by simp; omega, by omega⟩, fun j hj => ?_⟩
        simp only [List.length_append, List.length_cons, List.length_nil] at hj
        rw [getD_app (by omega)]
        exact h2 j (by omega)
  · have hP : meP P nc x = P := by
      unfold meP
      split
      · rfl
      · rw [if_neg (by omega)]
    have hN : 4 < meN P nc x := by
      unfold meN
      split <;> omega
    rw [hP]
    split
    · exact ⟨Or.inr ⟨h1, hN⟩, h2⟩
    · refine ⟨Or.inr ⟨by simp; omega, hN⟩, fun j hj => ?_⟩
      rw [getD_app (by omega)]
      exact h2 j (by omega)
theorem stu_SR (T P0 : Nat → Nat) : ∀ k, SR (cols T k) (stu T P0 k).1 (stu T P0 k).2
  | 0 => ⟨Or.inl ⟨Nat.zero_le _, rfl⟩, fun j hj => absurd hj (by simp [cols])⟩
  | k + 1 => by
    have h := stu_SR T P0 k
    by_cases q : sameP T k = true
    · rw [stu_t q]
      have hk : k ≠ 0 ∧ T k = T (k - 1) := by
        unfold sameP at q
        simpa using q
      rw [cols_t (by rw [hk.2]; exact cols_mem T k (k - 1) (by omega))]
      exact h
    · rw [stu_f q]
      exact SR_me h
/-- kinds: which fit, how long, what follows; by the class's look, and by the tile alone -/
def fitC (nc : Nat) (tw en : Int32) (kd : Nat) : Bool := match kd with
  | 0 => nc == 1
  | 1 => tw != -1
  | 2 => en != -1
  | 3 => nc == 2
  | 4 => nc == 3 || nc == 4
  | _ => true
def lenC (nc ru kd : Nat) : Nat := match kd with
  | 0 => 2
  | 1 => 1
  | 2 => 1
  | 3 => 12
  | 4 => 1 + 2 * nc + 16
  | 5 => 1 + 3 * ru
  | _ => 128
noncomputable def contC (T P : Nat → Nat) (nc ru : Nat) (tw en : Int32) (kd : Nat) : List Nat := match kd with
  | 0 => p2 (P 0)
  | 1 => [tw.toNatClampNeg]
  | 2 => [en.toNatClampNeg]
  | 3 => rawL P nc ++ bL (fun k => numOf P nc (T k)) 1 64
  | 4 => nc :: (rawL P nc ++ bL (fun k => numOf P nc (T k)) 2 64)
  | 5 => ru :: runL T 64
  | _ => rawL T 64
def isBest (fit : Nat → Bool) (len : Nat → Nat) (kd : Nat) : Prop := kd < 7 ∧ fit kd = true ∧ ∀ j, j < 7 → fit j = true → len kd < len j ∨ (len kd = len j ∧ kd ≤ j)
theorem isBest_uniq {fit : Nat → Bool} {len : Nat → Nat} {a b : Nat} (ha : isBest fit len a) (hb : isBest fit len b) : a = b := by
  have h1 := ha.2.2 b hb.1 hb.2.1
  have h2 := hb.2.2 a ha.1 ha.2.1
  omega
theorem isBest_eq {fit fit' : Nat → Bool} {len len' : Nat → Nat} {a : Nat} (hf : ∀ j, j < 7 → fit j = fit' j) (hl : ∀ j, j < 7 → fit j = true → len j = len' j) (h : isBest fit len a) : isBest fit' len' a := by
  refine ⟨h.1, by rw [← hf a h.1]; exact h.2.1, fun j hj q => ?_⟩
  rw [← hf j hj] at q
  rw [← hl j hj q, ← hl a h.1 h.2.1]
  exact h.2.2 j hj q
theorem lt7 {j : Nat} (h : j < 7) : j = 0 ∨ j = 1 ∨ j = 2 ∨ j = 3 ∨ j = 4 ∨ j = 5 ∨ j = 6 := by omega
/-- a look that is a tile's: the kinds by it are the kinds by the tile's colours -/
theorem fit_SR {L : List Nat} {P : Nat → Nat} {nc : Nat} (h : SR L P nc) (tw en : Int32) {j : Nat} (hj : j < 7) : fitC nc tw en j = fitC L.length tw en j := by
  rcases h.1 with ⟨h1, h2⟩ | ⟨h1, h2⟩
  · rw [h2]
  · rcases lt7 hj with rfl | rfl | rfl | rfl | rfl | rfl | rfl
    · simp only [fitC]; rw [beq_false_of_ne (show nc ≠ 1 by omega), beq_false_of_ne (show L.length ≠ 1 by omega)]
    · rfl
    · rfl
    · simp only [fitC]; rw [beq_false_of_ne (show nc ≠ 2 by omega), beq_false_of_ne (show L.length ≠ 2 by omega)]
    · simp only [fitC]; rw [beq_false_of_ne (show nc ≠ 3 by omega), beq_false_of_ne (show nc ≠ 4 by omega), beq_false_of_ne (show L.length ≠ 3 by omega), beq_false_of_ne (show L.length ≠ 4 by omega)]
    · rfl
    · rfl
theorem len_SR {L : List Nat} {P : Nat → Nat} {nc ru : Nat} {tw en : Int32} (h : SR L P nc) {j : Nat} (hj : j < 7) (hf : fitC nc tw en j = true) : lenC nc ru j = lenC L.length ru j := by
  rcases lt7 hj with rfl | rfl | rfl | rfl | rfl | rfl | rfl <;> try rfl
  have h4 : nc = 3 ∨ nc = 4 := by simpa [fitC] using hf
  rcases h.1 with ⟨h1, h2⟩ | ⟨h1, h2⟩
  · rw [h2]
  · omega
theorem cont_SR {T : Nat → Nat} {L : List Nat} {P : Nat → Nat} {nc ru : Nat} {tw en : Int32} (h : SR L P nc) {j : Nat} (hj : j < 7) (hf : fitC nc tw en j = true) : contC T P nc ru tw en j = contC T (fun i => L.getD i 0) L.length ru tw en j := by
  have hh : (nc ≤ 4 ∧ 0 < nc) → nc = L.length ∧ ∀ i, i < nc → P i = L.getD i 0 := by
    intro q
    rcases h.1 with ⟨h1, h2⟩ | ⟨h1, h2⟩
    · exact ⟨h2, fun i hi => h.2 i (by omega)⟩
    · omega
  rcases lt7 hj with rfl | rfl | rfl | rfl | rfl | rfl | rfl <;> try rfl
  · have h4 : nc = 1 := by simpa [fitC] using hf
    obtain ⟨g1, g2⟩ := hh (by omega)
    show p2 (P 0) = p2 (L.getD 0 0)
    rw [g2 0 (by omega)]
  · have h4 : nc = 2 := by simpa [fitC] using hf
    obtain ⟨g1, g2⟩ := hh (by omega)
    show rawL P nc ++ bL (fun k => numOf P nc (T k)) 1 64 = rawL _ L.length ++ bL (fun k => numOf _ L.length (T k)) 1 64
    rw [rawL_eq g2, ← g1, (bacc_eq (fun k _ => numOf_eq g2)).2]
  · have h4 : nc = 3 ∨ nc = 4 := by simpa [fitC] using hf
    obtain ⟨g1, g2⟩ := hh (by omega)
    show nc :: (rawL P nc ++ bL (fun k => numOf P nc (T k)) 2 64) = L.length :: (rawL _ L.length ++ bL (fun k => numOf _ L.length (T k)) 2 64)
    rw [rawL_eq g2, ← g1, (bacc_eq (fun k _ => numOf_eq g2)).2]
theorem cont_len {T P : Nat → Nat} {nc ru : Nat} {tw en : Int32} {j : Nat} (hj : j < 7) (hf : fitC nc tw en j = true) (hru : ru = runsN T 64) : (contC T P nc ru tw en j).length = lenC nc ru j := by
  rcases lt7 hj with rfl | rfl | rfl | rfl | rfl | rfl | rfl
  · rfl
  · rfl
  · rfl
  · have h4 : nc = 2 := by simpa [fitC] using hf
    show (rawL P nc ++ bL _ 1 64).length = 12
    rw [List.length_append, rawL_len, bL_len (Or.inl rfl), h4]
  · show (nc :: (rawL P nc ++ bL _ 2 64)).length = 1 + 2 * nc + 16
    rw [List.length_cons, List.length_append, rawL_len, bL_len (Or.inr rfl)]
    omega
  · show (ru :: runL T 64).length = 1 + 3 * ru
    rw [List.length_cons, runL_64, hru]
    omega
  · show (rawL T 64).length = 128
    rw [rawL_len]
theorem wr_1 (B : Nat → Nat) (i x : Nat) : up B i x = wr B i [x] := by
  have h := wr_snoc B i [] x
  rw [wr_nil] at h
  exact h
theorem wr_2 (B : Nat → Nat) (i x : Nat) : up (up B i (x / 256 % 256)) (i + 1) (x % 256) = wr B i (p2 x) := by
  have h := wr_p2 B i [] x
  rw [wr_nil] at h
  exact h
theorem runL_mono (T : Nat → Nat) {k : Nat} : ∀ {m : Nat}, k ≤ m → (runL T k).length ≤ (runL T m).length := by
  intro m
  induction m with
  | zero => intro h; rw [show k = 0 by omega]; exact Nat.le_refl _
  | succ m ih =>
    intro h
    rcases (show k ≤ m ∨ k = m + 1 by omega) with q | q
    · refine Nat.le_trans (ih q) ?_
      by_cases hr : rendB T m = true
      · rw [runL_t hr, List.length_append]; omega
      · rw [runL_f hr]; exact Nat.le_refl _
    · rw [q]; exact Nat.le_refl _
theorem runL_cap {T : Nat → Nat} {k : Nat} (hk : k ≤ 64) : (runL T k).length ≤ 3 * runsN T 64 := by
  rw [← runL_64]
  exact runL_mono T hk
theorem rst_eq {T : Nat → Nat} {k : Nat} (h : T (k + 1) = T k) : rst T (k + 1) = rst T k := if_pos h
theorem rst_ne {T : Nat → Nat} {k : Nat} (h : T (k + 1) ≠ T k) : rst T (k + 1) = k + 1 := if_neg h
