/-! AN UPDATE, pure: the record of a tile, the records of a picture, the whole update -/
def fndF (P : Nat → Bool) : Nat → Nat → Int32
  | _, 0 => -1
  | i, n + 1 => if P i then nI i else fndF P (i + 1) n
def findI (P : Nat → Bool) (n : Nat) : Int32 := fndF P 0 n
theorem fndF_is (P : Nat → Bool) : ∀ (n i : Nat), (∀ j, j < i → P j = false) → isFind P (i + n) (fndF P i n)
  | 0, i, h => Or.inl ⟨rfl, h⟩
  | n + 1, i, h => by
    unfold fndF
    by_cases q : P i = true
    · rw [if_pos q]
      exact Or.inr ⟨i, by omega, rfl, q, h⟩
    · rw [if_neg q, show i + (n + 1) = (i + 1) + n by omega]
      refine fndF_is P n (i + 1) (fun j hj => ?_)
      rcases (show j < i ∨ j = i by omega) with g | g
      · exact h j g
      · rw [g]; exact Bool.eq_false_iff.mpr q
theorem findI_is (P : Nat → Bool) (n : Nat) : isFind P n (findI P n) := by
  have h := fndF_is P n 0 (fun j hj => absurd hj (Nat.not_lt_zero j))
  rw [Nat.zero_add] at h
  exact h
theorem isFind_I {P : Nat → Bool} {n : Nat} {r : Int32} (hn : n < 2 ^ 31) (h : isFind P n r) : r = findI P n := isFind_uniq hn (fun _ _ => rfl) h (findI_is P n)
theorem findI_eq {P P' : Nat → Bool} {n : Nat} (hn : n < 2 ^ 31) (h : ∀ i, i < n → P i = P' i) : findI P n = findI P' n := isFind_uniq hn h (findI_is P n) (findI_is P' n)
theorem findI_in {P : Nat → Bool} {n : Nat} (h : findI P n ≠ -1) : ∃ i, i < n ∧ findI P n = nI i ∧ P i = true := by
  rcases findI_is P n with ⟨h1, -⟩ | ⟨i, h1, h2, h3, -⟩
  · exact absurd h1 h
  · exact ⟨i, h1, h2, h3⟩
def bkN (fit : Nat → Bool) (len : Nat → Nat) : Nat → Nat
  | 0 => 6
  | i + 1 => if fit (6 - i) && Nat.ble (len (6 - i)) (len (bkN fit len i)) then 6 - i else bkN fit len i
def bestK (fit : Nat → Bool) (len : Nat → Nat) : Nat := bkN fit len 7
theorem bkN_is {fit : Nat → Bool} {len : Nat → Nat} (h6 : fit 6 = true) : ∀ i, i ≤ 7 → bkN fit len i < 7 ∧ fit (bkN fit len i) = true ∧ ∀ j, 7 - i ≤ j → j < 7 → fit j = true → len (bkN fit len i) < len j ∨ (len (bkN fit len i) = len j ∧ bkN fit len i ≤ j)
  | 0, _ => ⟨show (6 : Nat) < 7 by decide, h6, fun j h1 h2 => absurd h1 (by omega)⟩
  | i + 1, hi => by
    obtain ⟨h1, h2, h3⟩ := bkN_is (len := len) h6 i (by omega)
    unfold bkN
    by_cases q : (fit (6 - i) && Nat.ble (len (6 - i)) (len (bkN fit len i))) = true
    · rw [if_pos q]
      rw [Bool.and_eq_true] at q
      have q2 := Nat.le_of_ble_eq_true q.2
      refine ⟨by omega, q.1, fun j g1 g2 g3 => ?_⟩
      rcases (show j = 6 - i ∨ 7 - i ≤ j by omega) with e | e
      · rw [e]; exact Or.inr ⟨rfl, Nat.le_refl _⟩
      · have := h3 j e g2 g3
        omega
    · rw [if_neg q]
      refine ⟨h1, h2, fun j g1 g2 g3 => ?_⟩
      rcases (show j = 6 - i ∨ 7 - i ≤ j by omega) with e | e
      · rw [e] at g3 ⊢
        rw [g3, Bool.true_and] at q
        have : ¬ len (6 - i) ≤ len (bkN fit len i) := fun z => q (Nat.ble_eq.mpr z)
        omega
      · exact h3 j e g2 g3
theorem bestK_is {fit : Nat → Bool} {len : Nat → Nat} (h6 : fit 6 = true) : isBest fit len (bestK fit len) := by
  obtain ⟨h1, h2, h3⟩ := bkN_is (len := len) h6 7 (Nat.le_refl 7)
  exact ⟨h1, h2, fun j hj => h3 j (by omega) hj⟩
theorem isBest_K {fit : Nat → Bool} {len : Nat → Nat} {k : Nat} (h6 : fit 6 = true) (h : isBest fit len k) : k = bestK fit len := isBest_uniq h (bestK_is h6)
/-- the record of a tile T, by where it stands already -/
def kdT (T : Nat → Nat) (tw en : Int32) : Nat := bestK (fitC (colN T) tw en) (lenC (colN T) (runsN T 64))
noncomputable def recT (T : Nat → Nat) (tw en : Int32) (t : Nat) : List Nat := kdT T tw en :: t :: contC T (palA T) (colN T) (runsN T 64) tw en (kdT T tw en)
theorem kdT_is (T : Nat → Nat) (tw en : Int32) : isBest (fitC (colN T) tw en) (lenC (colN T) (runsN T 64)) (kdT T tw en) := bestK_is rfl
theorem kdT_len (T : Nat → Nat) (tw en : Int32) : lenC (colN T) (runsN T 64) (kdT T tw en) ≤ 128 := by
  have := (kdT_is T tw en).2.2 6 (by decide) rfl
  have e : lenC (colN T) (runsN T 64) 6 = 128 := rfl
  omega
theorem recT_len (T : Nat → Nat) (tw en : Int32) (t : Nat) : (recT T tw en t).length = 2 + lenC (colN T) (runsN T 64) (kdT T tw en) := by
  unfold recT
  rw [List.length_cons, List.length_cons, cont_len (kdT_is T tw en).1 (kdT_is T tw en).2.1 rfl]
  omega
theorem T_eq {T T' : Nat → Nat} (h : ∀ k, k < 64 → T k = T' k) : colN T = colN T' ∧ palA T = palA T' ∧ runsN T 64 = runsN T' 64 ∧ runL T 64 = runL T' 64 ∧ rawL T 64 = rawL T' 64 ∧ ∀ P n w, bL (fun k => numOf P n (T k)) w 64 = bL (fun k => numOf P n (T' k)) w 64 := by
  have hc : cols T 64 = cols T' 64 := cols_eq h
  have hr : ∀ k, k ≤ 64 → runsN T k = runsN T' k := by
    intro k
    induction k with
    | zero => intro _; rfl
    | succ k ih =>
      intro hk
      have e : sameP T k = sameP T' k := by
        unfold sameP
        rw [h k (by omega), h (k - 1) (by omega)]
      show runsN T k + (!sameP T k).toNat = runsN T' k + (!sameP T' k).toNat
      rw [ih (by omega), e]
  have hs : ∀ k, k < 64 → rst T k = rst T' k := by
    intro k
    induction k with
    | zero => intro _; rfl
    | succ k ih =>
      intro hk
      unfold rst
      rw [h (k + 1) hk, h k (by omega), ih (by omega)]
  have hl : ∀ k, k ≤ 64 → runL T k = runL T' k := by
    intro k
    induction k with
    | zero => intro _; rfl
    | succ k ih =>
      intro hk
      have e : rendB T k = rendB T' k := by
        unfold rendB
        by_cases q : k = 63
        · rw [q]; rfl
        · rw [h (k + 1) (by omega), h k (by omega)]
      by_cases g : rendB T k = true
      · rw [runL_t g, runL_t (e ▸ g), ih (by omega), hs k (by omega), h k (by omega)]
      · rw [runL_f g, runL_f (e ▸ g), ih (by omega)]
  exact ⟨congrArg List.length hc, by funext i; unfold palA; rw [hc], hr 64 (Nat.le_refl _), hl 64 (Nat.le_refl _), rawL_eq h, fun P n w => (bacc_eq (fun k hk => by rw [h k hk])).2⟩
theorem recT_eq {T T' : Nat → Nat} (h : ∀ k, k < 64 → T k = T' k) (tw en : Int32) (t : Nat) : kdT T tw en = kdT T' tw en ∧ recT T tw en t = recT T' tw en t := by
  obtain ⟨h1, h2, h3, h4, h5, h6⟩ := T_eq h
  have e : kdT T tw en = kdT T' tw en := by unfold kdT; rw [h1, h3]
  refine ⟨e, ?_⟩
  unfold recT
  rw [e, h1, h2, h3]
  refine congrArg (fun z => kdT T' tw en :: t :: z) ?_
  rcases lt7 (kdT_is T' tw en).1 with q | q | q | q | q | q | q <;> rw [q]
  · rfl
  · rfl
  · rfl
  · show rawL _ _ ++ bL _ 1 64 = rawL _ _ ++ bL _ 1 64
    rw [h6]
  · show _ :: (rawL _ _ ++ bL _ 2 64) = _ :: (rawL _ _ ++ bL _ 2 64)
    rw [h6]
  · show _ :: runL T 64 = _ :: runL T' 64
    rw [h4]
  · exact h5
/-- bytes so far, cache, place, how many were put, bytes by kind -/
abbrev KX : Type := List Nat × (Nat → Nat) × Nat × Nat × (Nat → Nat)
def twX (F S : Nat → Nat) (t : Nat) : Int32 := findI (fun i => sameB S (i * 64) F (t * 64)) 48
def enX (F C : Nat → Nat) (us t : Nat) : Int32 := findI (fun i => sameB C (i * 64) F (t * 64)) us
noncomputable def putX (F S : Nat → Nat) (t : Nat) (X : KX) : KX :=
  (X.1 ++ recT (fun j => F (t * 64 + j)) (twX F S t) (enX F X.2.1 X.2.2.2.1 t) t,
   (if 3 ≤ kdT (fun j => F (t * 64 + j)) (twX F S t) (enX F X.2.1 X.2.2.2.1 t) then va_cpy F X.2.1 (t * 64) (X.2.2.1 * 64) 64 else X.2.1),
   (if 3 ≤ kdT (fun j => F (t * 64 + j)) (twX F S t) (enX F X.2.1 X.2.2.2.1 t) then (X.2.2.1 + 1) % 16 else X.2.2.1),
   (if 3 ≤ kdT (fun j => F (t * 64 + j)) (twX F S t) (enX F X.2.1 X.2.2.2.1 t) then max X.2.2.2.1 (X.2.2.1 + 1) else X.2.2.2.1),
   up X.2.2.2.2 (kdT (fun j => F (t * 64 + j)) (twX F S t) (enX F X.2.1 X.2.2.2.1 t)) (X.2.2.2.2 (kdT (fun j => F (t * 64 + j)) (twX F S t) (enX F X.2.1 X.2.2.2.1 t)) + (recT (fun j => F (t * 64 + j)) (twX F S t) (enX F X.2.1 X.2.2.2.1 t) t).length))
noncomputable def compX (F S : Nat → Nat) (X0 : KX) : Nat → KX
  | 0 => X0
  | t + 1 => if sameB F (t * 64) S (t * 64) then compX F S X0 t else putX F S t (compX F S X0 t)
theorem compX_t {F S : Nat → Nat} {X0 : KX} {t : Nat} (h : sameB F (t * 64) S (t * 64) = true) : compX F S X0 (t + 1) = compX F S X0 t := if_pos h
theorem compX_f {F S : Nat → Nat} {X0 : KX} {t : Nat} (h : sameB F (t * 64) S (t * 64) = false) : compX F S X0 (t + 1) = putX F S t (compX F S X0 t) := if_neg (by rw [h]; decide)
/-- what stays true of a cache and of what was counted -/
def okX (X : KX) : Prop := (∀ x ∈ X.1, x < 256) ∧ (∀ j, X.2.1 j < 65536) ∧ X.2.2.1 < 16 ∧ X.2.2.2.1 ≤ 16
theorem fnd_lt {P : Nat → Bool} {n : Nat} (hn : n < 2 ^ 31) (h : findI P n ≠ -1) : (findI P n).toNatClampNeg < n := by
  obtain ⟨i, h1, h2, -⟩ := findI_in h
  rw [h2, nI_clamp (by omega)]
  exact h1
theorem pal_in (T : Nat → Nat) {k : Nat} (hk : k < 64) : ∃ i, i < colN T ∧ palA T i = T k := mem_getD (cols_mem T 64 k hk)
theorem recT_lt {F S C : Nat → Nat} {us t : Nat} (hu : us ≤ 16) (ht : t < 48) : ∀ x ∈ recT (fun j => F (t * 64 + j)) (twX F S t) (enX F C us t) t, x < 256 := by
  intro x hx
  have hb := kdT_is (fun j => F (t * 64 + j)) (twX F S t) (enX F C us t)
  generalize hT : (fun j => F (t * 64 + j)) = T at hx hb
  unfold recT at hx
  rcases List.mem_cons.mp hx with e | hx
  · have := hb.1; omega
  rcases List.mem_cons.mp hx with e | hx
  · omega
  have hf := hb.2.1
  have hle : lenC (colN T) (runsN T 64) 6 = 128 := rfl
  rcases lt7 hb.1 with q | q | q | q | q | q | q <;> rw [q] at hx hf
  · exact p2_lt _ x hx
  · have h1 : twX F S t ≠ -1 := by simpa [fitC] using hf
    have := fnd_lt (by decide) h1
    rw [List.mem_singleton.mp hx]
    exact Nat.lt_trans this (by decide)
  · have h1 : enX F C us t ≠ -1 := by simpa [fitC] using hf
    have := fnd_lt (by omega) h1
    rw [List.mem_singleton.mp hx]
    exact Nat.lt_of_lt_of_le this (by omega)
  · have h2 : colN T = 2 := by simpa [fitC] using hf
    rcases List.mem_append.mp hx with hx | hx
    · exact rawL_lt _ _ x hx
    · exact bL_lt (Or.inl rfl) (n := 64) (fun j hj => by obtain ⟨i, g1, g2⟩ := pal_in T hj; have := numOf_lt g1 g2; show numOf (palA T) (colN T) (T j) < 2 ^ 1; omega) 64 (Nat.le_refl _) x hx
  · have h2 : colN T = 3 ∨ colN T = 4 := by simpa [fitC] using hf
    rcases List.mem_cons.mp hx with e | hx
    · omega
    rcases List.mem_append.mp hx with hx | hx
    · exact rawL_lt _ _ x hx
    · exact bL_lt (Or.inr rfl) (n := 64) (fun j hj => by obtain ⟨i, g1, g2⟩ := pal_in T hj; have := numOf_lt g1 g2; show numOf (palA T) (colN T) (T j) < 2 ^ 2; omega) 64 (Nat.le_refl _) x hx
  · rcases List.mem_cons.mp hx with e | hx
    · have := runsN_le T 64; omega
    · exact runL_lt T 64 (Nat.le_refl _) x hx
  · exact rawL_lt _ _ x hx
theorem putX_ok {F S : Nat → Nat} {t : Nat} {X : KX} (hF : ∀ j, F j < 65536) (ht : t < 48) (h : okX X) : okX (putX F S t X) := by
  obtain ⟨h1, h2, h3, h4⟩ := h
  unfold putX
  refine ⟨fun x hx => ?_, ?_, ?_, ?_⟩
  · rcases List.mem_append.mp hx with g | g
    · exact h1 x g
    · exact recT_lt h4 ht x g
  · intro j
    dsimp only
    split
    · exact cpy_lt hF h2 _ _ _ j
    · exact h2 j
  · dsimp only
    split
    · exact Nat.mod_lt _ (by decide)
    · exact h3
  · dsimp only
    split <;> omega
theorem compX_ok {F S : Nat → Nat} {X0 : KX} (hF : ∀ j, F j < 65536) (h : okX X0) : ∀ t, t ≤ 48 → okX (compX F S X0 t)
  | 0, _ => h
  | t + 1, ht => by
    have h0 := compX_ok (S := S) hF h t (by omega)
    cases q : sameB F (t * 64) S (t * 64)
    · rw [compX_f q]; exact putX_ok hF (by omega) h0
    · rw [compX_t q]; exact h0
theorem compX_len {F S : Nat → Nat} {X0 : KX} : ∀ t, (compX F S X0 t).1.length ≤ X0.1.length + 130 * t
  | 0 => Nat.le_refl _
  | t + 1 => by
    have h0 := compX_len (F := F) (S := S) (X0 := X0) t
    cases q : sameB F (t * 64) S (t * 64)
    · rw [compX_f q]
      show (_ ++ recT _ _ _ t).length ≤ _
      rw [List.length_append, recT_len]
      have := kdT_len (fun j => F (t * 64 + j)) (twX F S t) (enX F (compX F S X0 t).2.1 (compX F S X0 t).2.2.2.1 t)
      omega
    · rw [compX_t q]; omega
/-- a whole update: its length in three bytes, the frame's number, the records, the sum -/
def updL (num : Nat) (L : List Nat) : List Nat :=
  [(L.length + 4) / 65536, (L.length + 4) / 256 % 256, (L.length + 4) % 256] ++ (p2 num ++ L) ++ p2 ((p2 num ++ L).sum % 65536)
theorem sumF_take {G : Nat → Nat} {f : Nat} {N : List Nat} (h : ∀ j, j < N.length → G (f + j) = N.getD j 0) : ∀ m, m ≤ N.length → sumF G f m = (N.take m).sum
  | 0, _ => by simp [sumF]
  | m + 1, hm => by
    show sumF G f m + G (f + m) = _
    rw [sumF_take h m (by omega), h m (by omega), List.take_add_one, List.getD_eq_getElem?_getD, List.getElem?_eq_getElem (show m < N.length by omega), List.sum_append]
    simp only [Option.toList, Option.getD, List.sum_cons, List.sum_nil, Nat.add_zero]
theorem sumF_list {G : Nat → Nat} {f : Nat} {N : List Nat} (h : ∀ j, j < N.length → G (f + j) = N.getD j 0) : sumF G f N.length = N.sum := by
  rw [sumF_take h N.length (Nat.le_refl _), List.take_length]
