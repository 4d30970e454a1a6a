/-! A WHOLE UPDATE READ, pure; and Math.floorMod by 65536 -/
/-- picture, cache, place, how many were put, where the reading stands -/
abbrev DX : Type := (Nat → Nat) × (Nat → Nat) × Nat × Nat × Nat
def dB (W : Nat → Nat) (en : Nat) (F : Nat → Nat) (X : DX) : Nat → Nat := pset X.1 (rd W en (X.2.2.2.2 + 1) * 64) 64 (rPix W en (rd W en X.2.2.2.2) (X.2.2.2.2 + 2) F X.2.1)
def dstep (W : Nat → Nat) (en : Nat) (F : Nat → Nat) (X : DX) : DX :=
  (dB W en F X,
   (if 3 ≤ rd W en X.2.2.2.2 then va_cpy (dB W en F X) X.2.1 (rd W en (X.2.2.2.2 + 1) * 64) (X.2.2.1 * 64) 64 else X.2.1),
   (if 3 ≤ rd W en X.2.2.2.2 then (X.2.2.1 + 1) % 16 else X.2.2.1),
   (if 3 ≤ rd W en X.2.2.2.2 then max X.2.2.2.1 (X.2.2.1 + 1) else X.2.2.2.1),
   X.2.2.2.2 + 2 + rLen W en (rd W en X.2.2.2.2) (X.2.2.2.2 + 2))
def drun (W : Nat → Nat) (en : Nat) (F : Nat → Nat) : Nat → DX → Option DX
  | 0, _ => none
  | n + 1, X => if en ≤ X.2.2.2.2 then some X else if rVal W en X.2.2.2.1 X.2.2.2.2 then drun W en F n (dstep W en F X) else none
theorem rLen_pos (W : Nat → Nat) (en kd y : Nat) : 1 ≤ rLen W en kd y := by
  unfold rLen
  split <;> omega
theorem drun_fuel {W : Nat → Nat} {en : Nat} {F : Nat → Nat} : ∀ (n m : Nat) (X : DX), en - X.2.2.2.2 < n → en - X.2.2.2.2 < m → drun W en F n X = drun W en F m X
  | 0, _, _, h, _ => absurd h (Nat.not_lt_zero _)
  | _ + 1, 0, _, _, h => absurd h (Nat.not_lt_zero _)
  | n + 1, m + 1, X, h1, h2 => by
    unfold drun
    by_cases q : en ≤ X.2.2.2.2
    · rw [if_pos q, if_pos q]
    · rw [if_neg q, if_neg q]
      have hl := rLen_pos W en (rd W en X.2.2.2.2) (X.2.2.2.2 + 2)
      have e : (dstep W en F X).2.2.2.2 = X.2.2.2.2 + 2 + rLen W en (rd W en X.2.2.2.2) (X.2.2.2.2 + 2) := rfl
      rw [drun_fuel n m (dstep W en F X) (by rw [e]; omega) (by rw [e]; omega)]
def dres (W : Nat → Nat) (en : Nat) (F : Nat → Nat) (X : DX) : Option DX := drun W en F (en + 1) X
theorem dres_end {W : Nat → Nat} {en : Nat} {F : Nat → Nat} {X : DX} (h : en ≤ X.2.2.2.2) : dres W en F X = some X := if_pos h
theorem dres_step {W : Nat → Nat} {en : Nat} {F : Nat → Nat} {X : DX} (h : X.2.2.2.2 < en) (hv : rVal W en X.2.2.2.1 X.2.2.2.2 = true) : dres W en F X = dres W en F (dstep W en F X) := by
  have e1 : dres W en F X = drun W en F en (dstep W en F X) := (if_neg (by omega)).trans (if_pos hv)
  have hl := rLen_pos W en (rd W en X.2.2.2.2) (X.2.2.2.2 + 2)
  have e : (dstep W en F X).2.2.2.2 = X.2.2.2.2 + 2 + rLen W en (rd W en X.2.2.2.2) (X.2.2.2.2 + 2) := rfl
  rw [e1]
  exact drun_fuel _ _ _ (by rw [e]; omega) (by rw [e]; omega)
theorem dres_bad {W : Nat → Nat} {en : Nat} {F : Nat → Nat} {X : DX} (h : X.2.2.2.2 < en) (hv : ¬ rVal W en X.2.2.2.1 X.2.2.2.2 = true) : dres W en F X = none := (if_neg (by omega)).trans (if_neg hv)
theorem rec_next {W F B C B2 C2 : Nat → Nat} {en pl us x wg2 x2 pl2 us2 : Nat} {Z : Option DX} (hx : x < en)
    (hA : wq en x2 wg2 = (if rVal W en us x then 0 else 1))
    (hB : rVal W en us x = true → x2 = x + 2 + rLen W en (rd W en x) (x + 2) ∧ B2 = pset B (rd W en (x + 1) * 64) 64 (rPix W en (rd W en x) (x + 2) F C) ∧ (3 ≤ rd W en x → C2 = va_cpy B2 C (rd W en (x + 1) * 64) (pl * 64) 64 ∧ pl2 = (pl + 1) % 16 ∧ us2 = max us (pl + 1)) ∧ (rd W en x < 3 → C2 = C ∧ pl2 = pl ∧ us2 = us))
    (hZ : dres W en F (B, C, pl, us, x) = Z) : (wq en x2 wg2 = 0 ∧ dres W en F (B2, C2, pl2, us2, x2) = Z ∧ x + 3 ≤ x2) ∨ (wq en x2 wg2 = 1 ∧ Z = none) := by
  by_cases q : rVal W en us x = true
  · rw [if_pos q] at hA
    obtain ⟨h1, h2, h3, h4⟩ := hB q
    have hl := rLen_pos W en (rd W en x) (x + 2)
    refine Or.inl ⟨hA, ?_, by omega⟩
    rw [← hZ, dres_step (X := (B, C, pl, us, x)) hx q]
    congr 1
    unfold dstep
    dsimp only
    have e : dB W en F (B, C, pl, us, x) = B2 := h2.symm
    rw [e]
    by_cases g : 3 ≤ rd W en x
    · obtain ⟨g1, g2, g3⟩ := h3 g
      rw [if_pos g, if_pos g, if_pos g, g1, g2, g3, h1]
    · obtain ⟨g1, g2, g3⟩ := h4 (by omega)
      rw [if_neg g, if_neg g, if_neg g, g1, g2, g3, h1]
  · rw [if_neg q] at hA
    exact Or.inr ⟨hA, by rw [← hZ, dres_bad (X := (B, C, pl, us, x)) hx q]⟩
/-- the sum is right -/
def sumOk (W : Nat → Nat) (cz : Nat) : Bool := sumF W 3 (cz - 2 - 3) % 65536 == W (cz - 2) * 256 + W (cz - 2 + 1)
def dcd (W : Nat → Nat) (cz : Nat) (F C : Nat → Nat) (pl us : Nat) : Option DX := if sumOk W cz then dres W (cz - 2) F (F, C, pl, us, 5) else none
/-- the least number above one that is told modulo 65536 -/
def above (fn told : Nat) : Nat := fn + 1 + (told + 65535 * (fn + 1)) % 65536
theorem fm_neg {w : Nat} (hw : w < 2 ^ 31) : (-nI w) - (-nI w) / nI 65536 * nI 65536 = -nI (w % 65536) := by
  have hd : (-nI w) / nI 65536 = -nI (w / 65536) := by
    apply Int32.toInt_inj.mp
    have h100 : (nI 65536).toInt = 65536 := by decide
    rw [Int32.toInt_div, sb_negT hw, h100, sb_negT (by omega), Int.neg_tdiv, Int.tdiv_eq_ediv_of_nonneg (by omega), Int.bmod_eq_of_le (by omega) (by omega)]
    omega
  have h := pk_rem (a := w) (d := 65536) hw (by decide) (by decide)
  rw [pk_div hw (by decide) (by decide)] at h
  rw [hd, ← h, Int32.neg_mul, Int32.sub_neg, Int32.neg_sub, Int32.add_comm, ← Int32.sub_eq_add_neg]
theorem fm_xor (x : Int32) : 0 ≤ x ^^^ nI 65536 ↔ 0 ≤ x := by
  have e : ∀ y : Int32, 0 ≤ y ↔ y.toBitVec.msb = false := fun y => by
    rw [Int32.le_iff_toInt_le, Int32.toInt_zero, BitVec.msb_eq_toInt]
    show 0 ≤ y.toBitVec.toInt ↔ _
    rw [decide_eq_false_iff_not]
    omega
  rw [e, e]
  show (x.toBitVec ^^^ (nI 65536).toBitVec).msb = false ↔ _
  rw [BitVec.msb_xor, show (nI 65536).toBitVec.msb = false by decide, Bool.xor_false]
theorem fm_m {p q : Nat} (h : p < q) : nI p - nI q = -nI (q - p) := by
  rw [← pk_sub (Nat.le_of_lt h), Int32.neg_sub]
theorem fm_ge {p q : Nat} (hp : p < 2 ^ 30) (hq : q < 2 ^ 30) : 0 ≤ nI p - nI q ↔ q ≤ p := by
  rw [Int32.le_iff_toInt_le, pk_sub_toInt hp hq, Int32.toInt_zero]
  omega
theorem fm_A {p q : Nat} (hp : p < 2 ^ 30) (h : q ≤ p) : nI p - nI q - (nI p - nI q) / nI 65536 * nI 65536 = nI ((p + 65535 * q) % 65536) := by
  rw [pk_sub h, pk_rem (by omega) (by decide) (by decide), show (p - q) % 65536 = (p + 65535 * q) % 65536 by omega]
theorem fm_B0 {p q : Nat} (hq : q < 2 ^ 30) (h : p < q) (h0 : nI p - nI q - (nI p - nI q) / nI 65536 * nI 65536 = 0) : nI p - nI q - (nI p - nI q) / nI 65536 * nI 65536 = nI ((p + 65535 * q) % 65536) := by
  have e := h0
  rw [fm_m h, fm_neg (by omega)] at e
  have e2 := congrArg Int32.toInt e
  rw [sb_negT (by omega), Int32.toInt_zero] at e2
  rw [h0, show (p + 65535 * q) % 65536 = 0 by omega]
  rfl
theorem fm_B1 {p q : Nat} (hq : q < 2 ^ 30) (h : p < q) (h0 : ¬ nI p - nI q - (nI p - nI q) / nI 65536 * nI 65536 = 0) : nI p - nI q - (nI p - nI q) / nI 65536 * nI 65536 + nI 65536 = nI ((p + 65535 * q) % 65536) := by
  rw [fm_m h, fm_neg (by omega)] at h0 ⊢
  have h1 : (q - p) % 65536 ≠ 0 := fun e => h0 (by rw [e]; rfl)
  rw [Int32.add_comm, ← Int32.sub_eq_add_neg, pk_sub (by omega), show 65536 - (q - p) % 65536 = (p + 65535 * q) % 65536 by omega]
