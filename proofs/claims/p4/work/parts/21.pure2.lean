/-! pure words of the poisons and of a tile's look -/
def kpN (q : Nat → Nat) : Nat → Nat
  | 0 => 0
  | k + 1 => kpN q k + (if q k = 1 then 0 else 1)
def cmA (q : Nat → Nat) : Nat → Nat → Nat
  | 0 => q
  | k + 1 => if q k = 1 then cmA q k else up (cmA q k) (kpN q k) (q k - 1)
def cmM (q w : Nat → Nat) : Nat → Nat → Nat
  | 0 => w
  | k + 1 => if q k = 1 then cmM q w k else up (cmM q w k) (kpN q k) (w k)
def cmX (q w : Nat → Nat) (x : Nat) : Nat → Nat
  | 0 => x
  | k + 1 => if q k = 1 then cmX q w x k ^^^ w k else cmX q w x k
theorem kpN_le (q : Nat → Nat) : ∀ k, kpN q k ≤ k
  | 0 => Nat.le_refl 0
  | k + 1 => by
    have h := kpN_le q k
    show kpN q k + (if q k = 1 then 0 else 1) ≤ k + 1
    by_cases h1 : q k = 1
    · rw [if_pos h1]; omega
    · rw [if_neg h1]; omega
theorem kpN_1 {q : Nat → Nat} {k : Nat} (h : q k = 1) : kpN q (k + 1) = kpN q k := by show kpN q k + (if q k = 1 then 0 else 1) = _; rw [if_pos h]; rfl
theorem kpN_2 {q : Nat → Nat} {k : Nat} (h : q k ≠ 1) : kpN q (k + 1) = kpN q k + 1 := by show kpN q k + (if q k = 1 then 0 else 1) = _; rw [if_neg h]
theorem cmA_1 {q : Nat → Nat} {k : Nat} (h : q k = 1) : cmA q (k + 1) = cmA q k := if_pos h
theorem cmA_2 {q : Nat → Nat} {k : Nat} (h : q k ≠ 1) : cmA q (k + 1) = up (cmA q k) (kpN q k) (q k - 1) := if_neg h
theorem cmM_1 {q w : Nat → Nat} {k : Nat} (h : q k = 1) : cmM q w (k + 1) = cmM q w k := if_pos h
theorem cmM_2 {q w : Nat → Nat} {k : Nat} (h : q k ≠ 1) : cmM q w (k + 1) = up (cmM q w k) (kpN q k) (w k) := if_neg h
theorem cmX_1 {q w : Nat → Nat} {x k : Nat} (h : q k = 1) : cmX q w x (k + 1) = cmX q w x k ^^^ w k := if_pos h
theorem cmX_2 {q w : Nat → Nat} {x k : Nat} (h : q k ≠ 1) : cmX q w x (k + 1) = cmX q w x k := if_neg h
theorem cmA_hi (q : Nat → Nat) : ∀ (k j : Nat), kpN q k ≤ j → cmA q k j = q j
  | 0, _, _ => rfl
  | k + 1, j, h => by
    by_cases h1 : q k = 1
    · rw [cmA_1 h1]
      exact cmA_hi q k j (by rw [kpN_1 h1] at h; exact h)
    · rw [kpN_2 h1] at h
      rw [cmA_2 h1, up_n _ _ (by omega)]
      exact cmA_hi q k j (by omega)
theorem cmM_hi (q w : Nat → Nat) : ∀ (k j : Nat), kpN q k ≤ j → cmM q w k j = w j
  | 0, _, _ => rfl
  | k + 1, j, h => by
    by_cases h1 : q k = 1
    · rw [cmM_1 h1]
      exact cmM_hi q w k j (by rw [kpN_1 h1] at h; exact h)
    · rw [kpN_2 h1] at h
      rw [cmM_2 h1, up_n _ _ (by omega)]
      exact cmM_hi q w k j (by omega)
theorem cmA_at (q : Nat → Nat) (k : Nat) : cmA q k k = q k := cmA_hi q k k (kpN_le q k)
theorem cmM_at (q w : Nat → Nat) (k : Nat) : cmM q w k k = w k := cmM_hi q w k k (kpN_le q k)
theorem up_lt {F : Nat → Nat} {B : Nat} (h : ∀ j, F j < B) {k v : Nat} (hv : v < B) : ∀ j, up F k v j < B := fun j => by
  by_cases e : j = k
  · rw [e, up_s]; exact hv
  · rw [up_n _ _ e]; exact h j
theorem cpy_lt {F G : Nat → Nat} {B : Nat} (hF : ∀ j, F j < B) (hG : ∀ j, G j < B) (sp dp n : Nat) : ∀ j, va_cpy F G sp dp n j < B := fun j => by
  by_cases e : dp ≤ j ∧ j < dp + n
  · rw [pk_cpy_in e.1 e.2]; exact hF _
  · rw [pk_cpy_out (by omega)]; exact hG _
theorem cmA_lt {q : Nat → Nat} {B : Nat} (h : ∀ j, q j < B) : ∀ k j, cmA q k j < B
  | 0, j => h j
  | k + 1, j => by
    by_cases h1 : q k = 1
    · rw [cmA_1 h1]; exact cmA_lt h k j
    · rw [cmA_2 h1]; exact up_lt (cmA_lt h k) (by have := h k; omega) j
theorem cmM_lt {q w : Nat → Nat} {B : Nat} (h : ∀ j, w j < B) : ∀ k j, cmM q w k j < B
  | 0, j => h j
  | k + 1, j => by
    by_cases h1 : q k = 1
    · rw [cmM_1 h1]; exact cmM_lt h k j
    · rw [cmM_2 h1]; exact up_lt (cmM_lt h k) (h k) j
theorem cmX_lt {q w : Nat → Nat} {x : Nat} (hx : x < 256) (h : ∀ j, w j < 256) : ∀ k, cmX q w x k < 256
  | 0 => hx
  | k + 1 => by
    by_cases h1 : q k = 1
    · rw [cmX_1 h1]; exact Nat.xor_lt_two_pow (n := 8) (cmX_lt hx h k) (h k)
    · rw [cmX_2 h1]; exact cmX_lt hx h k
/-- a pixel has the colour of the one before it -/
def sameP (T : Nat → Nat) (k : Nat) : Bool := (k != 0) && (T k == T (k - 1))
def bef (T : Nat → Nat) : Nat → Int32
  | 0 => -1
  | k + 1 => nI (T k)
theorem bef_iff {T : Nat → Nat} (h : ∀ j, T j < 65536) (k : Nat) : nI (T k) = bef T k ↔ sameP T k = true := by
  cases k with
  | zero =>
    constructor
    · intro q
      have h1 := nI_toInt (Nat.lt_trans (h 0) (by decide : 65536 < 2 ^ 31))
      rw [q] at h1
      exact absurd h1 (by show ¬ (-1 : Int) = _; omega)
    · intro q
      exact absurd q (by simp [sameP])
  | succ k =>
    show nI (T (k + 1)) = nI (T k) ↔ _
    rw [nI_eq (Nat.lt_trans (h _) (by decide)) (Nat.lt_trans (h _) (by decide))]
    simp [sameP]
def runsN (T : Nat → Nat) : Nat → Nat
  | 0 => 0
  | k + 1 => runsN T k + (!sameP T k).toNat
theorem runsN_le (T : Nat → Nat) : ∀ k, runsN T k ≤ k
  | 0 => Nat.le_refl 0
  | k + 1 => by
    have h1 := runsN_le T k
    have h2 := bt_le (!sameP T k)
    show runsN T k + (!sameP T k).toNat ≤ k + 1
    omega
theorem runsN_t {T : Nat → Nat} {k : Nat} (h : sameP T k = true) : runsN T (k + 1) = runsN T k := by show runsN T k + (!sameP T k).toNat = _; rw [h]; rfl
theorem runsN_f {T : Nat → Nat} {k : Nat} (h : ¬ sameP T k = true) : runsN T (k + 1) = runsN T k + 1 := by show runsN T k + (!sameP T k).toNat = _; rw [Bool.eq_false_iff.mpr h]; rfl
/-- a colour is among the first four of the palette -/
def inPal (P : Nat → Nat) (nc x : Nat) : Bool := (List.range (min nc 4)).any (fun i => P i == x)
def meP (P : Nat → Nat) (nc x : Nat) : Nat → Nat := if inPal P nc x then P else if nc < 4 then up P nc x else P
def meN (P : Nat → Nat) (nc x : Nat) : Nat := if inPal P nc x then nc else nc + 1
def stu (T P0 : Nat → Nat) : Nat → (Nat → Nat) × Nat
  | 0 => (P0, 0)
  | k + 1 => if sameP T k then stu T P0 k else (meP (stu T P0 k).1 (stu T P0 k).2 (T k), meN (stu T P0 k).1 (stu T P0 k).2 (T k))
theorem stu_t {T P0 : Nat → Nat} {k : Nat} (h : sameP T k = true) : stu T P0 (k + 1) = stu T P0 k := if_pos h
theorem stu_f {T P0 : Nat → Nat} {k : Nat} (h : ¬ sameP T k = true) : stu T P0 (k + 1) = (meP (stu T P0 k).1 (stu T P0 k).2 (T k), meN (stu T P0 k).1 (stu T P0 k).2 (T k)) := if_neg h
theorem inPal_iff {P : Nat → Nat} {nc x : Nat} : inPal P nc x = true ↔ ∃ i, i < min nc 4 ∧ P i = x := by
  unfold inPal
  rw [List.any_eq_true]
  constructor
  · rintro ⟨i, h1, h2⟩
    exact ⟨i, List.mem_range.mp h1, eq_of_beq h2⟩
  · rintro ⟨i, h1, h2⟩
    exact ⟨i, List.mem_range.mpr h1, beq_iff_eq.mpr h2⟩
theorem inPal_find {P : Nat → Nat} {nc x : Nat} {r : Int32} (h : isFind (fun i => P i == x) (min nc 4) r) : (r = -1 ↔ inPal P nc x = false) := by
  rcases h with ⟨h1, h2⟩ | ⟨i, h1, h2, h3, -⟩
  · refine ⟨fun _ => ?_, fun _ => h1⟩
    cases q : inPal P nc x
    · rfl
    · obtain ⟨i, g1, g2⟩ := inPal_iff.mp q
      have := h2 i g1
      simp [g2] at this
  · have g : inPal P nc x = true := inPal_iff.mpr ⟨i, h1, eq_of_beq h3⟩
    rw [g]
    refine ⟨fun q => ?_, fun q => absurd q (by decide)⟩
    have g1 := nI_toInt (show i < 2 ^ 31 by omega)
    rw [← h2, q] at g1
    exact absurd g1 (by show ¬ (-1 : Int) = _; omega)
theorem meP_lt {P : Nat → Nat} {nc x : Nat} (h : ∀ j, P j < 65536) (hx : x < 65536) : ∀ j, meP P nc x j < 65536 := by
  unfold meP
  split
  · exact h
  · split
    · exact up_lt h hx
    · exact h
theorem meN_le (P : Nat → Nat) (nc x : Nat) : meN P nc x ≤ nc + 1 := by
  unfold meN
  split <;> omega
theorem stu_lt {T P0 : Nat → Nat} (hT : ∀ j, T j < 65536) (hP : ∀ j, P0 j < 65536) : ∀ k j, (stu T P0 k).1 j < 65536
  | 0, j => hP j
  | k + 1, j => by
    by_cases h : sameP T k = true
    · rw [stu_t h]; exact stu_lt hT hP k j
    · rw [stu_f h]; exact meP_lt (stu_lt hT hP k) (hT k) j
theorem stu_le (T P0 : Nat → Nat) : ∀ k, (stu T P0 k).2 ≤ k
  | 0 => Nat.le_refl 0
  | k + 1 => by
    have h0 := stu_le T P0 k
    by_cases h : sameP T k = true
    · rw [stu_t h]; omega
    · rw [stu_f h]
      have := meN_le (stu T P0 k).1 (stu T P0 k).2 (T k)
      show meN _ _ _ ≤ _
      omega
section
variable {p : Program} {l : Launch} {e : Env} {R : Room} {s : State} {m : MethodId} {args : Array Value} {below : List Frame} {meth : Method} {c : Code} {H : Heap} {locs : List Loc} {cells slots : Nat} {Q : State → Prop}
variable {pc : Nat} {ls : Array Slot} {st0 : List Value} {A : Nat → Prop} {H0 : Heap} {cl : List vw_C} {nw : List Cond} {D : va_G} {tys : List (ClassId × FieldType)}
variable {y : MethodName} {bytes cc : ByteArray} {maxL nL index : Nat} {ret : Option FieldType} {rm : Room} {own : String} {wh wc wr : va_W}
/-- a static method of another class (the JDK's) -/
theorem kSO_i {S : Type} {post : Int32 → S → Prop} {w1 w2 : S → va_W} (As rest : List Value) (Bd : bd p c cc nL s args TB own m) (lk : GoodIn TB (.code y bytes maxL ret :: TB) ∧ Cond.static y ∈ TB ∧ Cond.initialized y.cls ∈ TB ∧ Cond.methodLink own index y ∈ TB ∧ y.cls ≠ "java/lang/invoke/MethodHandle" ∧ y.cls ≠ "java/lang/invoke/VarHandle") (hpn : (parseMethodDescriptor y.desc).map (fun d => d.parameters.length) = some As.length)
    (hc : CI l cl nw D tys y (.code y bytes maxL ret :: TB) rm As wc post w1) (hrm : fitsRoom rm R maxL = true) (hce : cells + rm.cells ≤ R.cells ∧ slots + rm.slots ≤ R.slots)
    (hG : gk cl nw D tys s) (hP : va_P D cl wh H) (hD : va_D A wh) (hS : va_S A H0 H locs) (hA : ∀ q, H0.size ≤ q → A q)
    (isC isR isB : List Nat) (hok : okI isC isR isB = true) (hC : isC.map (fun i => wh[i]?) = wc.map some) (hR : isR.map (fun i => wh[i]?) = wr.map some) (hB2 : ∀ u, isB.map (fun i => (wr ++ w1 u)[i]?) = (w2 u).map some)
    (hl : ls.size = nL) (hst : st0 = As.reverse ++ rest) (hw : (rest.map fun v => v.category).sum ≤ 8) (hdg : decode cc pc = .ok (.invokestatic index, 3))
    (kk : ∀ (r : Int32) (u : S) (H1 : Heap) (locs1 : List Loc), post r u → va_P D cl (w2 u) H1 → va_D A (w2 u) → va_S A H0 H1 locs1 → W p l e R s m args below meth c H1 locs1 (cells + rm.cells) (slots + rm.slots) Q (F0 m (pc + 3) ls (.int r :: rest))) : W p l e R s m args below meth c H locs cells slots Q (F0 m pc ls st0) :=
  kc_i (va_runS (As := As) (rest := rest) Bd (hc H.size) ⟨callB_of As.length Bd.2.2.2.2 lk.1 rfl rfl rfl (Bd.2.2.2.2 _ lk.2.2.1) (Bd.2.2.2.2 _ lk.2.2.2.1) ⟨lk.2.2.2.2.1, lk.2.2.2.2.2, hpn⟩ (fitsRoom.ok hrm), Bd.2.2.2.2 _ lk.2.1⟩ ⟨cPre.blind, k_pre hG hP hD isC hC (okI.ok hok).1⟩ rfl rfl hl hst (lv_room hw) hdg hce) hP hD hS hA isC isR isB hC hR (okI.ok hok).2.1 (okI.ok hok).2.2.2 (okI.ok hok).2.2.1 hB2 kk
end
/-- the same for a method of the JDK -/
theorem CI.ofF {S : Type} {l : Launch} {cl : List vw_C} {nw : List Cond} {D : va_G} {tys : List (ClassId × FieldType)} {y : MethodName} {cc : ByteArray} {maxL : Nat} {ty : FieldType} {TB : List Cond} {rm : Room} {av : List Value} {w0 : va_W} {post : Int32 → S → Prop} {w1 : S → va_W}
    (hy : plainFor y = true) (hlen : (lg_sl av).length ≤ maxL)
    (body : ∀ (p : Program) (e : Env) (s : State) (m : MethodId) (args : Array Value) (below : List Frame) (meth : Method) (c : Code) (A : Nat → Prop) (Q : State → Prop) (ls : Array Slot),
      bd p c cc maxL s args TB y.cls m → gk cl nw D tys s → (∀ q, s.heap.size ≤ q → A q) → va_P D cl w0 s.heap → va_D A w0 → va_S A s.heap s.heap [] → lv_has ls maxL (lv_args 0 av) →
      (∀ (r : Int32) (u : S) (H : Heap) (locs : List Loc) (pc : Nat) (ls : Array Slot), decode cc pc = .ok (.ireturn, 1) → narrow ty (.int r) = .int r → post r u → va_P D cl (w1 u) H → va_D A (w1 u) → va_S A s.heap H locs → W p l e rm s m args below meth c H locs rm.cells rm.slots Q (F0 m pc ls [.int r])) →
      W p l e rm s m args below meth c s.heap [] 0 0 Q (F0 m 0 ls [])) :
    CI l cl nw D tys y (.code y cc maxL (some ty) :: TB) rm av w0 post w1 := by
  intro sz
  refine va_MetF (cc := cc) (maxL := maxL) (ret := some ty) hy rfl ?_
  intro p e s m args below meth c s₁ B hml hv
  obtain ⟨rfl, hsz, hP, hK, hD0⟩ := hv
  have hts := atoms_spec (ws := .code y cc maxL (some ty) :: TB) B.pre
  have hown : s.vm.findClass y.cls = some m.cls := findClass_of_methodNamed B.named
  have hlocks := B.notSynchronized
  have hr := B.returns
  subst hsz
  have hD := hD0.self (sz := s.heap.size)
  have hl := lv_entry av (n := maxL) hlen
  rw [lg_entry_eq]
  exact body p e s m _ below meth c (va_A w0 s.heap.size) _ _ ⟨B.exec, B.bytes, hml, hown, fun w hw => hts w (List.mem_cons_of_mem _ hw)⟩ hK (fun q h => Or.inr h) hP hD va_S.rf hl
    (fun r u H locs pc ls hdg hn hpost hP1 hD1 hS1 => W.zret B.exec B.bytes hr hn (fun t ht _ => ⟨⟨r, u, rfl, hpost, by rw [ht]; exact hP1, hD1⟩, hS1.F ht⟩) hS1.2.2 hdg hlocks)
