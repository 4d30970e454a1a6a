/-! A METHOD'S BODY: from the walk of its body, with an end that is left open (Q), to its contract; a call as one row. -/
/-- what stands all along a body: the machine, the code, the class that owns it, the words TB -/
def bd (p : Program) (c : Code) (cc : ByteArray) (nL : Nat) (s : State) (args : Array Value) (TB : List Cond) (own : String) (m : MethodId) : Prop :=
  p.tables.exec = Jvm.exec ∧ c.code = cc ∧ c.maxLocals = nL ∧ s.vm.findClass own = some m.cls ∧ ∀ w ∈ TB, w.before args s = true
theorem CI.of {S : Type} {l : Launch} {cl : List vw_C} {nw : List Cond} {D : va_G} {tys : List (ClassId × FieldType)} {y : MethodName} {cc : ByteArray} {maxL : Nat} {ty : FieldType} {TB : List Cond} {rm : Room} {av : List Value} {w0 : va_W} {post : Int32 → S → Prop} {w1 : S → va_W}
    (hy : plainName y.cls = true) (hlen : (lg_sl av).length ≤ maxL)
    (body : ∀ (p : Program) (e : Env) (s : State) (m : MethodId) (args : Array Value) (below : List Frame) (meth : Method) (c : Code) (A : Nat → Prop) (Q : State → Prop) (ls : Array Slot),
      bd p c cc maxL s args TB y.cls m → gk cl nw D tys s → (∀ q, s.heap.size ≤ q → A q) → va_P D cl w0 s.heap → va_D A w0 → va_S A s.heap s.heap [] → lv_has ls maxL (lv_args 0 av) →
      (∀ (r : Int32) (u : S) (H : Heap) (locs : List Loc) (pc : Nat) (ls : Array Slot), decode cc pc = .ok (.ireturn, 1) → narrow ty (.int r) = .int r → post r u → va_P D cl (w1 u) H → va_D A (w1 u) → va_S A s.heap H locs → W p l e rm s m args below meth c H locs rm.cells rm.slots Q (F0 m pc ls [.int r])) →
      W p l e rm s m args below meth c s.heap [] 0 0 Q (F0 m 0 ls [])) :
    CI l cl nw D tys y (.code y cc maxL (some ty) :: TB) rm av w0 post w1 := by
  intro sz
  refine Met.ofW (cc := cc) (maxL := maxL) (ret := some ty) hy rfl ?_
  intro p e s m args below meth c s₁ B hml hv
  obtain ⟨rfl, hsz, hP, hK, hD0⟩ := hv
  have hts := atoms_spec (ws := .code y cc maxL (some ty) :: TB) B.pre
  have hown : s.vm.findClass y.cls = some m.cls := findClass_of_methodNamed B.named
  have hlocks := B.notSynchronized
  have hr := B.returns
  subst hsz
  have hD := hD0.self (sz := s.heap.size)
  have hl := lv_entry av (n := maxL) hlen
  rw [lg_entry_eq]
  exact body p e s m _ below meth c (va_A w0 s.heap.size) _ _ ⟨B.exec, B.bytes, hml, hown, fun w hw => hts w (List.mem_cons_of_mem _ hw)⟩ hK (fun q h => Or.inr h) hP hD va_S.rf hl
    (fun r u H locs pc ls hdg hn hpost hP1 hD1 hS1 => W.zret B.exec B.bytes hr hn (fun t ht _ => ⟨⟨r, u, rfl, hpost, by rw [ht]; exact hP1, hD1⟩, hS1.F ht⟩) hS1.2.2 hdg hlocks)
theorem CV.of {S : Type} {l : Launch} {cl : List vw_C} {nw : List Cond} {D : va_G} {tys : List (ClassId × FieldType)} {y : MethodName} {cc : ByteArray} {maxL : Nat} {TB : List Cond} {rm : Room} {av : List Value} {w0 : va_W} {post : S → Prop} {w1 : S → va_W}
    (hy : plainName y.cls = true) (hlen : (lg_sl av).length ≤ maxL)
    (body : ∀ (p : Program) (e : Env) (s : State) (m : MethodId) (args : Array Value) (below : List Frame) (meth : Method) (c : Code) (A : Nat → Prop) (Q : State → Prop) (ls : Array Slot),
      bd p c cc maxL s args TB y.cls m → gk cl nw D tys s → (∀ q, s.heap.size ≤ q → A q) → va_P D cl w0 s.heap → va_D A w0 → va_S A s.heap s.heap [] → lv_has ls maxL (lv_args 0 av) → meth.name = y.name →
      (∀ (u : S) (H : Heap) (locs : List Loc) (pc : Nat) (ls : Array Slot), decode cc pc = .ok (.return_, 1) → post u → va_P D cl (w1 u) H → va_D A (w1 u) → va_S A s.heap H locs → W p l e rm s m args below meth c H locs rm.cells rm.slots Q (F0 m pc ls [])) →
      W p l e rm s m args below meth c s.heap [] 0 0 Q (F0 m 0 ls [])) :
    CV l cl nw D tys y (.code y cc maxL none :: TB) rm av w0 post w1 := by
  intro sz
  refine Met.ofW (cc := cc) (maxL := maxL) (ret := none) hy rfl ?_
  intro p e s m args below meth c s₁ B hml hv
  obtain ⟨rfl, hsz, hP, hK, hD0⟩ := hv
  have hts := atoms_spec (ws := .code y cc maxL none :: TB) B.pre
  have hown : s.vm.findClass y.cls = some m.cls := findClass_of_methodNamed B.named
  have hlocks := B.notSynchronized
  have hr := B.returns
  subst hsz
  have hD := hD0.self (sz := s.heap.size)
  have hl := lv_entry av (n := maxL) hlen
  rw [lg_entry_eq]
  exact body p e s m _ below meth c (va_A w0 s.heap.size) _ _ ⟨B.exec, B.bytes, hml, hown, fun w hw => hts w (List.mem_cons_of_mem _ hw)⟩ hK (fun q h => Or.inr h) hP hD va_S.rf hl (name_of_methodNamed B.named B.method).1
    (fun u H locs pc ls hdg hpost hP1 hD1 hS1 => W.vret B.exec B.bytes hr (fun t ht _ => ⟨⟨u, rfl, hpost, by rw [ht]; exact hP1, hD1⟩, hS1.F ht⟩) hS1.2.2 hdg hlocks)
section
variable {p : Program} {l : Launch} {e : Env} {R : Room} {s : State} {m : MethodId} {args : Array Value} {below : List Frame} {meth : Method} {c : Code} {H : Heap} {locs : List Loc} {cells slots : Nat} {Q : State → Prop}
variable {pc : Nat} {ls : Array Slot} {st0 : List Value} {A : Nat → Prop} {H0 : Heap} {cl : List vw_C} {nw : List Cond} {D : va_G} {tys : List (ClassId × FieldType)}
variable {y : MethodName} {bytes cc : ByteArray} {maxL nL n index : Nat} {ret : Option FieldType} {rm : Room} {TB : List Cond} {own C : String} {b : Addr} {wh wc wr : va_W}
/-- the links of a virtual call -/
def lkV (TB : List Cond) (own : String) (index : Nat) (C : String) (y : MethodName) (cd : Cond) : Prop := GoodIn TB (wsV own index C y (cd :: TB)) ∧ (y.cls = C ∧ y.cls ≠ "java/lang/invoke/MethodHandle" ∧ y.cls ≠ "java/lang/invoke/VarHandle")
def lkS (TB : List Cond) (own : String) (index : Nat) (y : MethodName) (cd : Cond) : Prop := GoodIn TB (wsS own index y (cd :: TB)) ∧ (y.cls = own ∧ y.cls ≠ "java/lang/invoke/MethodHandle" ∧ y.cls ≠ "java/lang/invoke/VarHandle")
def fitsRoom (rm R : Room) (maxL : Nat) : Bool := Nat.ble (rm.frames + 1) R.frames && Nat.ble (8 + (maxL + 11) + rm.locals) R.locals
theorem fitsRoom.ok {rm R : Room} {maxL : Nat} (h : fitsRoom rm R maxL = true) : rm.frames + 1 ≤ R.frames ∧ 8 + (maxL + 11) + rm.locals ≤ R.locals := by
  unfold fitsRoom at h
  rw [Bool.and_eq_true] at h
  exact ⟨Nat.le_of_ble_eq_true h.1, Nat.le_of_ble_eq_true h.2⟩
end
