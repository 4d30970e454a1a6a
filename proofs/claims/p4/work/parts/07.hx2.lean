section
variable {p : Program} {l : Launch} {e : Env} {R : Room} {s : State} {m : MethodId} {args : Array Value} {below : List Frame} {meth : Method} {c : Code} {H : Heap} {locs : List Loc} {cells slots : Nat} {Q : State → Prop} {pc : Nat} {ls : Array Slot} {rest : List Value}
/-- the first row takes it -/
theorem hx_catch1 {own name E : String} {ce : Cell} {q : Addr} (hown : s.vm.findClass own = some m.cls) (x : ExceptionTableEntry) (suf : List ExceptionTableEntry) (hsplit : c.exceptionTable.toList = x :: suf) (hx : covers x pc = true) (h0 : x.catchType ≠ 0)
    (hlink : (Cond.classLink own x.catchType name).before args s = true) (hcast : (Cond.castable E name).before args s = true) (hcell : H[q]? = some ce) (hv : ce.vm = .none) (hcl : s.vm.findClass E = some ce.cls)
    (kk : W p l e R s m args below meth c H locs cells slots Q (F0 m x.handlerPc ls [.ref q])) : vx_W p l e R s m args below meth c H locs cells slots Q (F0 m pc ls rest) q := by
  intro T hT X
  have hpl : e.platform.magicAccessors = ({} : Platform).magicAccessors := by rw [X.admits.platform]
  obtain ⟨c3, c4, hc3, hc4, hasg⟩ := Cond.castable_spec hcast
  cases Option.some.inj (hc3.symm.trans hcl)
  obtain ⟨c5, hc5, hcl5⟩ := Cond.classLink_spec hown hlink e.platform hpl
  cases Option.some.inj (hc4.symm.trans hc5)
  obtain ⟨dk, _, _, kt, hd, _, _, _, _, hkt, _, hopen⟩ := hcl5.here
  have hW := X.warmed
  obtain ⟨kt', hkt', -⟩ := hW.alike.2.2 _ _ hkt
  obtain ⟨k9, h9, -⟩ := Vm.findClass_spec hcl
  obtain ⟨k9', h9', -⟩ := hW.alike.2.2 _ _ h9
  have hW' : s.WarmedH (T.vm.noted m.cls x.catchType (.cls c4)) := hW.noted hd hopen (State.rightAt_cls hcl5)
  have hcT : T.heap[q]? = some ce := by rw [hT]; exact hcell
  obtain ⟨t, a1, b1⟩ := kk (T.setVm (T.vm.noted m.cls x.catchType (.cls c4))) hT (X.noted hW')
  refine ⟨t, hx_land (g := F0 m pc ls rest) (c := c) X.here (vm' := T.vm.noted m.cls x.catchType (.cls c4)) (pc := x.handlerPc) (fun Q E d acts => ?_) a1, b1⟩
  rw [W.findHandler_eq (s := (T.setTop (F0 m pc ls rest)).pushFrame (.throwing q)) (f := F0 m pc ls rest) (meth := meth) (code := c) X.method' X.code, hsplit,
    hx_row (s := (T.setTop (F0 m pc ls rest)).pushFrame (.throwing q)) (f := F0 m pc ls rest) (k := c4) (cell := ce) hx h0 (hW.classLinks hcl5) hcT (fun q => by rw [hv]; intro h; cases h) ⟨k9', h9'⟩ ⟨kt', hkt'⟩,
    if_pos (show ((T.setTop (F0 m pc ls rest)).pushFrame (.throwing q)).vm.assignable ce.cls c4 = true from (show T.vm.assignable ce.cls c4 = true by rw [hW.alike.assignable]; exact hasg))]
  exact Iff.rfl
/-- the first row is passed, the second takes it -/
theorem hx_catch2 {own name ny E : String} {ce : Cell} {q : Addr} (hown : s.vm.findClass own = some m.cls) (y x : ExceptionTableEntry) (suf : List ExceptionTableEntry) (hsplit : c.exceptionTable.toList = y :: x :: suf)
    (hy : covers y pc = true) (hy0 : y.catchType ≠ 0) (hylink : (Cond.classLink own y.catchType ny).before args s = true) (hno : va_Nc E ny s) (hx : covers x pc = true) (h0 : x.catchType ≠ 0)
    (hlink : (Cond.classLink own x.catchType name).before args s = true) (hcast : (Cond.castable E name).before args s = true) (hcell : H[q]? = some ce) (hv : ce.vm = .none) (hcl : s.vm.findClass E = some ce.cls)
    (kk : W p l e R s m args below meth c H locs cells slots Q (F0 m x.handlerPc ls [.ref q])) : vx_W p l e R s m args below meth c H locs cells slots Q (F0 m pc ls rest) q := by
  intro T hT X
  have hpl : e.platform.magicAccessors = ({} : Platform).magicAccessors := by rw [X.admits.platform]
  obtain ⟨c3, c4, hc3, hc4, hasg⟩ := Cond.castable_spec hcast
  cases Option.some.inj (hc3.symm.trans hcl)
  obtain ⟨c5, hc5, hcl5⟩ := Cond.classLink_spec hown hlink e.platform hpl
  cases Option.some.inj (hc4.symm.trans hc5)
  obtain ⟨a8, b8, g1, g2, g3⟩ := hno
  cases Option.some.inj (g1.symm.trans hcl)
  obtain ⟨c6, hc6, hcl6⟩ := Cond.classLink_spec hown hylink e.platform hpl
  cases Option.some.inj (g2.symm.trans hc6)
  obtain ⟨dk, _, _, kt, hd, _, _, _, _, hkt, _, hopen⟩ := hcl5.here
  obtain ⟨dk6, _, _, kt6, hd6, _, _, _, _, hkt6, _, hopen6⟩ := hcl6.here
  have hW := X.warmed
  obtain ⟨kt6', hkt6', -⟩ := hW.alike.2.2 _ _ hkt6
  obtain ⟨k9, h9, -⟩ := Vm.findClass_spec hcl
  obtain ⟨k9', h9', -⟩ := hW.alike.2.2 _ _ h9
  have hW6 : s.WarmedH (T.vm.noted m.cls y.catchType (.cls b8)) := hW.noted hd6 hopen6 (State.rightAt_cls hcl6)
  obtain ⟨kt', hkt', -⟩ := hW6.alike.2.2 _ _ hkt
  obtain ⟨k8', h8', -⟩ := hW6.alike.2.2 _ _ h9
  have hW' : s.WarmedH ((T.vm.noted m.cls y.catchType (.cls b8)).noted m.cls x.catchType (.cls c4)) := hW6.noted hd hopen (State.rightAt_cls hcl5)
  have hcT : T.heap[q]? = some ce := by rw [hT]; exact hcell
  obtain ⟨t, a1, b1⟩ := kk (T.setVm ((T.vm.noted m.cls y.catchType (.cls b8)).noted m.cls x.catchType (.cls c4))) hT (X.noted hW')
  refine ⟨t, hx_land (g := F0 m pc ls rest) (c := c) X.here (vm' := (T.vm.noted m.cls y.catchType (.cls b8)).noted m.cls x.catchType (.cls c4)) (pc := x.handlerPc) (fun Q E d acts => ?_) a1, b1⟩
  rw [W.findHandler_eq (s := (T.setTop (F0 m pc ls rest)).pushFrame (.throwing q)) (f := F0 m pc ls rest) (meth := meth) (code := c) X.method' X.code, hsplit,
    hx_row (s := (T.setTop (F0 m pc ls rest)).pushFrame (.throwing q)) (f := F0 m pc ls rest) (k := b8) (cell := ce) hy hy0 (hW.classLinks hcl6) hcT (fun q => by rw [hv]; intro h; cases h) ⟨k9', h9'⟩ ⟨kt6', hkt6'⟩,
    if_neg (show ¬ ((T.setTop (F0 m pc ls rest)).pushFrame (.throwing q)).vm.assignable ce.cls b8 = true from (show ¬ T.vm.assignable ce.cls b8 = true by rw [hW.alike.assignable, g3]; decide)),
    hx_row (s := ((T.setTop (F0 m pc ls rest)).pushFrame (.throwing q)).setVm (((T.setTop (F0 m pc ls rest)).pushFrame (.throwing q)).vm.noted (F0 m pc ls rest).method.cls y.catchType (.cls b8))) (f := F0 m pc ls rest) (k := c4) (cell := ce) hx h0 (hW6.classLinks hcl5) hcT (fun q => by rw [hv]; intro h; cases h) ⟨k8', h8'⟩ ⟨kt', hkt'⟩,
    if_pos (show (((T.setTop (F0 m pc ls rest)).pushFrame (.throwing q)).setVm (((T.setTop (F0 m pc ls rest)).pushFrame (.throwing q)).vm.noted (F0 m pc ls rest).method.cls y.catchType (.cls b8))).vm.assignable ce.cls c4 = true from (show (T.vm.noted m.cls y.catchType (.cls b8)).assignable ce.cls c4 = true by rw [hW6.alike.assignable]; exact hasg))]
  exact Iff.rfl
end
