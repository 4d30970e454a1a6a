def CJ {S : Type} (l : Launch) (cl : List vw_C) (nw : List Cond) (D : va_G) (tys : List (ClassId × FieldType)) (y : MethodName) (ws : List Cond) (rm : Room) (av : List Value) (w0 : va_W) (post : Int64 → S → Prop) (w1 : S → va_W) : Prop :=
  ∀ sz, Met l y ws rm (cPre cl nw D tys av w0 sz) (va_Ql post (fun u t => va_P D cl (w1 u) t.heap ∧ va_D (va_A w0 sz) (w1 u)) (va_A w0 sz)) rm.cells rm.slots (va_A w0 sz)
theorem CJ.of {S : Type} {l : Launch} {cl : List vw_C} {nw : List Cond} {D : va_G} {tys : List (ClassId × FieldType)} {y : MethodName} {cc : ByteArray} {maxL : Nat} {TB : List Cond} {rm : Room} {av : List Value} {w0 : va_W} {post : Int64 → S → Prop} {w1 : S → va_W}
    (hy : plainName y.cls = true) (hlen : (lg_sl av).length ≤ maxL)
    (body : ∀ (p : Program) (e : Env) (s : State) (m : MethodId) (args : Array Value) (below : List Frame) (meth : Method) (c : Code) (A : Nat → Prop) (Q : State → Prop) (ls : Array Slot),
      bd p c cc maxL s args TB y.cls m → gk cl nw D tys s → (∀ q, s.heap.size ≤ q → A q) → va_P D cl w0 s.heap → va_D A w0 → va_S A s.heap s.heap [] → lv_has ls maxL (lv_args 0 av) →
      (∀ (r : Int64) (u : S) (H : Heap) (locs : List Loc) (pc : Nat) (ls : Array Slot), decode cc pc = .ok (.lreturn, 1) → post r u → va_P D cl (w1 u) H → va_D A (w1 u) → va_S A s.heap H locs → W p l e rm s m args below meth c H locs rm.cells rm.slots Q (F0 m pc ls [.long r])) →
      W p l e rm s m args below meth c s.heap [] 0 0 Q (F0 m 0 ls [])) :
    CJ l cl nw D tys y (.code y cc maxL (some .long) :: TB) rm av w0 post w1 := by
  intro sz
  refine Met.ofW (cc := cc) (maxL := maxL) (ret := some .long) hy rfl ?_
  intro p e s m args below meth c s₁ B hml hv
  obtain ⟨rfl, hsz, hP, hK, hD0⟩ := hv
  have hts := atoms_spec (ws := .code y cc maxL (some .long) :: TB) B.pre
  have hown : s.vm.findClass y.cls = some m.cls := findClass_of_methodNamed B.named
  have hlocks := B.notSynchronized
  have hr := B.returns
  subst hsz
  have hD := hD0.self (sz := s.heap.size)
  have hl := lv_entry av (n := maxL) hlen
  rw [lg_entry_eq]
  exact body p e s m _ below meth c (va_A w0 s.heap.size) _ _ ⟨B.exec, B.bytes, hml, hown, fun w hw => hts w (List.mem_cons_of_mem _ hw)⟩ hK (fun q h => Or.inr h) hP hD va_S.rf hl
    (fun r u H locs pc ls hdg hpost hP1 hD1 hS1 => W.lret B.exec B.bytes hr (fun t ht _ => ⟨⟨r, u, rfl, hpost, by rw [ht]; exact hP1, hD1⟩, hS1.F ht⟩) hS1.2.2 hdg hlocks)
section
variable {p : Program} {l : Launch} {e : Env} {R : Room} {s : State} {m : MethodId} {args : Array Value} {below : List Frame} {meth : Method} {c : Code} {H : Heap} {locs : List Loc} {cells slots : Nat} {Q : State → Prop}
variable {pc : Nat} {ls : Array Slot} {rest st0 : List Value} {A : Nat → Prop} {H0 : Heap} {cl : List vw_C} {nw : List Cond} {D : va_G} {tys : List (ClassId × FieldType)}
variable {y : MethodName} {bytes cc : ByteArray} {maxL nL n index : Nat} {ret : Option FieldType} {ws : List Cond} {rm : Room} {Ts : List Cond} {own C : String} {b : Addr} {As : List Value} {wh wc wr : va_W}
theorem kc_l {S : Type} {post : Int64 → S → Prop} {w1 w2 : S → va_W} {a : Array Value} {mc ms : Nat}
    (hr : va_Run p l e R s m args below meth c H locs cells slots mc ms (F0 m pc ls st0) rest (va_Ql post (fun u t => va_P D cl (w1 u) t.heap ∧ va_D (va_A wc H.size) (w1 u)) (va_A wc H.size) a) (va_A wc H.size))
    (hP : va_P D cl wh H) (hD : va_D A wh) (hS : va_S A H0 H locs) (hA : ∀ q, H0.size ≤ q → A q)
    (isC isR isB : List Nat) (hC : isC.map (fun i => wh[i]?) = wc.map some) (hR : isR.map (fun i => wh[i]?) = wr.map some) (hn : va_nd isR = true) (hdis : ∀ i ∈ isR, i ∉ isC) (hnB : va_nd isB = true) (hB2 : ∀ u, isB.map (fun i => (wr ++ w1 u)[i]?) = (w2 u).map some)
    (kk : ∀ (r : Int64) (u : S) (H1 : Heap) (locs1 : List Loc), post r u → va_P D cl (w2 u) H1 → va_D A (w2 u) → va_S A H0 H1 locs1 → W p l e R s m args below meth c H1 locs1 (cells + mc) (slots + ms) Q (F0 m (pc + 3) ls (.long r :: rest))) : W p l e R s m args below meth c H locs cells slots Q (F0 m pc ls st0) := by
  have hF := va_free hD hS hA isC hC
  refine va_calll hr hS (fun q _ h => hF q h) hF (fun r u t H1 locs1 ht _ hw hB _ hk hS1 => ?_)
  obtain ⟨hP1, hD1⟩ := hB
  rw [ht] at hP1
  obtain ⟨hP2, hD2⟩ := va_join hP hD isC isR hC hR hn hdis hk hF hP1 hD1
  exact kk r u H1 locs1 hw (hP_in hP2 isB (hB2 u)) (hD2.sub isB hnB (hB2 u)) hS1
end
section
variable {p : Program} {l : Launch} {e : Env} {R : Room} {s : State} {m : MethodId} {args : Array Value} {below : List Frame} {meth : Method} {c : Code} {H : Heap} {locs : List Loc} {cells slots : Nat} {Q : State → Prop}
variable {pc : Nat} {ls : Array Slot} {st0 : List Value} {A : Nat → Prop} {H0 : Heap} {cl : List vw_C} {nw : List Cond} {D : va_G} {tys : List (ClassId × FieldType)}
variable {y : MethodName} {bytes cc : ByteArray} {maxL nL index : Nat} {ret : Option FieldType} {rm : Room} {TB : List Cond} {own C host : String} {b : Addr} {wh wc wr : va_W}
theorem kS_l {S : Type} {post : Int64 → S → Prop} {w1 w2 : S → va_W} (As rest : List Value) (Bd : bd p c cc nL s args TB own m) (lk : lkS TB own index y (.code y bytes maxL ret)) (hpn : (parseMethodDescriptor y.desc).map (fun d => d.parameters.length) = some As.length)
    (hc : CJ l cl nw D tys y (.code y bytes maxL ret :: TB) rm As wc post w1) (hrm : fitsRoom rm R maxL = true) (hce : cells + rm.cells ≤ R.cells ∧ slots + rm.slots ≤ R.slots)
    (hG : gk cl nw D tys s) (hP : va_P D cl wh H) (hD : va_D A wh) (hS : va_S A H0 H locs) (hA : ∀ q, H0.size ≤ q → A q)
    (isC isR isB : List Nat) (hok : okI isC isR isB = true) (hC : isC.map (fun i => wh[i]?) = wc.map some) (hR : isR.map (fun i => wh[i]?) = wr.map some) (hB2 : ∀ u, isB.map (fun i => (wr ++ w1 u)[i]?) = (w2 u).map some)
     (hl : ls.size = nL) (hst : st0 = As.reverse ++ rest) (hw : (rest.map fun v => v.category).sum ≤ 8) (hdg : decode cc pc = .ok (.invokestatic index, 3))
    (kk : ∀ (r : Int64) (u : S) (H1 : Heap) (locs1 : List Loc), post r u → va_P D cl (w2 u) H1 → va_D A (w2 u) → va_S A H0 H1 locs1 → W p l e R s m args below meth c H1 locs1 (cells + rm.cells) (slots + rm.slots) Q (F0 m (pc + 3) ls (.long r :: rest))) : W p l e R s m args below meth c H locs cells slots Q (F0 m pc ls st0) :=
  kc_l (va_runS (As := As) (rest := rest) Bd (hc H.size) (cwS As.length Bd.2.2.2.2 lk.1 rfl rfl rfl ⟨lk.2.1, lk.2.2.1, lk.2.2.2, hpn⟩ (fitsRoom.ok hrm)) ⟨cPre.blind, k_pre hG hP hD isC hC (okI.ok hok).1⟩ rfl rfl hl hst (lv_room hw) hdg hce) hP hD hS hA isC isR isB hC hR (okI.ok hok).2.1 (okI.ok hok).2.2.2 (okI.ok hok).2.2.1 hB2 kk
end
theorem k_496 : (Cond.constantLong "TileScreen$Display" 81 65535) ∈ TB := tb_in (List.mem_of_getElem? (i := 496) (by decide +kernel)) (by decide +kernel)
