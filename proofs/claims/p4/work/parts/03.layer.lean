/-! CONTRACTS AND CALLS: one form of contract for all methods: a start world, a post world, the frame; a call is one row. -/
def nw_ok : Cond → Bool
  | .fieldLinkNest .. => true
  | .methodLinkNest .. => true
  | .castable .. => true
  | .arrayOver (.object _) => true
  | _ => false
/-- what a world stands on: the classes, the array classes, the words of the nest -/
def gk (cl : List vw_C) (nw : List Cond) (D : va_G) (tys : List (ClassId × FieldType)) (U : State) : Prop := va_K D cl tys U ∧ ∀ w ∈ nw, nw_ok w = true ∧ va_Nw w U
theorem gk.warm {cl : List vw_C} {nw : List Cond} {D : va_G} {tys : List (ClassId × FieldType)} {s U : State} (hW : s.WarmedH U.vm) (h : gk cl nw D tys s) : gk cl nw D tys U := by
  refine ⟨va_K.moved hW.alike h.1, fun w hw => ⟨(h.2 w hw).1, ?_⟩⟩
  obtain ⟨h2, h1⟩ := h.2 w hw
  cases w with
  | fieldLinkNest => exact va_Nw.warmF hW h1
  | methodLinkNest => exact va_Nw.warmM hW h1
  | castable => exact va_Nw.warmC hW h1
  | arrayOver ty => cases ty with
    | object C => exact va_AO.moved hW.alike h1
    | _ => exact Bool.noConfusion h2
  | _ => exact Bool.noConfusion h2
theorem nw_call {w : Cond} {U : State} (g : JFrame) (mk : MethodId) (a : Array Value) (h2 : nw_ok w = true) (h1 : va_Nw w U) : va_Nw w (U.calling g mk a) := by
  cases w with
  | fieldLinkNest => exact va_Nw.same (u := U) rfl rfl h1
  | methodLinkNest => exact va_Nw.same (u := U) rfl rfl h1
  | castable => exact va_Nw.same (u := U) rfl rfl h1
  | arrayOver ty => cases ty with
    | object C => exact va_AO.moved (u := U) (U := U.calling g mk a) (Vm.Alike.refl U.vm) h1
    | _ => exact Bool.noConfusion h2
  | _ => exact Bool.noConfusion h2
theorem gk.call {cl : List vw_C} {nw : List Cond} {D : va_G} {tys : List (ClassId × FieldType)} {U : State} (g : JFrame) (mk : MethodId) (a : Array Value) (h : gk cl nw D tys U) : gk cl nw D tys (U.calling g mk a) :=
  ⟨va_K.moved (u := U) (U := U.calling g mk a) (Vm.Alike.refl U.vm) h.1, fun w hw => ⟨(h.2 w hw).1, nw_call g mk a (h.2 w hw).1 (h.2 w hw).2⟩⟩
def cPre (cl : List vw_C) (nw : List Cond) (D : va_G) (tys : List (ClassId × FieldType)) (av : List Value) (w0 : va_W) (sz : Nat) : Array Value → State → Prop :=
  va_Pc av (fun U => U.heap.size = sz ∧ va_P D cl w0 U.heap ∧ gk cl nw D tys U ∧ va_D (fun _ => True) w0)
theorem cPre.blind {cl : List vw_C} {nw : List Cond} {D : va_G} {tys : List (ClassId × FieldType)} {av : List Value} {w0 : va_W} {sz : Nat} : FrameBlind (cPre cl nw D tys av w0 sz) := fun a U g mk q => by
  obtain ⟨q0, q1, qP, qK, qD⟩ := q
  exact ⟨q0, q1, qP, qK.call g mk a, qD⟩
/-- the contract of a method that answers an int -/
def CI {S : Type} (l : Launch) (cl : List vw_C) (nw : List Cond) (D : va_G) (tys : List (ClassId × FieldType)) (y : MethodName) (ws : List Cond) (rm : Room) (av : List Value) (w0 : va_W) (post : Int32 → S → Prop) (w1 : S → va_W) : Prop :=
  ∀ sz, Met l y ws rm (cPre cl nw D tys av w0 sz) (va_Qi post (fun u t => va_P D cl (w1 u) t.heap ∧ va_D (va_A w0 sz) (w1 u)) (va_A w0 sz)) rm.cells rm.slots (va_A w0 sz)
/-- the contract of a method that answers nothing -/
def CV {S : Type} (l : Launch) (cl : List vw_C) (nw : List Cond) (D : va_G) (tys : List (ClassId × FieldType)) (y : MethodName) (ws : List Cond) (rm : Room) (av : List Value) (w0 : va_W) (post : S → Prop) (w1 : S → va_W) : Prop :=
  ∀ sz, Met l y ws rm (cPre cl nw D tys av w0 sz) (va_Qv post (fun u t => va_P D cl (w1 u) t.heap ∧ va_D (va_A w0 sz) (w1 u)) (va_A w0 sz)) rm.cells rm.slots (va_A w0 sz)
theorem fm_of {α β : Type} {f : α → Option β} : ∀ (is : List α) (l : List β), is.map f = l.map some → is.filterMap f = l
  | [], [], _ => rfl
  | [], _ :: _, h => by cases h
  | _ :: _, [], h => by cases h
  | i :: is, b :: l, h => by
    rw [List.map_cons, List.map_cons] at h
    have h1 := (List.cons.inj h).1
    have h2 := fm_of is l (List.cons.inj h).2
    rw [List.filterMap_cons, h1, h2]
theorem hP_in {D : va_G} {cl : List vw_C} {ws ws' : va_W} {H : Heap} (h : va_P D cl ws H) (is : List Nat) (hs : is.map (fun i => ws[i]?) = ws'.map some) : va_P D cl ws' H := h.sub is (fm_of is ws' hs)
section
variable {p : Program} {l : Launch} {e : Env} {R : Room} {s : State} {m : MethodId} {args : Array Value} {below : List Frame} {meth : Method} {c : Code} {H : Heap} {locs : List Loc} {cells slots : Nat} {Q : State → Prop}
variable {pc : Nat} {ls : Array Slot} {rest st0 : List Value} {A : Nat → Prop} {H0 : Heap} {cl : List vw_C} {nw : List Cond} {D : va_G} {tys : List (ClassId × FieldType)}
variable {y : MethodName} {bytes cc : ByteArray} {maxL nL n index : Nat} {ret : Option FieldType} {ws : List Cond} {rm : Room} {Ts : List Cond} {own C : String} {b : Addr} {As : List Value} {wh wc wr : va_W}
/-- behind a call: the callee's cells stand in their places (isB) beside the rest -/
theorem kc_i {S : Type} {post : Int32 → S → Prop} {w1 w2 : S → va_W} {a : Array Value} {mc ms : Nat}
    (hr : va_Run p l e R s m args below meth c H locs cells slots mc ms (F0 m pc ls st0) rest (va_Qi post (fun u t => va_P D cl (w1 u) t.heap ∧ va_D (va_A wc H.size) (w1 u)) (va_A wc H.size) a) (va_A wc H.size))
    (hP : va_P D cl wh H) (hD : va_D A wh) (hS : va_S A H0 H locs) (hA : ∀ q, H0.size ≤ q → A q)
    (isC isR isB : List Nat) (hC : isC.map (fun i => wh[i]?) = wc.map some) (hR : isR.map (fun i => wh[i]?) = wr.map some) (hn : va_nd isR = true) (hdis : ∀ i ∈ isR, i ∉ isC) (hnB : va_nd isB = true) (hB2 : ∀ u, isB.map (fun i => (wr ++ w1 u)[i]?) = (w2 u).map some)
    (kk : ∀ (r : Int32) (u : S) (H1 : Heap) (locs1 : List Loc), post r u → va_P D cl (w2 u) H1 → va_D A (w2 u) → va_S A H0 H1 locs1 → W p l e R s m args below meth c H1 locs1 (cells + mc) (slots + ms) Q (F0 m (pc + 3) ls (.int r :: rest))) : W p l e R s m args below meth c H locs cells slots Q (F0 m pc ls st0) := by
  have hF := va_free hD hS hA isC hC
  refine va_calli hr hS (fun q _ h => hF q h) hF (fun r u t H1 locs1 ht _ hw hB _ hk hS1 => ?_)
  obtain ⟨hP1, hD1⟩ := hB
  rw [ht] at hP1
  obtain ⟨hP2, hD2⟩ := va_join hP hD isC isR hC hR hn hdis hk hF hP1 hD1
  exact kk r u H1 locs1 hw (hP_in hP2 isB (hB2 u)) (hD2.sub isB hnB (hB2 u)) hS1
theorem kc_v {S : Type} {post : S → Prop} {w1 w2 : S → va_W} {a : Array Value} {mc ms : Nat}
    (hr : va_Run p l e R s m args below meth c H locs cells slots mc ms (F0 m pc ls st0) rest (va_Qv post (fun u t => va_P D cl (w1 u) t.heap ∧ va_D (va_A wc H.size) (w1 u)) (va_A wc H.size) a) (va_A wc H.size))
    (hP : va_P D cl wh H) (hD : va_D A wh) (hS : va_S A H0 H locs) (hA : ∀ q, H0.size ≤ q → A q)
    (isC isR isB : List Nat) (hC : isC.map (fun i => wh[i]?) = wc.map some) (hR : isR.map (fun i => wh[i]?) = wr.map some) (hn : va_nd isR = true) (hdis : ∀ i ∈ isR, i ∉ isC) (hnB : va_nd isB = true) (hB2 : ∀ u, isB.map (fun i => (wr ++ w1 u)[i]?) = (w2 u).map some)
    (kk : ∀ (u : S) (H1 : Heap) (locs1 : List Loc), post u → va_P D cl (w2 u) H1 → va_D A (w2 u) → va_S A H0 H1 locs1 → W p l e R s m args below meth c H1 locs1 (cells + mc) (slots + ms) Q (F0 m (pc + 3) ls rest)) : W p l e R s m args below meth c H locs cells slots Q (F0 m pc ls st0) := by
  have hF := va_free hD hS hA isC hC
  refine va_callv hr hS (fun q _ h => hF q h) hF (fun u t H1 locs1 ht _ hw hB _ hk hS1 => ?_)
  obtain ⟨hP1, hD1⟩ := hB
  rw [ht] at hP1
  obtain ⟨hP2, hD2⟩ := va_join hP hD isC isR hC hR hn hdis hk hF hP1 hD1
  exact kk u H1 locs1 hw (hP_in hP2 isB (hB2 u)) (hD2.sub isB hnB (hB2 u)) hS1
/-- what a caller gives a callee: its cells out of the caller's -/
theorem k_pre {av : List Value} (hG : gk cl nw D tys s) (hP : va_P D cl wh H) (hD : va_D A wh) (isC : List Nat) (hC : isC.map (fun i => wh[i]?) = wc.map some) (hnC : va_nd isC = true) :
    ∀ U : State, U.heap = H → s.WarmedH U.vm → cPre cl nw D tys av wc H.size av.toArray U := fun U hU hW =>
  ⟨rfl, by rw [hU], by rw [hU]; exact hP_in hP isC hC, hG.warm hW, (hD.sub isC hnC hC).weaken (fun _ _ _ _ => trivial)⟩
/-- the receiver stands in the callee's cells -/
theorem k_rcv {q0 ci : Nat} {fs : List Value} {q : vw_C} (hG : gk cl nw D tys s) (hP : va_P D cl wh H) (isC : List Nat) (hC : isC.map (fun i => wh[i]?) = wc.map some) (hq : wc[q0]? = some (b, .inr (ci, fs))) (hc : cl[ci]? = some q) :
    ∃ cell : Cell, H[b]? = some cell ∧ cell.vm.isStatics = false ∧ s.vm.findClass q.1 = some cell.cls := va_recv hG.1 (hP_in hP isC hC) hc hq
end
theorem gi_tb {TB : List Cond} {c1 c2 : Cond} (hTB : GoodIn TB TB) (h2 : c2 ∈ TB) : GoodIn (c1 :: TB) (c2 :: TB) := fun w hw => by
  rcases List.mem_cons.mp hw with rfl | h
  · exact ⟨List.mem_cons_of_mem _ h2, (hTB _ h2).2⟩
  · exact ⟨List.mem_cons_of_mem _ h, (hTB _ h).2⟩
theorem gi_app {big a b : List Cond} (ha : GoodIn big a) (hb : GoodIn big b) : GoodIn big (a ++ b) := fun w hw => by
  rcases List.mem_append.mp hw with h | h
  · exact ha w h
  · exact hb w h
theorem gi_nil {big : List Cond} : GoodIn big [] := fun _ h => by cases h
theorem gi_cons {TB : List Cond} {c1 w : Cond} {l : List Cond} (hTB : GoodIn TB TB) (h : w ∈ TB) (hl : GoodIn (c1 :: TB) l) : GoodIn (c1 :: TB) (w :: l) := fun v hv => by
  rcases List.mem_cons.mp hv with rfl | h'
  · exact ⟨List.mem_cons_of_mem _ h, (hTB _ h).2⟩
  · exact hl v h'
theorem gi_V {TB : List Cond} {c1 c2 : Cond} {own C : String} {idx : Nat} {y : MethodName} (hTB : GoodIn TB TB) (h2 : c2 ∈ TB) (a1 : Cond.methodLink own idx y ∈ TB) (a2 : Cond.instanceMethod y ∈ TB) (a3 : Cond.selects C y y ∈ TB) (a4 : Cond.initialized C ∈ TB) : GoodIn (c1 :: TB) (wsV own idx C y (c2 :: TB)) :=
  gi_app (gi_cons hTB a1 (gi_cons hTB a2 (gi_cons hTB a3 (gi_cons hTB a4 gi_nil)))) (gi_tb hTB h2)
theorem gi_S {TB : List Cond} {c1 c2 : Cond} {own : String} {idx : Nat} {y : MethodName} (hTB : GoodIn TB TB) (h2 : c2 ∈ TB) (a1 : Cond.methodLink own idx y ∈ TB) (a2 : Cond.static y ∈ TB) (a4 : Cond.initialized own ∈ TB) : GoodIn (c1 :: TB) (wsS own idx y (c2 :: TB)) :=
  gi_app (gi_cons hTB a1 (gi_cons hTB a2 (gi_cons hTB a4 gi_nil))) (gi_tb hTB h2)
/-- a contract at another start and another end -/
theorem Met_cs {l : Launch} {y : MethodName} {ws : List Cond} {rm : Room} {Pc Pc' : Array Value → State → Prop} {Qc Qc' : Array Value → State → Outcome → State → Prop} {mc ms : Nat} {free free' : Addr → Prop} (h : Met l y ws rm Pc Qc mc ms free) (hP : ∀ a s, Pc' a s → Pc a s) (hQ : ∀ a s o t, Pc' a s → Qc a s o t → Qc' a s o t) (hf : ∀ q, free q → free' q) : Met l y ws rm Pc' Qc' mc ms free' := by
  intro p e ha hc hk s m args below hfr hap hpc hK
  obtain ⟨n, o, h1, h2, h3, hq, L, h4, h5⟩ := h p e ha hc hk s m args below hfr hap (hP _ _ hpc) hK
  exact ⟨n, o, h1, h2, h3, hQ _ _ _ _ hpc hq, L, h4, fun q hq => hf _ (h5 q hq)⟩
