section
variable {l : Launch} {D : va_G} {cI cZ cL cV : ClassId}
/-! CREDIT: a method that throws, and the law's own method that catches it -/
abbrev X_A : String := "java/lang/IllegalArgumentException"
abbrev X_S : String := "java/lang/IllegalStateException"
abbrev X_up : List String := ["java/lang/RuntimeException", "java/lang/Exception"]
def isDec : Cond → Bool
  | .declares _ => true
  | _ => false
def X_dec : List Cond := tables_1.filter isDec
theorem dec_warm {w : Cond} {s U : State} (h : isDec w = true) (hW : s.WarmedH U.vm) (hz : va_Nw w s) : va_Nw w U := by
  cases w with
  | declares => exact va_Nw.warmD hW hz
  | _ => exact Bool.noConfusion h
theorem dec_call {w : Cond} {U : State} (g : JFrame) (mk : MethodId) (a : Array Value) (h : isDec w = true) (hz : va_Nw w U) : va_Nw w (U.calling g mk a) := by
  cases w with
  | declares => exact va_Nw.same (u := U) rfl rfl hz
  | _ => exact Bool.noConfusion h
theorem dec_of {w : Cond} {A : Array Value} {U : State} (h : isDec w = true) (hz : w.before A U = true) : va_Nw w U := by
  cases w with
  | declares => exact va_Nw.of rfl hz
  | _ => exact Bool.noConfusion h
/-- what a throw stands on: Throwable's two statics, the texts, the words on declared constructors, and that the two classes are apart -/
def xOk (A : Nat → Prop) (U : State) (H : Heap) : Prop := vx_Zq Bundle.tN "UNASSIGNED_STACK" Bundle.steD A U H ∧ vx_Zq Bundle.tN "SUPPRESSED_SENTINEL" Bundle.listD A U H ∧ (∃ a, vk_R "TileScreen" 79 "no such viewer or number of bytes" a U) ∧ (∃ a, vk_R "TileScreen" 89 "not connected, or too much credit" a U) ∧ va_Nc X_S X_A U ∧ ∀ w ∈ X_dec, va_Nw w U
theorem xOk.warm {A : Nat → Prop} {s U : State} {H : Heap} (hW : s.WarmedH U.vm) (h : xOk A s H) : xOk A U H := by
  obtain ⟨h1, h2, ⟨a, h3⟩, ⟨b, h4⟩, h5, h6⟩ := h
  exact ⟨h1.moved hW.alike, h2.moved hW.alike, ⟨a, h3.warm hW⟩, ⟨b, h4.warm hW⟩, h5.moved hW.alike, fun w hw => dec_warm (List.mem_filter.mp hw).2 hW (h6 w hw)⟩
theorem xOk.call {A : Nat → Prop} {U : State} {H : Heap} (g : JFrame) (mk : MethodId) (a : Array Value) (h : xOk A U H) : xOk A (U.calling g mk a) H := by
  obtain ⟨h1, h2, ⟨a3, h3⟩, ⟨a4, h4⟩, h5, h6⟩ := h
  exact ⟨vx_Zq.moved (u := U) (U := U.calling g mk a) (Vm.Alike.refl U.vm) h1, vx_Zq.moved (u := U) (U := U.calling g mk a) (Vm.Alike.refl U.vm) h2, ⟨a3, vk_R.same (u := U) (U := U.calling g mk a) rfl h3⟩, ⟨a4, vk_R.same (u := U) (U := U.calling g mk a) rfl h4⟩, va_Nc.moved (u := U) (U := U.calling g mk a) (Vm.Alike.refl U.vm) h5, fun w hw => dec_call g mk a (List.mem_filter.mp hw).2 (h6 w hw)⟩
theorem xOk.kept {A : Nat → Prop} {U : State} {H H1 : Heap} (h : xOk A U H) (hq : ∀ a : Nat, a < H.size → ¬ A a → H1[a]? = H[a]?) : xOk A U H1 := ⟨h.1.kept hq, h.2.1.kept hq, h.2.2⟩
theorem xOk.narrow {A B : Nat → Prop} {U : State} {H : Heap} (h : xOk A U H) (hAB : ∀ q, B q → A q) : xOk B U H := ⟨h.1.narrow hAB, h.2.1.narrow hAB, h.2.2⟩
def xPre (cl : List vw_C) (nw : List Cond) (D : va_G) (tys : List (ClassId × FieldType)) (av : List Value) (w0 : va_W) (sz : Nat) : Array Value → State → Prop := fun a U => cPre cl nw D tys av w0 sz a U ∧ xOk (va_A w0 sz) U U.heap
theorem xPre.blind {cl : List vw_C} {nw : List Cond} {D : va_G} {tys : List (ClassId × FieldType)} {av : List Value} {w0 : va_W} {sz : Nat} : FrameBlind (xPre cl nw D tys av w0 sz) := fun a U g mk q => ⟨cPre.blind a U g mk q.1, q.2.call g mk a⟩
/-- it throws E0, and the world stays -/
def CX (l : Launch) (cl : List vw_C) (nw : List Cond) (D : va_G) (tys : List (ClassId × FieldType)) (y : MethodName) (ws : List Cond) (rm : Room) (av : List Value) (w0 : va_W) (E0 : String) : Prop :=
  ∀ sz, vx_Met l y ws rm (xPre cl nw D tys av w0 sz) (va_Qi (S := Unit) (fun _ _ => False) (fun _ _ => True) (va_A w0 sz)) (vx_X (S := Unit) (fun _ => True) (fun E _ t => E = E0 ∧ va_P D cl w0 t.heap ∧ va_D (va_A w0 sz) w0) (va_A w0 sz)) rm.cells rm.slots (va_A w0 sz)
theorem CX.of {l : Launch} (hst : l.stackTraces = false) {nw : List Cond} {D : va_G} {tys : List (ClassId × FieldType)} {y : MethodName} {cc : ByteArray} {maxL : Nat} {ty : FieldType} {TB : List Cond} {rm : Room} {av : List Value} {w0 : va_W} {cl : List vw_C} {E0 text : String} {ik is ic : Nat}
    (hy : plainName y.cls = true) (hlen : (lg_sl av).length ≤ maxL) (hf0 : Bundle.fit E0 = true) (hfu : ∀ n ∈ X_up, Bundle.fit n = true) (hrc : 1 ≤ rm.cells) (hrs : 6 ≤ rm.slots) (hrf : 5 < rm.frames) (hrl : 82 ≤ rm.locals)
    (hk : Cond.classLink y.cls ik E0 ∈ TB) (hini : Cond.initialized E0 ∈ TB) (hgd : ∀ w ∈ vx_atS y.cls ic E0 X_up, vx_ot w = true) (hat : ∀ w ∈ (vx_atS y.cls ic E0 X_up).filter goodWord, w ∈ TB) (hbad : ∀ w ∈ (vx_atS y.cls ic E0 X_up).filter (fun w => !goodWord w), (w ∈ nw ∨ w ∈ X_dec) ∧ w.onTables = true) (hk2 : vx_ot (Cond.classLink y.cls ik E0) = true) (hi2 : vx_ot (Cond.initialized E0) = true)
    (htx : ∀ (A : Nat → Prop) (U : State) (H : Heap), xOk A U H → ∃ a, vk_R y.cls is text a U)
    (body : ∀ (p : Program) (e : Env) (s : State) (m : MethodId) (args : Array Value) (below : List Frame) (meth : Method) (c : Code) (A : Nat → Prop) (Q : State → Prop) (ls : Array Slot),
      bd p c cc maxL s args TB y.cls m → gk cl nw D tys s → (∀ q, s.heap.size ≤ q → A q) → va_P D cl w0 s.heap → va_D A w0 → va_S A s.heap s.heap [] → lv_has ls maxL (lv_args 0 av) →
      (∀ (H : Heap) (locs : List Loc) (pc : Nat) (ls : Array Slot), ls.size = maxL → va_P D cl w0 H → va_S A s.heap H locs → decode cc pc = .ok (.new ik, 3) → decode cc (pc + 3) = .ok (.dup, 1) → decode cc (pc + 4) = .ok (.ldc is, 2) → decode cc (pc + 6) = .ok (.invokespecial ic, 3) → decode cc (pc + 9) = .ok (.athrow, 1) → W p l e rm s m args below meth c H locs 0 0 Q (F0 m pc ls [])) →
      W p l e rm s m args below meth c s.heap [] 0 0 Q (F0 m 0 ls [])) :
    CX l cl nw D tys y (.code y cc maxL (some ty) :: TB) rm av w0 E0 := by
  intro sz
  refine vx_ofW (cc := cc) (maxL := maxL) (ret := some ty) hy rfl ?_
  intro p e s m args below meth c s₁ B hml hex hv
  obtain ⟨⟨rfl, hsz, hP, hK, hD0⟩, hX⟩ := hv
  have hts := atoms_spec (ws := .code y cc maxL (some ty) :: TB) B.pre
  have hown : s.vm.findClass y.cls = some m.cls := findClass_of_methodNamed B.named
  have hlocks := B.notSynchronized
  subst hsz
  have hD := hD0.self (sz := s.heap.size)
  have hl := lv_entry av (n := maxL) hlen
  rw [lg_entry_eq]
  refine body p e s m _ below meth c (va_A w0 s.heap.size) _ _ ⟨B.exec, B.bytes, hml, hown, fun w hw => hts w (List.mem_cons_of_mem _ hw)⟩ hK (fun q h => Or.inr h) hP hD va_S.rf hl ?_
  intro H locs pc ls hsize hP1 hS1 d0 d3 d4 d6 d9
  obtain ⟨sa, hstr⟩ := htx _ _ _ hX
  refine vx_throwS (A := va_A w0 s.heap.size) (names := X_up) (text := text) (sa := sa) B.exec B.bytes hst hown hf0 hfu (hts _ (List.mem_cons_of_mem _ hk)) (hts _ (List.mem_cons_of_mem _ hini)) hstr ?_ ?_ hX.1 hX.2.1 hS1 (hsize.trans hml.symm) d0 d3 d4 d6 d9 (fun x hx => (hex x hx).elim) ?_ ?_ ?_ ?_ hlocks ?_ (fun z hz => hS1.2.2 z hz) ?_ ?_
  · exact vx_hat (B := (vx_atS y.cls ic E0 X_up).filter (fun w => !goodWord w)) (fun w hw => hts _ (List.mem_cons_of_mem _ (hat w hw))) (fun w hw => hw) (fun w hw => va_Nw.use (hbad w hw).2 ((hbad w hw).1.elim (fun h9 => (hK.2 w h9).2) (fun h9 => hX.2.2.2.2.2 w h9)))
  · intro w hw
    rcases List.mem_cons.mp hw with rfl | hw
    · exact hk2
    rcases List.mem_cons.mp hw with rfl | hw
    · exact hi2
    · exact hgd w hw
  · exact hrf
  · exact hrl
  · exact Nat.le_trans (by decide) hrc
  · exact Nat.le_trans (by decide) hrs
  · intro t hal hz hk1
    refine ⟨(), trivial, ⟨rfl, hP1.kept (fun k x hx => hk1 _ (hP1 k x hx).lt), hD⟩, Nat.le_trans hS1.1 hz, fun q hq hA => ?_⟩
    rw [hk1 q (Nat.lt_of_lt_of_le hq hS1.1)]
    exact hS1.2.1 q hq hA
  · exact hrc
  · exact hrs
theorem fu_up : ∀ n ∈ X_up, Bundle.fit n = true := by decide +kernel
theorem xA_gd : ∀ w ∈ vx_atS "TileScreen" 81 X_A X_up, vx_ot w = true := by
  have h : (vx_atS "TileScreen" 81 X_A X_up).all vx_ot = true := by decide +kernel
  exact fun w hw => List.all_eq_true.mp h w hw
theorem xA_at : ∀ w ∈ (vx_atS "TileScreen" 81 X_A X_up).filter goodWord, w ∈ TB := by
  have h : ((vx_atS "TileScreen" 81 X_A X_up).filter goodWord).all (fun w => (decide (w ∈ tables_1) || decide (w ∈ k2_sels lw_privs)) && goodWord w) = true := by decide +kernel
  intro w hw
  have h1 := List.all_eq_true.mp h w hw
  rw [Bool.and_eq_true, Bool.or_eq_true, decide_eq_true_iff, decide_eq_true_iff] at h1
  rcases h1 with ⟨h1 | h1, h2⟩
  · exact tb_in h1 h2
  · exact tb_sel h1 h2
theorem xA_bad : ∀ w ∈ (vx_atS "TileScreen" 81 X_A X_up).filter (fun w => !goodWord w), (w ∈ NW ∨ w ∈ X_dec) ∧ w.onTables = true := by
  have h : ((vx_atS "TileScreen" 81 X_A X_up).filter (fun w => !goodWord w)).all (fun w => decide (w ∈ tables_1) && ((nw_ok w || isDec w) && w.onTables)) = true := by decide +kernel
  intro w hw
  have h1 := List.all_eq_true.mp h w hw
  rw [Bool.and_eq_true, Bool.and_eq_true, Bool.or_eq_true, decide_eq_true_iff] at h1
  exact ⟨h1.2.1.elim (fun h9 => Or.inl (nw_in h1.1 h9)) (fun h9 => Or.inr (List.mem_filter.mpr ⟨h1.1, h9⟩)), h1.2.2⟩
theorem xS_gd : ∀ w ∈ vx_atS "TileScreen" 91 X_S X_up, vx_ot w = true := by
  have h : (vx_atS "TileScreen" 91 X_S X_up).all vx_ot = true := by decide +kernel
  exact fun w hw => List.all_eq_true.mp h w hw
theorem xS_at : ∀ w ∈ (vx_atS "TileScreen" 91 X_S X_up).filter goodWord, w ∈ TB := by
  have h : ((vx_atS "TileScreen" 91 X_S X_up).filter goodWord).all (fun w => (decide (w ∈ tables_1) || decide (w ∈ k2_sels lw_privs)) && goodWord w) = true := by decide +kernel
  intro w hw
  have h1 := List.all_eq_true.mp h w hw
  rw [Bool.and_eq_true, Bool.or_eq_true, decide_eq_true_iff, decide_eq_true_iff] at h1
  rcases h1 with ⟨h1 | h1, h2⟩
  · exact tb_in h1 h2
  · exact tb_sel h1 h2
theorem xS_bad : ∀ w ∈ (vx_atS "TileScreen" 91 X_S X_up).filter (fun w => !goodWord w), (w ∈ NW ∨ w ∈ X_dec) ∧ w.onTables = true := by
  have h : ((vx_atS "TileScreen" 91 X_S X_up).filter (fun w => !goodWord w)).all (fun w => decide (w ∈ tables_1) && ((nw_ok w || isDec w) && w.onTables)) = true := by decide +kernel
  intro w hw
  have h1 := List.all_eq_true.mp h w hw
  rw [Bool.and_eq_true, Bool.and_eq_true, Bool.or_eq_true, decide_eq_true_iff] at h1
  exact ⟨h1.2.1.elim (fun h9 => Or.inl (nw_in h1.1 h9)) (fun h9 => Or.inr (List.mem_filter.mpr ⟨h1.1, h9⟩)), h1.2.2⟩
set_option maxHeartbeats 1000000 in
set_option maxRecDepth 100000 in
theorem c_Scr_credit_arg (hst : l.stackTraces = false) (ts : Nat) (dr : Nat) (cl : Nat) (cp : Nat) (vs : Nat) (num : Nat) (v : Int32) (n : Int32) (hno : ¬ (vwP v ∧ ∃ q, 1 ≤ q ∧ q ≤ 1000000 ∧ n = nI q)) : CX l classes NW D (TYS cI cZ cL cV) y_Scr_credit (.code y_Scr_credit b_Scr_credit 4 (some .int) :: TB) { frames := 6, cells := 1, slots := 6, locals := 120 } [.ref ts, .int v, .int n] [(ts, .inr (8, [.ref dr, .ref cl, .ref cp, .ref vs, .int (nI num)]))] X_A := by
  refine CX.of hst (text := "no such viewer or number of bytes") (ik := 77) (is := 79) (ic := 81) (by decide) (Nat.le_of_ble_eq_true rfl) (by decide +kernel) fu_up (by decide) (by decide) (by decide) (by decide) k_546 k_15 xA_gd xA_at xA_bad (by decide +kernel) (by decide +kernel) (fun A U H h => h.2.2.1) ?_
  intro pr ev sT mM aR bW mE cO AA QQ ls Bd hG hA hP hD hS hl hthrow
  have Bd : bd pr cO b_Scr_credit 4 sT aR TB "TileScreen" mM := Bd
  obtain ⟨hx, hb, hml, hown, htb⟩ := id Bd
  have hl : lv_has ls 4 [(0, .ref ts), (1, .int v), (2, .int n)] := hl
  refine lv_iload_n hx hb d_Scr_credit_0 rfl (lv_at hl 1 rfl) ?_
  refine kS_i (wc := []) (wr := [(ts, .inr (8, [.ref dr, .ref cl, .ref cp, .ref vs, .int (nI num)]))]) (w2 := fun _ => [(ts, .inr (8, [.ref dr, .ref cl, .ref cp, .ref vs, .int (nI num)]))]) [.int v] [] Bd ⟨gi_app (gi_c0 k_306 (gi_c0 k_307 (gi_c0 k_1 gi_nil))) (gi_tb0 k_308), rfl, by decide, by decide⟩ (show (parseMethodDescriptor "(I)Z").map (fun d => d.parameters.length) = some 1 by decide +kernel) (c_Scr_isViewer v ) (by decide +kernel) ⟨Nat.le_of_ble_eq_true rfl, Nat.le_of_ble_eq_true rfl⟩ hG hP hD hS hA [] [0] [0] (by decide) rfl rfl (fun _ => rfl) hl.1 rfl (Nat.le_of_ble_eq_true rfl) d_Scr_credit_1 (fun r1 u3 H locs hp2 hP hD hS => ?_)
  have hP : va_P D classes [(ts, .inr (8, [.ref dr, .ref cl, .ref cp, .ref vs, .int (nI num)]))] H := hP
  have hD : va_D AA [(ts, .inr (8, [.ref dr, .ref cl, .ref cp, .ref vs, .int (nI num)]))] := hD
  subst hp2
  refine nv_if_eq (tgt := 18) hx hb d_Scr_credit_4 (by decide) (bt_lt _) (fun c_4 => ?_) (fun c_4 => ?_)
  · exact hthrow _ _ 18 _ hl.1 (hP_in hP [0] rfl) hS d_Scr_credit_18 d_Scr_credit_21 d_Scr_credit_22 d_Scr_credit_24 d_Scr_credit_27
  · refine lv_iload_n hx hb d_Scr_credit_7 rfl (lv_at hl 2 rfl) ?_
    refine lv_iconst (v := nI 1) hx hb d_Scr_credit_8 (by decide) ?_
    refine lv_icmp_lt (tgt := 18) hx hb d_Scr_credit_9 (by decide) (fun c_9 => ?_) (fun c_9 => ?_)
    · exact hthrow _ _ 18 _ hl.1 (hP_in hP [0] rfl) hS d_Scr_credit_18 d_Scr_credit_21 d_Scr_credit_22 d_Scr_credit_24 d_Scr_credit_27
    · refine lv_iload_n hx hb d_Scr_credit_12 rfl (lv_at hl 2 rfl) ?_
      refine lv_ldc (v := nI 1000000) hx hb hown (htb _ k_545) d_Scr_credit_13 ?_
      refine lv_icmp_le (tgt := 28) hx hb d_Scr_credit_15 (by decide) (fun c_15 => ?_) (fun c_15 => ?_)
      · exact absurd ⟨cB_1 c_4, i_rng (by decide) c_9 (fun z => absurd c_15 (Int32.not_le.mpr z))⟩ hno
      · exact hthrow _ _ 18 _ hl.1 (hP_in hP [0] rfl) hS d_Scr_credit_18 d_Scr_credit_21 d_Scr_credit_22 d_Scr_credit_24 d_Scr_credit_27
set_option maxHeartbeats 1000000 in
set_option maxRecDepth 100000 in
theorem c_Scr_credit_st (hst : l.stackTraces = false) (ts : Nat) (dr : Nat) (cl : Nat) (cp : Nat) (vs : Nat) (num : Nat) (vf : Nat → Option Nat) (k : Nat) (vw : Nat) (fd : Nat) (ds : Nat) (po : Nat) (cn : Nat) (cr : Nat) (ep : Nat) (n : Nat) (hk : k < 3) (hvf : vf k = some vw) (hn1 : 1 ≤ n) (hn2 : n ≤ 1000000) (hcn : cn < 2) (hcr : cr ≤ 1000000) (hno : ¬ (cn ≠ 0 ∧ cr + n ≤ 1000000)) : CX l classes NW D (TYS cI cZ cL cV) y_Scr_credit (.code y_Scr_credit b_Scr_credit 4 (some .int) :: TB) { frames := 6, cells := 1, slots := 6, locals := 120 } [.ref ts, .int (nI k), .int (nI n)] [(ts, .inr (8, [.ref dr, .ref cl, .ref cp, .ref vs, .int (nI num)])), (vs, .inl (cV, 3, .inr (.inr (.inr (.inr vf))))), (vw, .inr (7, [.ref fd, .ref ds, .ref po, .int (nI cn), .int (nI cr), .int (nI ep)]))] X_S := by
  refine CX.of hst (text := "not connected, or too much credit") (ik := 87) (is := 89) (ic := 91) (by decide) (Nat.le_of_ble_eq_true rfl) (by decide +kernel) fu_up (by decide) (by decide) (by decide) (by decide) k_613 k_16 xS_gd xS_at xS_bad (by decide +kernel) (by decide +kernel) (fun A U H h => h.2.2.2.1) ?_
  intro pr ev sT mM aR bW mE cO AA QQ ls Bd hG hA hP hD hS hl hthrow
  have Bd : bd pr cO b_Scr_credit 4 sT aR TB "TileScreen" mM := Bd
  obtain ⟨hx, hb, hml, hown, htb⟩ := id Bd
  have hl : lv_has ls 4 [(0, .ref ts), (1, .int (nI k)), (2, .int (nI n))] := hl
  refine lv_iload_n hx hb d_Scr_credit_0 rfl (lv_at hl 1 rfl) ?_
  refine kS_i (wc := []) (wr := [(ts, .inr (8, [.ref dr, .ref cl, .ref cp, .ref vs, .int (nI num)])), (vs, .inl (cV, 3, .inr (.inr (.inr (.inr vf))))), (vw, .inr (7, [.ref fd, .ref ds, .ref po, .int (nI cn), .int (nI cr), .int (nI ep)]))]) (w2 := fun _ => [(ts, .inr (8, [.ref dr, .ref cl, .ref cp, .ref vs, .int (nI num)])), (vs, .inl (cV, 3, .inr (.inr (.inr (.inr vf))))), (vw, .inr (7, [.ref fd, .ref ds, .ref po, .int (nI cn), .int (nI cr), .int (nI ep)]))]) [.int (nI k)] [] Bd ⟨gi_app (gi_c0 k_306 (gi_c0 k_307 (gi_c0 k_1 gi_nil))) (gi_tb0 k_308), rfl, by decide, by decide⟩ (show (parseMethodDescriptor "(I)Z").map (fun d => d.parameters.length) = some 1 by decide +kernel) (c_Scr_isViewer (nI k) ) (by decide +kernel) ⟨Nat.le_of_ble_eq_true rfl, Nat.le_of_ble_eq_true rfl⟩ hG hP hD hS hA [] [0, 1, 2] [0, 1, 2] (by decide) rfl rfl (fun _ => rfl) hl.1 rfl (Nat.le_of_ble_eq_true rfl) d_Scr_credit_1 (fun r1 u3 H locs hp2 hP hD hS => ?_)
  have hP : va_P D classes [(ts, .inr (8, [.ref dr, .ref cl, .ref cp, .ref vs, .int (nI num)])), (vs, .inl (cV, 3, .inr (.inr (.inr (.inr vf))))), (vw, .inr (7, [.ref fd, .ref ds, .ref po, .int (nI cn), .int (nI cr), .int (nI ep)]))] H := hP
  have hD : va_D AA [(ts, .inr (8, [.ref dr, .ref cl, .ref cp, .ref vs, .int (nI num)])), (vs, .inl (cV, 3, .inr (.inr (.inr (.inr vf))))), (vw, .inr (7, [.ref fd, .ref ds, .ref po, .int (nI cn), .int (nI cr), .int (nI ep)]))] := hD
  subst hp2
  refine nv_if_eq (tgt := 18) hx hb d_Scr_credit_4 (by decide) (bt_lt _) (fun c_4 => ?_) (fun c_4 => ?_)
  · exact absurd ⟨k, hk, rfl⟩ (cB_0 c_4)
  · refine lv_iload_n hx hb d_Scr_credit_7 rfl (lv_at hl 2 rfl) ?_
    refine lv_iconst (v := nI 1) hx hb d_Scr_credit_8 (by decide) ?_
    refine nv_icmp_lt (tgt := 18) hx hb d_Scr_credit_9 (by decide) (by omega) (by omega) (fun c_9 => ?_) (fun c_9 => ?_)
    · omega
    · refine lv_iload_n hx hb d_Scr_credit_12 rfl (lv_at hl 2 rfl) ?_
      refine lv_ldc (v := nI 1000000) hx hb hown (htb _ k_545) d_Scr_credit_13 ?_
      refine nv_icmp_le (tgt := 28) hx hb d_Scr_credit_15 (by decide) (by omega) (by omega) (fun c_15 => ?_) (fun c_15 => ?_)
      · refine lv_aload_n hx hb d_Scr_credit_28 rfl (lv_at hl 0 rfl) ?_
        refine va_get (D := D) (ci := 8) (v := .ref vs) (C := "TileScreen") (T := F_Scr) (N := 5) hx hb htb i_Scr hown hG.1 hP 0 rfl rfl 3 (by decide) (htb _ k_241) (fun _ h9 => h9) rfl d_Scr_credit_29 ?_
        refine lv_iload_n hx hb d_Scr_credit_32 rfl (lv_at hl 1 rfl) ?_
        refine va_aldq hx hb hG.1 hP 1 3 rfl rfl (vp_in_nI hk (by decide)) d_Scr_credit_33 ?_
        rw [show vf ((nI k)).toNatClampNeg = some vw from by rw [nI_clamp (by omega)]; exact hvf]
        refine lv_astore_n (lv' := [(3, .ref vw), (0, .ref ts), (1, .int (nI k)), (2, .int (nI n))]) hx hb d_Scr_credit_34 rfl hl (by decide) rfl (fun ls hl => ?_)
        refine lv_aload_n hx hb d_Scr_credit_35 rfl (lv_at hl 0 rfl) ?_
        refine va_getN (D := D) (ci := 7) (v := .int (nI cn)) (C := "TileScreen$Viewer") (T := F_Viewer) (N := 6) hx hb htb i_Viewer hown hG.1 hP 2 rfl rfl 3 (by decide) (va_Nw.use rfl (hG.2 _ k_220).2) (fun _ h9 => h9) rfl d_Scr_credit_36 ?_
        refine nv_if_eq (tgt := 53) hx hb d_Scr_credit_39 (by decide) (by omega) (fun c_39 => ?_) (fun c_39 => ?_)
        · exact hthrow _ _ 53 _ hl.1 (hP_in hP [0, 1, 2] rfl) hS d_Scr_credit_53 d_Scr_credit_56 d_Scr_credit_57 d_Scr_credit_59 d_Scr_credit_62
        · refine lv_aload_n hx hb d_Scr_credit_42 rfl (lv_at hl 0 rfl) ?_
          refine va_getN (D := D) (ci := 7) (v := .int (nI cr)) (C := "TileScreen$Viewer") (T := F_Viewer) (N := 6) hx hb htb i_Viewer hown hG.1 hP 2 rfl rfl 4 (by decide) (va_Nw.use rfl (hG.2 _ k_222).2) (fun _ h9 => h9) rfl d_Scr_credit_43 ?_
          refine lv_iload_n hx hb d_Scr_credit_46 rfl (lv_at hl 3 rfl) ?_
          refine nv_iadd hx hb d_Scr_credit_47 ?_
          refine lv_ldc (v := nI 1000000) hx hb hown (htb _ k_545) d_Scr_credit_48 ?_
          refine nv_icmp_le (tgt := 63) hx hb d_Scr_credit_50 (by decide) (by omega) (by omega) (fun c_50 => ?_) (fun c_50 => ?_)
          · exact absurd ⟨c_39, c_50⟩ hno
          · exact hthrow _ _ 53 _ hl.1 (hP_in hP [0, 1, 2] rfl) hS d_Scr_credit_53 d_Scr_credit_56 d_Scr_credit_57 d_Scr_credit_59 d_Scr_credit_62
      · omega
abbrev H_credit : List (Nat × Nat × Nat × Nat) := [(0, 10, 13, 13), (0, 10, 17, 15)]
def CL (l : Launch) (D : va_G) (cI cZ cL cV : ClassId) (rm : Room) (av : List Value) (w0 : va_W) (k : Nat) : Prop :=
  ∀ sz, vx_Met l y_Law_credit (.codeWith y_Law_credit b_Law_credit 5 (some .int) H_credit :: TB) rm (xPre classes NW D (TYS cI cZ cL cV) av w0 sz) (va_Qi (S := Unit) (fun r _ => r = nI k) (fun _ t => va_P D classes w0 t.heap ∧ va_D (va_A w0 sz) w0) (va_A w0 sz)) (vx_X (S := Unit) (fun _ => False) (fun _ _ _ => True) (va_A w0 sz)) rm.cells rm.slots (va_A w0 sz)
set_option maxHeartbeats 1000000 in
theorem c_Law_credit_A {w0 : va_W} {ts ou : Nat} {fs : List Value} {v n : Int32} (hM : CX l classes NW D (TYS cI cZ cL cV) y_Scr_credit (.code y_Scr_credit b_Scr_credit 4 (some .int) :: TB) { frames := 6, cells := 1, slots := 6, locals := 120 } [.ref ts, .int v, .int n] w0 X_A) (isC : List Nat) (hC : isC.map (fun i => w0[i]?) = w0.map some) (hnC : va_nd isC = true) (hq0 : w0[0]? = some (ts, .inr (8, fs))) : CL l D cI cZ cL cV { frames := 7, cells := 1, slots := 6, locals := 160 } [.ref ts, .int v, .int n, .ref ou] w0 1 := by
  intro sz
  refine vx_ofWH (cc := b_Law_credit) (maxL := 5) (ret := some .int) (hh := H_credit) (by decide) rfl ?_
  intro p e s m args below meth c s₁ B hml hv
  obtain ⟨⟨rfl, hsz, hP, hG, hD0⟩, hX⟩ := hv
  have hts := atoms_spec (ws := .codeWith y_Law_credit b_Law_credit 5 (some .int) H_credit :: TB) B.pre
  have htab : c.exceptionTable.toList = tableOf H_credit := vx_table (x := y_Law_credit) B (hts _ List.mem_cons_self)
  have hown : s.vm.findClass "TileScreenLaw" = some m.cls := findClass_of_methodNamed B.named
  have hlocks := B.notSynchronized
  have hr := B.returns
  have hx := B.exec
  have hb := B.bytes
  subst hsz
  have hD := hD0.self (sz := s.heap.size)
  have hl := lv_entry ([.ref ts, .int v, .int n, .ref ou]) (n := 5) (Nat.le_of_ble_eq_true rfl)
  rw [lg_entry_eq]
  generalize (lg_sl ([.ref ts, .int v, .int n, .ref ou]) ++ List.replicate (5 - (lg_sl ([.ref ts, .int v, .int n, .ref ou])).length) Slot.unset).toArray = ls at hl ⊢
  have hl : lv_has ls 5 [(0, .ref ts), (1, .int v), (2, .int n), (3, .ref ou)] := hl
  have htb : ∀ w ∈ TB, w.before _ s = true := fun w hw => hts w (List.mem_cons_of_mem _ hw)
  have Bd : bd p c b_Law_credit 5 s _ TB "TileScreenLaw" m := ⟨hx, hb, hml, hown, htb⟩
  have hS : va_S (va_A w0 s.heap.size) s.heap s.heap [] := va_S.rf
  refine lv_aload_n hx hb d_Law_credit_0 rfl (lv_at hl 3 rfl) ?_
  refine lv_iconst (v := nI 0) hx hb d_Law_credit_1 (by decide) ?_
  refine lv_aload_n hx hb d_Law_credit_2 rfl (lv_at hl 0 rfl) ?_
  refine lv_iload_n hx hb d_Law_credit_3 rfl (lv_at hl 1 rfl) ?_
  refine lv_iload_n hx hb d_Law_credit_4 rfl (lv_at hl 2 rfl) ?_
  refine vx_calli (vx_runV (As := [.int v, .int n]) (rest := [.int (nI 0), .ref ou]) Bd (hM s.heap.size) (cwV 2 htb (gi_app (gi_c0 k_541 (gi_c0 k_542 (gi_c0 k_543 (gi_c0 k_1 gi_nil)))) (gi_tb0 k_544)) rfl rfl rfl ⟨rfl, by decide, by decide, by decide +kernel⟩ ⟨by decide, by decide⟩) ⟨xPre.blind, k_rcv hG hP isC hC (q0 := 0) (ci := 8) hq0 rfl, fun U hU hW => ⟨k_pre hG hP hD isC hC hnC U hU hW, by rw [hU]; exact hX.warm hW⟩⟩ rfl rfl hl.1 rfl (lv_room (Nat.le_of_ble_eq_true rfl)) d_Law_credit_5 ⟨by decide, by decide⟩) hS (fun q _ h => h) (fun q h => h) (fun q _ h => h) (fun E ce q9 u t H1 locs1 ht hal hpx hBX hz1 hk1 hS1 hcell hcv hcl => ?_) (fun r u t H1 locs1 ht hal hw => hw.elim)
  obtain ⟨rfl, hP1, hD1⟩ := hBX
  rw [ht] at hP1
  refine hx_catch1 hown ⟨0, 10, 13, 13⟩ [⟨0, 10, 17, 15⟩] (by rw [htab]; rfl) (by decide) (by decide) (htb _ k_539) (va_Nw.use rfl (hG.2 _ k_548).2) hcell hcv hcl ?_
  refine lv_astore (lv' := [(4, .ref q9), (0, .ref ts), (1, .int v), (2, .int n), (3, .ref ou)]) hx hb d_Law_credit_13 hl (by decide) rfl (fun ls hl => ?_)
  refine lv_iconst (v := nI 1) hx hb d_Law_credit_15 (by decide) ?_
  refine vx_ret ?_
  exact W.iret hx hb hr (fun t ht _ => ⟨⟨nI 1, (), rfl, rfl, by rw [ht]; exact hP1, hD1⟩, hS1.F ht⟩) hS1.2.2 d_Law_credit_16 hlocks
set_option maxHeartbeats 1000000 in
theorem c_Law_credit_S {w0 : va_W} {ts ou : Nat} {fs : List Value} {v n : Int32} (hM : CX l classes NW D (TYS cI cZ cL cV) y_Scr_credit (.code y_Scr_credit b_Scr_credit 4 (some .int) :: TB) { frames := 6, cells := 1, slots := 6, locals := 120 } [.ref ts, .int v, .int n] w0 X_S) (isC : List Nat) (hC : isC.map (fun i => w0[i]?) = w0.map some) (hnC : va_nd isC = true) (hq0 : w0[0]? = some (ts, .inr (8, fs))) : CL l D cI cZ cL cV { frames := 7, cells := 1, slots := 6, locals := 160 } [.ref ts, .int v, .int n, .ref ou] w0 2 := by
  intro sz
  refine vx_ofWH (cc := b_Law_credit) (maxL := 5) (ret := some .int) (hh := H_credit) (by decide) rfl ?_
  intro p e s m args below meth c s₁ B hml hv
  obtain ⟨⟨rfl, hsz, hP, hG, hD0⟩, hX⟩ := hv
  have hts := atoms_spec (ws := .codeWith y_Law_credit b_Law_credit 5 (some .int) H_credit :: TB) B.pre
  have htab : c.exceptionTable.toList = tableOf H_credit := vx_table (x := y_Law_credit) B (hts _ List.mem_cons_self)
  have hown : s.vm.findClass "TileScreenLaw" = some m.cls := findClass_of_methodNamed B.named
  have hlocks := B.notSynchronized
  have hr := B.returns
  have hx := B.exec
  have hb := B.bytes
  subst hsz
  have hD := hD0.self (sz := s.heap.size)
  have hl := lv_entry ([.ref ts, .int v, .int n, .ref ou]) (n := 5) (Nat.le_of_ble_eq_true rfl)
  rw [lg_entry_eq]
  generalize (lg_sl ([.ref ts, .int v, .int n, .ref ou]) ++ List.replicate (5 - (lg_sl ([.ref ts, .int v, .int n, .ref ou])).length) Slot.unset).toArray = ls at hl ⊢
  have hl : lv_has ls 5 [(0, .ref ts), (1, .int v), (2, .int n), (3, .ref ou)] := hl
  have htb : ∀ w ∈ TB, w.before _ s = true := fun w hw => hts w (List.mem_cons_of_mem _ hw)
  have Bd : bd p c b_Law_credit 5 s _ TB "TileScreenLaw" m := ⟨hx, hb, hml, hown, htb⟩
  have hS : va_S (va_A w0 s.heap.size) s.heap s.heap [] := va_S.rf
  refine lv_aload_n hx hb d_Law_credit_0 rfl (lv_at hl 3 rfl) ?_
  refine lv_iconst (v := nI 0) hx hb d_Law_credit_1 (by decide) ?_
  refine lv_aload_n hx hb d_Law_credit_2 rfl (lv_at hl 0 rfl) ?_
  refine lv_iload_n hx hb d_Law_credit_3 rfl (lv_at hl 1 rfl) ?_
  refine lv_iload_n hx hb d_Law_credit_4 rfl (lv_at hl 2 rfl) ?_
  refine vx_calli (vx_runV (As := [.int v, .int n]) (rest := [.int (nI 0), .ref ou]) Bd (hM s.heap.size) (cwV 2 htb (gi_app (gi_c0 k_541 (gi_c0 k_542 (gi_c0 k_543 (gi_c0 k_1 gi_nil)))) (gi_tb0 k_544)) rfl rfl rfl ⟨rfl, by decide, by decide, by decide +kernel⟩ ⟨by decide, by decide⟩) ⟨xPre.blind, k_rcv hG hP isC hC (q0 := 0) (ci := 8) hq0 rfl, fun U hU hW => ⟨k_pre hG hP hD isC hC hnC U hU hW, by rw [hU]; exact hX.warm hW⟩⟩ rfl rfl hl.1 rfl (lv_room (Nat.le_of_ble_eq_true rfl)) d_Law_credit_5 ⟨by decide, by decide⟩) hS (fun q _ h => h) (fun q h => h) (fun q _ h => h) (fun E ce q9 u t H1 locs1 ht hal hpx hBX hz1 hk1 hS1 hcell hcv hcl => ?_) (fun r u t H1 locs1 ht hal hw => hw.elim)
  obtain ⟨rfl, hP1, hD1⟩ := hBX
  rw [ht] at hP1
  refine hx_catch2 hown ⟨0, 10, 13, 13⟩ ⟨0, 10, 17, 15⟩ [] (by rw [htab]; rfl) (by decide) (by decide) (htb _ k_539) hX.2.2.2.2.1 (by decide) (by decide) (htb _ k_540) (va_Nw.use rfl (hG.2 _ k_615).2) hcell hcv hcl ?_
  refine lv_astore (lv' := [(4, .ref q9), (0, .ref ts), (1, .int v), (2, .int n), (3, .ref ou)]) hx hb d_Law_credit_17 hl (by decide) rfl (fun ls hl => ?_)
  refine lv_iconst (v := nI 2) hx hb d_Law_credit_19 (by decide) ?_
  refine vx_ret ?_
  exact W.iret hx hb hr (fun t ht _ => ⟨⟨nI 2, (), rfl, rfl, by rw [ht]; exact hP1, hD1⟩, hS1.F ht⟩) hS1.2.2 d_Law_credit_20 hlocks
end
