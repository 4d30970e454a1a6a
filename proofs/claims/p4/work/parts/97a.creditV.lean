section
variable {l : Launch} {D : va_G} {cI cZ cL cV : ClassId}
def CLV (l : Launch) (D : va_G) (cI cZ cL cV : ClassId) (rm : Room) (av : List Value) (w0 : va_W) (w1 : VS × (Nat → Int64) → va_W) : Prop :=
  ∀ sz, vx_Met l y_Law_credit (.codeWith y_Law_credit b_Law_credit 5 (some .int) H_credit :: TB) rm (cPre classes NW D (TYS cI cZ cL cV) av w0 sz) (va_Qi (S := VS × (Nat → Int64)) (fun _ u => vOk u.1) (fun u t => va_P D classes (w1 u) t.heap ∧ va_D (va_A w0 sz) (w1 u)) (va_A w0 sz)) (vx_X (S := Unit) (fun _ => False) (fun _ _ _ => True) (va_A w0 sz)) rm.cells rm.slots (va_A w0 sz)
set_option maxHeartbeats 8000000 in
set_option maxRecDepth 100000 in
theorem c_Law_credit_V (ba : Nat → Nat) (A : Nat → Nat → Nat) (vf : Nat → Option Nat) (ou : Nat) (X : CS) (f : Nat → Int64) (k n : Nat) (hk : k < 3) (hv : vf k = some (A k 0)) (hcX : cOk X) (hn1 : 1 ≤ n) (hn2 : n ≤ 1000000) (hc : (X.2.2 k).1 0 ≠ 0) (hm : (X.2.2 k).1 1 + n ≤ 1000000) :
    CLV l D cI cZ cL cV { frames := 2, cells := 0, slots := 0, locals := 160 } [.ref (ba 0), .int (nI k), .int (nI n), .ref ou] (cW cI cV ba A vf X ++ oW cL ou f) (fun u => cW cI cV ba A vf (X.1, X.2.1, fun j => if j = k then u.1 else X.2.2 j) ++ oW cL ou u.2) := by
  intro sz
  refine vx_ofWH (cc := b_Law_credit) (maxL := 5) (ret := some .int) (hh := H_credit) (by decide) rfl ?_
  intro p e s m args below meth c s₁ B hml hv9
  obtain ⟨rfl, hsz, hP, hG, hD0⟩ := hv9
  have hts := atoms_spec (ws := .codeWith y_Law_credit b_Law_credit 5 (some .int) H_credit :: TB) B.pre
  have hown : s.vm.findClass "TileScreenLaw" = some m.cls := findClass_of_methodNamed B.named
  have hlocks := B.notSynchronized
  have hr := B.returns
  have hx := B.exec
  have hb := B.bytes
  subst hsz
  have hD := hD0.self (sz := s.heap.size)
  have hA : ∀ q, s.heap.size ≤ q → va_A (cW cI cV ba A vf X ++ oW cL ou f) s.heap.size q := fun q h => Or.inr h
  have hl := lv_entry ([.ref (ba 0), .int (nI k), .int (nI n), .ref ou]) (n := 5) (Nat.le_of_ble_eq_true rfl)
  rw [lg_entry_eq]
  generalize (lg_sl ([.ref (ba 0), .int (nI k), .int (nI n), .ref ou]) ++ List.replicate (5 - (lg_sl ([.ref (ba 0), .int (nI k), .int (nI n), .ref ou])).length) Slot.unset).toArray = ls at hl ⊢
  have hl : lv_has ls 5 [(0, .ref (ba 0)), (1, .int (nI k)), (2, .int (nI n)), (3, .ref ou)] := hl
  have htb : ∀ w ∈ TB, w.before _ s = true := fun w hw => hts w (List.mem_cons_of_mem _ hw)
  have Bd : bd p c b_Law_credit 5 s _ TB "TileScreenLaw" m := ⟨hx, hb, hml, hown, htb⟩
  have hS : va_S (va_A (cW cI cV ba A vf X ++ oW cL ou f) s.heap.size) s.heap s.heap [] := va_S.rf
  refine lv_aload_n hx hb d_Law_credit_0 rfl (lv_at hl 3 rfl) ?_
  refine lv_iconst (v := nI 0) hx hb d_Law_credit_1 (by decide) ?_
  refine lv_aload_n hx hb d_Law_credit_2 rfl (lv_at hl 0 rfl) ?_
  refine lv_iload_n hx hb d_Law_credit_3 rfl (lv_at hl 1 rfl) ?_
  refine lv_iload_n hx hb d_Law_credit_4 rfl (lv_at hl 2 rfl) ?_
  refine kV_i (wc := cW cI cV ba A vf X) (wr := oW cL ou f) (w2 := fun u => cW cI cV ba A vf (X.1, X.2.1, fun j => if j = k then u else X.2.2 j) ++ oW cL ou f) [.int (nI k), .int (nI n)] [.int (nI 0), .ref ou] Bd ⟨gi_app (gi_c0 k_541 (gi_c0 k_542 (gi_c0 k_543 (gi_c0 k_1 gi_nil)))) (gi_tb0 k_544), rfl, by decide, by decide⟩ (show (parseMethodDescriptor "(II)I").map (fun d => d.parameters.length) = some 2 by decide +kernel) (CI.view k hk (v_credit X.1 X.2.1 (A k) (X.2.2 k) k n hk hv hcX.1 (hcX.2 k) hn1 hn2 hc hm)) (by decide +kernel) ⟨Nat.le_refl _, Nat.le_refl _⟩ hG hP hD hS hA [0, 1, 2, 3, 4, 5, 6, 7, 8, 9, 10, 11, 12, 13, 14, 15, 16, 17, 18, 19, 20, 21, 22, 23, 24, 25, 26, 27, 28, 29, 30, 31, 32, 33, 34, 35, 36, 37, 38, 39, 40, 41, 42, 43, 44, 45, 46, 47, 48, 49, 50, 51, 52, 53, 54, 55, 56, 57, 58, 59, 60, 61, 62, 63, 64, 65, 66, 67, 68, 69, 70, 71, 72, 73, 74, 75, 76, 77, 78, 79, 80, 81, 82] [83] [1, 2, 3, 4, 5, 6, 7, 8, 9, 10, 11, 12, 13, 14, 15, 16, 17, 18, 19, 20, 21, 22, 23, 24, 25, 26, 27, 28, 29, 30, 31, 32, 33, 34, 35, 36, 37, 38, 39, 40, 41, 42, 43, 44, 45, 46, 47, 48, 49, 50, 51, 52, 53, 54, 55, 56, 57, 58, 59, 60, 61, 62, 63, 64, 65, 66, 67, 68, 69, 70, 71, 72, 73, 74, 75, 76, 77, 78, 79, 80, 81, 82, 83, 0] (by decide) rfl rfl (fun _ => rfl) (q0 := 0) rfl rfl rfl hl.1 rfl (Nat.le_of_ble_eq_true rfl) d_Law_credit_5 (fun r u H locs hp hP hD hS => ?_)
  refine lv_i2l (v := r.toInt64) hx hb d_Law_credit_8 rfl ?_
  refine va_last hx hb hG.1 hP hD hS 83 2 rfl rfl (vp_in_nI (by decide) (by decide)) d_Law_credit_9 (fun H locs hP hD hS => ?_)
  refine lv_goto (tgt := 21) hx hb d_Law_credit_10 (by decide) ?_
  refine lv_iconst (v := nI 0) hx hb d_Law_credit_21 (by decide) ?_
  refine vx_ret ?_
  exact W.iret hx hb hr (fun t ht _ => ⟨⟨nI 0, (u, vp_updL f (nI 0).toNatClampNeg r.toInt64), rfl, hp, by rw [ht]; exact hP, hD⟩, hS.F ht⟩) hS.2.2 d_Law_credit_22 hlocks
end
