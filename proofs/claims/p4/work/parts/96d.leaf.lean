section
variable {l : Launch} {D : va_G} {cI cZ cL cV : ClassId}
set_option maxHeartbeats 8000000 in
set_option maxRecDepth 100000 in
theorem lf_about2 {p : Program} {l : Launch} {e : Env} {s : State} {m : MethodId} {below : List Frame} {meth : Method} {c : Code} {D : va_G} {cI cZ cL cV : ClassId} {b L : Nat} {xs : Nat → Int32} {H : Heap} {locs : List Loc} {ls : Array Slot} (ba : Nat → Nat) (A : Nat → Nat → Nat) (vf : Nat → Option Nat) (ma : Nat → Nat) (ou : Nat) (X : CS) (Y : MS) (f : Nat → Int64) (i : Nat) (k : Nat) (hL : L ≤ 3072) (hi : 6 * i + 6 ≤ L) (C0 : lw_At p s m meth c b L xs) (hst : l.stackTraces = false) (hXo : xOk (fun q : Nat => s.heap.size ≤ q) s s.heap) (hG : gk classes NW D (TYS cI cZ cL cV) s) (hvf9 : ∀ k, k < 3 → vf k = some (A k 0)) (hcX : cOk X) (hmY : mOk Y) (hnX : X.1 ≤ i) (hnb : Y.2.2.2 1 = nI X.1) (e1 : xs (6 * i + 1) = nI k) (hk : k < 3) (e2 : xs (6 * i + 2) = nI 2) (hP : va_P D classes (cW cI cV ba A vf X ++ (mW cI cZ ma Y ++ oW cL ou f)) H) (hD : va_D (fun q : Nat => s.heap.size ≤ q) (cW cI cV ba A vf X ++ (mW cI cZ ma Y ++ oW cL ou f))) (hS : va_S (fun q : Nat => s.heap.size ≤ q) s.heap H locs) (hl : lv_has ls 7 [(0, .ref b), (1, .ref (ba 0)), (2, .ref (ma 0)), (3, .ref ou), (4, .int (nI (6 * i)))]) (hN : LN p l e s m below meth c D cI cZ cL cV b ba A vf ma ou i) : W p l e room_1 s m #[Value.ref b] below meth c H locs (106 + i) (155700 + 6 * i) (lw_Z below #[Value.ref b] s) (F0 m 558 ls []) := by
  obtain ⟨hx, hb, hr, hml, hown, hts, hX, hbl, hlocks, hgv⟩ := id C0
  have hA : ∀ q : Nat, s.heap.size ≤ q → (fun q : Nat => s.heap.size ≤ q) q := fun _ h => h
  have hbA : ¬ (fun q : Nat => s.heap.size ≤ q) b := Nat.not_le.mpr hbl
  have htb : ∀ w ∈ TB, w.before #[Value.ref b] s = true := fun w hw => hts w (List.mem_filter.mp hw).1
  have Bd : bd p c code 7 s #[Value.ref b] TB "TileScreenLaw" m := ⟨hx, hb, hml, hown, htb⟩
  refine lv_aload_n hx hb d_Law_law_558 rfl (lv_at hl 1 rfl) ?_
  refine lv_aload_n hx hb d_Law_law_559 rfl (lv_at hl 0 rfl) ?_
  refine lv_iload hx hb d_Law_law_560 (lv_at hl 4 rfl) ?_
  refine lv_iconst (v := nI 1) hx hb d_Law_law_562 (by decide) ?_
  refine nv_iadd hx hb d_Law_law_563 ?_
  refine va_sld hx hb hX hbl hbA hS (vp_in_nI (show 6 * i + 1 < L by omega) (by omega)) d_Law_law_564 ?_
  refine nv_top (y := (nI k)) ((congrArg xs (nI_clamp (by omega))).trans e1) ?_
  refine lv_aload_n hx hb d_Law_law_565 rfl (lv_at hl 0 rfl) ?_
  refine lv_iload hx hb d_Law_law_566 (lv_at hl 4 rfl) ?_
  refine lv_iconst (v := nI 2) hx hb d_Law_law_568 (by decide) ?_
  refine nv_iadd hx hb d_Law_law_569 ?_
  refine va_sld hx hb hX hbl hbA hS (vp_in_nI (show 6 * i + 2 < L by omega) (by omega)) d_Law_law_570 ?_
  refine nv_top (y := (nI 2)) ((congrArg xs (nI_clamp (by omega))).trans e2) ?_
  refine kV_i (wc := cW cI cV ba A vf X) (wr := mW cI cZ ma Y ++ oW cL ou f) (w2 := fun u1 => cW cI cV ba A vf (X.1, X.2.1, fun j => if j = k then u1 else X.2.2 j) ++ (mW cI cZ ma Y ++ oW cL ou f)) [.int (nI k), .int (nI 2)] [] Bd ⟨gi_app (gi_c0 k_516 (gi_c0 k_517 (gi_c0 k_518 (gi_c0 k_1 gi_nil)))) (gi_tb0 k_519), rfl, by decide, by decide⟩ (show (parseMethodDescriptor "(II)I").map (fun d => d.parameters.length) = some 2 by decide +kernel) (CI.view k hk (v_about X.1 X.2.1 (A k) (X.2.2 k) k 2 hk (hvf9 k hk) hcX.1 (hcX.2 k) (by decide))) (by decide +kernel) ⟨by show 106 + i + 0 ≤ 601024; omega, by show 155700 + 6 * i + 0 ≤ 7293034; omega⟩ hG hP hD hS hA [0, 1, 2, 3, 4, 5, 6, 7, 8, 9, 10, 11, 12, 13, 14, 15, 16, 17, 18, 19, 20, 21, 22, 23, 24, 25, 26, 27, 28, 29, 30, 31, 32, 33, 34, 35, 36, 37, 38, 39, 40, 41, 42, 43, 44, 45, 46, 47, 48, 49, 50, 51, 52, 53, 54, 55, 56, 57, 58, 59, 60, 61, 62, 63, 64, 65, 66, 67, 68, 69, 70, 71, 72, 73, 74, 75, 76, 77, 78, 79, 80, 81, 82] [83, 84, 85, 86, 87, 88, 89, 90, 91, 92, 93, 94, 95, 96, 97, 98, 99, 100, 101, 102, 103, 104, 105] [23, 24, 25, 26, 27, 28, 29, 30, 31, 32, 33, 34, 35, 36, 37, 38, 39, 40, 41, 42, 43, 44, 45, 46, 47, 48, 49, 50, 51, 52, 53, 54, 55, 56, 57, 58, 59, 60, 61, 62, 63, 64, 65, 66, 67, 68, 69, 70, 71, 72, 73, 74, 75, 76, 77, 78, 79, 80, 81, 82, 83, 84, 85, 86, 87, 88, 89, 90, 91, 92, 93, 94, 95, 96, 97, 98, 99, 100, 101, 102, 103, 104, 105, 0, 1, 2, 3, 4, 5, 6, 7, 8, 9, 10, 11, 12, 13, 14, 15, 16, 17, 18, 19, 20, 21, 22] ok_c (wl_c1 _ _ _) (wl_c2 _ _ _) (fun _ => wl_c3 _ _ _) (q0 := 0) rfl rfl rfl hl.1 rfl (Nat.le_of_ble_eq_true rfl) d_Law_law_571 (fun r1 u1 H locs hp1 hP hD hS => ?_)
  have hP : va_P D classes (cW cI cV ba A vf (X.1, X.2.1, fun j => if j = k then u1 else X.2.2 j) ++ (mW cI cZ ma Y ++ oW cL ou f)) H := hP
  have hD : va_D (fun q : Nat => s.heap.size ≤ q) (cW cI cV ba A vf (X.1, X.2.1, fun j => if j = k then u1 else X.2.2 j) ++ (mW cI cZ ma Y ++ oW cL ou f)) := hD
  refine lv_pop hx hb d_Law_law_574 rfl ?_
  refine lv_aload_n hx hb d_Law_law_575 rfl (lv_at hl 2 rfl) ?_
  refine lv_aload_n hx hb d_Law_law_576 rfl (lv_at hl 0 rfl) ?_
  refine lv_iload hx hb d_Law_law_577 (lv_at hl 4 rfl) ?_
  refine lv_iconst (v := nI 1) hx hb d_Law_law_579 (by decide) ?_
  refine nv_iadd hx hb d_Law_law_580 ?_
  refine va_sld hx hb hX hbl hbA hS (vp_in_nI (show 6 * i + 1 < L by omega) (by omega)) d_Law_law_581 ?_
  refine nv_top (y := (nI k)) ((congrArg xs (nI_clamp (by omega))).trans e1) ?_
  refine lv_aload_n hx hb d_Law_law_582 rfl (lv_at hl 0 rfl) ?_
  refine lv_iload hx hb d_Law_law_583 (lv_at hl 4 rfl) ?_
  refine lv_iconst (v := nI 2) hx hb d_Law_law_585 (by decide) ?_
  refine nv_iadd hx hb d_Law_law_586 ?_
  refine va_sld hx hb hX hbl hbA hS (vp_in_nI (show 6 * i + 2 < L by omega) (by omega)) d_Law_law_587 ?_
  refine nv_top (y := (nI 2)) ((congrArg xs (nI_clamp (by omega))).trans e2) ?_
  refine kV_i (wc := mW cI cZ ma Y) (wr := cW cI cV ba A vf (X.1, X.2.1, fun j => if j = k then u1 else X.2.2 j) ++ oW cL ou f) (w2 := fun u2 => cW cI cV ba A vf (X.1, X.2.1, fun j => if j = k then u1 else X.2.2 j) ++ (mW cI cZ ma u2 ++ oW cL ou f)) [.int (nI k), .int (nI 2)] [] Bd ⟨gi_app (gi_c0 k_865 (gi_c0 k_866 (gi_c0 k_867 (gi_c0 k_10 gi_nil)))) (gi_tb0 k_868), rfl, by decide, by decide⟩ (show (parseMethodDescriptor "(II)I").map (fun d => d.parameters.length) = some 2 by decide +kernel) (m_about2 Y k hmY hk) (by decide +kernel) ⟨by show 106 + i + 0 ≤ 601024; omega, by show 155700 + 6 * i + 0 ≤ 7293034; omega⟩ hG hP hD hS hA [83, 84, 85, 86, 87, 88, 89, 90, 91, 92, 93, 94, 95, 96, 97, 98, 99, 100, 101, 102, 103, 104] [0, 1, 2, 3, 4, 5, 6, 7, 8, 9, 10, 11, 12, 13, 14, 15, 16, 17, 18, 19, 20, 21, 22, 23, 24, 25, 26, 27, 28, 29, 30, 31, 32, 33, 34, 35, 36, 37, 38, 39, 40, 41, 42, 43, 44, 45, 46, 47, 48, 49, 50, 51, 52, 53, 54, 55, 56, 57, 58, 59, 60, 61, 62, 63, 64, 65, 66, 67, 68, 69, 70, 71, 72, 73, 74, 75, 76, 77, 78, 79, 80, 81, 82, 105] [0, 1, 2, 3, 4, 5, 6, 7, 8, 9, 10, 11, 12, 13, 14, 15, 16, 17, 18, 19, 20, 21, 22, 23, 24, 25, 26, 27, 28, 29, 30, 31, 32, 33, 34, 35, 36, 37, 38, 39, 40, 41, 42, 43, 44, 45, 46, 47, 48, 49, 50, 51, 52, 53, 54, 55, 56, 57, 58, 59, 60, 61, 62, 63, 64, 65, 66, 67, 68, 69, 70, 71, 72, 73, 74, 75, 76, 77, 78, 79, 80, 81, 82, 84, 85, 86, 87, 88, 89, 90, 91, 92, 93, 94, 95, 96, 97, 98, 99, 100, 101, 102, 103, 104, 105, 83] ok_m (wl_m1 _ _ _) (wl_m2 _ _ _) (fun _ => wl_m3 _ _ _) (q0 := 0) rfl rfl rfl hl.1 rfl (Nat.le_of_ble_eq_true rfl) d_Law_law_588 (fun r2 u2 H locs hp2 hP hD hS => ?_)
  have hP : va_P D classes (cW cI cV ba A vf (X.1, X.2.1, fun j => if j = k then u1 else X.2.2 j) ++ (mW cI cZ ma u2 ++ oW cL ou f)) H := hP
  have hD : va_D (fun q : Nat => s.heap.size ≤ q) (cW cI cV ba A vf (X.1, X.2.1, fun j => if j = k then u1 else X.2.2 j) ++ (mW cI cZ ma u2 ++ oW cL ou f)) := hD
  refine lv_pop hx hb d_Law_law_591 rfl ?_
  refine lv_goto (tgt := 669) hx hb d_Law_law_592 (by decide) ?_
  refine W.widen (k := 106 + (i + 1)) (n := 155700 + 6 * (i + 1)) (by show 106 + i ≤ 106 + (i + 1); omega) (by show 155700 + 6 * i ≤ 155700 + 6 * (i + 1); omega) ?_
  exact hN (X.1, X.2.1, fun j => if j = k then u1 else X.2.2 j) u2 f H locs _ (cOk.view hcX hp1) (hp2.1) (by omega) (hp2.2.trans hnb) hP hD hS (lv_sub hl [0, 1, 2, 3, 4] rfl)
set_option maxHeartbeats 8000000 in
set_option maxRecDepth 100000 in
theorem lf_about3 {p : Program} {l : Launch} {e : Env} {s : State} {m : MethodId} {below : List Frame} {meth : Method} {c : Code} {D : va_G} {cI cZ cL cV : ClassId} {b L : Nat} {xs : Nat → Int32} {H : Heap} {locs : List Loc} {ls : Array Slot} (ba : Nat → Nat) (A : Nat → Nat → Nat) (vf : Nat → Option Nat) (ma : Nat → Nat) (ou : Nat) (X : CS) (Y : MS) (f : Nat → Int64) (i : Nat) (k : Nat) (hL : L ≤ 3072) (hi : 6 * i + 6 ≤ L) (C0 : lw_At p s m meth c b L xs) (hst : l.stackTraces = false) (hXo : xOk (fun q : Nat => s.heap.size ≤ q) s s.heap) (hG : gk classes NW D (TYS cI cZ cL cV) s) (hvf9 : ∀ k, k < 3 → vf k = some (A k 0)) (hcX : cOk X) (hmY : mOk Y) (hnX : X.1 ≤ i) (hnb : Y.2.2.2 1 = nI X.1) (e1 : xs (6 * i + 1) = nI k) (hk : k < 3) (e2 : xs (6 * i + 2) = nI 3) (hP : va_P D classes (cW cI cV ba A vf X ++ (mW cI cZ ma Y ++ oW cL ou f)) H) (hD : va_D (fun q : Nat => s.heap.size ≤ q) (cW cI cV ba A vf X ++ (mW cI cZ ma Y ++ oW cL ou f))) (hS : va_S (fun q : Nat => s.heap.size ≤ q) s.heap H locs) (hl : lv_has ls 7 [(0, .ref b), (1, .ref (ba 0)), (2, .ref (ma 0)), (3, .ref ou), (4, .int (nI (6 * i)))]) (hN : LN p l e s m below meth c D cI cZ cL cV b ba A vf ma ou i) : W p l e room_1 s m #[Value.ref b] below meth c H locs (106 + i) (155700 + 6 * i) (lw_Z below #[Value.ref b] s) (F0 m 558 ls []) := by
  obtain ⟨hx, hb, hr, hml, hown, hts, hX, hbl, hlocks, hgv⟩ := id C0
  have hA : ∀ q : Nat, s.heap.size ≤ q → (fun q : Nat => s.heap.size ≤ q) q := fun _ h => h
  have hbA : ¬ (fun q : Nat => s.heap.size ≤ q) b := Nat.not_le.mpr hbl
  have htb : ∀ w ∈ TB, w.before #[Value.ref b] s = true := fun w hw => hts w (List.mem_filter.mp hw).1
  have Bd : bd p c code 7 s #[Value.ref b] TB "TileScreenLaw" m := ⟨hx, hb, hml, hown, htb⟩
  refine lv_aload_n hx hb d_Law_law_558 rfl (lv_at hl 1 rfl) ?_
  refine lv_aload_n hx hb d_Law_law_559 rfl (lv_at hl 0 rfl) ?_
  refine lv_iload hx hb d_Law_law_560 (lv_at hl 4 rfl) ?_
  refine lv_iconst (v := nI 1) hx hb d_Law_law_562 (by decide) ?_
  refine nv_iadd hx hb d_Law_law_563 ?_
  refine va_sld hx hb hX hbl hbA hS (vp_in_nI (show 6 * i + 1 < L by omega) (by omega)) d_Law_law_564 ?_
  refine nv_top (y := (nI k)) ((congrArg xs (nI_clamp (by omega))).trans e1) ?_
  refine lv_aload_n hx hb d_Law_law_565 rfl (lv_at hl 0 rfl) ?_
  refine lv_iload hx hb d_Law_law_566 (lv_at hl 4 rfl) ?_
  refine lv_iconst (v := nI 2) hx hb d_Law_law_568 (by decide) ?_
  refine nv_iadd hx hb d_Law_law_569 ?_
  refine va_sld hx hb hX hbl hbA hS (vp_in_nI (show 6 * i + 2 < L by omega) (by omega)) d_Law_law_570 ?_
  refine nv_top (y := (nI 3)) ((congrArg xs (nI_clamp (by omega))).trans e2) ?_
  refine kV_i (wc := cW cI cV ba A vf X) (wr := mW cI cZ ma Y ++ oW cL ou f) (w2 := fun u1 => cW cI cV ba A vf (X.1, X.2.1, fun j => if j = k then u1 else X.2.2 j) ++ (mW cI cZ ma Y ++ oW cL ou f)) [.int (nI k), .int (nI 3)] [] Bd ⟨gi_app (gi_c0 k_516 (gi_c0 k_517 (gi_c0 k_518 (gi_c0 k_1 gi_nil)))) (gi_tb0 k_519), rfl, by decide, by decide⟩ (show (parseMethodDescriptor "(II)I").map (fun d => d.parameters.length) = some 2 by decide +kernel) (CI.view k hk (v_about X.1 X.2.1 (A k) (X.2.2 k) k 3 hk (hvf9 k hk) hcX.1 (hcX.2 k) (by decide))) (by decide +kernel) ⟨by show 106 + i + 0 ≤ 601024; omega, by show 155700 + 6 * i + 0 ≤ 7293034; omega⟩ hG hP hD hS hA [0, 1, 2, 3, 4, 5, 6, 7, 8, 9, 10, 11, 12, 13, 14, 15, 16, 17, 18, 19, 20, 21, 22, 23, 24, 25, 26, 27, 28, 29, 30, 31, 32, 33, 34, 35, 36, 37, 38, 39, 40, 41, 42, 43, 44, 45, 46, 47, 48, 49, 50, 51, 52, 53, 54, 55, 56, 57, 58, 59, 60, 61, 62, 63, 64, 65, 66, 67, 68, 69, 70, 71, 72, 73, 74, 75, 76, 77, 78, 79, 80, 81, 82] [83, 84, 85, 86, 87, 88, 89, 90, 91, 92, 93, 94, 95, 96, 97, 98, 99, 100, 101, 102, 103, 104, 105] [23, 24, 25, 26, 27, 28, 29, 30, 31, 32, 33, 34, 35, 36, 37, 38, 39, 40, 41, 42, 43, 44, 45, 46, 47, 48, 49, 50, 51, 52, 53, 54, 55, 56, 57, 58, 59, 60, 61, 62, 63, 64, 65, 66, 67, 68, 69, 70, 71, 72, 73, 74, 75, 76, 77, 78, 79, 80, 81, 82, 83, 84, 85, 86, 87, 88, 89, 90, 91, 92, 93, 94, 95, 96, 97, 98, 99, 100, 101, 102, 103, 104, 105, 0, 1, 2, 3, 4, 5, 6, 7, 8, 9, 10, 11, 12, 13, 14, 15, 16, 17, 18, 19, 20, 21, 22] ok_c (wl_c1 _ _ _) (wl_c2 _ _ _) (fun _ => wl_c3 _ _ _) (q0 := 0) rfl rfl rfl hl.1 rfl (Nat.le_of_ble_eq_true rfl) d_Law_law_571 (fun r1 u1 H locs hp1 hP hD hS => ?_)
  have hP : va_P D classes (cW cI cV ba A vf (X.1, X.2.1, fun j => if j = k then u1 else X.2.2 j) ++ (mW cI cZ ma Y ++ oW cL ou f)) H := hP
  have hD : va_D (fun q : Nat => s.heap.size ≤ q) (cW cI cV ba A vf (X.1, X.2.1, fun j => if j = k then u1 else X.2.2 j) ++ (mW cI cZ ma Y ++ oW cL ou f)) := hD
  refine lv_pop hx hb d_Law_law_574 rfl ?_
  refine lv_aload_n hx hb d_Law_law_575 rfl (lv_at hl 2 rfl) ?_
  refine lv_aload_n hx hb d_Law_law_576 rfl (lv_at hl 0 rfl) ?_
  refine lv_iload hx hb d_Law_law_577 (lv_at hl 4 rfl) ?_
  refine lv_iconst (v := nI 1) hx hb d_Law_law_579 (by decide) ?_
  refine nv_iadd hx hb d_Law_law_580 ?_
  refine va_sld hx hb hX hbl hbA hS (vp_in_nI (show 6 * i + 1 < L by omega) (by omega)) d_Law_law_581 ?_
  refine nv_top (y := (nI k)) ((congrArg xs (nI_clamp (by omega))).trans e1) ?_
  refine lv_aload_n hx hb d_Law_law_582 rfl (lv_at hl 0 rfl) ?_
  refine lv_iload hx hb d_Law_law_583 (lv_at hl 4 rfl) ?_
  refine lv_iconst (v := nI 2) hx hb d_Law_law_585 (by decide) ?_
  refine nv_iadd hx hb d_Law_law_586 ?_
  refine va_sld hx hb hX hbl hbA hS (vp_in_nI (show 6 * i + 2 < L by omega) (by omega)) d_Law_law_587 ?_
  refine nv_top (y := (nI 3)) ((congrArg xs (nI_clamp (by omega))).trans e2) ?_
  refine kV_i (wc := mW cI cZ ma Y) (wr := cW cI cV ba A vf (X.1, X.2.1, fun j => if j = k then u1 else X.2.2 j) ++ oW cL ou f) (w2 := fun u2 => cW cI cV ba A vf (X.1, X.2.1, fun j => if j = k then u1 else X.2.2 j) ++ (mW cI cZ ma u2 ++ oW cL ou f)) [.int (nI k), .int (nI 3)] [] Bd ⟨gi_app (gi_c0 k_865 (gi_c0 k_866 (gi_c0 k_867 (gi_c0 k_10 gi_nil)))) (gi_tb0 k_868), rfl, by decide, by decide⟩ (show (parseMethodDescriptor "(II)I").map (fun d => d.parameters.length) = some 2 by decide +kernel) (m_about3 Y k hmY hk) (by decide +kernel) ⟨by show 106 + i + 0 ≤ 601024; omega, by show 155700 + 6 * i + 0 ≤ 7293034; omega⟩ hG hP hD hS hA [83, 84, 85, 86, 87, 88, 89, 90, 91, 92, 93, 94, 95, 96, 97, 98, 99, 100, 101, 102, 103, 104] [0, 1, 2, 3, 4, 5, 6, 7, 8, 9, 10, 11, 12, 13, 14, 15, 16, 17, 18, 19, 20, 21, 22, 23, 24, 25, 26, 27, 28, 29, 30, 31, 32, 33, 34, 35, 36, 37, 38, 39, 40, 41, 42, 43, 44, 45, 46, 47, 48, 49, 50, 51, 52, 53, 54, 55, 56, 57, 58, 59, 60, 61, 62, 63, 64, 65, 66, 67, 68, 69, 70, 71, 72, 73, 74, 75, 76, 77, 78, 79, 80, 81, 82, 105] [0, 1, 2, 3, 4, 5, 6, 7, 8, 9, 10, 11, 12, 13, 14, 15, 16, 17, 18, 19, 20, 21, 22, 23, 24, 25, 26, 27, 28, 29, 30, 31, 32, 33, 34, 35, 36, 37, 38, 39, 40, 41, 42, 43, 44, 45, 46, 47, 48, 49, 50, 51, 52, 53, 54, 55, 56, 57, 58, 59, 60, 61, 62, 63, 64, 65, 66, 67, 68, 69, 70, 71, 72, 73, 74, 75, 76, 77, 78, 79, 80, 81, 82, 84, 85, 86, 87, 88, 89, 90, 91, 92, 93, 94, 95, 96, 97, 98, 99, 100, 101, 102, 103, 104, 105, 83] ok_m (wl_m1 _ _ _) (wl_m2 _ _ _) (fun _ => wl_m3 _ _ _) (q0 := 0) rfl rfl rfl hl.1 rfl (Nat.le_of_ble_eq_true rfl) d_Law_law_588 (fun r2 u2 H locs hp2 hP hD hS => ?_)
  have hP : va_P D classes (cW cI cV ba A vf (X.1, X.2.1, fun j => if j = k then u1 else X.2.2 j) ++ (mW cI cZ ma u2 ++ oW cL ou f)) H := hP
  have hD : va_D (fun q : Nat => s.heap.size ≤ q) (cW cI cV ba A vf (X.1, X.2.1, fun j => if j = k then u1 else X.2.2 j) ++ (mW cI cZ ma u2 ++ oW cL ou f)) := hD
  refine lv_pop hx hb d_Law_law_591 rfl ?_
  refine lv_goto (tgt := 669) hx hb d_Law_law_592 (by decide) ?_
  refine W.widen (k := 106 + (i + 1)) (n := 155700 + 6 * (i + 1)) (by show 106 + i ≤ 106 + (i + 1); omega) (by show 155700 + 6 * i ≤ 155700 + 6 * (i + 1); omega) ?_
  exact hN (X.1, X.2.1, fun j => if j = k then u1 else X.2.2 j) u2 f H locs _ (cOk.view hcX hp1) (hp2.1) (by omega) (hp2.2.trans hnb) hP hD hS (lv_sub hl [0, 1, 2, 3, 4] rfl)
set_option maxHeartbeats 8000000 in
set_option maxRecDepth 100000 in
theorem lf_about4 {p : Program} {l : Launch} {e : Env} {s : State} {m : MethodId} {below : List Frame} {meth : Method} {c : Code} {D : va_G} {cI cZ cL cV : ClassId} {b L : Nat} {xs : Nat → Int32} {H : Heap} {locs : List Loc} {ls : Array Slot} (ba : Nat → Nat) (A : Nat → Nat → Nat) (vf : Nat → Option Nat) (ma : Nat → Nat) (ou : Nat) (X : CS) (Y : MS) (f : Nat → Int64) (i : Nat) (k : Nat) (hL : L ≤ 3072) (hi : 6 * i + 6 ≤ L) (C0 : lw_At p s m meth c b L xs) (hst : l.stackTraces = false) (hXo : xOk (fun q : Nat => s.heap.size ≤ q) s s.heap) (hG : gk classes NW D (TYS cI cZ cL cV) s) (hvf9 : ∀ k, k < 3 → vf k = some (A k 0)) (hcX : cOk X) (hmY : mOk Y) (hnX : X.1 ≤ i) (hnb : Y.2.2.2 1 = nI X.1) (e1 : xs (6 * i + 1) = nI k) (hk : k < 3) (e2 : xs (6 * i + 2) = nI 4) (hP : va_P D classes (cW cI cV ba A vf X ++ (mW cI cZ ma Y ++ oW cL ou f)) H) (hD : va_D (fun q : Nat => s.heap.size ≤ q) (cW cI cV ba A vf X ++ (mW cI cZ ma Y ++ oW cL ou f))) (hS : va_S (fun q : Nat => s.heap.size ≤ q) s.heap H locs) (hl : lv_has ls 7 [(0, .ref b), (1, .ref (ba 0)), (2, .ref (ma 0)), (3, .ref ou), (4, .int (nI (6 * i)))]) (hN : LN p l e s m below meth c D cI cZ cL cV b ba A vf ma ou i) : W p l e room_1 s m #[Value.ref b] below meth c H locs (106 + i) (155700 + 6 * i) (lw_Z below #[Value.ref b] s) (F0 m 558 ls []) := by
  obtain ⟨hx, hb, hr, hml, hown, hts, hX, hbl, hlocks, hgv⟩ := id C0
  have hA : ∀ q : Nat, s.heap.size ≤ q → (fun q : Nat => s.heap.size ≤ q) q := fun _ h => h
  have hbA : ¬ (fun q : Nat => s.heap.size ≤ q) b := Nat.not_le.mpr hbl
  have htb : ∀ w ∈ TB, w.before #[Value.ref b] s = true := fun w hw => hts w (List.mem_filter.mp hw).1
  have Bd : bd p c code 7 s #[Value.ref b] TB "TileScreenLaw" m := ⟨hx, hb, hml, hown, htb⟩
  refine lv_aload_n hx hb d_Law_law_558 rfl (lv_at hl 1 rfl) ?_
  refine lv_aload_n hx hb d_Law_law_559 rfl (lv_at hl 0 rfl) ?_
  refine lv_iload hx hb d_Law_law_560 (lv_at hl 4 rfl) ?_
  refine lv_iconst (v := nI 1) hx hb d_Law_law_562 (by decide) ?_
  refine nv_iadd hx hb d_Law_law_563 ?_
  refine va_sld hx hb hX hbl hbA hS (vp_in_nI (show 6 * i + 1 < L by omega) (by omega)) d_Law_law_564 ?_
  refine nv_top (y := (nI k)) ((congrArg xs (nI_clamp (by omega))).trans e1) ?_
  refine lv_aload_n hx hb d_Law_law_565 rfl (lv_at hl 0 rfl) ?_
  refine lv_iload hx hb d_Law_law_566 (lv_at hl 4 rfl) ?_
  refine lv_iconst (v := nI 2) hx hb d_Law_law_568 (by decide) ?_
  refine nv_iadd hx hb d_Law_law_569 ?_
  refine va_sld hx hb hX hbl hbA hS (vp_in_nI (show 6 * i + 2 < L by omega) (by omega)) d_Law_law_570 ?_
  refine nv_top (y := (nI 4)) ((congrArg xs (nI_clamp (by omega))).trans e2) ?_
  refine kV_i (wc := cW cI cV ba A vf X) (wr := mW cI cZ ma Y ++ oW cL ou f) (w2 := fun u1 => cW cI cV ba A vf (X.1, X.2.1, fun j => if j = k then u1 else X.2.2 j) ++ (mW cI cZ ma Y ++ oW cL ou f)) [.int (nI k), .int (nI 4)] [] Bd ⟨gi_app (gi_c0 k_516 (gi_c0 k_517 (gi_c0 k_518 (gi_c0 k_1 gi_nil)))) (gi_tb0 k_519), rfl, by decide, by decide⟩ (show (parseMethodDescriptor "(II)I").map (fun d => d.parameters.length) = some 2 by decide +kernel) (CI.view k hk (v_about X.1 X.2.1 (A k) (X.2.2 k) k 4 hk (hvf9 k hk) hcX.1 (hcX.2 k) (by decide))) (by decide +kernel) ⟨by show 106 + i + 0 ≤ 601024; omega, by show 155700 + 6 * i + 0 ≤ 7293034; omega⟩ hG hP hD hS hA [0, 1, 2, 3, 4, 5, 6, 7, 8, 9, 10, 11, 12, 13, 14, 15, 16, 17, 18, 19, 20, 21, 22, 23, 24, 25, 26, 27, 28, 29, 30, 31, 32, 33, 34, 35, 36, 37, 38, 39, 40, 41, 42, 43, 44, 45, 46, 47, 48, 49, 50, 51, 52, 53, 54, 55, 56, 57, 58, 59, 60, 61, 62, 63, 64, 65, 66, 67, 68, 69, 70, 71, 72, 73, 74, 75, 76, 77, 78, 79, 80, 81, 82] [83, 84, 85, 86, 87, 88, 89, 90, 91, 92, 93, 94, 95, 96, 97, 98, 99, 100, 101, 102, 103, 104, 105] [23, 24, 25, 26, 27, 28, 29, 30, 31, 32, 33, 34, 35, 36, 37, 38, 39, 40, 41, 42, 43, 44, 45, 46, 47, 48, 49, 50, 51, 52, 53, 54, 55, 56, 57, 58, 59, 60, 61, 62, 63, 64, 65, 66, 67, 68, 69, 70, 71, 72, 73, 74, 75, 76, 77, 78, 79, 80, 81, 82, 83, 84, 85, 86, 87, 88, 89, 90, 91, 92, 93, 94, 95, 96, 97, 98, 99, 100, 101, 102, 103, 104, 105, 0, 1, 2, 3, 4, 5, 6, 7, 8, 9, 10, 11, 12, 13, 14, 15, 16, 17, 18, 19, 20, 21, 22] ok_c (wl_c1 _ _ _) (wl_c2 _ _ _) (fun _ => wl_c3 _ _ _) (q0 := 0) rfl rfl rfl hl.1 rfl (Nat.le_of_ble_eq_true rfl) d_Law_law_571 (fun r1 u1 H locs hp1 hP hD hS => ?_)
  have hP : va_P D classes (cW cI cV ba A vf (X.1, X.2.1, fun j => if j = k then u1 else X.2.2 j) ++ (mW cI cZ ma Y ++ oW cL ou f)) H := hP
  have hD : va_D (fun q : Nat => s.heap.size ≤ q) (cW cI cV ba A vf (X.1, X.2.1, fun j => if j = k then u1 else X.2.2 j) ++ (mW cI cZ ma Y ++ oW cL ou f)) := hD
  refine lv_pop hx hb d_Law_law_574 rfl ?_
  refine lv_aload_n hx hb d_Law_law_575 rfl (lv_at hl 2 rfl) ?_
  refine lv_aload_n hx hb d_Law_law_576 rfl (lv_at hl 0 rfl) ?_
  refine lv_iload hx hb d_Law_law_577 (lv_at hl 4 rfl) ?_
  refine lv_iconst (v := nI 1) hx hb d_Law_law_579 (by decide) ?_
  refine nv_iadd hx hb d_Law_law_580 ?_
  refine va_sld hx hb hX hbl hbA hS (vp_in_nI (show 6 * i + 1 < L by omega) (by omega)) d_Law_law_581 ?_
  refine nv_top (y := (nI k)) ((congrArg xs (nI_clamp (by omega))).trans e1) ?_
  refine lv_aload_n hx hb d_Law_law_582 rfl (lv_at hl 0 rfl) ?_
  refine lv_iload hx hb d_Law_law_583 (lv_at hl 4 rfl) ?_
  refine lv_iconst (v := nI 2) hx hb d_Law_law_585 (by decide) ?_
  refine nv_iadd hx hb d_Law_law_586 ?_
  refine va_sld hx hb hX hbl hbA hS (vp_in_nI (show 6 * i + 2 < L by omega) (by omega)) d_Law_law_587 ?_
  refine nv_top (y := (nI 4)) ((congrArg xs (nI_clamp (by omega))).trans e2) ?_
  refine kV_i (wc := mW cI cZ ma Y) (wr := cW cI cV ba A vf (X.1, X.2.1, fun j => if j = k then u1 else X.2.2 j) ++ oW cL ou f) (w2 := fun u2 => cW cI cV ba A vf (X.1, X.2.1, fun j => if j = k then u1 else X.2.2 j) ++ (mW cI cZ ma u2 ++ oW cL ou f)) [.int (nI k), .int (nI 4)] [] Bd ⟨gi_app (gi_c0 k_865 (gi_c0 k_866 (gi_c0 k_867 (gi_c0 k_10 gi_nil)))) (gi_tb0 k_868), rfl, by decide, by decide⟩ (show (parseMethodDescriptor "(II)I").map (fun d => d.parameters.length) = some 2 by decide +kernel) (m_about4 Y k hmY hk) (by decide +kernel) ⟨by show 106 + i + 0 ≤ 601024; omega, by show 155700 + 6 * i + 0 ≤ 7293034; omega⟩ hG hP hD hS hA [83, 84, 85, 86, 87, 88, 89, 90, 91, 92, 93, 94, 95, 96, 97, 98, 99, 100, 101, 102, 103, 104] [0, 1, 2, 3, 4, 5, 6, 7, 8, 9, 10, 11, 12, 13, 14, 15, 16, 17, 18, 19, 20, 21, 22, 23, 24, 25, 26, 27, 28, 29, 30, 31, 32, 33, 34, 35, 36, 37, 38, 39, 40, 41, 42, 43, 44, 45, 46, 47, 48, 49, 50, 51, 52, 53, 54, 55, 56, 57, 58, 59, 60, 61, 62, 63, 64, 65, 66, 67, 68, 69, 70, 71, 72, 73, 74, 75, 76, 77, 78, 79, 80, 81, 82, 105] [0, 1, 2, 3, 4, 5, 6, 7, 8, 9, 10, 11, 12, 13, 14, 15, 16, 17, 18, 19, 20, 21, 22, 23, 24, 25, 26, 27, 28, 29, 30, 31, 32, 33, 34, 35, 36, 37, 38, 39, 40, 41, 42, 43, 44, 45, 46, 47, 48, 49, 50, 51, 52, 53, 54, 55, 56, 57, 58, 59, 60, 61, 62, 63, 64, 65, 66, 67, 68, 69, 70, 71, 72, 73, 74, 75, 76, 77, 78, 79, 80, 81, 82, 84, 85, 86, 87, 88, 89, 90, 91, 92, 93, 94, 95, 96, 97, 98, 99, 100, 101, 102, 103, 104, 105, 83] ok_m (wl_m1 _ _ _) (wl_m2 _ _ _) (fun _ => wl_m3 _ _ _) (q0 := 0) rfl rfl rfl hl.1 rfl (Nat.le_of_ble_eq_true rfl) d_Law_law_588 (fun r2 u2 H locs hp2 hP hD hS => ?_)
  have hP : va_P D classes (cW cI cV ba A vf (X.1, X.2.1, fun j => if j = k then u1 else X.2.2 j) ++ (mW cI cZ ma u2 ++ oW cL ou f)) H := hP
  have hD : va_D (fun q : Nat => s.heap.size ≤ q) (cW cI cV ba A vf (X.1, X.2.1, fun j => if j = k then u1 else X.2.2 j) ++ (mW cI cZ ma u2 ++ oW cL ou f)) := hD
  refine lv_pop hx hb d_Law_law_591 rfl ?_
  refine lv_goto (tgt := 669) hx hb d_Law_law_592 (by decide) ?_
  refine W.widen (k := 106 + (i + 1)) (n := 155700 + 6 * (i + 1)) (by show 106 + i ≤ 106 + (i + 1); omega) (by show 155700 + 6 * i ≤ 155700 + 6 * (i + 1); omega) ?_
  exact hN (X.1, X.2.1, fun j => if j = k then u1 else X.2.2 j) u2 f H locs _ (cOk.view hcX hp1) (hp2.1) (by omega) (hp2.2.trans hnb) hP hD hS (lv_sub hl [0, 1, 2, 3, 4] rfl)
set_option maxHeartbeats 8000000 in
set_option maxRecDepth 100000 in
theorem lf_about5 {p : Program} {l : Launch} {e : Env} {s : State} {m : MethodId} {below : List Frame} {meth : Method} {c : Code} {D : va_G} {cI cZ cL cV : ClassId} {b L : Nat} {xs : Nat → Int32} {H : Heap} {locs : List Loc} {ls : Array Slot} (ba : Nat → Nat) (A : Nat → Nat → Nat) (vf : Nat → Option Nat) (ma : Nat → Nat) (ou : Nat) (X : CS) (Y : MS) (f : Nat → Int64) (i : Nat) (k : Nat) (hL : L ≤ 3072) (hi : 6 * i + 6 ≤ L) (C0 : lw_At p s m meth c b L xs) (hst : l.stackTraces = false) (hXo : xOk (fun q : Nat => s.heap.size ≤ q) s s.heap) (hG : gk classes NW D (TYS cI cZ cL cV) s) (hvf9 : ∀ k, k < 3 → vf k = some (A k 0)) (hcX : cOk X) (hmY : mOk Y) (hnX : X.1 ≤ i) (hnb : Y.2.2.2 1 = nI X.1) (e1 : xs (6 * i + 1) = nI k) (hk : k < 3) (e2 : xs (6 * i + 2) = nI 5) (hP : va_P D classes (cW cI cV ba A vf X ++ (mW cI cZ ma Y ++ oW cL ou f)) H) (hD : va_D (fun q : Nat => s.heap.size ≤ q) (cW cI cV ba A vf X ++ (mW cI cZ ma Y ++ oW cL ou f))) (hS : va_S (fun q : Nat => s.heap.size ≤ q) s.heap H locs) (hl : lv_has ls 7 [(0, .ref b), (1, .ref (ba 0)), (2, .ref (ma 0)), (3, .ref ou), (4, .int (nI (6 * i)))]) (hN : LN p l e s m below meth c D cI cZ cL cV b ba A vf ma ou i) : W p l e room_1 s m #[Value.ref b] below meth c H locs (106 + i) (155700 + 6 * i) (lw_Z below #[Value.ref b] s) (F0 m 558 ls []) := by
  obtain ⟨hx, hb, hr, hml, hown, hts, hX, hbl, hlocks, hgv⟩ := id C0
  have hA : ∀ q : Nat, s.heap.size ≤ q → (fun q : Nat => s.heap.size ≤ q) q := fun _ h => h
  have hbA : ¬ (fun q : Nat => s.heap.size ≤ q) b := Nat.not_le.mpr hbl
  have htb : ∀ w ∈ TB, w.before #[Value.ref b] s = true := fun w hw => hts w (List.mem_filter.mp hw).1
  have Bd : bd p c code 7 s #[Value.ref b] TB "TileScreenLaw" m := ⟨hx, hb, hml, hown, htb⟩
  refine lv_aload_n hx hb d_Law_law_558 rfl (lv_at hl 1 rfl) ?_
  refine lv_aload_n hx hb d_Law_law_559 rfl (lv_at hl 0 rfl) ?_
  refine lv_iload hx hb d_Law_law_560 (lv_at hl 4 rfl) ?_
  refine lv_iconst (v := nI 1) hx hb d_Law_law_562 (by decide) ?_
  refine nv_iadd hx hb d_Law_law_563 ?_
  refine va_sld hx hb hX hbl hbA hS (vp_in_nI (show 6 * i + 1 < L by omega) (by omega)) d_Law_law_564 ?_
  refine nv_top (y := (nI k)) ((congrArg xs (nI_clamp (by omega))).trans e1) ?_
  refine lv_aload_n hx hb d_Law_law_565 rfl (lv_at hl 0 rfl) ?_
  refine lv_iload hx hb d_Law_law_566 (lv_at hl 4 rfl) ?_
  refine lv_iconst (v := nI 2) hx hb d_Law_law_568 (by decide) ?_
  refine nv_iadd hx hb d_Law_law_569 ?_
  refine va_sld hx hb hX hbl hbA hS (vp_in_nI (show 6 * i + 2 < L by omega) (by omega)) d_Law_law_570 ?_
  refine nv_top (y := (nI 5)) ((congrArg xs (nI_clamp (by omega))).trans e2) ?_
  refine kV_i (wc := cW cI cV ba A vf X) (wr := mW cI cZ ma Y ++ oW cL ou f) (w2 := fun u1 => cW cI cV ba A vf (X.1, X.2.1, fun j => if j = k then u1 else X.2.2 j) ++ (mW cI cZ ma Y ++ oW cL ou f)) [.int (nI k), .int (nI 5)] [] Bd ⟨gi_app (gi_c0 k_516 (gi_c0 k_517 (gi_c0 k_518 (gi_c0 k_1 gi_nil)))) (gi_tb0 k_519), rfl, by decide, by decide⟩ (show (parseMethodDescriptor "(II)I").map (fun d => d.parameters.length) = some 2 by decide +kernel) (CI.view k hk (v_about X.1 X.2.1 (A k) (X.2.2 k) k 5 hk (hvf9 k hk) hcX.1 (hcX.2 k) (by decide))) (by decide +kernel) ⟨by show 106 + i + 0 ≤ 601024; omega, by show 155700 + 6 * i + 0 ≤ 7293034; omega⟩ hG hP hD hS hA [0, 1, 2, 3, 4, 5, 6, 7, 8, 9, 10, 11, 12, 13, 14, 15, 16, 17, 18, 19, 20, 21, 22, 23, 24, 25, 26, 27, 28, 29, 30, 31, 32, 33, 34, 35, 36, 37, 38, 39, 40, 41, 42, 43, 44, 45, 46, 47, 48, 49, 50, 51, 52, 53, 54, 55, 56, 57, 58, 59, 60, 61, 62, 63, 64, 65, 66, 67, 68, 69, 70, 71, 72, 73, 74, 75, 76, 77, 78, 79, 80, 81, 82] [83, 84, 85, 86, 87, 88, 89, 90, 91, 92, 93, 94, 95, 96, 97, 98, 99, 100, 101, 102, 103, 104, 105] [23, 24, 25, 26, 27, 28, 29, 30, 31, 32, 33, 34, 35, 36, 37, 38, 39, 40, 41, 42, 43, 44, 45, 46, 47, 48, 49, 50, 51, 52, 53, 54, 55, 56, 57, 58, 59, 60, 61, 62, 63, 64, 65, 66, 67, 68, 69, 70, 71, 72, 73, 74, 75, 76, 77, 78, 79, 80, 81, 82, 83, 84, 85, 86, 87, 88, 89, 90, 91, 92, 93, 94, 95, 96, 97, 98, 99, 100, 101, 102, 103, 104, 105, 0, 1, 2, 3, 4, 5, 6, 7, 8, 9, 10, 11, 12, 13, 14, 15, 16, 17, 18, 19, 20, 21, 22] ok_c (wl_c1 _ _ _) (wl_c2 _ _ _) (fun _ => wl_c3 _ _ _) (q0 := 0) rfl rfl rfl hl.1 rfl (Nat.le_of_ble_eq_true rfl) d_Law_law_571 (fun r1 u1 H locs hp1 hP hD hS => ?_)
  have hP : va_P D classes (cW cI cV ba A vf (X.1, X.2.1, fun j => if j = k then u1 else X.2.2 j) ++ (mW cI cZ ma Y ++ oW cL ou f)) H := hP
  have hD : va_D (fun q : Nat => s.heap.size ≤ q) (cW cI cV ba A vf (X.1, X.2.1, fun j => if j = k then u1 else X.2.2 j) ++ (mW cI cZ ma Y ++ oW cL ou f)) := hD
  refine lv_pop hx hb d_Law_law_574 rfl ?_
  refine lv_aload_n hx hb d_Law_law_575 rfl (lv_at hl 2 rfl) ?_
  refine lv_aload_n hx hb d_Law_law_576 rfl (lv_at hl 0 rfl) ?_
  refine lv_iload hx hb d_Law_law_577 (lv_at hl 4 rfl) ?_
  refine lv_iconst (v := nI 1) hx hb d_Law_law_579 (by decide) ?_
  refine nv_iadd hx hb d_Law_law_580 ?_
  refine va_sld hx hb hX hbl hbA hS (vp_in_nI (show 6 * i + 1 < L by omega) (by omega)) d_Law_law_581 ?_
  refine nv_top (y := (nI k)) ((congrArg xs (nI_clamp (by omega))).trans e1) ?_
  refine lv_aload_n hx hb d_Law_law_582 rfl (lv_at hl 0 rfl) ?_
  refine lv_iload hx hb d_Law_law_583 (lv_at hl 4 rfl) ?_
  refine lv_iconst (v := nI 2) hx hb d_Law_law_585 (by decide) ?_
  refine nv_iadd hx hb d_Law_law_586 ?_
  refine va_sld hx hb hX hbl hbA hS (vp_in_nI (show 6 * i + 2 < L by omega) (by omega)) d_Law_law_587 ?_
  refine nv_top (y := (nI 5)) ((congrArg xs (nI_clamp (by omega))).trans e2) ?_
  refine kV_i (wc := mW cI cZ ma Y) (wr := cW cI cV ba A vf (X.1, X.2.1, fun j => if j = k then u1 else X.2.2 j) ++ oW cL ou f) (w2 := fun u2 => cW cI cV ba A vf (X.1, X.2.1, fun j => if j = k then u1 else X.2.2 j) ++ (mW cI cZ ma u2 ++ oW cL ou f)) [.int (nI k), .int (nI 5)] [] Bd ⟨gi_app (gi_c0 k_865 (gi_c0 k_866 (gi_c0 k_867 (gi_c0 k_10 gi_nil)))) (gi_tb0 k_868), rfl, by decide, by decide⟩ (show (parseMethodDescriptor "(II)I").map (fun d => d.parameters.length) = some 2 by decide +kernel) (m_about5 Y k hmY hk) (by decide +kernel) ⟨by show 106 + i + 0 ≤ 601024; omega, by show 155700 + 6 * i + 0 ≤ 7293034; omega⟩ hG hP hD hS hA [83, 84, 85, 86, 87, 88, 89, 90, 91, 92, 93, 94, 95, 96, 97, 98, 99, 100, 101, 102, 103, 104] [0, 1, 2, 3, 4, 5, 6, 7, 8, 9, 10, 11, 12, 13, 14, 15, 16, 17, 18, 19, 20, 21, 22, 23, 24, 25, 26, 27, 28, 29, 30, 31, 32, 33, 34, 35, 36, 37, 38, 39, 40, 41, 42, 43, 44, 45, 46, 47, 48, 49, 50, 51, 52, 53, 54, 55, 56, 57, 58, 59, 60, 61, 62, 63, 64, 65, 66, 67, 68, 69, 70, 71, 72, 73, 74, 75, 76, 77, 78, 79, 80, 81, 82, 105] [0, 1, 2, 3, 4, 5, 6, 7, 8, 9, 10, 11, 12, 13, 14, 15, 16, 17, 18, 19, 20, 21, 22, 23, 24, 25, 26, 27, 28, 29, 30, 31, 32, 33, 34, 35, 36, 37, 38, 39, 40, 41, 42, 43, 44, 45, 46, 47, 48, 49, 50, 51, 52, 53, 54, 55, 56, 57, 58, 59, 60, 61, 62, 63, 64, 65, 66, 67, 68, 69, 70, 71, 72, 73, 74, 75, 76, 77, 78, 79, 80, 81, 82, 84, 85, 86, 87, 88, 89, 90, 91, 92, 93, 94, 95, 96, 97, 98, 99, 100, 101, 102, 103, 104, 105, 83] ok_m (wl_m1 _ _ _) (wl_m2 _ _ _) (fun _ => wl_m3 _ _ _) (q0 := 0) rfl rfl rfl hl.1 rfl (Nat.le_of_ble_eq_true rfl) d_Law_law_588 (fun r2 u2 H locs hp2 hP hD hS => ?_)
  have hP : va_P D classes (cW cI cV ba A vf (X.1, X.2.1, fun j => if j = k then u1 else X.2.2 j) ++ (mW cI cZ ma u2 ++ oW cL ou f)) H := hP
  have hD : va_D (fun q : Nat => s.heap.size ≤ q) (cW cI cV ba A vf (X.1, X.2.1, fun j => if j = k then u1 else X.2.2 j) ++ (mW cI cZ ma u2 ++ oW cL ou f)) := hD
  refine lv_pop hx hb d_Law_law_591 rfl ?_
  refine lv_goto (tgt := 669) hx hb d_Law_law_592 (by decide) ?_
  refine W.widen (k := 106 + (i + 1)) (n := 155700 + 6 * (i + 1)) (by show 106 + i ≤ 106 + (i + 1); omega) (by show 155700 + 6 * i ≤ 155700 + 6 * (i + 1); omega) ?_
  exact hN (X.1, X.2.1, fun j => if j = k then u1 else X.2.2 j) u2 f H locs _ (cOk.view hcX hp1) (hp2.1) (by omega) (hp2.2.trans hnb) hP hD hS (lv_sub hl [0, 1, 2, 3, 4] rfl)
set_option maxHeartbeats 8000000 in
set_option maxRecDepth 100000 in
theorem lf_about6 {p : Program} {l : Launch} {e : Env} {s : State} {m : MethodId} {below : List Frame} {meth : Method} {c : Code} {D : va_G} {cI cZ cL cV : ClassId} {b L : Nat} {xs : Nat → Int32} {H : Heap} {locs : List Loc} {ls : Array Slot} (ba : Nat → Nat) (A : Nat → Nat → Nat) (vf : Nat → Option Nat) (ma : Nat → Nat) (ou : Nat) (X : CS) (Y : MS) (f : Nat → Int64) (i : Nat) (k : Nat) (hL : L ≤ 3072) (hi : 6 * i + 6 ≤ L) (C0 : lw_At p s m meth c b L xs) (hst : l.stackTraces = false) (hXo : xOk (fun q : Nat => s.heap.size ≤ q) s s.heap) (hG : gk classes NW D (TYS cI cZ cL cV) s) (hvf9 : ∀ k, k < 3 → vf k = some (A k 0)) (hcX : cOk X) (hmY : mOk Y) (hnX : X.1 ≤ i) (hnb : Y.2.2.2 1 = nI X.1) (e1 : xs (6 * i + 1) = nI k) (hk : k < 3) (e2 : xs (6 * i + 2) = nI 6) (hP : va_P D classes (cW cI cV ba A vf X ++ (mW cI cZ ma Y ++ oW cL ou f)) H) (hD : va_D (fun q : Nat => s.heap.size ≤ q) (cW cI cV ba A vf X ++ (mW cI cZ ma Y ++ oW cL ou f))) (hS : va_S (fun q : Nat => s.heap.size ≤ q) s.heap H locs) (hl : lv_has ls 7 [(0, .ref b), (1, .ref (ba 0)), (2, .ref (ma 0)), (3, .ref ou), (4, .int (nI (6 * i)))]) (hN : LN p l e s m below meth c D cI cZ cL cV b ba A vf ma ou i) : W p l e room_1 s m #[Value.ref b] below meth c H locs (106 + i) (155700 + 6 * i) (lw_Z below #[Value.ref b] s) (F0 m 558 ls []) := by
  obtain ⟨hx, hb, hr, hml, hown, hts, hX, hbl, hlocks, hgv⟩ := id C0
  have hA : ∀ q : Nat, s.heap.size ≤ q → (fun q : Nat => s.heap.size ≤ q) q := fun _ h => h
  have hbA : ¬ (fun q : Nat => s.heap.size ≤ q) b := Nat.not_le.mpr hbl
  have htb : ∀ w ∈ TB, w.before #[Value.ref b] s = true := fun w hw => hts w (List.mem_filter.mp hw).1
  have Bd : bd p c code 7 s #[Value.ref b] TB "TileScreenLaw" m := ⟨hx, hb, hml, hown, htb⟩
  refine lv_aload_n hx hb d_Law_law_558 rfl (lv_at hl 1 rfl) ?_
  refine lv_aload_n hx hb d_Law_law_559 rfl (lv_at hl 0 rfl) ?_
  refine lv_iload hx hb d_Law_law_560 (lv_at hl 4 rfl) ?_
  refine lv_iconst (v := nI 1) hx hb d_Law_law_562 (by decide) ?_
  refine nv_iadd hx hb d_Law_law_563 ?_
  refine va_sld hx hb hX hbl hbA hS (vp_in_nI (show 6 * i + 1 < L by omega) (by omega)) d_Law_law_564 ?_
  refine nv_top (y := (nI k)) ((congrArg xs (nI_clamp (by omega))).trans e1) ?_
  refine lv_aload_n hx hb d_Law_law_565 rfl (lv_at hl 0 rfl) ?_
  refine lv_iload hx hb d_Law_law_566 (lv_at hl 4 rfl) ?_
  refine lv_iconst (v := nI 2) hx hb d_Law_law_568 (by decide) ?_
  refine nv_iadd hx hb d_Law_law_569 ?_
  refine va_sld hx hb hX hbl hbA hS (vp_in_nI (show 6 * i + 2 < L by omega) (by omega)) d_Law_law_570 ?_
  refine nv_top (y := (nI 6)) ((congrArg xs (nI_clamp (by omega))).trans e2) ?_
  refine kV_i (wc := cW cI cV ba A vf X) (wr := mW cI cZ ma Y ++ oW cL ou f) (w2 := fun u1 => cW cI cV ba A vf (X.1, X.2.1, fun j => if j = k then u1 else X.2.2 j) ++ (mW cI cZ ma Y ++ oW cL ou f)) [.int (nI k), .int (nI 6)] [] Bd ⟨gi_app (gi_c0 k_516 (gi_c0 k_517 (gi_c0 k_518 (gi_c0 k_1 gi_nil)))) (gi_tb0 k_519), rfl, by decide, by decide⟩ (show (parseMethodDescriptor "(II)I").map (fun d => d.parameters.length) = some 2 by decide +kernel) (CI.view k hk (v_about X.1 X.2.1 (A k) (X.2.2 k) k 6 hk (hvf9 k hk) hcX.1 (hcX.2 k) (by decide))) (by decide +kernel) ⟨by show 106 + i + 0 ≤ 601024; omega, by show 155700 + 6 * i + 0 ≤ 7293034; omega⟩ hG hP hD hS hA [0, 1, 2, 3, 4, 5, 6, 7, 8, 9, 10, 11, 12, 13, 14, 15, 16, 17, 18, 19, 20, 21, 22, 23, 24, 25, 26, 27, 28, 29, 30, 31, 32, 33, 34, 35, 36, 37, 38, 39, 40, 41, 42, 43, 44, 45, 46, 47, 48, 49, 50, 51, 52, 53, 54, 55, 56, 57, 58, 59, 60, 61, 62, 63, 64, 65, 66, 67, 68, 69, 70, 71, 72, 73, 74, 75, 76, 77, 78, 79, 80, 81, 82] [83, 84, 85, 86, 87, 88, 89, 90, 91, 92, 93, 94, 95, 96, 97, 98, 99, 100, 101, 102, 103, 104, 105] [23, 24, 25, 26, 27, 28, 29, 30, 31, 32, 33, 34, 35, 36, 37, 38, 39, 40, 41, 42, 43, 44, 45, 46, 47, 48, 49, 50, 51, 52, 53, 54, 55, 56, 57, 58, 59, 60, 61, 62, 63, 64, 65, 66, 67, 68, 69, 70, 71, 72, 73, 74, 75, 76, 77, 78, 79, 80, 81, 82, 83, 84, 85, 86, 87, 88, 89, 90, 91, 92, 93, 94, 95, 96, 97, 98, 99, 100, 101, 102, 103, 104, 105, 0, 1, 2, 3, 4, 5, 6, 7, 8, 9, 10, 11, 12, 13, 14, 15, 16, 17, 18, 19, 20, 21, 22] ok_c (wl_c1 _ _ _) (wl_c2 _ _ _) (fun _ => wl_c3 _ _ _) (q0 := 0) rfl rfl rfl hl.1 rfl (Nat.le_of_ble_eq_true rfl) d_Law_law_571 (fun r1 u1 H locs hp1 hP hD hS => ?_)
  have hP : va_P D classes (cW cI cV ba A vf (X.1, X.2.1, fun j => if j = k then u1 else X.2.2 j) ++ (mW cI cZ ma Y ++ oW cL ou f)) H := hP
  have hD : va_D (fun q : Nat => s.heap.size ≤ q) (cW cI cV ba A vf (X.1, X.2.1, fun j => if j = k then u1 else X.2.2 j) ++ (mW cI cZ ma Y ++ oW cL ou f)) := hD
  refine lv_pop hx hb d_Law_law_574 rfl ?_
  refine lv_aload_n hx hb d_Law_law_575 rfl (lv_at hl 2 rfl) ?_
  refine lv_aload_n hx hb d_Law_law_576 rfl (lv_at hl 0 rfl) ?_
  refine lv_iload hx hb d_Law_law_577 (lv_at hl 4 rfl) ?_
  refine lv_iconst (v := nI 1) hx hb d_Law_law_579 (by decide) ?_
  refine nv_iadd hx hb d_Law_law_580 ?_
  refine va_sld hx hb hX hbl hbA hS (vp_in_nI (show 6 * i + 1 < L by omega) (by omega)) d_Law_law_581 ?_
  refine nv_top (y := (nI k)) ((congrArg xs (nI_clamp (by omega))).trans e1) ?_
  refine lv_aload_n hx hb d_Law_law_582 rfl (lv_at hl 0 rfl) ?_
  refine lv_iload hx hb d_Law_law_583 (lv_at hl 4 rfl) ?_
  refine lv_iconst (v := nI 2) hx hb d_Law_law_585 (by decide) ?_
  refine nv_iadd hx hb d_Law_law_586 ?_
  refine va_sld hx hb hX hbl hbA hS (vp_in_nI (show 6 * i + 2 < L by omega) (by omega)) d_Law_law_587 ?_
  refine nv_top (y := (nI 6)) ((congrArg xs (nI_clamp (by omega))).trans e2) ?_
  refine kV_i (wc := mW cI cZ ma Y) (wr := cW cI cV ba A vf (X.1, X.2.1, fun j => if j = k then u1 else X.2.2 j) ++ oW cL ou f) (w2 := fun u2 => cW cI cV ba A vf (X.1, X.2.1, fun j => if j = k then u1 else X.2.2 j) ++ (mW cI cZ ma u2 ++ oW cL ou f)) [.int (nI k), .int (nI 6)] [] Bd ⟨gi_app (gi_c0 k_865 (gi_c0 k_866 (gi_c0 k_867 (gi_c0 k_10 gi_nil)))) (gi_tb0 k_868), rfl, by decide, by decide⟩ (show (parseMethodDescriptor "(II)I").map (fun d => d.parameters.length) = some 2 by decide +kernel) (m_about6 Y k hmY hk) (by decide +kernel) ⟨by show 106 + i + 0 ≤ 601024; omega, by show 155700 + 6 * i + 0 ≤ 7293034; omega⟩ hG hP hD hS hA [83, 84, 85, 86, 87, 88, 89, 90, 91, 92, 93, 94, 95, 96, 97, 98, 99, 100, 101, 102, 103, 104] [0, 1, 2, 3, 4, 5, 6, 7, 8, 9, 10, 11, 12, 13, 14, 15, 16, 17, 18, 19, 20, 21, 22, 23, 24, 25, 26, 27, 28, 29, 30, 31, 32, 33, 34, 35, 36, 37, 38, 39, 40, 41, 42, 43, 44, 45, 46, 47, 48, 49, 50, 51, 52, 53, 54, 55, 56, 57, 58, 59, 60, 61, 62, 63, 64, 65, 66, 67, 68, 69, 70, 71, 72, 73, 74, 75, 76, 77, 78, 79, 80, 81, 82, 105] [0, 1, 2, 3, 4, 5, 6, 7, 8, 9, 10, 11, 12, 13, 14, 15, 16, 17, 18, 19, 20, 21, 22, 23, 24, 25, 26, 27, 28, 29, 30, 31, 32, 33, 34, 35, 36, 37, 38, 39, 40, 41, 42, 43, 44, 45, 46, 47, 48, 49, 50, 51, 52, 53, 54, 55, 56, 57, 58, 59, 60, 61, 62, 63, 64, 65, 66, 67, 68, 69, 70, 71, 72, 73, 74, 75, 76, 77, 78, 79, 80, 81, 82, 84, 85, 86, 87, 88, 89, 90, 91, 92, 93, 94, 95, 96, 97, 98, 99, 100, 101, 102, 103, 104, 105, 83] ok_m (wl_m1 _ _ _) (wl_m2 _ _ _) (fun _ => wl_m3 _ _ _) (q0 := 0) rfl rfl rfl hl.1 rfl (Nat.le_of_ble_eq_true rfl) d_Law_law_588 (fun r2 u2 H locs hp2 hP hD hS => ?_)
  have hP : va_P D classes (cW cI cV ba A vf (X.1, X.2.1, fun j => if j = k then u1 else X.2.2 j) ++ (mW cI cZ ma u2 ++ oW cL ou f)) H := hP
  have hD : va_D (fun q : Nat => s.heap.size ≤ q) (cW cI cV ba A vf (X.1, X.2.1, fun j => if j = k then u1 else X.2.2 j) ++ (mW cI cZ ma u2 ++ oW cL ou f)) := hD
  refine lv_pop hx hb d_Law_law_591 rfl ?_
  refine lv_goto (tgt := 669) hx hb d_Law_law_592 (by decide) ?_
  refine W.widen (k := 106 + (i + 1)) (n := 155700 + 6 * (i + 1)) (by show 106 + i ≤ 106 + (i + 1); omega) (by show 155700 + 6 * i ≤ 155700 + 6 * (i + 1); omega) ?_
  exact hN (X.1, X.2.1, fun j => if j = k then u1 else X.2.2 j) u2 f H locs _ (cOk.view hcX hp1) (hp2.1) (by omega) (hp2.2.trans hnb) hP hD hS (lv_sub hl [0, 1, 2, 3, 4] rfl)
set_option maxHeartbeats 8000000 in
set_option maxRecDepth 100000 in
theorem lf_about7 {p : Program} {l : Launch} {e : Env} {s : State} {m : MethodId} {below : List Frame} {meth : Method} {c : Code} {D : va_G} {cI cZ cL cV : ClassId} {b L : Nat} {xs : Nat → Int32} {H : Heap} {locs : List Loc} {ls : Array Slot} (ba : Nat → Nat) (A : Nat → Nat → Nat) (vf : Nat → Option Nat) (ma : Nat → Nat) (ou : Nat) (X : CS) (Y : MS) (f : Nat → Int64) (i : Nat) (k : Nat) (hL : L ≤ 3072) (hi : 6 * i + 6 ≤ L) (C0 : lw_At p s m meth c b L xs) (hst : l.stackTraces = false) (hXo : xOk (fun q : Nat => s.heap.size ≤ q) s s.heap) (hG : gk classes NW D (TYS cI cZ cL cV) s) (hvf9 : ∀ k, k < 3 → vf k = some (A k 0)) (hcX : cOk X) (hmY : mOk Y) (hnX : X.1 ≤ i) (hnb : Y.2.2.2 1 = nI X.1) (e1 : xs (6 * i + 1) = nI k) (hk : k < 3) (e2 : xs (6 * i + 2) = nI 7) (hP : va_P D classes (cW cI cV ba A vf X ++ (mW cI cZ ma Y ++ oW cL ou f)) H) (hD : va_D (fun q : Nat => s.heap.size ≤ q) (cW cI cV ba A vf X ++ (mW cI cZ ma Y ++ oW cL ou f))) (hS : va_S (fun q : Nat => s.heap.size ≤ q) s.heap H locs) (hl : lv_has ls 7 [(0, .ref b), (1, .ref (ba 0)), (2, .ref (ma 0)), (3, .ref ou), (4, .int (nI (6 * i)))]) (hN : LN p l e s m below meth c D cI cZ cL cV b ba A vf ma ou i) : W p l e room_1 s m #[Value.ref b] below meth c H locs (106 + i) (155700 + 6 * i) (lw_Z below #[Value.ref b] s) (F0 m 558 ls []) := by
  obtain ⟨hx, hb, hr, hml, hown, hts, hX, hbl, hlocks, hgv⟩ := id C0
  have hA : ∀ q : Nat, s.heap.size ≤ q → (fun q : Nat => s.heap.size ≤ q) q := fun _ h => h
  have hbA : ¬ (fun q : Nat => s.heap.size ≤ q) b := Nat.not_le.mpr hbl
  have htb : ∀ w ∈ TB, w.before #[Value.ref b] s = true := fun w hw => hts w (List.mem_filter.mp hw).1
  have Bd : bd p c code 7 s #[Value.ref b] TB "TileScreenLaw" m := ⟨hx, hb, hml, hown, htb⟩
  refine lv_aload_n hx hb d_Law_law_558 rfl (lv_at hl 1 rfl) ?_
  refine lv_aload_n hx hb d_Law_law_559 rfl (lv_at hl 0 rfl) ?_
  refine lv_iload hx hb d_Law_law_560 (lv_at hl 4 rfl) ?_
  refine lv_iconst (v := nI 1) hx hb d_Law_law_562 (by decide) ?_
  refine nv_iadd hx hb d_Law_law_563 ?_
  refine va_sld hx hb hX hbl hbA hS (vp_in_nI (show 6 * i + 1 < L by omega) (by omega)) d_Law_law_564 ?_
  refine nv_top (y := (nI k)) ((congrArg xs (nI_clamp (by omega))).trans e1) ?_
  refine lv_aload_n hx hb d_Law_law_565 rfl (lv_at hl 0 rfl) ?_
  refine lv_iload hx hb d_Law_law_566 (lv_at hl 4 rfl) ?_
  refine lv_iconst (v := nI 2) hx hb d_Law_law_568 (by decide) ?_
  refine nv_iadd hx hb d_Law_law_569 ?_
  refine va_sld hx hb hX hbl hbA hS (vp_in_nI (show 6 * i + 2 < L by omega) (by omega)) d_Law_law_570 ?_
  refine nv_top (y := (nI 7)) ((congrArg xs (nI_clamp (by omega))).trans e2) ?_
  refine kV_i (wc := cW cI cV ba A vf X) (wr := mW cI cZ ma Y ++ oW cL ou f) (w2 := fun u1 => cW cI cV ba A vf (X.1, X.2.1, fun j => if j = k then u1 else X.2.2 j) ++ (mW cI cZ ma Y ++ oW cL ou f)) [.int (nI k), .int (nI 7)] [] Bd ⟨gi_app (gi_c0 k_516 (gi_c0 k_517 (gi_c0 k_518 (gi_c0 k_1 gi_nil)))) (gi_tb0 k_519), rfl, by decide, by decide⟩ (show (parseMethodDescriptor "(II)I").map (fun d => d.parameters.length) = some 2 by decide +kernel) (CI.view k hk (v_about X.1 X.2.1 (A k) (X.2.2 k) k 7 hk (hvf9 k hk) hcX.1 (hcX.2 k) (by decide))) (by decide +kernel) ⟨by show 106 + i + 0 ≤ 601024; omega, by show 155700 + 6 * i + 0 ≤ 7293034; omega⟩ hG hP hD hS hA [0, 1, 2, 3, 4, 5, 6, 7, 8, 9, 10, 11, 12, 13, 14, 15, 16, 17, 18, 19, 20, 21, 22, 23, 24, 25, 26, 27, 28, 29, 30, 31, 32, 33, 34, 35, 36, 37, 38, 39, 40, 41, 42, 43, 44, 45, 46, 47, 48, 49, 50, 51, 52, 53, 54, 55, 56, 57, 58, 59, 60, 61, 62, 63, 64, 65, 66, 67, 68, 69, 70, 71, 72, 73, 74, 75, 76, 77, 78, 79, 80, 81, 82] [83, 84, 85, 86, 87, 88, 89, 90, 91, 92, 93, 94, 95, 96, 97, 98, 99, 100, 101, 102, 103, 104, 105] [23, 24, 25, 26, 27, 28, 29, 30, 31, 32, 33, 34, 35, 36, 37, 38, 39, 40, 41, 42, 43, 44, 45, 46, 47, 48, 49, 50, 51, 52, 53, 54, 55, 56, 57, 58, 59, 60, 61, 62, 63, 64, 65, 66, 67, 68, 69, 70, 71, 72, 73, 74, 75, 76, 77, 78, 79, 80, 81, 82, 83, 84, 85, 86, 87, 88, 89, 90, 91, 92, 93, 94, 95, 96, 97, 98, 99, 100, 101, 102, 103, 104, 105, 0, 1, 2, 3, 4, 5, 6, 7, 8, 9, 10, 11, 12, 13, 14, 15, 16, 17, 18, 19, 20, 21, 22] ok_c (wl_c1 _ _ _) (wl_c2 _ _ _) (fun _ => wl_c3 _ _ _) (q0 := 0) rfl rfl rfl hl.1 rfl (Nat.le_of_ble_eq_true rfl) d_Law_law_571 (fun r1 u1 H locs hp1 hP hD hS => ?_)
  have hP : va_P D classes (cW cI cV ba A vf (X.1, X.2.1, fun j => if j = k then u1 else X.2.2 j) ++ (mW cI cZ ma Y ++ oW cL ou f)) H := hP
  have hD : va_D (fun q : Nat => s.heap.size ≤ q) (cW cI cV ba A vf (X.1, X.2.1, fun j => if j = k then u1 else X.2.2 j) ++ (mW cI cZ ma Y ++ oW cL ou f)) := hD
  refine lv_pop hx hb d_Law_law_574 rfl ?_
  refine lv_aload_n hx hb d_Law_law_575 rfl (lv_at hl 2 rfl) ?_
  refine lv_aload_n hx hb d_Law_law_576 rfl (lv_at hl 0 rfl) ?_
  refine lv_iload hx hb d_Law_law_577 (lv_at hl 4 rfl) ?_
  refine lv_iconst (v := nI 1) hx hb d_Law_law_579 (by decide) ?_
  refine nv_iadd hx hb d_Law_law_580 ?_
  refine va_sld hx hb hX hbl hbA hS (vp_in_nI (show 6 * i + 1 < L by omega) (by omega)) d_Law_law_581 ?_
  refine nv_top (y := (nI k)) ((congrArg xs (nI_clamp (by omega))).trans e1) ?_
  refine lv_aload_n hx hb d_Law_law_582 rfl (lv_at hl 0 rfl) ?_
  refine lv_iload hx hb d_Law_law_583 (lv_at hl 4 rfl) ?_
  refine lv_iconst (v := nI 2) hx hb d_Law_law_585 (by decide) ?_
  refine nv_iadd hx hb d_Law_law_586 ?_
  refine va_sld hx hb hX hbl hbA hS (vp_in_nI (show 6 * i + 2 < L by omega) (by omega)) d_Law_law_587 ?_
  refine nv_top (y := (nI 7)) ((congrArg xs (nI_clamp (by omega))).trans e2) ?_
  refine kV_i (wc := mW cI cZ ma Y) (wr := cW cI cV ba A vf (X.1, X.2.1, fun j => if j = k then u1 else X.2.2 j) ++ oW cL ou f) (w2 := fun u2 => cW cI cV ba A vf (X.1, X.2.1, fun j => if j = k then u1 else X.2.2 j) ++ (mW cI cZ ma u2 ++ oW cL ou f)) [.int (nI k), .int (nI 7)] [] Bd ⟨gi_app (gi_c0 k_865 (gi_c0 k_866 (gi_c0 k_867 (gi_c0 k_10 gi_nil)))) (gi_tb0 k_868), rfl, by decide, by decide⟩ (show (parseMethodDescriptor "(II)I").map (fun d => d.parameters.length) = some 2 by decide +kernel) (m_about7 Y k hmY hk) (by decide +kernel) ⟨by show 106 + i + 0 ≤ 601024; omega, by show 155700 + 6 * i + 0 ≤ 7293034; omega⟩ hG hP hD hS hA [83, 84, 85, 86, 87, 88, 89, 90, 91, 92, 93, 94, 95, 96, 97, 98, 99, 100, 101, 102, 103, 104] [0, 1, 2, 3, 4, 5, 6, 7, 8, 9, 10, 11, 12, 13, 14, 15, 16, 17, 18, 19, 20, 21, 22, 23, 24, 25, 26, 27, 28, 29, 30, 31, 32, 33, 34, 35, 36, 37, 38, 39, 40, 41, 42, 43, 44, 45, 46, 47, 48, 49, 50, 51, 52, 53, 54, 55, 56, 57, 58, 59, 60, 61, 62, 63, 64, 65, 66, 67, 68, 69, 70, 71, 72, 73, 74, 75, 76, 77, 78, 79, 80, 81, 82, 105] [0, 1, 2, 3, 4, 5, 6, 7, 8, 9, 10, 11, 12, 13, 14, 15, 16, 17, 18, 19, 20, 21, 22, 23, 24, 25, 26, 27, 28, 29, 30, 31, 32, 33, 34, 35, 36, 37, 38, 39, 40, 41, 42, 43, 44, 45, 46, 47, 48, 49, 50, 51, 52, 53, 54, 55, 56, 57, 58, 59, 60, 61, 62, 63, 64, 65, 66, 67, 68, 69, 70, 71, 72, 73, 74, 75, 76, 77, 78, 79, 80, 81, 82, 84, 85, 86, 87, 88, 89, 90, 91, 92, 93, 94, 95, 96, 97, 98, 99, 100, 101, 102, 103, 104, 105, 83] ok_m (wl_m1 _ _ _) (wl_m2 _ _ _) (fun _ => wl_m3 _ _ _) (q0 := 0) rfl rfl rfl hl.1 rfl (Nat.le_of_ble_eq_true rfl) d_Law_law_588 (fun r2 u2 H locs hp2 hP hD hS => ?_)
  have hP : va_P D classes (cW cI cV ba A vf (X.1, X.2.1, fun j => if j = k then u1 else X.2.2 j) ++ (mW cI cZ ma u2 ++ oW cL ou f)) H := hP
  have hD : va_D (fun q : Nat => s.heap.size ≤ q) (cW cI cV ba A vf (X.1, X.2.1, fun j => if j = k then u1 else X.2.2 j) ++ (mW cI cZ ma u2 ++ oW cL ou f)) := hD
  refine lv_pop hx hb d_Law_law_591 rfl ?_
  refine lv_goto (tgt := 669) hx hb d_Law_law_592 (by decide) ?_
  refine W.widen (k := 106 + (i + 1)) (n := 155700 + 6 * (i + 1)) (by show 106 + i ≤ 106 + (i + 1); omega) (by show 155700 + 6 * i ≤ 155700 + 6 * (i + 1); omega) ?_
  exact hN (X.1, X.2.1, fun j => if j = k then u1 else X.2.2 j) u2 f H locs _ (cOk.view hcX hp1) (hp2.1) (by omega) (hp2.2.trans hnb) hP hD hS (lv_sub hl [0, 1, 2, 3, 4] rfl)
set_option maxHeartbeats 8000000 in
set_option maxRecDepth 100000 in
theorem lf_aboutE {p : Program} {l : Launch} {e : Env} {s : State} {m : MethodId} {below : List Frame} {meth : Method} {c : Code} {D : va_G} {cI cZ cL cV : ClassId} {b L : Nat} {xs : Nat → Int32} {H : Heap} {locs : List Loc} {ls : Array Slot} (ba : Nat → Nat) (A : Nat → Nat → Nat) (vf : Nat → Option Nat) (ma : Nat → Nat) (ou : Nat) (X : CS) (Y : MS) (f : Nat → Int64) (i : Nat) (k : Nat) (hL : L ≤ 3072) (hi : 6 * i + 6 ≤ L) (C0 : lw_At p s m meth c b L xs) (hst : l.stackTraces = false) (hXo : xOk (fun q : Nat => s.heap.size ≤ q) s s.heap) (hG : gk classes NW D (TYS cI cZ cL cV) s) (hvf9 : ∀ k, k < 3 → vf k = some (A k 0)) (hcX : cOk X) (hmY : mOk Y) (hnX : X.1 ≤ i) (hnb : Y.2.2.2 1 = nI X.1) (e1 : xs (6 * i + 1) = nI k) (hk : k < 3) (hq : ∀ j, j < 8 → xs (6 * i + 2) ≠ nI j) (hP : va_P D classes (cW cI cV ba A vf X ++ (mW cI cZ ma Y ++ oW cL ou f)) H) (hD : va_D (fun q : Nat => s.heap.size ≤ q) (cW cI cV ba A vf X ++ (mW cI cZ ma Y ++ oW cL ou f))) (hS : va_S (fun q : Nat => s.heap.size ≤ q) s.heap H locs) (hl : lv_has ls 7 [(0, .ref b), (1, .ref (ba 0)), (2, .ref (ma 0)), (3, .ref ou), (4, .int (nI (6 * i)))]) (hN : LN p l e s m below meth c D cI cZ cL cV b ba A vf ma ou i) : W p l e room_1 s m #[Value.ref b] below meth c H locs (106 + i) (155700 + 6 * i) (lw_Z below #[Value.ref b] s) (F0 m 558 ls []) := by
  obtain ⟨hx, hb, hr, hml, hown, hts, hX, hbl, hlocks, hgv⟩ := id C0
  have hA : ∀ q : Nat, s.heap.size ≤ q → (fun q : Nat => s.heap.size ≤ q) q := fun _ h => h
  have hbA : ¬ (fun q : Nat => s.heap.size ≤ q) b := Nat.not_le.mpr hbl
  have htb : ∀ w ∈ TB, w.before #[Value.ref b] s = true := fun w hw => hts w (List.mem_filter.mp hw).1
  have Bd : bd p c code 7 s #[Value.ref b] TB "TileScreenLaw" m := ⟨hx, hb, hml, hown, htb⟩
  refine lv_aload_n hx hb d_Law_law_558 rfl (lv_at hl 1 rfl) ?_
  refine lv_aload_n hx hb d_Law_law_559 rfl (lv_at hl 0 rfl) ?_
  refine lv_iload hx hb d_Law_law_560 (lv_at hl 4 rfl) ?_
  refine lv_iconst (v := nI 1) hx hb d_Law_law_562 (by decide) ?_
  refine nv_iadd hx hb d_Law_law_563 ?_
  refine va_sld hx hb hX hbl hbA hS (vp_in_nI (show 6 * i + 1 < L by omega) (by omega)) d_Law_law_564 ?_
  refine nv_top (y := (nI k)) ((congrArg xs (nI_clamp (by omega))).trans e1) ?_
  refine lv_aload_n hx hb d_Law_law_565 rfl (lv_at hl 0 rfl) ?_
  refine lv_iload hx hb d_Law_law_566 (lv_at hl 4 rfl) ?_
  refine lv_iconst (v := nI 2) hx hb d_Law_law_568 (by decide) ?_
  refine nv_iadd hx hb d_Law_law_569 ?_
  refine va_sld hx hb hX hbl hbA hS (vp_in_nI (show 6 * i + 2 < L by omega) (by omega)) d_Law_law_570 ?_
  refine nv_top (y := (xs (6 * i + 2))) ((congrArg xs (nI_clamp (by omega)))) ?_
  refine kV_i (wc := cW cI cV ba A vf X) (wr := mW cI cZ ma Y ++ oW cL ou f) (w2 := fun u1 => cW cI cV ba A vf (X.1, X.2.1, fun j => if j = k then u1 else X.2.2 j) ++ (mW cI cZ ma Y ++ oW cL ou f)) [.int (nI k), .int (xs (6 * i + 2))] [] Bd ⟨gi_app (gi_c0 k_516 (gi_c0 k_517 (gi_c0 k_518 (gi_c0 k_1 gi_nil)))) (gi_tb0 k_519), rfl, by decide, by decide⟩ (show (parseMethodDescriptor "(II)I").map (fun d => d.parameters.length) = some 2 by decide +kernel) (CI.view k hk (v_aboutE X.1 X.2.1 (A k) (X.2.2 k) k (xs (6 * i + 2)) hk (hvf9 k hk) hcX.1 (hcX.2 k) hq)) (by decide +kernel) ⟨by show 106 + i + 0 ≤ 601024; omega, by show 155700 + 6 * i + 0 ≤ 7293034; omega⟩ hG hP hD hS hA [0, 1, 2, 3, 4, 5, 6, 7, 8, 9, 10, 11, 12, 13, 14, 15, 16, 17, 18, 19, 20, 21, 22, 23, 24, 25, 26, 27, 28, 29, 30, 31, 32, 33, 34, 35, 36, 37, 38, 39, 40, 41, 42, 43, 44, 45, 46, 47, 48, 49, 50, 51, 52, 53, 54, 55, 56, 57, 58, 59, 60, 61, 62, 63, 64, 65, 66, 67, 68, 69, 70, 71, 72, 73, 74, 75, 76, 77, 78, 79, 80, 81, 82] [83, 84, 85, 86, 87, 88, 89, 90, 91, 92, 93, 94, 95, 96, 97, 98, 99, 100, 101, 102, 103, 104, 105] [23, 24, 25, 26, 27, 28, 29, 30, 31, 32, 33, 34, 35, 36, 37, 38, 39, 40, 41, 42, 43, 44, 45, 46, 47, 48, 49, 50, 51, 52, 53, 54, 55, 56, 57, 58, 59, 60, 61, 62, 63, 64, 65, 66, 67, 68, 69, 70, 71, 72, 73, 74, 75, 76, 77, 78, 79, 80, 81, 82, 83, 84, 85, 86, 87, 88, 89, 90, 91, 92, 93, 94, 95, 96, 97, 98, 99, 100, 101, 102, 103, 104, 105, 0, 1, 2, 3, 4, 5, 6, 7, 8, 9, 10, 11, 12, 13, 14, 15, 16, 17, 18, 19, 20, 21, 22] ok_c (wl_c1 _ _ _) (wl_c2 _ _ _) (fun _ => wl_c3 _ _ _) (q0 := 0) rfl rfl rfl hl.1 rfl (Nat.le_of_ble_eq_true rfl) d_Law_law_571 (fun r1 u1 H locs hp1 hP hD hS => ?_)
  have hP : va_P D classes (cW cI cV ba A vf (X.1, X.2.1, fun j => if j = k then u1 else X.2.2 j) ++ (mW cI cZ ma Y ++ oW cL ou f)) H := hP
  have hD : va_D (fun q : Nat => s.heap.size ≤ q) (cW cI cV ba A vf (X.1, X.2.1, fun j => if j = k then u1 else X.2.2 j) ++ (mW cI cZ ma Y ++ oW cL ou f)) := hD
  refine lv_pop hx hb d_Law_law_574 rfl ?_
  refine lv_aload_n hx hb d_Law_law_575 rfl (lv_at hl 2 rfl) ?_
  refine lv_aload_n hx hb d_Law_law_576 rfl (lv_at hl 0 rfl) ?_
  refine lv_iload hx hb d_Law_law_577 (lv_at hl 4 rfl) ?_
  refine lv_iconst (v := nI 1) hx hb d_Law_law_579 (by decide) ?_
  refine nv_iadd hx hb d_Law_law_580 ?_
  refine va_sld hx hb hX hbl hbA hS (vp_in_nI (show 6 * i + 1 < L by omega) (by omega)) d_Law_law_581 ?_
  refine nv_top (y := (nI k)) ((congrArg xs (nI_clamp (by omega))).trans e1) ?_
  refine lv_aload_n hx hb d_Law_law_582 rfl (lv_at hl 0 rfl) ?_
  refine lv_iload hx hb d_Law_law_583 (lv_at hl 4 rfl) ?_
  refine lv_iconst (v := nI 2) hx hb d_Law_law_585 (by decide) ?_
  refine nv_iadd hx hb d_Law_law_586 ?_
  refine va_sld hx hb hX hbl hbA hS (vp_in_nI (show 6 * i + 2 < L by omega) (by omega)) d_Law_law_587 ?_
  refine nv_top (y := (xs (6 * i + 2))) ((congrArg xs (nI_clamp (by omega)))) ?_
  refine kV_i (wc := mW cI cZ ma Y) (wr := cW cI cV ba A vf (X.1, X.2.1, fun j => if j = k then u1 else X.2.2 j) ++ oW cL ou f) (w2 := fun u2 => cW cI cV ba A vf (X.1, X.2.1, fun j => if j = k then u1 else X.2.2 j) ++ (mW cI cZ ma u2 ++ oW cL ou f)) [.int (nI k), .int (xs (6 * i + 2))] [] Bd ⟨gi_app (gi_c0 k_865 (gi_c0 k_866 (gi_c0 k_867 (gi_c0 k_10 gi_nil)))) (gi_tb0 k_868), rfl, by decide, by decide⟩ (show (parseMethodDescriptor "(II)I").map (fun d => d.parameters.length) = some 2 by decide +kernel) (m_aboutE Y k (xs (6 * i + 2)) hmY hk hq) (by decide +kernel) ⟨by show 106 + i + 0 ≤ 601024; omega, by show 155700 + 6 * i + 0 ≤ 7293034; omega⟩ hG hP hD hS hA [83, 84, 85, 86, 87, 88, 89, 90, 91, 92, 93, 94, 95, 96, 97, 98, 99, 100, 101, 102, 103, 104] [0, 1, 2, 3, 4, 5, 6, 7, 8, 9, 10, 11, 12, 13, 14, 15, 16, 17, 18, 19, 20, 21, 22, 23, 24, 25, 26, 27, 28, 29, 30, 31, 32, 33, 34, 35, 36, 37, 38, 39, 40, 41, 42, 43, 44, 45, 46, 47, 48, 49, 50, 51, 52, 53, 54, 55, 56, 57, 58, 59, 60, 61, 62, 63, 64, 65, 66, 67, 68, 69, 70, 71, 72, 73, 74, 75, 76, 77, 78, 79, 80, 81, 82, 105] [0, 1, 2, 3, 4, 5, 6, 7, 8, 9, 10, 11, 12, 13, 14, 15, 16, 17, 18, 19, 20, 21, 22, 23, 24, 25, 26, 27, 28, 29, 30, 31, 32, 33, 34, 35, 36, 37, 38, 39, 40, 41, 42, 43, 44, 45, 46, 47, 48, 49, 50, 51, 52, 53, 54, 55, 56, 57, 58, 59, 60, 61, 62, 63, 64, 65, 66, 67, 68, 69, 70, 71, 72, 73, 74, 75, 76, 77, 78, 79, 80, 81, 82, 84, 85, 86, 87, 88, 89, 90, 91, 92, 93, 94, 95, 96, 97, 98, 99, 100, 101, 102, 103, 104, 105, 83] ok_m (wl_m1 _ _ _) (wl_m2 _ _ _) (fun _ => wl_m3 _ _ _) (q0 := 0) rfl rfl rfl hl.1 rfl (Nat.le_of_ble_eq_true rfl) d_Law_law_588 (fun r2 u2 H locs hp2 hP hD hS => ?_)
  have hP : va_P D classes (cW cI cV ba A vf (X.1, X.2.1, fun j => if j = k then u1 else X.2.2 j) ++ (mW cI cZ ma u2 ++ oW cL ou f)) H := hP
  have hD : va_D (fun q : Nat => s.heap.size ≤ q) (cW cI cV ba A vf (X.1, X.2.1, fun j => if j = k then u1 else X.2.2 j) ++ (mW cI cZ ma u2 ++ oW cL ou f)) := hD
  refine lv_pop hx hb d_Law_law_591 rfl ?_
  refine lv_goto (tgt := 669) hx hb d_Law_law_592 (by decide) ?_
  refine W.widen (k := 106 + (i + 1)) (n := 155700 + 6 * (i + 1)) (by show 106 + i ≤ 106 + (i + 1); omega) (by show 155700 + 6 * i ≤ 155700 + 6 * (i + 1); omega) ?_
  exact hN (X.1, X.2.1, fun j => if j = k then u1 else X.2.2 j) u2 f H locs _ (cOk.view hcX hp1) (hp2.1) (by omega) (hp2.2.trans hnb) hP hD hS (lv_sub hl [0, 1, 2, 3, 4] rfl)
set_option maxHeartbeats 8000000 in
set_option maxRecDepth 100000 in
theorem lf_bytesBy {p : Program} {l : Launch} {e : Env} {s : State} {m : MethodId} {below : List Frame} {meth : Method} {c : Code} {D : va_G} {cI cZ cL cV : ClassId} {b L : Nat} {xs : Nat → Int32} {H : Heap} {locs : List Loc} {ls : Array Slot} (ba : Nat → Nat) (A : Nat → Nat → Nat) (vf : Nat → Option Nat) (ma : Nat → Nat) (ou : Nat) (X : CS) (Y : MS) (f : Nat → Int64) (i : Nat) (k : Nat) (q : Nat) (hL : L ≤ 3072) (hi : 6 * i + 6 ≤ L) (C0 : lw_At p s m meth c b L xs) (hst : l.stackTraces = false) (hXo : xOk (fun q : Nat => s.heap.size ≤ q) s s.heap) (hG : gk classes NW D (TYS cI cZ cL cV) s) (hvf9 : ∀ k, k < 3 → vf k = some (A k 0)) (hcX : cOk X) (hmY : mOk Y) (hnX : X.1 ≤ i) (hnb : Y.2.2.2 1 = nI X.1) (e1 : xs (6 * i + 1) = nI k) (hk : k < 3) (e2 : xs (6 * i + 2) = nI q) (hq : q < 7) (hP : va_P D classes (cW cI cV ba A vf X ++ (mW cI cZ ma Y ++ oW cL ou f)) H) (hD : va_D (fun q : Nat => s.heap.size ≤ q) (cW cI cV ba A vf X ++ (mW cI cZ ma Y ++ oW cL ou f))) (hS : va_S (fun q : Nat => s.heap.size ≤ q) s.heap H locs) (hl : lv_has ls 7 [(0, .ref b), (1, .ref (ba 0)), (2, .ref (ma 0)), (3, .ref ou), (4, .int (nI (6 * i)))]) (hN : LN p l e s m below meth c D cI cZ cL cV b ba A vf ma ou i) : W p l e room_1 s m #[Value.ref b] below meth c H locs (106 + i) (155700 + 6 * i) (lw_Z below #[Value.ref b] s) (F0 m 595 ls []) := by
  obtain ⟨hx, hb, hr, hml, hown, hts, hX, hbl, hlocks, hgv⟩ := id C0
  have hA : ∀ q : Nat, s.heap.size ≤ q → (fun q : Nat => s.heap.size ≤ q) q := fun _ h => h
  have hbA : ¬ (fun q : Nat => s.heap.size ≤ q) b := Nat.not_le.mpr hbl
  have htb : ∀ w ∈ TB, w.before #[Value.ref b] s = true := fun w hw => hts w (List.mem_filter.mp hw).1
  have Bd : bd p c code 7 s #[Value.ref b] TB "TileScreenLaw" m := ⟨hx, hb, hml, hown, htb⟩
  refine lv_aload_n hx hb d_Law_law_595 rfl (lv_at hl 1 rfl) ?_
  refine lv_aload_n hx hb d_Law_law_596 rfl (lv_at hl 0 rfl) ?_
  refine lv_iload hx hb d_Law_law_597 (lv_at hl 4 rfl) ?_
  refine lv_iconst (v := nI 1) hx hb d_Law_law_599 (by decide) ?_
  refine nv_iadd hx hb d_Law_law_600 ?_
  refine va_sld hx hb hX hbl hbA hS (vp_in_nI (show 6 * i + 1 < L by omega) (by omega)) d_Law_law_601 ?_
  refine nv_top (y := (nI k)) ((congrArg xs (nI_clamp (by omega))).trans e1) ?_
  refine lv_aload_n hx hb d_Law_law_602 rfl (lv_at hl 0 rfl) ?_
  refine lv_iload hx hb d_Law_law_603 (lv_at hl 4 rfl) ?_
  refine lv_iconst (v := nI 2) hx hb d_Law_law_605 (by decide) ?_
  refine nv_iadd hx hb d_Law_law_606 ?_
  refine va_sld hx hb hX hbl hbA hS (vp_in_nI (show 6 * i + 2 < L by omega) (by omega)) d_Law_law_607 ?_
  refine nv_top (y := (nI q)) ((congrArg xs (nI_clamp (by omega))).trans e2) ?_
  refine kV_i (wc := cW cI cV ba A vf X) (wr := mW cI cZ ma Y ++ oW cL ou f) (w2 := fun u1 => cW cI cV ba A vf (X.1, X.2.1, fun j => if j = k then u1 else X.2.2 j) ++ (mW cI cZ ma Y ++ oW cL ou f)) [.int (nI k), .int (nI q)] [] Bd ⟨gi_app (gi_c0 k_524 (gi_c0 k_525 (gi_c0 k_526 (gi_c0 k_1 gi_nil)))) (gi_tb0 k_527), rfl, by decide, by decide⟩ (show (parseMethodDescriptor "(II)I").map (fun d => d.parameters.length) = some 2 by decide +kernel) (CI.view k hk (v_bytesBy X.1 X.2.1 (A k) (X.2.2 k) k q hk (hvf9 k hk) hcX.1 (hcX.2 k) hq)) (by decide +kernel) ⟨by show 106 + i + 0 ≤ 601024; omega, by show 155700 + 6 * i + 0 ≤ 7293034; omega⟩ hG hP hD hS hA [0, 1, 2, 3, 4, 5, 6, 7, 8, 9, 10, 11, 12, 13, 14, 15, 16, 17, 18, 19, 20, 21, 22, 23, 24, 25, 26, 27, 28, 29, 30, 31, 32, 33, 34, 35, 36, 37, 38, 39, 40, 41, 42, 43, 44, 45, 46, 47, 48, 49, 50, 51, 52, 53, 54, 55, 56, 57, 58, 59, 60, 61, 62, 63, 64, 65, 66, 67, 68, 69, 70, 71, 72, 73, 74, 75, 76, 77, 78, 79, 80, 81, 82] [83, 84, 85, 86, 87, 88, 89, 90, 91, 92, 93, 94, 95, 96, 97, 98, 99, 100, 101, 102, 103, 104, 105] [23, 24, 25, 26, 27, 28, 29, 30, 31, 32, 33, 34, 35, 36, 37, 38, 39, 40, 41, 42, 43, 44, 45, 46, 47, 48, 49, 50, 51, 52, 53, 54, 55, 56, 57, 58, 59, 60, 61, 62, 63, 64, 65, 66, 67, 68, 69, 70, 71, 72, 73, 74, 75, 76, 77, 78, 79, 80, 81, 82, 83, 84, 85, 86, 87, 88, 89, 90, 91, 92, 93, 94, 95, 96, 97, 98, 99, 100, 101, 102, 103, 104, 105, 0, 1, 2, 3, 4, 5, 6, 7, 8, 9, 10, 11, 12, 13, 14, 15, 16, 17, 18, 19, 20, 21, 22] ok_c (wl_c1 _ _ _) (wl_c2 _ _ _) (fun _ => wl_c3 _ _ _) (q0 := 0) rfl rfl rfl hl.1 rfl (Nat.le_of_ble_eq_true rfl) d_Law_law_608 (fun r1 u1 H locs hp1 hP hD hS => ?_)
  have hP : va_P D classes (cW cI cV ba A vf (X.1, X.2.1, fun j => if j = k then u1 else X.2.2 j) ++ (mW cI cZ ma Y ++ oW cL ou f)) H := hP
  have hD : va_D (fun q : Nat => s.heap.size ≤ q) (cW cI cV ba A vf (X.1, X.2.1, fun j => if j = k then u1 else X.2.2 j) ++ (mW cI cZ ma Y ++ oW cL ou f)) := hD
  refine lv_pop hx hb d_Law_law_611 rfl ?_
  refine lv_aload_n hx hb d_Law_law_612 rfl (lv_at hl 2 rfl) ?_
  refine lv_aload_n hx hb d_Law_law_613 rfl (lv_at hl 0 rfl) ?_
  refine lv_iload hx hb d_Law_law_614 (lv_at hl 4 rfl) ?_
  refine lv_iconst (v := nI 1) hx hb d_Law_law_616 (by decide) ?_
  refine nv_iadd hx hb d_Law_law_617 ?_
  refine va_sld hx hb hX hbl hbA hS (vp_in_nI (show 6 * i + 1 < L by omega) (by omega)) d_Law_law_618 ?_
  refine nv_top (y := (nI k)) ((congrArg xs (nI_clamp (by omega))).trans e1) ?_
  refine lv_aload_n hx hb d_Law_law_619 rfl (lv_at hl 0 rfl) ?_
  refine lv_iload hx hb d_Law_law_620 (lv_at hl 4 rfl) ?_
  refine lv_iconst (v := nI 2) hx hb d_Law_law_622 (by decide) ?_
  refine nv_iadd hx hb d_Law_law_623 ?_
  refine va_sld hx hb hX hbl hbA hS (vp_in_nI (show 6 * i + 2 < L by omega) (by omega)) d_Law_law_624 ?_
  refine nv_top (y := (nI q)) ((congrArg xs (nI_clamp (by omega))).trans e2) ?_
  refine kV_i (wc := mW cI cZ ma Y) (wr := cW cI cV ba A vf (X.1, X.2.1, fun j => if j = k then u1 else X.2.2 j) ++ oW cL ou f) (w2 := fun u2 => cW cI cV ba A vf (X.1, X.2.1, fun j => if j = k then u1 else X.2.2 j) ++ (mW cI cZ ma u2 ++ oW cL ou f)) [.int (nI k), .int (nI q)] [] Bd ⟨gi_app (gi_c0 k_869 (gi_c0 k_870 (gi_c0 k_871 (gi_c0 k_10 gi_nil)))) (gi_tb0 k_872), rfl, by decide, by decide⟩ (show (parseMethodDescriptor "(II)I").map (fun d => d.parameters.length) = some 2 by decide +kernel) (m_bytesBy Y k q hmY hk hq) (by decide +kernel) ⟨by show 106 + i + 0 ≤ 601024; omega, by show 155700 + 6 * i + 0 ≤ 7293034; omega⟩ hG hP hD hS hA [83, 84, 85, 86, 87, 88, 89, 90, 91, 92, 93, 94, 95, 96, 97, 98, 99, 100, 101, 102, 103, 104] [0, 1, 2, 3, 4, 5, 6, 7, 8, 9, 10, 11, 12, 13, 14, 15, 16, 17, 18, 19, 20, 21, 22, 23, 24, 25, 26, 27, 28, 29, 30, 31, 32, 33, 34, 35, 36, 37, 38, 39, 40, 41, 42, 43, 44, 45, 46, 47, 48, 49, 50, 51, 52, 53, 54, 55, 56, 57, 58, 59, 60, 61, 62, 63, 64, 65, 66, 67, 68, 69, 70, 71, 72, 73, 74, 75, 76, 77, 78, 79, 80, 81, 82, 105] [0, 1, 2, 3, 4, 5, 6, 7, 8, 9, 10, 11, 12, 13, 14, 15, 16, 17, 18, 19, 20, 21, 22, 23, 24, 25, 26, 27, 28, 29, 30, 31, 32, 33, 34, 35, 36, 37, 38, 39, 40, 41, 42, 43, 44, 45, 46, 47, 48, 49, 50, 51, 52, 53, 54, 55, 56, 57, 58, 59, 60, 61, 62, 63, 64, 65, 66, 67, 68, 69, 70, 71, 72, 73, 74, 75, 76, 77, 78, 79, 80, 81, 82, 84, 85, 86, 87, 88, 89, 90, 91, 92, 93, 94, 95, 96, 97, 98, 99, 100, 101, 102, 103, 104, 105, 83] ok_m (wl_m1 _ _ _) (wl_m2 _ _ _) (fun _ => wl_m3 _ _ _) (q0 := 0) rfl rfl rfl hl.1 rfl (Nat.le_of_ble_eq_true rfl) d_Law_law_625 (fun r2 u2 H locs hp2 hP hD hS => ?_)
  have hP : va_P D classes (cW cI cV ba A vf (X.1, X.2.1, fun j => if j = k then u1 else X.2.2 j) ++ (mW cI cZ ma u2 ++ oW cL ou f)) H := hP
  have hD : va_D (fun q : Nat => s.heap.size ≤ q) (cW cI cV ba A vf (X.1, X.2.1, fun j => if j = k then u1 else X.2.2 j) ++ (mW cI cZ ma u2 ++ oW cL ou f)) := hD
  refine lv_pop hx hb d_Law_law_628 rfl ?_
  refine lv_goto (tgt := 669) hx hb d_Law_law_629 (by decide) ?_
  refine W.widen (k := 106 + (i + 1)) (n := 155700 + 6 * (i + 1)) (by show 106 + i ≤ 106 + (i + 1); omega) (by show 155700 + 6 * i ≤ 155700 + 6 * (i + 1); omega) ?_
  exact hN (X.1, X.2.1, fun j => if j = k then u1 else X.2.2 j) u2 f H locs _ (cOk.view hcX hp1) (hp2.1) (by omega) (hp2.2.trans hnb) hP hD hS (lv_sub hl [0, 1, 2, 3, 4] rfl)
set_option maxHeartbeats 8000000 in
set_option maxRecDepth 100000 in
theorem lf_bytesByN {p : Program} {l : Launch} {e : Env} {s : State} {m : MethodId} {below : List Frame} {meth : Method} {c : Code} {D : va_G} {cI cZ cL cV : ClassId} {b L : Nat} {xs : Nat → Int32} {H : Heap} {locs : List Loc} {ls : Array Slot} (ba : Nat → Nat) (A : Nat → Nat → Nat) (vf : Nat → Option Nat) (ma : Nat → Nat) (ou : Nat) (X : CS) (Y : MS) (f : Nat → Int64) (i : Nat)  (hL : L ≤ 3072) (hi : 6 * i + 6 ≤ L) (C0 : lw_At p s m meth c b L xs) (hst : l.stackTraces = false) (hXo : xOk (fun q : Nat => s.heap.size ≤ q) s s.heap) (hG : gk classes NW D (TYS cI cZ cL cV) s) (hvf9 : ∀ k, k < 3 → vf k = some (A k 0)) (hcX : cOk X) (hmY : mOk Y) (hnX : X.1 ≤ i) (hnb : Y.2.2.2 1 = nI X.1) (hno : ¬ (vwP (xs (6 * i + 1)) ∧ ∃ j, j < 7 ∧ xs (6 * i + 2) = nI j)) (hP : va_P D classes (cW cI cV ba A vf X ++ (mW cI cZ ma Y ++ oW cL ou f)) H) (hD : va_D (fun q : Nat => s.heap.size ≤ q) (cW cI cV ba A vf X ++ (mW cI cZ ma Y ++ oW cL ou f))) (hS : va_S (fun q : Nat => s.heap.size ≤ q) s.heap H locs) (hl : lv_has ls 7 [(0, .ref b), (1, .ref (ba 0)), (2, .ref (ma 0)), (3, .ref ou), (4, .int (nI (6 * i)))]) (hN : LN p l e s m below meth c D cI cZ cL cV b ba A vf ma ou i) : W p l e room_1 s m #[Value.ref b] below meth c H locs (106 + i) (155700 + 6 * i) (lw_Z below #[Value.ref b] s) (F0 m 595 ls []) := by
  obtain ⟨hx, hb, hr, hml, hown, hts, hX, hbl, hlocks, hgv⟩ := id C0
  have hA : ∀ q : Nat, s.heap.size ≤ q → (fun q : Nat => s.heap.size ≤ q) q := fun _ h => h
  have hbA : ¬ (fun q : Nat => s.heap.size ≤ q) b := Nat.not_le.mpr hbl
  have htb : ∀ w ∈ TB, w.before #[Value.ref b] s = true := fun w hw => hts w (List.mem_filter.mp hw).1
  have Bd : bd p c code 7 s #[Value.ref b] TB "TileScreenLaw" m := ⟨hx, hb, hml, hown, htb⟩
  refine lv_aload_n hx hb d_Law_law_595 rfl (lv_at hl 1 rfl) ?_
  refine lv_aload_n hx hb d_Law_law_596 rfl (lv_at hl 0 rfl) ?_
  refine lv_iload hx hb d_Law_law_597 (lv_at hl 4 rfl) ?_
  refine lv_iconst (v := nI 1) hx hb d_Law_law_599 (by decide) ?_
  refine nv_iadd hx hb d_Law_law_600 ?_
  refine va_sld hx hb hX hbl hbA hS (vp_in_nI (show 6 * i + 1 < L by omega) (by omega)) d_Law_law_601 ?_
  refine nv_top (y := (xs (6 * i + 1))) ((congrArg xs (nI_clamp (by omega)))) ?_
  refine lv_aload_n hx hb d_Law_law_602 rfl (lv_at hl 0 rfl) ?_
  refine lv_iload hx hb d_Law_law_603 (lv_at hl 4 rfl) ?_
  refine lv_iconst (v := nI 2) hx hb d_Law_law_605 (by decide) ?_
  refine nv_iadd hx hb d_Law_law_606 ?_
  refine va_sld hx hb hX hbl hbA hS (vp_in_nI (show 6 * i + 2 < L by omega) (by omega)) d_Law_law_607 ?_
  refine nv_top (y := (xs (6 * i + 2))) ((congrArg xs (nI_clamp (by omega)))) ?_
  refine kV_i (wc := cW cI cV ba A vf X) (wr := mW cI cZ ma Y ++ oW cL ou f) (w2 := fun u1 => cW cI cV ba A vf X ++ (mW cI cZ ma Y ++ oW cL ou f)) [.int (xs (6 * i + 1)), .int (xs (6 * i + 2))] [] Bd ⟨gi_app (gi_c0 k_524 (gi_c0 k_525 (gi_c0 k_526 (gi_c0 k_1 gi_nil)))) (gi_tb0 k_527), rfl, by decide, by decide⟩ (show (parseMethodDescriptor "(II)I").map (fun d => d.parameters.length) = some 2 by decide +kernel) (CI.no (c_Scr_bytesBy_no (ba 0) (ba 1) (ba 3) (ba 5) (ba 7) X.1 (xs (6 * i + 1)) (xs (6 * i + 2)) hno)) (by decide +kernel) ⟨by show 106 + i + 0 ≤ 601024; omega, by show 155700 + 6 * i + 0 ≤ 7293034; omega⟩ hG hP hD hS hA [0, 1, 2, 3, 4, 5, 6, 7, 8, 9, 10, 11, 12, 13, 14, 15, 16, 17, 18, 19, 20, 21, 22, 23, 24, 25, 26, 27, 28, 29, 30, 31, 32, 33, 34, 35, 36, 37, 38, 39, 40, 41, 42, 43, 44, 45, 46, 47, 48, 49, 50, 51, 52, 53, 54, 55, 56, 57, 58, 59, 60, 61, 62, 63, 64, 65, 66, 67, 68, 69, 70, 71, 72, 73, 74, 75, 76, 77, 78, 79, 80, 81, 82] [83, 84, 85, 86, 87, 88, 89, 90, 91, 92, 93, 94, 95, 96, 97, 98, 99, 100, 101, 102, 103, 104, 105] [23, 24, 25, 26, 27, 28, 29, 30, 31, 32, 33, 34, 35, 36, 37, 38, 39, 40, 41, 42, 43, 44, 45, 46, 47, 48, 49, 50, 51, 52, 53, 54, 55, 56, 57, 58, 59, 60, 61, 62, 63, 64, 65, 66, 67, 68, 69, 70, 71, 72, 73, 74, 75, 76, 77, 78, 79, 80, 81, 82, 83, 84, 85, 86, 87, 88, 89, 90, 91, 92, 93, 94, 95, 96, 97, 98, 99, 100, 101, 102, 103, 104, 105, 0, 1, 2, 3, 4, 5, 6, 7, 8, 9, 10, 11, 12, 13, 14, 15, 16, 17, 18, 19, 20, 21, 22] ok_c (wl_c1 _ _ _) (wl_c2 _ _ _) (fun _ => wl_c3 _ _ _) (q0 := 0) rfl rfl rfl hl.1 rfl (Nat.le_of_ble_eq_true rfl) d_Law_law_608 (fun r1 u1 H locs hp1 hP hD hS => ?_)
  have hP : va_P D classes (cW cI cV ba A vf X ++ (mW cI cZ ma Y ++ oW cL ou f)) H := hP
  have hD : va_D (fun q : Nat => s.heap.size ≤ q) (cW cI cV ba A vf X ++ (mW cI cZ ma Y ++ oW cL ou f)) := hD
  refine lv_pop hx hb d_Law_law_611 rfl ?_
  refine lv_aload_n hx hb d_Law_law_612 rfl (lv_at hl 2 rfl) ?_
  refine lv_aload_n hx hb d_Law_law_613 rfl (lv_at hl 0 rfl) ?_
  refine lv_iload hx hb d_Law_law_614 (lv_at hl 4 rfl) ?_
  refine lv_iconst (v := nI 1) hx hb d_Law_law_616 (by decide) ?_
  refine nv_iadd hx hb d_Law_law_617 ?_
  refine va_sld hx hb hX hbl hbA hS (vp_in_nI (show 6 * i + 1 < L by omega) (by omega)) d_Law_law_618 ?_
  refine nv_top (y := (xs (6 * i + 1))) ((congrArg xs (nI_clamp (by omega)))) ?_
  refine lv_aload_n hx hb d_Law_law_619 rfl (lv_at hl 0 rfl) ?_
  refine lv_iload hx hb d_Law_law_620 (lv_at hl 4 rfl) ?_
  refine lv_iconst (v := nI 2) hx hb d_Law_law_622 (by decide) ?_
  refine nv_iadd hx hb d_Law_law_623 ?_
  refine va_sld hx hb hX hbl hbA hS (vp_in_nI (show 6 * i + 2 < L by omega) (by omega)) d_Law_law_624 ?_
  refine nv_top (y := (xs (6 * i + 2))) ((congrArg xs (nI_clamp (by omega)))) ?_
  refine kV_i (wc := mW cI cZ ma Y) (wr := cW cI cV ba A vf X ++ oW cL ou f) (w2 := fun u2 => cW cI cV ba A vf X ++ (mW cI cZ ma u2 ++ oW cL ou f)) [.int (xs (6 * i + 1)), .int (xs (6 * i + 2))] [] Bd ⟨gi_app (gi_c0 k_869 (gi_c0 k_870 (gi_c0 k_871 (gi_c0 k_10 gi_nil)))) (gi_tb0 k_872), rfl, by decide, by decide⟩ (show (parseMethodDescriptor "(II)I").map (fun d => d.parameters.length) = some 2 by decide +kernel) (m_bytesByN Y (xs (6 * i + 1)) (xs (6 * i + 2)) hmY hno) (by decide +kernel) ⟨by show 106 + i + 0 ≤ 601024; omega, by show 155700 + 6 * i + 0 ≤ 7293034; omega⟩ hG hP hD hS hA [83, 84, 85, 86, 87, 88, 89, 90, 91, 92, 93, 94, 95, 96, 97, 98, 99, 100, 101, 102, 103, 104] [0, 1, 2, 3, 4, 5, 6, 7, 8, 9, 10, 11, 12, 13, 14, 15, 16, 17, 18, 19, 20, 21, 22, 23, 24, 25, 26, 27, 28, 29, 30, 31, 32, 33, 34, 35, 36, 37, 38, 39, 40, 41, 42, 43, 44, 45, 46, 47, 48, 49, 50, 51, 52, 53, 54, 55, 56, 57, 58, 59, 60, 61, 62, 63, 64, 65, 66, 67, 68, 69, 70, 71, 72, 73, 74, 75, 76, 77, 78, 79, 80, 81, 82, 105] [0, 1, 2, 3, 4, 5, 6, 7, 8, 9, 10, 11, 12, 13, 14, 15, 16, 17, 18, 19, 20, 21, 22, 23, 24, 25, 26, 27, 28, 29, 30, 31, 32, 33, 34, 35, 36, 37, 38, 39, 40, 41, 42, 43, 44, 45, 46, 47, 48, 49, 50, 51, 52, 53, 54, 55, 56, 57, 58, 59, 60, 61, 62, 63, 64, 65, 66, 67, 68, 69, 70, 71, 72, 73, 74, 75, 76, 77, 78, 79, 80, 81, 82, 84, 85, 86, 87, 88, 89, 90, 91, 92, 93, 94, 95, 96, 97, 98, 99, 100, 101, 102, 103, 104, 105, 83] ok_m (wl_m1 _ _ _) (wl_m2 _ _ _) (fun _ => wl_m3 _ _ _) (q0 := 0) rfl rfl rfl hl.1 rfl (Nat.le_of_ble_eq_true rfl) d_Law_law_625 (fun r2 u2 H locs hp2 hP hD hS => ?_)
  have hP : va_P D classes (cW cI cV ba A vf X ++ (mW cI cZ ma u2 ++ oW cL ou f)) H := hP
  have hD : va_D (fun q : Nat => s.heap.size ≤ q) (cW cI cV ba A vf X ++ (mW cI cZ ma u2 ++ oW cL ou f)) := hD
  refine lv_pop hx hb d_Law_law_628 rfl ?_
  refine lv_goto (tgt := 669) hx hb d_Law_law_629 (by decide) ?_
  refine W.widen (k := 106 + (i + 1)) (n := 155700 + 6 * (i + 1)) (by show 106 + i ≤ 106 + (i + 1); omega) (by show 155700 + 6 * i ≤ 155700 + 6 * (i + 1); omega) ?_
  exact hN X u2 f H locs _ (hcX) (hp2.1) (by omega) (hp2.2.trans hnb) hP hD hS (lv_sub hl [0, 1, 2, 3, 4] rfl)
set_option maxHeartbeats 8000000 in
set_option maxRecDepth 100000 in
theorem lf_onLine {p : Program} {l : Launch} {e : Env} {s : State} {m : MethodId} {below : List Frame} {meth : Method} {c : Code} {D : va_G} {cI cZ cL cV : ClassId} {b L : Nat} {xs : Nat → Int32} {H : Heap} {locs : List Loc} {ls : Array Slot} (ba : Nat → Nat) (A : Nat → Nat → Nat) (vf : Nat → Option Nat) (ma : Nat → Nat) (ou : Nat) (X : CS) (Y : MS) (f : Nat → Int64) (i : Nat) (k : Nat) (hL : L ≤ 3072) (hi : 6 * i + 6 ≤ L) (C0 : lw_At p s m meth c b L xs) (hst : l.stackTraces = false) (hXo : xOk (fun q : Nat => s.heap.size ≤ q) s s.heap) (hG : gk classes NW D (TYS cI cZ cL cV) s) (hvf9 : ∀ k, k < 3 → vf k = some (A k 0)) (hcX : cOk X) (hmY : mOk Y) (hnX : X.1 ≤ i) (hnb : Y.2.2.2 1 = nI X.1) (e1 : xs (6 * i + 1) = nI k) (hk : k < 3) (hP : va_P D classes (cW cI cV ba A vf X ++ (mW cI cZ ma Y ++ oW cL ou f)) H) (hD : va_D (fun q : Nat => s.heap.size ≤ q) (cW cI cV ba A vf X ++ (mW cI cZ ma Y ++ oW cL ou f))) (hS : va_S (fun q : Nat => s.heap.size ≤ q) s.heap H locs) (hl : lv_has ls 7 [(0, .ref b), (1, .ref (ba 0)), (2, .ref (ma 0)), (3, .ref ou), (4, .int (nI (6 * i)))]) (hN : LN p l e s m below meth c D cI cZ cL cV b ba A vf ma ou i) : W p l e room_1 s m #[Value.ref b] below meth c H locs (106 + i) (155700 + 6 * i) (lw_Z below #[Value.ref b] s) (F0 m 632 ls []) := by
  obtain ⟨hx, hb, hr, hml, hown, hts, hX, hbl, hlocks, hgv⟩ := id C0
  have hA : ∀ q : Nat, s.heap.size ≤ q → (fun q : Nat => s.heap.size ≤ q) q := fun _ h => h
  have hbA : ¬ (fun q : Nat => s.heap.size ≤ q) b := Nat.not_le.mpr hbl
  have htb : ∀ w ∈ TB, w.before #[Value.ref b] s = true := fun w hw => hts w (List.mem_filter.mp hw).1
  have Bd : bd p c code 7 s #[Value.ref b] TB "TileScreenLaw" m := ⟨hx, hb, hml, hown, htb⟩
  refine lv_aload_n hx hb d_Law_law_632 rfl (lv_at hl 1 rfl) ?_
  refine lv_aload_n hx hb d_Law_law_633 rfl (lv_at hl 0 rfl) ?_
  refine lv_iload hx hb d_Law_law_634 (lv_at hl 4 rfl) ?_
  refine lv_iconst (v := nI 1) hx hb d_Law_law_636 (by decide) ?_
  refine nv_iadd hx hb d_Law_law_637 ?_
  refine va_sld hx hb hX hbl hbA hS (vp_in_nI (show 6 * i + 1 < L by omega) (by omega)) d_Law_law_638 ?_
  refine nv_top (y := (nI k)) ((congrArg xs (nI_clamp (by omega))).trans e1) ?_
  refine lv_aload_n hx hb d_Law_law_639 rfl (lv_at hl 0 rfl) ?_
  refine lv_iload hx hb d_Law_law_640 (lv_at hl 4 rfl) ?_
  refine lv_iconst (v := nI 2) hx hb d_Law_law_642 (by decide) ?_
  refine nv_iadd hx hb d_Law_law_643 ?_
  refine va_sld hx hb hX hbl hbA hS (vp_in_nI (show 6 * i + 2 < L by omega) (by omega)) d_Law_law_644 ?_
  refine nv_top (y := (xs (6 * i + 2))) ((congrArg xs (nI_clamp (by omega)))) ?_
  refine kV_i (wc := cW cI cV ba A vf X) (wr := mW cI cZ ma Y ++ oW cL ou f) (w2 := fun u1 => cW cI cV ba A vf (X.1, X.2.1, fun j => if j = k then u1 else X.2.2 j) ++ (mW cI cZ ma Y ++ oW cL ou f)) [.int (nI k), .int (xs (6 * i + 2))] [] Bd ⟨gi_app (gi_c0 k_528 (gi_c0 k_529 (gi_c0 k_530 (gi_c0 k_1 gi_nil)))) (gi_tb0 k_531), rfl, by decide, by decide⟩ (show (parseMethodDescriptor "(II)I").map (fun d => d.parameters.length) = some 2 by decide +kernel) (CI.view k hk (v_onLine X.1 X.2.1 (A k) (X.2.2 k) k (xs (6 * i + 2)) hk (hvf9 k hk) hcX.1 (hcX.2 k) )) (by decide +kernel) ⟨by show 106 + i + 0 ≤ 601024; omega, by show 155700 + 6 * i + 0 ≤ 7293034; omega⟩ hG hP hD hS hA [0, 1, 2, 3, 4, 5, 6, 7, 8, 9, 10, 11, 12, 13, 14, 15, 16, 17, 18, 19, 20, 21, 22, 23, 24, 25, 26, 27, 28, 29, 30, 31, 32, 33, 34, 35, 36, 37, 38, 39, 40, 41, 42, 43, 44, 45, 46, 47, 48, 49, 50, 51, 52, 53, 54, 55, 56, 57, 58, 59, 60, 61, 62, 63, 64, 65, 66, 67, 68, 69, 70, 71, 72, 73, 74, 75, 76, 77, 78, 79, 80, 81, 82] [83, 84, 85, 86, 87, 88, 89, 90, 91, 92, 93, 94, 95, 96, 97, 98, 99, 100, 101, 102, 103, 104, 105] [23, 24, 25, 26, 27, 28, 29, 30, 31, 32, 33, 34, 35, 36, 37, 38, 39, 40, 41, 42, 43, 44, 45, 46, 47, 48, 49, 50, 51, 52, 53, 54, 55, 56, 57, 58, 59, 60, 61, 62, 63, 64, 65, 66, 67, 68, 69, 70, 71, 72, 73, 74, 75, 76, 77, 78, 79, 80, 81, 82, 83, 84, 85, 86, 87, 88, 89, 90, 91, 92, 93, 94, 95, 96, 97, 98, 99, 100, 101, 102, 103, 104, 105, 0, 1, 2, 3, 4, 5, 6, 7, 8, 9, 10, 11, 12, 13, 14, 15, 16, 17, 18, 19, 20, 21, 22] ok_c (wl_c1 _ _ _) (wl_c2 _ _ _) (fun _ => wl_c3 _ _ _) (q0 := 0) rfl rfl rfl hl.1 rfl (Nat.le_of_ble_eq_true rfl) d_Law_law_645 (fun r1 u1 H locs hp1 hP hD hS => ?_)
  have hP : va_P D classes (cW cI cV ba A vf (X.1, X.2.1, fun j => if j = k then u1 else X.2.2 j) ++ (mW cI cZ ma Y ++ oW cL ou f)) H := hP
  have hD : va_D (fun q : Nat => s.heap.size ≤ q) (cW cI cV ba A vf (X.1, X.2.1, fun j => if j = k then u1 else X.2.2 j) ++ (mW cI cZ ma Y ++ oW cL ou f)) := hD
  refine lv_pop hx hb d_Law_law_648 rfl ?_
  refine lv_aload_n hx hb d_Law_law_649 rfl (lv_at hl 2 rfl) ?_
  refine lv_aload_n hx hb d_Law_law_650 rfl (lv_at hl 0 rfl) ?_
  refine lv_iload hx hb d_Law_law_651 (lv_at hl 4 rfl) ?_
  refine lv_iconst (v := nI 1) hx hb d_Law_law_653 (by decide) ?_
  refine nv_iadd hx hb d_Law_law_654 ?_
  refine va_sld hx hb hX hbl hbA hS (vp_in_nI (show 6 * i + 1 < L by omega) (by omega)) d_Law_law_655 ?_
  refine nv_top (y := (nI k)) ((congrArg xs (nI_clamp (by omega))).trans e1) ?_
  refine lv_aload_n hx hb d_Law_law_656 rfl (lv_at hl 0 rfl) ?_
  refine lv_iload hx hb d_Law_law_657 (lv_at hl 4 rfl) ?_
  refine lv_iconst (v := nI 2) hx hb d_Law_law_659 (by decide) ?_
  refine nv_iadd hx hb d_Law_law_660 ?_
  refine va_sld hx hb hX hbl hbA hS (vp_in_nI (show 6 * i + 2 < L by omega) (by omega)) d_Law_law_661 ?_
  refine nv_top (y := (xs (6 * i + 2))) ((congrArg xs (nI_clamp (by omega)))) ?_
  refine kV_i (wc := mW cI cZ ma Y) (wr := cW cI cV ba A vf (X.1, X.2.1, fun j => if j = k then u1 else X.2.2 j) ++ oW cL ou f) (w2 := fun u2 => cW cI cV ba A vf (X.1, X.2.1, fun j => if j = k then u1 else X.2.2 j) ++ (mW cI cZ ma u2 ++ oW cL ou f)) [.int (nI k), .int (xs (6 * i + 2))] [] Bd ⟨gi_app (gi_c0 k_873 (gi_c0 k_874 (gi_c0 k_875 (gi_c0 k_10 gi_nil)))) (gi_tb0 k_876), rfl, by decide, by decide⟩ (show (parseMethodDescriptor "(II)I").map (fun d => d.parameters.length) = some 2 by decide +kernel) (m_onLine Y k (xs (6 * i + 2)) hmY hk) (by decide +kernel) ⟨by show 106 + i + 0 ≤ 601024; omega, by show 155700 + 6 * i + 0 ≤ 7293034; omega⟩ hG hP hD hS hA [83, 84, 85, 86, 87, 88, 89, 90, 91, 92, 93, 94, 95, 96, 97, 98, 99, 100, 101, 102, 103, 104] [0, 1, 2, 3, 4, 5, 6, 7, 8, 9, 10, 11, 12, 13, 14, 15, 16, 17, 18, 19, 20, 21, 22, 23, 24, 25, 26, 27, 28, 29, 30, 31, 32, 33, 34, 35, 36, 37, 38, 39, 40, 41, 42, 43, 44, 45, 46, 47, 48, 49, 50, 51, 52, 53, 54, 55, 56, 57, 58, 59, 60, 61, 62, 63, 64, 65, 66, 67, 68, 69, 70, 71, 72, 73, 74, 75, 76, 77, 78, 79, 80, 81, 82, 105] [0, 1, 2, 3, 4, 5, 6, 7, 8, 9, 10, 11, 12, 13, 14, 15, 16, 17, 18, 19, 20, 21, 22, 23, 24, 25, 26, 27, 28, 29, 30, 31, 32, 33, 34, 35, 36, 37, 38, 39, 40, 41, 42, 43, 44, 45, 46, 47, 48, 49, 50, 51, 52, 53, 54, 55, 56, 57, 58, 59, 60, 61, 62, 63, 64, 65, 66, 67, 68, 69, 70, 71, 72, 73, 74, 75, 76, 77, 78, 79, 80, 81, 82, 84, 85, 86, 87, 88, 89, 90, 91, 92, 93, 94, 95, 96, 97, 98, 99, 100, 101, 102, 103, 104, 105, 83] ok_m (wl_m1 _ _ _) (wl_m2 _ _ _) (fun _ => wl_m3 _ _ _) (q0 := 0) rfl rfl rfl hl.1 rfl (Nat.le_of_ble_eq_true rfl) d_Law_law_662 (fun r2 u2 H locs hp2 hP hD hS => ?_)
  have hP : va_P D classes (cW cI cV ba A vf (X.1, X.2.1, fun j => if j = k then u1 else X.2.2 j) ++ (mW cI cZ ma u2 ++ oW cL ou f)) H := hP
  have hD : va_D (fun q : Nat => s.heap.size ≤ q) (cW cI cV ba A vf (X.1, X.2.1, fun j => if j = k then u1 else X.2.2 j) ++ (mW cI cZ ma u2 ++ oW cL ou f)) := hD
  refine lv_pop hx hb d_Law_law_665 rfl ?_
  refine lv_goto (tgt := 669) hx hb d_Law_law_666 (by decide) ?_
  refine W.widen (k := 106 + (i + 1)) (n := 155700 + 6 * (i + 1)) (by show 106 + i ≤ 106 + (i + 1); omega) (by show 155700 + 6 * i ≤ 155700 + 6 * (i + 1); omega) ?_
  exact hN (X.1, X.2.1, fun j => if j = k then u1 else X.2.2 j) u2 f H locs _ (cOk.view hcX hp1) (hp2.1) (by omega) (hp2.2.trans hnb) hP hD hS (lv_sub hl [0, 1, 2, 3, 4] rfl)
end
