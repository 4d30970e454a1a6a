section
variable {l : Launch} {D : va_G} {cI cZ cL cV : ClassId}
set_option maxHeartbeats 8000000 in
set_option maxRecDepth 100000 in
theorem lf_onLineN {p : Program} {l : Launch} {e : Env} {s : State} {m : MethodId} {below : List Frame} {meth : Method} {c : Code} {D : va_G} {cI cZ cL cV : ClassId} {b L : Nat} {xs : Nat → Int32} {H : Heap} {locs : List Loc} {ls : Array Slot} (ba : Nat → Nat) (A : Nat → Nat → Nat) (vf : Nat → Option Nat) (ma : Nat → Nat) (ou : Nat) (X : CS) (Y : MS) (f : Nat → Int64) (i : Nat)  (hL : L ≤ 3072) (hi : 6 * i + 6 ≤ L) (C0 : lw_At p s m meth c b L xs) (hst : l.stackTraces = false) (hXo : xOk (fun q : Nat => s.heap.size ≤ q) s s.heap) (hG : gk classes NW D (TYS cI cZ cL cV) s) (hvf9 : ∀ k, k < 3 → vf k = some (A k 0)) (hcX : cOk X) (hmY : mOk Y) (hnX : X.1 ≤ i) (hnb : Y.2.2.2 1 = nI X.1) (hno : ¬ vwP (xs (6 * i + 1))) (hP : va_P D classes (cW cI cV ba A vf X ++ (mW cI cZ ma Y ++ oW cL ou f)) H) (hD : va_D (fun q : Nat => s.heap.size ≤ q) (cW cI cV ba A vf X ++ (mW cI cZ ma Y ++ oW cL ou f))) (hS : va_S (fun q : Nat => s.heap.size ≤ q) s.heap H locs) (hl : lv_has ls 7 [(0, .ref b), (1, .ref (ba 0)), (2, .ref (ma 0)), (3, .ref ou), (4, .int (nI (6 * i)))]) (hN : LN p l e s m below meth c D cI cZ cL cV b ba A vf ma ou i) : W p l e room_1 s m #[Value.ref b] below meth c H locs (106 + i) (155700 + 6 * i) (lw_Z below #[Value.ref b] s) (F0 m 632 ls []) := by
  obtain ⟨hx, hb, hr, hml, hown, hts, hX, hbl, hlocks, hgv⟩ := id C0
  have hA : ∀ q : Nat, s.heap.size ≤ q → (fun q : Nat => s.heap.size ≤ q) q := fun _ h => h
  have hbA : ¬ (fun q : Nat => s.heap.size ≤ q) b := Nat.not_le.mpr hbl
  have htb : ∀ w ∈ TB, w.before #[Value.ref b] s = true := fun w hw => hts w (List.mem_filter.mp hw).1
  have Bd : bd p c code 7 s #[Value.ref b] TB "TileScreenLaw" m := ⟨hx, hb, hml, hown, htb⟩
  refine lv_aload_n hx hb d_Law_law_632 rfl (lv_at hl 1 rfl) ?_
  refine lv_aload_n hx hb d_Law_law_633 rfl (lv_at hl 0 rfl) ?_
  refine lv_iload hx hb d_Law_law_634 (lv_at hl 4 rfl) ?_
  refine lv_iconst (v := nI 1) hx hb d_Law_law_636 (by decide) ?_
  refine nv_iadd hx hb d_Law_law_637 ?_
  refine va_sld hx hb hX hbl hbA hS (vp_in_nI (show 6 * i + 1 < L by omega) (by omega)) d_Law_law_638 ?_
  refine nv_top (y := (xs (6 * i + 1))) ((congrArg xs (nI_clamp (by omega)))) ?_
  refine lv_aload_n hx hb d_Law_law_639 rfl (lv_at hl 0 rfl) ?_
  refine lv_iload hx hb d_Law_law_640 (lv_at hl 4 rfl) ?_
  refine lv_iconst (v := nI 2) hx hb d_Law_law_642 (by decide) ?_
  refine nv_iadd hx hb d_Law_law_643 ?_
  refine va_sld hx hb hX hbl hbA hS (vp_in_nI (show 6 * i + 2 < L by omega) (by omega)) d_Law_law_644 ?_
  refine nv_top (y := (xs (6 * i + 2))) ((congrArg xs (nI_clamp (by omega)))) ?_
  refine kV_i (wc := cW cI cV ba A vf X) (wr := mW cI cZ ma Y ++ oW cL ou f) (w2 := fun u1 => cW cI cV ba A vf X ++ (mW cI cZ ma Y ++ oW cL ou f)) [.int (xs (6 * i + 1)), .int (xs (6 * i + 2))] [] Bd ⟨gi_app (gi_c0 k_528 (gi_c0 k_529 (gi_c0 k_530 (gi_c0 k_1 gi_nil)))) (gi_tb0 k_531), rfl, by decide, by decide⟩ (show (parseMethodDescriptor "(II)I").map (fun d => d.parameters.length) = some 2 by decide +kernel) (CI.no (c_Scr_onLine_no (ba 0) (ba 1) (ba 3) (ba 5) (ba 7) X.1 (xs (6 * i + 1)) (xs (6 * i + 2)) hno)) (by decide +kernel) ⟨by show 106 + i + 0 ≤ 601024; omega, by show 155700 + 6 * i + 0 ≤ 7293034; omega⟩ hG hP hD hS hA [0, 1, 2, 3, 4, 5, 6, 7, 8, 9, 10, 11, 12, 13, 14, 15, 16, 17, 18, 19, 20, 21, 22, 23, 24, 25, 26, 27, 28, 29, 30, 31, 32, 33, 34, 35, 36, 37, 38, 39, 40, 41, 42, 43, 44, 45, 46, 47, 48, 49, 50, 51, 52, 53, 54, 55, 56, 57, 58, 59, 60, 61, 62, 63, 64, 65, 66, 67, 68, 69, 70, 71, 72, 73, 74, 75, 76, 77, 78, 79, 80, 81, 82] [83, 84, 85, 86, 87, 88, 89, 90, 91, 92, 93, 94, 95, 96, 97, 98, 99, 100, 101, 102, 103, 104, 105] [23, 24, 25, 26, 27, 28, 29, 30, 31, 32, 33, 34, 35, 36, 37, 38, 39, 40, 41, 42, 43, 44, 45, 46, 47, 48, 49, 50, 51, 52, 53, 54, 55, 56, 57, 58, 59, 60, 61, 62, 63, 64, 65, 66, 67, 68, 69, 70, 71, 72, 73, 74, 75, 76, 77, 78, 79, 80, 81, 82, 83, 84, 85, 86, 87, 88, 89, 90, 91, 92, 93, 94, 95, 96, 97, 98, 99, 100, 101, 102, 103, 104, 105, 0, 1, 2, 3, 4, 5, 6, 7, 8, 9, 10, 11, 12, 13, 14, 15, 16, 17, 18, 19, 20, 21, 22] ok_c (wl_c1 _ _ _) (wl_c2 _ _ _) (fun _ => wl_c3 _ _ _) (q0 := 0) rfl rfl rfl hl.1 rfl (Nat.le_of_ble_eq_true rfl) d_Law_law_645 (fun r1 u1 H locs hp1 hP hD hS => ?_)
  have hP : va_P D classes (cW cI cV ba A vf X ++ (mW cI cZ ma Y ++ oW cL ou f)) H := hP
  have hD : va_D (fun q : Nat => s.heap.size ≤ q) (cW cI cV ba A vf X ++ (mW cI cZ ma Y ++ oW cL ou f)) := hD
  refine lv_pop hx hb d_Law_law_648 rfl ?_
  refine lv_aload_n hx hb d_Law_law_649 rfl (lv_at hl 2 rfl) ?_
  refine lv_aload_n hx hb d_Law_law_650 rfl (lv_at hl 0 rfl) ?_
  refine lv_iload hx hb d_Law_law_651 (lv_at hl 4 rfl) ?_
  refine lv_iconst (v := nI 1) hx hb d_Law_law_653 (by decide) ?_
  refine nv_iadd hx hb d_Law_law_654 ?_
  refine va_sld hx hb hX hbl hbA hS (vp_in_nI (show 6 * i + 1 < L by omega) (by omega)) d_Law_law_655 ?_
  refine nv_top (y := (xs (6 * i + 1))) ((congrArg xs (nI_clamp (by omega)))) ?_
  refine lv_aload_n hx hb d_Law_law_656 rfl (lv_at hl 0 rfl) ?_
  refine lv_iload hx hb d_Law_law_657 (lv_at hl 4 rfl) ?_
  refine lv_iconst (v := nI 2) hx hb d_Law_law_659 (by decide) ?_
  refine nv_iadd hx hb d_Law_law_660 ?_
  refine va_sld hx hb hX hbl hbA hS (vp_in_nI (show 6 * i + 2 < L by omega) (by omega)) d_Law_law_661 ?_
  refine nv_top (y := (xs (6 * i + 2))) ((congrArg xs (nI_clamp (by omega)))) ?_
  refine kV_i (wc := mW cI cZ ma Y) (wr := cW cI cV ba A vf X ++ oW cL ou f) (w2 := fun u2 => cW cI cV ba A vf X ++ (mW cI cZ ma u2 ++ oW cL ou f)) [.int (xs (6 * i + 1)), .int (xs (6 * i + 2))] [] Bd ⟨gi_app (gi_c0 k_873 (gi_c0 k_874 (gi_c0 k_875 (gi_c0 k_10 gi_nil)))) (gi_tb0 k_876), rfl, by decide, by decide⟩ (show (parseMethodDescriptor "(II)I").map (fun d => d.parameters.length) = some 2 by decide +kernel) (m_onLineN Y (xs (6 * i + 1)) (xs (6 * i + 2)) hmY hno) (by decide +kernel) ⟨by show 106 + i + 0 ≤ 601024; omega, by show 155700 + 6 * i + 0 ≤ 7293034; omega⟩ hG hP hD hS hA [83, 84, 85, 86, 87, 88, 89, 90, 91, 92, 93, 94, 95, 96, 97, 98, 99, 100, 101, 102, 103, 104] [0, 1, 2, 3, 4, 5, 6, 7, 8, 9, 10, 11, 12, 13, 14, 15, 16, 17, 18, 19, 20, 21, 22, 23, 24, 25, 26, 27, 28, 29, 30, 31, 32, 33, 34, 35, 36, 37, 38, 39, 40, 41, 42, 43, 44, 45, 46, 47, 48, 49, 50, 51, 52, 53, 54, 55, 56, 57, 58, 59, 60, 61, 62, 63, 64, 65, 66, 67, 68, 69, 70, 71, 72, 73, 74, 75, 76, 77, 78, 79, 80, 81, 82, 105] [0, 1, 2, 3, 4, 5, 6, 7, 8, 9, 10, 11, 12, 13, 14, 15, 16, 17, 18, 19, 20, 21, 22, 23, 24, 25, 26, 27, 28, 29, 30, 31, 32, 33, 34, 35, 36, 37, 38, 39, 40, 41, 42, 43, 44, 45, 46, 47, 48, 49, 50, 51, 52, 53, 54, 55, 56, 57, 58, 59, 60, 61, 62, 63, 64, 65, 66, 67, 68, 69, 70, 71, 72, 73, 74, 75, 76, 77, 78, 79, 80, 81, 82, 84, 85, 86, 87, 88, 89, 90, 91, 92, 93, 94, 95, 96, 97, 98, 99, 100, 101, 102, 103, 104, 105, 83] ok_m (wl_m1 _ _ _) (wl_m2 _ _ _) (fun _ => wl_m3 _ _ _) (q0 := 0) rfl rfl rfl hl.1 rfl (Nat.le_of_ble_eq_true rfl) d_Law_law_662 (fun r2 u2 H locs hp2 hP hD hS => ?_)
  have hP : va_P D classes (cW cI cV ba A vf X ++ (mW cI cZ ma u2 ++ oW cL ou f)) H := hP
  have hD : va_D (fun q : Nat => s.heap.size ≤ q) (cW cI cV ba A vf X ++ (mW cI cZ ma u2 ++ oW cL ou f)) := hD
  refine lv_pop hx hb d_Law_law_665 rfl ?_
  refine lv_goto (tgt := 669) hx hb d_Law_law_666 (by decide) ?_
  refine W.widen (k := 106 + (i + 1)) (n := 155700 + 6 * (i + 1)) (by show 106 + i ≤ 106 + (i + 1); omega) (by show 155700 + 6 * i ≤ 155700 + 6 * (i + 1); omega) ?_
  exact hN X u2 f H locs _ (hcX) (hp2.1) (by omega) (hp2.2.trans hnb) hP hD hS (lv_sub hl [0, 1, 2, 3, 4] rfl)
set_option maxHeartbeats 8000000 in
set_option maxRecDepth 100000 in
theorem lf_pump {p : Program} {l : Launch} {e : Env} {s : State} {m : MethodId} {below : List Frame} {meth : Method} {c : Code} {D : va_G} {cI cZ cL cV : ClassId} {b L : Nat} {xs : Nat → Int32} {H : Heap} {locs : List Loc} {ls : Array Slot} (ba : Nat → Nat) (A : Nat → Nat → Nat) (vf : Nat → Option Nat) (ma : Nat → Nat) (ou : Nat) (X : CS) (Y : MS) (f : Nat → Int64) (i : Nat) (k : Nat) (hL : L ≤ 3072) (hi : 6 * i + 6 ≤ L) (C0 : lw_At p s m meth c b L xs) (hst : l.stackTraces = false) (hXo : xOk (fun q : Nat => s.heap.size ≤ q) s s.heap) (hG : gk classes NW D (TYS cI cZ cL cV) s) (hvf9 : ∀ k, k < 3 → vf k = some (A k 0)) (hcX : cOk X) (hmY : mOk Y) (hnX : X.1 ≤ i) (hnb : Y.2.2.2 1 = nI X.1) (e1 : xs (6 * i + 1) = nI k) (hk : k < 3) (hP : va_P D classes (cW cI cV ba A vf X ++ (mW cI cZ ma Y ++ oW cL ou f)) H) (hD : va_D (fun q : Nat => s.heap.size ≤ q) (cW cI cV ba A vf X ++ (mW cI cZ ma Y ++ oW cL ou f))) (hS : va_S (fun q : Nat => s.heap.size ≤ q) s.heap H locs) (hl : lv_has ls 7 [(0, .ref b), (1, .ref (ba 0)), (2, .ref (ma 0)), (3, .ref ou), (4, .int (nI (6 * i)))]) (hN : LN p l e s m below meth c D cI cZ cL cV b ba A vf ma ou i) : W p l e room_1 s m #[Value.ref b] below meth c H locs (106 + i) (155700 + 6 * i) (lw_Z below #[Value.ref b] s) (F0 m 410 ls []) := by
  obtain ⟨hx, hb, hr, hml, hown, hts, hX, hbl, hlocks, hgv⟩ := id C0
  have hA : ∀ q : Nat, s.heap.size ≤ q → (fun q : Nat => s.heap.size ≤ q) q := fun _ h => h
  have hbA : ¬ (fun q : Nat => s.heap.size ≤ q) b := Nat.not_le.mpr hbl
  have htb : ∀ w ∈ TB, w.before #[Value.ref b] s = true := fun w hw => hts w (List.mem_filter.mp hw).1
  have Bd : bd p c code 7 s #[Value.ref b] TB "TileScreenLaw" m := ⟨hx, hb, hml, hown, htb⟩
  refine lv_aload_n hx hb d_Law_law_410 rfl (lv_at hl 1 rfl) ?_
  refine lv_aload_n hx hb d_Law_law_411 rfl (lv_at hl 0 rfl) ?_
  refine lv_iload hx hb d_Law_law_412 (lv_at hl 4 rfl) ?_
  refine lv_iconst (v := nI 1) hx hb d_Law_law_414 (by decide) ?_
  refine nv_iadd hx hb d_Law_law_415 ?_
  refine va_sld hx hb hX hbl hbA hS (vp_in_nI (show 6 * i + 1 < L by omega) (by omega)) d_Law_law_416 ?_
  refine nv_top (y := (nI k)) ((congrArg xs (nI_clamp (by omega))).trans e1) ?_
  refine kV_i (wc := cW cI cV ba A vf X) (wr := mW cI cZ ma Y ++ oW cL ou f) (w2 := fun u1 => cW cI cV ba A vf (X.1, X.2.1, fun j => if j = k then u1 else X.2.2 j) ++ (mW cI cZ ma Y ++ oW cL ou f)) [.int (nI k)] [] Bd ⟨gi_app (gi_c0 k_335 (gi_c0 k_336 (gi_c0 k_337 (gi_c0 k_1 gi_nil)))) (gi_tb0 k_338), rfl, by decide, by decide⟩ (show (parseMethodDescriptor "(I)I").map (fun d => d.parameters.length) = some 1 by decide +kernel) (CI.view k hk (v_pump X.1 X.2.1 (A k) (X.2.2 k) k  hk (hvf9 k hk) hcX.1 (hcX.2 k) (by omega))) (by decide +kernel) ⟨by show 106 + i + 0 ≤ 601024; omega, by show 155700 + 6 * i + 0 ≤ 7293034; omega⟩ hG hP hD hS hA [0, 1, 2, 3, 4, 5, 6, 7, 8, 9, 10, 11, 12, 13, 14, 15, 16, 17, 18, 19, 20, 21, 22, 23, 24, 25, 26, 27, 28, 29, 30, 31, 32, 33, 34, 35, 36, 37, 38, 39, 40, 41, 42, 43, 44, 45, 46, 47, 48, 49, 50, 51, 52, 53, 54, 55, 56, 57, 58, 59, 60, 61, 62, 63, 64, 65, 66, 67, 68, 69, 70, 71, 72, 73, 74, 75, 76, 77, 78, 79, 80, 81, 82] [83, 84, 85, 86, 87, 88, 89, 90, 91, 92, 93, 94, 95, 96, 97, 98, 99, 100, 101, 102, 103, 104, 105] [23, 24, 25, 26, 27, 28, 29, 30, 31, 32, 33, 34, 35, 36, 37, 38, 39, 40, 41, 42, 43, 44, 45, 46, 47, 48, 49, 50, 51, 52, 53, 54, 55, 56, 57, 58, 59, 60, 61, 62, 63, 64, 65, 66, 67, 68, 69, 70, 71, 72, 73, 74, 75, 76, 77, 78, 79, 80, 81, 82, 83, 84, 85, 86, 87, 88, 89, 90, 91, 92, 93, 94, 95, 96, 97, 98, 99, 100, 101, 102, 103, 104, 105, 0, 1, 2, 3, 4, 5, 6, 7, 8, 9, 10, 11, 12, 13, 14, 15, 16, 17, 18, 19, 20, 21, 22] ok_c (wl_c1 _ _ _) (wl_c2 _ _ _) (fun _ => wl_c3 _ _ _) (q0 := 0) rfl rfl rfl hl.1 rfl (Nat.le_of_ble_eq_true rfl) d_Law_law_417 (fun r1 u1 H locs hp1 hP hD hS => ?_)
  have hP : va_P D classes (cW cI cV ba A vf (X.1, X.2.1, fun j => if j = k then u1 else X.2.2 j) ++ (mW cI cZ ma Y ++ oW cL ou f)) H := hP
  have hD : va_D (fun q : Nat => s.heap.size ≤ q) (cW cI cV ba A vf (X.1, X.2.1, fun j => if j = k then u1 else X.2.2 j) ++ (mW cI cZ ma Y ++ oW cL ou f)) := hD
  refine lv_pop hx hb d_Law_law_420 rfl ?_
  refine lv_aload_n hx hb d_Law_law_421 rfl (lv_at hl 2 rfl) ?_
  refine lv_aload_n hx hb d_Law_law_422 rfl (lv_at hl 0 rfl) ?_
  refine lv_iload hx hb d_Law_law_423 (lv_at hl 4 rfl) ?_
  refine lv_iconst (v := nI 1) hx hb d_Law_law_425 (by decide) ?_
  refine nv_iadd hx hb d_Law_law_426 ?_
  refine va_sld hx hb hX hbl hbA hS (vp_in_nI (show 6 * i + 1 < L by omega) (by omega)) d_Law_law_427 ?_
  refine nv_top (y := (nI k)) ((congrArg xs (nI_clamp (by omega))).trans e1) ?_
  refine kV_i (wc := mW cI cZ ma Y) (wr := cW cI cV ba A vf (X.1, X.2.1, fun j => if j = k then u1 else X.2.2 j) ++ oW cL ou f) (w2 := fun u2 => cW cI cV ba A vf (X.1, X.2.1, fun j => if j = k then u1 else X.2.2 j) ++ (mW cI cZ ma u2 ++ oW cL ou f)) [.int (nI k)] [] Bd ⟨gi_app (gi_c0 k_769 (gi_c0 k_770 (gi_c0 k_771 (gi_c0 k_10 gi_nil)))) (gi_tb0 k_772), rfl, by decide, by decide⟩ (show (parseMethodDescriptor "(I)I").map (fun d => d.parameters.length) = some 1 by decide +kernel) (m_pump Y k hmY hk) (by decide +kernel) ⟨by show 106 + i + 0 ≤ 601024; omega, by show 155700 + 6 * i + 0 ≤ 7293034; omega⟩ hG hP hD hS hA [83, 84, 85, 86, 87, 88, 89, 90, 91, 92, 93, 94, 95, 96, 97, 98, 99, 100, 101, 102, 103, 104] [0, 1, 2, 3, 4, 5, 6, 7, 8, 9, 10, 11, 12, 13, 14, 15, 16, 17, 18, 19, 20, 21, 22, 23, 24, 25, 26, 27, 28, 29, 30, 31, 32, 33, 34, 35, 36, 37, 38, 39, 40, 41, 42, 43, 44, 45, 46, 47, 48, 49, 50, 51, 52, 53, 54, 55, 56, 57, 58, 59, 60, 61, 62, 63, 64, 65, 66, 67, 68, 69, 70, 71, 72, 73, 74, 75, 76, 77, 78, 79, 80, 81, 82, 105] [0, 1, 2, 3, 4, 5, 6, 7, 8, 9, 10, 11, 12, 13, 14, 15, 16, 17, 18, 19, 20, 21, 22, 23, 24, 25, 26, 27, 28, 29, 30, 31, 32, 33, 34, 35, 36, 37, 38, 39, 40, 41, 42, 43, 44, 45, 46, 47, 48, 49, 50, 51, 52, 53, 54, 55, 56, 57, 58, 59, 60, 61, 62, 63, 64, 65, 66, 67, 68, 69, 70, 71, 72, 73, 74, 75, 76, 77, 78, 79, 80, 81, 82, 84, 85, 86, 87, 88, 89, 90, 91, 92, 93, 94, 95, 96, 97, 98, 99, 100, 101, 102, 103, 104, 105, 83] ok_m (wl_m1 _ _ _) (wl_m2 _ _ _) (fun _ => wl_m3 _ _ _) (q0 := 0) rfl rfl rfl hl.1 rfl (Nat.le_of_ble_eq_true rfl) d_Law_law_428 (fun r2 u2 H locs hp2 hP hD hS => ?_)
  have hP : va_P D classes (cW cI cV ba A vf (X.1, X.2.1, fun j => if j = k then u1 else X.2.2 j) ++ (mW cI cZ ma u2 ++ oW cL ou f)) H := hP
  have hD : va_D (fun q : Nat => s.heap.size ≤ q) (cW cI cV ba A vf (X.1, X.2.1, fun j => if j = k then u1 else X.2.2 j) ++ (mW cI cZ ma u2 ++ oW cL ou f)) := hD
  refine lv_pop hx hb d_Law_law_431 rfl ?_
  refine lv_goto (tgt := 669) hx hb d_Law_law_432 (by decide) ?_
  refine W.widen (k := 106 + (i + 1)) (n := 155700 + 6 * (i + 1)) (by show 106 + i ≤ 106 + (i + 1); omega) (by show 155700 + 6 * i ≤ 155700 + 6 * (i + 1); omega) ?_
  exact hN (X.1, X.2.1, fun j => if j = k then u1 else X.2.2 j) u2 f H locs _ (cOk.view hcX hp1) (hp2.1) (by omega) (hp2.2.trans hnb) hP hD hS (lv_sub hl [0, 1, 2, 3, 4] rfl)
set_option maxHeartbeats 8000000 in
set_option maxRecDepth 100000 in
theorem lf_poison {p : Program} {l : Launch} {e : Env} {s : State} {m : MethodId} {below : List Frame} {meth : Method} {c : Code} {D : va_G} {cI cZ cL cV : ClassId} {b L : Nat} {xs : Nat → Int32} {H : Heap} {locs : List Loc} {ls : Array Slot} (ba : Nat → Nat) (A : Nat → Nat → Nat) (vf : Nat → Option Nat) (ma : Nat → Nat) (ou : Nat) (X : CS) (Y : MS) (f : Nat → Int64) (i : Nat) (k : Nat) (n : Nat) (hL : L ≤ 3072) (hi : 6 * i + 6 ≤ L) (C0 : lw_At p s m meth c b L xs) (hst : l.stackTraces = false) (hXo : xOk (fun q : Nat => s.heap.size ≤ q) s s.heap) (hG : gk classes NW D (TYS cI cZ cL cV) s) (hvf9 : ∀ k, k < 3 → vf k = some (A k 0)) (hcX : cOk X) (hmY : mOk Y) (hnX : X.1 ≤ i) (hnb : Y.2.2.2 1 = nI X.1) (e1 : xs (6 * i + 1) = nI k) (hk : k < 3) (e2 : xs (6 * i + 2) = nI n) (hn1 : 1 ≤ n) (hn2 : n ≤ 10000) (hP : va_P D classes (cW cI cV ba A vf X ++ (mW cI cZ ma Y ++ oW cL ou f)) H) (hD : va_D (fun q : Nat => s.heap.size ≤ q) (cW cI cV ba A vf X ++ (mW cI cZ ma Y ++ oW cL ou f))) (hS : va_S (fun q : Nat => s.heap.size ≤ q) s.heap H locs) (hl : lv_has ls 7 [(0, .ref b), (1, .ref (ba 0)), (2, .ref (ma 0)), (3, .ref ou), (4, .int (nI (6 * i)))]) (hN : LN p l e s m below meth c D cI cZ cL cV b ba A vf ma ou i) : W p l e room_1 s m #[Value.ref b] below meth c H locs (106 + i) (155700 + 6 * i) (lw_Z below #[Value.ref b] s) (F0 m 435 ls []) := by
  obtain ⟨hx, hb, hr, hml, hown, hts, hX, hbl, hlocks, hgv⟩ := id C0
  have hA : ∀ q : Nat, s.heap.size ≤ q → (fun q : Nat => s.heap.size ≤ q) q := fun _ h => h
  have hbA : ¬ (fun q : Nat => s.heap.size ≤ q) b := Nat.not_le.mpr hbl
  have htb : ∀ w ∈ TB, w.before #[Value.ref b] s = true := fun w hw => hts w (List.mem_filter.mp hw).1
  have Bd : bd p c code 7 s #[Value.ref b] TB "TileScreenLaw" m := ⟨hx, hb, hml, hown, htb⟩
  refine lv_aload_n hx hb d_Law_law_435 rfl (lv_at hl 1 rfl) ?_
  refine lv_aload_n hx hb d_Law_law_436 rfl (lv_at hl 0 rfl) ?_
  refine lv_iload hx hb d_Law_law_437 (lv_at hl 4 rfl) ?_
  refine lv_iconst (v := nI 1) hx hb d_Law_law_439 (by decide) ?_
  refine nv_iadd hx hb d_Law_law_440 ?_
  refine va_sld hx hb hX hbl hbA hS (vp_in_nI (show 6 * i + 1 < L by omega) (by omega)) d_Law_law_441 ?_
  refine nv_top (y := (nI k)) ((congrArg xs (nI_clamp (by omega))).trans e1) ?_
  refine lv_aload_n hx hb d_Law_law_442 rfl (lv_at hl 0 rfl) ?_
  refine lv_iload hx hb d_Law_law_443 (lv_at hl 4 rfl) ?_
  refine lv_iconst (v := nI 2) hx hb d_Law_law_445 (by decide) ?_
  refine nv_iadd hx hb d_Law_law_446 ?_
  refine va_sld hx hb hX hbl hbA hS (vp_in_nI (show 6 * i + 2 < L by omega) (by omega)) d_Law_law_447 ?_
  refine nv_top (y := (nI n)) ((congrArg xs (nI_clamp (by omega))).trans e2) ?_
  refine lv_aload_n hx hb d_Law_law_448 rfl (lv_at hl 0 rfl) ?_
  refine lv_iload hx hb d_Law_law_449 (lv_at hl 4 rfl) ?_
  refine lv_iconst (v := nI 3) hx hb d_Law_law_451 (by decide) ?_
  refine nv_iadd hx hb d_Law_law_452 ?_
  refine va_sld hx hb hX hbl hbA hS (vp_in_nI (show 6 * i + 3 < L by omega) (by omega)) d_Law_law_453 ?_
  refine nv_top (y := (xs (6 * i + 3))) ((congrArg xs (nI_clamp (by omega)))) ?_
  refine kV_i (wc := cW cI cV ba A vf X) (wr := mW cI cZ ma Y ++ oW cL ou f) (w2 := fun u1 => cW cI cV ba A vf (X.1, X.2.1, fun j => if j = k then u1 else X.2.2 j) ++ (mW cI cZ ma Y ++ oW cL ou f)) [.int (nI k), .int (nI n), .int (xs (6 * i + 3))] [] Bd ⟨gi_app (gi_c0 k_497 (gi_c0 k_498 (gi_c0 k_499 (gi_c0 k_1 gi_nil)))) (gi_tb0 k_500), rfl, by decide, by decide⟩ (show (parseMethodDescriptor "(III)Z").map (fun d => d.parameters.length) = some 3 by decide +kernel) (CI.view k hk (v_poison X.1 X.2.1 (A k) (X.2.2 k) k n (xs (6 * i + 3)) hk (hvf9 k hk) hcX.1 (hcX.2 k) hn1 hn2)) (by decide +kernel) ⟨by show 106 + i + 0 ≤ 601024; omega, by show 155700 + 6 * i + 0 ≤ 7293034; omega⟩ hG hP hD hS hA [0, 1, 2, 3, 4, 5, 6, 7, 8, 9, 10, 11, 12, 13, 14, 15, 16, 17, 18, 19, 20, 21, 22, 23, 24, 25, 26, 27, 28, 29, 30, 31, 32, 33, 34, 35, 36, 37, 38, 39, 40, 41, 42, 43, 44, 45, 46, 47, 48, 49, 50, 51, 52, 53, 54, 55, 56, 57, 58, 59, 60, 61, 62, 63, 64, 65, 66, 67, 68, 69, 70, 71, 72, 73, 74, 75, 76, 77, 78, 79, 80, 81, 82] [83, 84, 85, 86, 87, 88, 89, 90, 91, 92, 93, 94, 95, 96, 97, 98, 99, 100, 101, 102, 103, 104, 105] [23, 24, 25, 26, 27, 28, 29, 30, 31, 32, 33, 34, 35, 36, 37, 38, 39, 40, 41, 42, 43, 44, 45, 46, 47, 48, 49, 50, 51, 52, 53, 54, 55, 56, 57, 58, 59, 60, 61, 62, 63, 64, 65, 66, 67, 68, 69, 70, 71, 72, 73, 74, 75, 76, 77, 78, 79, 80, 81, 82, 83, 84, 85, 86, 87, 88, 89, 90, 91, 92, 93, 94, 95, 96, 97, 98, 99, 100, 101, 102, 103, 104, 105, 0, 1, 2, 3, 4, 5, 6, 7, 8, 9, 10, 11, 12, 13, 14, 15, 16, 17, 18, 19, 20, 21, 22] ok_c (wl_c1 _ _ _) (wl_c2 _ _ _) (fun _ => wl_c3 _ _ _) (q0 := 0) rfl rfl rfl hl.1 rfl (Nat.le_of_ble_eq_true rfl) d_Law_law_454 (fun r1 u1 H locs hp1 hP hD hS => ?_)
  have hP : va_P D classes (cW cI cV ba A vf (X.1, X.2.1, fun j => if j = k then u1 else X.2.2 j) ++ (mW cI cZ ma Y ++ oW cL ou f)) H := hP
  have hD : va_D (fun q : Nat => s.heap.size ≤ q) (cW cI cV ba A vf (X.1, X.2.1, fun j => if j = k then u1 else X.2.2 j) ++ (mW cI cZ ma Y ++ oW cL ou f)) := hD
  refine lv_pop hx hb d_Law_law_457 rfl ?_
  refine lv_aload_n hx hb d_Law_law_458 rfl (lv_at hl 2 rfl) ?_
  refine lv_aload_n hx hb d_Law_law_459 rfl (lv_at hl 0 rfl) ?_
  refine lv_iload hx hb d_Law_law_460 (lv_at hl 4 rfl) ?_
  refine lv_iconst (v := nI 1) hx hb d_Law_law_462 (by decide) ?_
  refine nv_iadd hx hb d_Law_law_463 ?_
  refine va_sld hx hb hX hbl hbA hS (vp_in_nI (show 6 * i + 1 < L by omega) (by omega)) d_Law_law_464 ?_
  refine nv_top (y := (nI k)) ((congrArg xs (nI_clamp (by omega))).trans e1) ?_
  refine lv_aload_n hx hb d_Law_law_465 rfl (lv_at hl 0 rfl) ?_
  refine lv_iload hx hb d_Law_law_466 (lv_at hl 4 rfl) ?_
  refine lv_iconst (v := nI 2) hx hb d_Law_law_468 (by decide) ?_
  refine nv_iadd hx hb d_Law_law_469 ?_
  refine va_sld hx hb hX hbl hbA hS (vp_in_nI (show 6 * i + 2 < L by omega) (by omega)) d_Law_law_470 ?_
  refine nv_top (y := (nI n)) ((congrArg xs (nI_clamp (by omega))).trans e2) ?_
  refine lv_aload_n hx hb d_Law_law_471 rfl (lv_at hl 0 rfl) ?_
  refine lv_iload hx hb d_Law_law_472 (lv_at hl 4 rfl) ?_
  refine lv_iconst (v := nI 3) hx hb d_Law_law_474 (by decide) ?_
  refine nv_iadd hx hb d_Law_law_475 ?_
  refine va_sld hx hb hX hbl hbA hS (vp_in_nI (show 6 * i + 3 < L by omega) (by omega)) d_Law_law_476 ?_
  refine nv_top (y := (xs (6 * i + 3))) ((congrArg xs (nI_clamp (by omega)))) ?_
  refine kV_i (wc := mW cI cZ ma Y) (wr := cW cI cV ba A vf (X.1, X.2.1, fun j => if j = k then u1 else X.2.2 j) ++ oW cL ou f) (w2 := fun u2 => cW cI cV ba A vf (X.1, X.2.1, fun j => if j = k then u1 else X.2.2 j) ++ (mW cI cZ ma u2 ++ oW cL ou f)) [.int (nI k), .int (nI n), .int (xs (6 * i + 3))] [] Bd ⟨gi_app (gi_c0 k_853 (gi_c0 k_854 (gi_c0 k_855 (gi_c0 k_10 gi_nil)))) (gi_tb0 k_856), rfl, by decide, by decide⟩ (show (parseMethodDescriptor "(III)Z").map (fun d => d.parameters.length) = some 3 by decide +kernel) (m_poison Y k n (xs (6 * i + 3)) hmY hk hn1 hn2) (by decide +kernel) ⟨by show 106 + i + 0 ≤ 601024; omega, by show 155700 + 6 * i + 0 ≤ 7293034; omega⟩ hG hP hD hS hA [83, 84, 85, 86, 87, 88, 89, 90, 91, 92, 93, 94, 95, 96, 97, 98, 99, 100, 101, 102, 103, 104] [0, 1, 2, 3, 4, 5, 6, 7, 8, 9, 10, 11, 12, 13, 14, 15, 16, 17, 18, 19, 20, 21, 22, 23, 24, 25, 26, 27, 28, 29, 30, 31, 32, 33, 34, 35, 36, 37, 38, 39, 40, 41, 42, 43, 44, 45, 46, 47, 48, 49, 50, 51, 52, 53, 54, 55, 56, 57, 58, 59, 60, 61, 62, 63, 64, 65, 66, 67, 68, 69, 70, 71, 72, 73, 74, 75, 76, 77, 78, 79, 80, 81, 82, 105] [0, 1, 2, 3, 4, 5, 6, 7, 8, 9, 10, 11, 12, 13, 14, 15, 16, 17, 18, 19, 20, 21, 22, 23, 24, 25, 26, 27, 28, 29, 30, 31, 32, 33, 34, 35, 36, 37, 38, 39, 40, 41, 42, 43, 44, 45, 46, 47, 48, 49, 50, 51, 52, 53, 54, 55, 56, 57, 58, 59, 60, 61, 62, 63, 64, 65, 66, 67, 68, 69, 70, 71, 72, 73, 74, 75, 76, 77, 78, 79, 80, 81, 82, 84, 85, 86, 87, 88, 89, 90, 91, 92, 93, 94, 95, 96, 97, 98, 99, 100, 101, 102, 103, 104, 105, 83] ok_m (wl_m1 _ _ _) (wl_m2 _ _ _) (fun _ => wl_m3 _ _ _) (q0 := 0) rfl rfl rfl hl.1 rfl (Nat.le_of_ble_eq_true rfl) d_Law_law_477 (fun r2 u2 H locs hp2 hP hD hS => ?_)
  have hP : va_P D classes (cW cI cV ba A vf (X.1, X.2.1, fun j => if j = k then u1 else X.2.2 j) ++ (mW cI cZ ma u2 ++ oW cL ou f)) H := hP
  have hD : va_D (fun q : Nat => s.heap.size ≤ q) (cW cI cV ba A vf (X.1, X.2.1, fun j => if j = k then u1 else X.2.2 j) ++ (mW cI cZ ma u2 ++ oW cL ou f)) := hD
  refine lv_pop hx hb d_Law_law_480 rfl ?_
  refine lv_goto (tgt := 669) hx hb d_Law_law_481 (by decide) ?_
  refine W.widen (k := 106 + (i + 1)) (n := 155700 + 6 * (i + 1)) (by show 106 + i ≤ 106 + (i + 1); omega) (by show 155700 + 6 * i ≤ 155700 + 6 * (i + 1); omega) ?_
  exact hN (X.1, X.2.1, fun j => if j = k then u1 else X.2.2 j) u2 f H locs _ (cOk.view hcX hp1.1) (hp2.1) (by omega) (hp2.2.2.trans hnb) hP hD hS (lv_sub hl [0, 1, 2, 3, 4] rfl)
set_option maxHeartbeats 8000000 in
set_option maxRecDepth 100000 in
theorem lf_poisonN {p : Program} {l : Launch} {e : Env} {s : State} {m : MethodId} {below : List Frame} {meth : Method} {c : Code} {D : va_G} {cI cZ cL cV : ClassId} {b L : Nat} {xs : Nat → Int32} {H : Heap} {locs : List Loc} {ls : Array Slot} (ba : Nat → Nat) (A : Nat → Nat → Nat) (vf : Nat → Option Nat) (ma : Nat → Nat) (ou : Nat) (X : CS) (Y : MS) (f : Nat → Int64) (i : Nat)  (hL : L ≤ 3072) (hi : 6 * i + 6 ≤ L) (C0 : lw_At p s m meth c b L xs) (hst : l.stackTraces = false) (hXo : xOk (fun q : Nat => s.heap.size ≤ q) s s.heap) (hG : gk classes NW D (TYS cI cZ cL cV) s) (hvf9 : ∀ k, k < 3 → vf k = some (A k 0)) (hcX : cOk X) (hmY : mOk Y) (hnX : X.1 ≤ i) (hnb : Y.2.2.2 1 = nI X.1) (hno : ¬ (vwP (xs (6 * i + 1)) ∧ ∃ q, 1 ≤ q ∧ q ≤ 10000 ∧ xs (6 * i + 2) = nI q)) (hP : va_P D classes (cW cI cV ba A vf X ++ (mW cI cZ ma Y ++ oW cL ou f)) H) (hD : va_D (fun q : Nat => s.heap.size ≤ q) (cW cI cV ba A vf X ++ (mW cI cZ ma Y ++ oW cL ou f))) (hS : va_S (fun q : Nat => s.heap.size ≤ q) s.heap H locs) (hl : lv_has ls 7 [(0, .ref b), (1, .ref (ba 0)), (2, .ref (ma 0)), (3, .ref ou), (4, .int (nI (6 * i)))]) (hN : LN p l e s m below meth c D cI cZ cL cV b ba A vf ma ou i) : W p l e room_1 s m #[Value.ref b] below meth c H locs (106 + i) (155700 + 6 * i) (lw_Z below #[Value.ref b] s) (F0 m 435 ls []) := by
  obtain ⟨hx, hb, hr, hml, hown, hts, hX, hbl, hlocks, hgv⟩ := id C0
  have hA : ∀ q : Nat, s.heap.size ≤ q → (fun q : Nat => s.heap.size ≤ q) q := fun _ h => h
  have hbA : ¬ (fun q : Nat => s.heap.size ≤ q) b := Nat.not_le.mpr hbl
  have htb : ∀ w ∈ TB, w.before #[Value.ref b] s = true := fun w hw => hts w (List.mem_filter.mp hw).1
  have Bd : bd p c code 7 s #[Value.ref b] TB "TileScreenLaw" m := ⟨hx, hb, hml, hown, htb⟩
  refine lv_aload_n hx hb d_Law_law_435 rfl (lv_at hl 1 rfl) ?_
  refine lv_aload_n hx hb d_Law_law_436 rfl (lv_at hl 0 rfl) ?_
  refine lv_iload hx hb d_Law_law_437 (lv_at hl 4 rfl) ?_
  refine lv_iconst (v := nI 1) hx hb d_Law_law_439 (by decide) ?_
  refine nv_iadd hx hb d_Law_law_440 ?_
  refine va_sld hx hb hX hbl hbA hS (vp_in_nI (show 6 * i + 1 < L by omega) (by omega)) d_Law_law_441 ?_
  refine nv_top (y := (xs (6 * i + 1))) ((congrArg xs (nI_clamp (by omega)))) ?_
  refine lv_aload_n hx hb d_Law_law_442 rfl (lv_at hl 0 rfl) ?_
  refine lv_iload hx hb d_Law_law_443 (lv_at hl 4 rfl) ?_
  refine lv_iconst (v := nI 2) hx hb d_Law_law_445 (by decide) ?_
  refine nv_iadd hx hb d_Law_law_446 ?_
  refine va_sld hx hb hX hbl hbA hS (vp_in_nI (show 6 * i + 2 < L by omega) (by omega)) d_Law_law_447 ?_
  refine nv_top (y := (xs (6 * i + 2))) ((congrArg xs (nI_clamp (by omega)))) ?_
  refine lv_aload_n hx hb d_Law_law_448 rfl (lv_at hl 0 rfl) ?_
  refine lv_iload hx hb d_Law_law_449 (lv_at hl 4 rfl) ?_
  refine lv_iconst (v := nI 3) hx hb d_Law_law_451 (by decide) ?_
  refine nv_iadd hx hb d_Law_law_452 ?_
  refine va_sld hx hb hX hbl hbA hS (vp_in_nI (show 6 * i + 3 < L by omega) (by omega)) d_Law_law_453 ?_
  refine nv_top (y := (xs (6 * i + 3))) ((congrArg xs (nI_clamp (by omega)))) ?_
  refine kV_i (wc := cW cI cV ba A vf X) (wr := mW cI cZ ma Y ++ oW cL ou f) (w2 := fun u1 => cW cI cV ba A vf X ++ (mW cI cZ ma Y ++ oW cL ou f)) [.int (xs (6 * i + 1)), .int (xs (6 * i + 2)), .int (xs (6 * i + 3))] [] Bd ⟨gi_app (gi_c0 k_497 (gi_c0 k_498 (gi_c0 k_499 (gi_c0 k_1 gi_nil)))) (gi_tb0 k_500), rfl, by decide, by decide⟩ (show (parseMethodDescriptor "(III)Z").map (fun d => d.parameters.length) = some 3 by decide +kernel) (CI.no (c_Scr_poison_no (ba 0) (ba 1) (ba 3) (ba 5) (ba 7) X.1 (xs (6 * i + 1)) (xs (6 * i + 2)) (xs (6 * i + 3)) hno)) (by decide +kernel) ⟨by show 106 + i + 0 ≤ 601024; omega, by show 155700 + 6 * i + 0 ≤ 7293034; omega⟩ hG hP hD hS hA [0, 1, 2, 3, 4, 5, 6, 7, 8, 9, 10, 11, 12, 13, 14, 15, 16, 17, 18, 19, 20, 21, 22, 23, 24, 25, 26, 27, 28, 29, 30, 31, 32, 33, 34, 35, 36, 37, 38, 39, 40, 41, 42, 43, 44, 45, 46, 47, 48, 49, 50, 51, 52, 53, 54, 55, 56, 57, 58, 59, 60, 61, 62, 63, 64, 65, 66, 67, 68, 69, 70, 71, 72, 73, 74, 75, 76, 77, 78, 79, 80, 81, 82] [83, 84, 85, 86, 87, 88, 89, 90, 91, 92, 93, 94, 95, 96, 97, 98, 99, 100, 101, 102, 103, 104, 105] [23, 24, 25, 26, 27, 28, 29, 30, 31, 32, 33, 34, 35, 36, 37, 38, 39, 40, 41, 42, 43, 44, 45, 46, 47, 48, 49, 50, 51, 52, 53, 54, 55, 56, 57, 58, 59, 60, 61, 62, 63, 64, 65, 66, 67, 68, 69, 70, 71, 72, 73, 74, 75, 76, 77, 78, 79, 80, 81, 82, 83, 84, 85, 86, 87, 88, 89, 90, 91, 92, 93, 94, 95, 96, 97, 98, 99, 100, 101, 102, 103, 104, 105, 0, 1, 2, 3, 4, 5, 6, 7, 8, 9, 10, 11, 12, 13, 14, 15, 16, 17, 18, 19, 20, 21, 22] ok_c (wl_c1 _ _ _) (wl_c2 _ _ _) (fun _ => wl_c3 _ _ _) (q0 := 0) rfl rfl rfl hl.1 rfl (Nat.le_of_ble_eq_true rfl) d_Law_law_454 (fun r1 u1 H locs hp1 hP hD hS => ?_)
  have hP : va_P D classes (cW cI cV ba A vf X ++ (mW cI cZ ma Y ++ oW cL ou f)) H := hP
  have hD : va_D (fun q : Nat => s.heap.size ≤ q) (cW cI cV ba A vf X ++ (mW cI cZ ma Y ++ oW cL ou f)) := hD
  refine lv_pop hx hb d_Law_law_457 rfl ?_
  refine lv_aload_n hx hb d_Law_law_458 rfl (lv_at hl 2 rfl) ?_
  refine lv_aload_n hx hb d_Law_law_459 rfl (lv_at hl 0 rfl) ?_
  refine lv_iload hx hb d_Law_law_460 (lv_at hl 4 rfl) ?_
  refine lv_iconst (v := nI 1) hx hb d_Law_law_462 (by decide) ?_
  refine nv_iadd hx hb d_Law_law_463 ?_
  refine va_sld hx hb hX hbl hbA hS (vp_in_nI (show 6 * i + 1 < L by omega) (by omega)) d_Law_law_464 ?_
  refine nv_top (y := (xs (6 * i + 1))) ((congrArg xs (nI_clamp (by omega)))) ?_
  refine lv_aload_n hx hb d_Law_law_465 rfl (lv_at hl 0 rfl) ?_
  refine lv_iload hx hb d_Law_law_466 (lv_at hl 4 rfl) ?_
  refine lv_iconst (v := nI 2) hx hb d_Law_law_468 (by decide) ?_
  refine nv_iadd hx hb d_Law_law_469 ?_
  refine va_sld hx hb hX hbl hbA hS (vp_in_nI (show 6 * i + 2 < L by omega) (by omega)) d_Law_law_470 ?_
  refine nv_top (y := (xs (6 * i + 2))) ((congrArg xs (nI_clamp (by omega)))) ?_
  refine lv_aload_n hx hb d_Law_law_471 rfl (lv_at hl 0 rfl) ?_
  refine lv_iload hx hb d_Law_law_472 (lv_at hl 4 rfl) ?_
  refine lv_iconst (v := nI 3) hx hb d_Law_law_474 (by decide) ?_
  refine nv_iadd hx hb d_Law_law_475 ?_
  refine va_sld hx hb hX hbl hbA hS (vp_in_nI (show 6 * i + 3 < L by omega) (by omega)) d_Law_law_476 ?_
  refine nv_top (y := (xs (6 * i + 3))) ((congrArg xs (nI_clamp (by omega)))) ?_
  refine kV_i (wc := mW cI cZ ma Y) (wr := cW cI cV ba A vf X ++ oW cL ou f) (w2 := fun u2 => cW cI cV ba A vf X ++ (mW cI cZ ma u2 ++ oW cL ou f)) [.int (xs (6 * i + 1)), .int (xs (6 * i + 2)), .int (xs (6 * i + 3))] [] Bd ⟨gi_app (gi_c0 k_853 (gi_c0 k_854 (gi_c0 k_855 (gi_c0 k_10 gi_nil)))) (gi_tb0 k_856), rfl, by decide, by decide⟩ (show (parseMethodDescriptor "(III)Z").map (fun d => d.parameters.length) = some 3 by decide +kernel) (m_poisonN Y (xs (6 * i + 1)) (xs (6 * i + 2)) (xs (6 * i + 3)) hmY hno) (by decide +kernel) ⟨by show 106 + i + 0 ≤ 601024; omega, by show 155700 + 6 * i + 0 ≤ 7293034; omega⟩ hG hP hD hS hA [83, 84, 85, 86, 87, 88, 89, 90, 91, 92, 93, 94, 95, 96, 97, 98, 99, 100, 101, 102, 103, 104] [0, 1, 2, 3, 4, 5, 6, 7, 8, 9, 10, 11, 12, 13, 14, 15, 16, 17, 18, 19, 20, 21, 22, 23, 24, 25, 26, 27, 28, 29, 30, 31, 32, 33, 34, 35, 36, 37, 38, 39, 40, 41, 42, 43, 44, 45, 46, 47, 48, 49, 50, 51, 52, 53, 54, 55, 56, 57, 58, 59, 60, 61, 62, 63, 64, 65, 66, 67, 68, 69, 70, 71, 72, 73, 74, 75, 76, 77, 78, 79, 80, 81, 82, 105] [0, 1, 2, 3, 4, 5, 6, 7, 8, 9, 10, 11, 12, 13, 14, 15, 16, 17, 18, 19, 20, 21, 22, 23, 24, 25, 26, 27, 28, 29, 30, 31, 32, 33, 34, 35, 36, 37, 38, 39, 40, 41, 42, 43, 44, 45, 46, 47, 48, 49, 50, 51, 52, 53, 54, 55, 56, 57, 58, 59, 60, 61, 62, 63, 64, 65, 66, 67, 68, 69, 70, 71, 72, 73, 74, 75, 76, 77, 78, 79, 80, 81, 82, 84, 85, 86, 87, 88, 89, 90, 91, 92, 93, 94, 95, 96, 97, 98, 99, 100, 101, 102, 103, 104, 105, 83] ok_m (wl_m1 _ _ _) (wl_m2 _ _ _) (fun _ => wl_m3 _ _ _) (q0 := 0) rfl rfl rfl hl.1 rfl (Nat.le_of_ble_eq_true rfl) d_Law_law_477 (fun r2 u2 H locs hp2 hP hD hS => ?_)
  have hP : va_P D classes (cW cI cV ba A vf X ++ (mW cI cZ ma u2 ++ oW cL ou f)) H := hP
  have hD : va_D (fun q : Nat => s.heap.size ≤ q) (cW cI cV ba A vf X ++ (mW cI cZ ma u2 ++ oW cL ou f)) := hD
  refine lv_pop hx hb d_Law_law_480 rfl ?_
  refine lv_goto (tgt := 669) hx hb d_Law_law_481 (by decide) ?_
  refine W.widen (k := 106 + (i + 1)) (n := 155700 + 6 * (i + 1)) (by show 106 + i ≤ 106 + (i + 1); omega) (by show 155700 + 6 * i ≤ 155700 + 6 * (i + 1); omega) ?_
  exact hN X u2 f H locs _ (hcX) (hp2.1) (by omega) (hp2.2.2.trans hnb) hP hD hS (lv_sub hl [0, 1, 2, 3, 4] rfl)
set_option maxHeartbeats 8000000 in
set_option maxRecDepth 100000 in
theorem lf_shown {p : Program} {l : Launch} {e : Env} {s : State} {m : MethodId} {below : List Frame} {meth : Method} {c : Code} {D : va_G} {cI cZ cL cV : ClassId} {b L : Nat} {xs : Nat → Int32} {H : Heap} {locs : List Loc} {ls : Array Slot} (ba : Nat → Nat) (A : Nat → Nat → Nat) (vf : Nat → Option Nat) (ma : Nat → Nat) (ou : Nat) (X : CS) (Y : MS) (f : Nat → Int64) (i : Nat) (k : Nat) (hL : L ≤ 3072) (hi : 6 * i + 6 ≤ L) (C0 : lw_At p s m meth c b L xs) (hst : l.stackTraces = false) (hXo : xOk (fun q : Nat => s.heap.size ≤ q) s s.heap) (hG : gk classes NW D (TYS cI cZ cL cV) s) (hvf9 : ∀ k, k < 3 → vf k = some (A k 0)) (hcX : cOk X) (hmY : mOk Y) (hnX : X.1 ≤ i) (hnb : Y.2.2.2 1 = nI X.1) (e1 : xs (6 * i + 1) = nI k) (hk : k < 3) (hP : va_P D classes (cW cI cV ba A vf X ++ (mW cI cZ ma Y ++ oW cL ou f)) H) (hD : va_D (fun q : Nat => s.heap.size ≤ q) (cW cI cV ba A vf X ++ (mW cI cZ ma Y ++ oW cL ou f))) (hS : va_S (fun q : Nat => s.heap.size ≤ q) s.heap H locs) (hl : lv_has ls 7 [(0, .ref b), (1, .ref (ba 0)), (2, .ref (ma 0)), (3, .ref ou), (4, .int (nI (6 * i)))]) (hN : LN p l e s m below meth c D cI cZ cL cV b ba A vf ma ou i) : W p l e room_1 s m #[Value.ref b] below meth c H locs (106 + i) (155700 + 6 * i) (lw_Z below #[Value.ref b] s) (F0 m 484 ls []) := by
  obtain ⟨hx, hb, hr, hml, hown, hts, hX, hbl, hlocks, hgv⟩ := id C0
  have hA : ∀ q : Nat, s.heap.size ≤ q → (fun q : Nat => s.heap.size ≤ q) q := fun _ h => h
  have hbA : ¬ (fun q : Nat => s.heap.size ≤ q) b := Nat.not_le.mpr hbl
  have htb : ∀ w ∈ TB, w.before #[Value.ref b] s = true := fun w hw => hts w (List.mem_filter.mp hw).1
  have Bd : bd p c code 7 s #[Value.ref b] TB "TileScreenLaw" m := ⟨hx, hb, hml, hown, htb⟩
  refine lv_aload_n hx hb d_Law_law_484 rfl (lv_at hl 1 rfl) ?_
  refine lv_aload_n hx hb d_Law_law_485 rfl (lv_at hl 0 rfl) ?_
  refine lv_iload hx hb d_Law_law_486 (lv_at hl 4 rfl) ?_
  refine lv_iconst (v := nI 1) hx hb d_Law_law_488 (by decide) ?_
  refine nv_iadd hx hb d_Law_law_489 ?_
  refine va_sld hx hb hX hbl hbA hS (vp_in_nI (show 6 * i + 1 < L by omega) (by omega)) d_Law_law_490 ?_
  refine nv_top (y := (nI k)) ((congrArg xs (nI_clamp (by omega))).trans e1) ?_
  refine kV_i (wc := cW cI cV ba A vf X) (wr := mW cI cZ ma Y ++ oW cL ou f) (w2 := fun u1 => cW cI cV ba A vf (X.1, X.2.1, fun j => if j = k then u1 else X.2.2 j) ++ (mW cI cZ ma Y ++ oW cL ou f)) [.int (nI k)] [] Bd ⟨gi_app (gi_c0 k_505 (gi_c0 k_506 (gi_c0 k_507 (gi_c0 k_1 gi_nil)))) (gi_tb0 k_508), rfl, by decide, by decide⟩ (show (parseMethodDescriptor "(I)I").map (fun d => d.parameters.length) = some 1 by decide +kernel) (CI.view k hk (v_shown X.1 X.2.1 (A k) (X.2.2 k) k  hk (hvf9 k hk) hcX.1 (hcX.2 k) )) (by decide +kernel) ⟨by show 106 + i + 0 ≤ 601024; omega, by show 155700 + 6 * i + 0 ≤ 7293034; omega⟩ hG hP hD hS hA [0, 1, 2, 3, 4, 5, 6, 7, 8, 9, 10, 11, 12, 13, 14, 15, 16, 17, 18, 19, 20, 21, 22, 23, 24, 25, 26, 27, 28, 29, 30, 31, 32, 33, 34, 35, 36, 37, 38, 39, 40, 41, 42, 43, 44, 45, 46, 47, 48, 49, 50, 51, 52, 53, 54, 55, 56, 57, 58, 59, 60, 61, 62, 63, 64, 65, 66, 67, 68, 69, 70, 71, 72, 73, 74, 75, 76, 77, 78, 79, 80, 81, 82] [83, 84, 85, 86, 87, 88, 89, 90, 91, 92, 93, 94, 95, 96, 97, 98, 99, 100, 101, 102, 103, 104, 105] [23, 24, 25, 26, 27, 28, 29, 30, 31, 32, 33, 34, 35, 36, 37, 38, 39, 40, 41, 42, 43, 44, 45, 46, 47, 48, 49, 50, 51, 52, 53, 54, 55, 56, 57, 58, 59, 60, 61, 62, 63, 64, 65, 66, 67, 68, 69, 70, 71, 72, 73, 74, 75, 76, 77, 78, 79, 80, 81, 82, 83, 84, 85, 86, 87, 88, 89, 90, 91, 92, 93, 94, 95, 96, 97, 98, 99, 100, 101, 102, 103, 104, 105, 0, 1, 2, 3, 4, 5, 6, 7, 8, 9, 10, 11, 12, 13, 14, 15, 16, 17, 18, 19, 20, 21, 22] ok_c (wl_c1 _ _ _) (wl_c2 _ _ _) (fun _ => wl_c3 _ _ _) (q0 := 0) rfl rfl rfl hl.1 rfl (Nat.le_of_ble_eq_true rfl) d_Law_law_491 (fun r1 u1 H locs hp1 hP hD hS => ?_)
  have hP : va_P D classes (cW cI cV ba A vf (X.1, X.2.1, fun j => if j = k then u1 else X.2.2 j) ++ (mW cI cZ ma Y ++ oW cL ou f)) H := hP
  have hD : va_D (fun q : Nat => s.heap.size ≤ q) (cW cI cV ba A vf (X.1, X.2.1, fun j => if j = k then u1 else X.2.2 j) ++ (mW cI cZ ma Y ++ oW cL ou f)) := hD
  refine lv_pop hx hb d_Law_law_494 rfl ?_
  refine lv_aload_n hx hb d_Law_law_495 rfl (lv_at hl 2 rfl) ?_
  refine lv_aload_n hx hb d_Law_law_496 rfl (lv_at hl 0 rfl) ?_
  refine lv_iload hx hb d_Law_law_497 (lv_at hl 4 rfl) ?_
  refine lv_iconst (v := nI 1) hx hb d_Law_law_499 (by decide) ?_
  refine nv_iadd hx hb d_Law_law_500 ?_
  refine va_sld hx hb hX hbl hbA hS (vp_in_nI (show 6 * i + 1 < L by omega) (by omega)) d_Law_law_501 ?_
  refine nv_top (y := (nI k)) ((congrArg xs (nI_clamp (by omega))).trans e1) ?_
  refine kV_i (wc := mW cI cZ ma Y) (wr := cW cI cV ba A vf (X.1, X.2.1, fun j => if j = k then u1 else X.2.2 j) ++ oW cL ou f) (w2 := fun u2 => cW cI cV ba A vf (X.1, X.2.1, fun j => if j = k then u1 else X.2.2 j) ++ (mW cI cZ ma u2 ++ oW cL ou f)) [.int (nI k)] [] Bd ⟨gi_app (gi_c0 k_857 (gi_c0 k_858 (gi_c0 k_859 (gi_c0 k_10 gi_nil)))) (gi_tb0 k_860), rfl, by decide, by decide⟩ (show (parseMethodDescriptor "(I)I").map (fun d => d.parameters.length) = some 1 by decide +kernel) (m_shown Y k hmY hk) (by decide +kernel) ⟨by show 106 + i + 0 ≤ 601024; omega, by show 155700 + 6 * i + 0 ≤ 7293034; omega⟩ hG hP hD hS hA [83, 84, 85, 86, 87, 88, 89, 90, 91, 92, 93, 94, 95, 96, 97, 98, 99, 100, 101, 102, 103, 104] [0, 1, 2, 3, 4, 5, 6, 7, 8, 9, 10, 11, 12, 13, 14, 15, 16, 17, 18, 19, 20, 21, 22, 23, 24, 25, 26, 27, 28, 29, 30, 31, 32, 33, 34, 35, 36, 37, 38, 39, 40, 41, 42, 43, 44, 45, 46, 47, 48, 49, 50, 51, 52, 53, 54, 55, 56, 57, 58, 59, 60, 61, 62, 63, 64, 65, 66, 67, 68, 69, 70, 71, 72, 73, 74, 75, 76, 77, 78, 79, 80, 81, 82, 105] [0, 1, 2, 3, 4, 5, 6, 7, 8, 9, 10, 11, 12, 13, 14, 15, 16, 17, 18, 19, 20, 21, 22, 23, 24, 25, 26, 27, 28, 29, 30, 31, 32, 33, 34, 35, 36, 37, 38, 39, 40, 41, 42, 43, 44, 45, 46, 47, 48, 49, 50, 51, 52, 53, 54, 55, 56, 57, 58, 59, 60, 61, 62, 63, 64, 65, 66, 67, 68, 69, 70, 71, 72, 73, 74, 75, 76, 77, 78, 79, 80, 81, 82, 84, 85, 86, 87, 88, 89, 90, 91, 92, 93, 94, 95, 96, 97, 98, 99, 100, 101, 102, 103, 104, 105, 83] ok_m (wl_m1 _ _ _) (wl_m2 _ _ _) (fun _ => wl_m3 _ _ _) (q0 := 0) rfl rfl rfl hl.1 rfl (Nat.le_of_ble_eq_true rfl) d_Law_law_502 (fun r2 u2 H locs hp2 hP hD hS => ?_)
  have hP : va_P D classes (cW cI cV ba A vf (X.1, X.2.1, fun j => if j = k then u1 else X.2.2 j) ++ (mW cI cZ ma u2 ++ oW cL ou f)) H := hP
  have hD : va_D (fun q : Nat => s.heap.size ≤ q) (cW cI cV ba A vf (X.1, X.2.1, fun j => if j = k then u1 else X.2.2 j) ++ (mW cI cZ ma u2 ++ oW cL ou f)) := hD
  refine lv_pop hx hb d_Law_law_505 rfl ?_
  refine lv_goto (tgt := 669) hx hb d_Law_law_506 (by decide) ?_
  refine W.widen (k := 106 + (i + 1)) (n := 155700 + 6 * (i + 1)) (by show 106 + i ≤ 106 + (i + 1); omega) (by show 155700 + 6 * i ≤ 155700 + 6 * (i + 1); omega) ?_
  exact hN (X.1, X.2.1, fun j => if j = k then u1 else X.2.2 j) u2 f H locs _ (cOk.view hcX hp1) (hp2.1) (by omega) (hp2.2.trans hnb) hP hD hS (lv_sub hl [0, 1, 2, 3, 4] rfl)
set_option maxHeartbeats 8000000 in
set_option maxRecDepth 100000 in
theorem lf_atV {p : Program} {l : Launch} {e : Env} {s : State} {m : MethodId} {below : List Frame} {meth : Method} {c : Code} {D : va_G} {cI cZ cL cV : ClassId} {b L : Nat} {xs : Nat → Int32} {H : Heap} {locs : List Loc} {ls : Array Slot} (ba : Nat → Nat) (A : Nat → Nat → Nat) (vf : Nat → Option Nat) (ma : Nat → Nat) (ou : Nat) (X : CS) (Y : MS) (f : Nat → Int64) (i : Nat) (k : Nat) (x9 : Nat) (y9 : Nat) (hL : L ≤ 3072) (hi : 6 * i + 6 ≤ L) (C0 : lw_At p s m meth c b L xs) (hst : l.stackTraces = false) (hXo : xOk (fun q : Nat => s.heap.size ≤ q) s s.heap) (hG : gk classes NW D (TYS cI cZ cL cV) s) (hvf9 : ∀ k, k < 3 → vf k = some (A k 0)) (hcX : cOk X) (hmY : mOk Y) (hnX : X.1 ≤ i) (hnb : Y.2.2.2 1 = nI X.1) (e1 : xs (6 * i + 1) = nI k) (hk : k < 3) (e2 : xs (6 * i + 2) = nI x9) (e3 : xs (6 * i + 3) = nI y9) (hx1 : x9 < 64) (hy1 : y9 < 48) (hP : va_P D classes (cW cI cV ba A vf X ++ (mW cI cZ ma Y ++ oW cL ou f)) H) (hD : va_D (fun q : Nat => s.heap.size ≤ q) (cW cI cV ba A vf X ++ (mW cI cZ ma Y ++ oW cL ou f))) (hS : va_S (fun q : Nat => s.heap.size ≤ q) s.heap H locs) (hl : lv_has ls 7 [(0, .ref b), (1, .ref (ba 0)), (2, .ref (ma 0)), (3, .ref ou), (4, .int (nI (6 * i)))]) (hN : LN p l e s m below meth c D cI cZ cL cV b ba A vf ma ou i) : W p l e room_1 s m #[Value.ref b] below meth c H locs (106 + i) (155700 + 6 * i) (lw_Z below #[Value.ref b] s) (F0 m 509 ls []) := by
  obtain ⟨hx, hb, hr, hml, hown, hts, hX, hbl, hlocks, hgv⟩ := id C0
  have hA : ∀ q : Nat, s.heap.size ≤ q → (fun q : Nat => s.heap.size ≤ q) q := fun _ h => h
  have hbA : ¬ (fun q : Nat => s.heap.size ≤ q) b := Nat.not_le.mpr hbl
  have htb : ∀ w ∈ TB, w.before #[Value.ref b] s = true := fun w hw => hts w (List.mem_filter.mp hw).1
  have Bd : bd p c code 7 s #[Value.ref b] TB "TileScreenLaw" m := ⟨hx, hb, hml, hown, htb⟩
  refine lv_aload_n hx hb d_Law_law_509 rfl (lv_at hl 1 rfl) ?_
  refine lv_aload_n hx hb d_Law_law_510 rfl (lv_at hl 0 rfl) ?_
  refine lv_iload hx hb d_Law_law_511 (lv_at hl 4 rfl) ?_
  refine lv_iconst (v := nI 1) hx hb d_Law_law_513 (by decide) ?_
  refine nv_iadd hx hb d_Law_law_514 ?_
  refine va_sld hx hb hX hbl hbA hS (vp_in_nI (show 6 * i + 1 < L by omega) (by omega)) d_Law_law_515 ?_
  refine nv_top (y := (nI k)) ((congrArg xs (nI_clamp (by omega))).trans e1) ?_
  refine lv_aload_n hx hb d_Law_law_516 rfl (lv_at hl 0 rfl) ?_
  refine lv_iload hx hb d_Law_law_517 (lv_at hl 4 rfl) ?_
  refine lv_iconst (v := nI 2) hx hb d_Law_law_519 (by decide) ?_
  refine nv_iadd hx hb d_Law_law_520 ?_
  refine va_sld hx hb hX hbl hbA hS (vp_in_nI (show 6 * i + 2 < L by omega) (by omega)) d_Law_law_521 ?_
  refine nv_top (y := (nI x9)) ((congrArg xs (nI_clamp (by omega))).trans e2) ?_
  refine lv_aload_n hx hb d_Law_law_522 rfl (lv_at hl 0 rfl) ?_
  refine lv_iload hx hb d_Law_law_523 (lv_at hl 4 rfl) ?_
  refine lv_iconst (v := nI 3) hx hb d_Law_law_525 (by decide) ?_
  refine nv_iadd hx hb d_Law_law_526 ?_
  refine va_sld hx hb hX hbl hbA hS (vp_in_nI (show 6 * i + 3 < L by omega) (by omega)) d_Law_law_527 ?_
  refine nv_top (y := (nI y9)) ((congrArg xs (nI_clamp (by omega))).trans e3) ?_
  refine kV_i (wc := cW cI cV ba A vf X) (wr := mW cI cZ ma Y ++ oW cL ou f) (w2 := fun u1 => cW cI cV ba A vf (X.1, X.2.1, fun j => if j = k then u1 else X.2.2 j) ++ (mW cI cZ ma Y ++ oW cL ou f)) [.int (nI k), .int (nI x9), .int (nI y9)] [] Bd ⟨gi_app (gi_c0 k_512 (gi_c0 k_513 (gi_c0 k_514 (gi_c0 k_1 gi_nil)))) (gi_tb0 k_515), rfl, by decide, by decide⟩ (show (parseMethodDescriptor "(III)I").map (fun d => d.parameters.length) = some 3 by decide +kernel) (CI.view k hk (v_at X.1 X.2.1 (A k) (X.2.2 k) k x9 y9 hk (hvf9 k hk) hcX.1 (hcX.2 k) hx1 hy1)) (by decide +kernel) ⟨by show 106 + i + 0 ≤ 601024; omega, by show 155700 + 6 * i + 0 ≤ 7293034; omega⟩ hG hP hD hS hA [0, 1, 2, 3, 4, 5, 6, 7, 8, 9, 10, 11, 12, 13, 14, 15, 16, 17, 18, 19, 20, 21, 22, 23, 24, 25, 26, 27, 28, 29, 30, 31, 32, 33, 34, 35, 36, 37, 38, 39, 40, 41, 42, 43, 44, 45, 46, 47, 48, 49, 50, 51, 52, 53, 54, 55, 56, 57, 58, 59, 60, 61, 62, 63, 64, 65, 66, 67, 68, 69, 70, 71, 72, 73, 74, 75, 76, 77, 78, 79, 80, 81, 82] [83, 84, 85, 86, 87, 88, 89, 90, 91, 92, 93, 94, 95, 96, 97, 98, 99, 100, 101, 102, 103, 104, 105] [23, 24, 25, 26, 27, 28, 29, 30, 31, 32, 33, 34, 35, 36, 37, 38, 39, 40, 41, 42, 43, 44, 45, 46, 47, 48, 49, 50, 51, 52, 53, 54, 55, 56, 57, 58, 59, 60, 61, 62, 63, 64, 65, 66, 67, 68, 69, 70, 71, 72, 73, 74, 75, 76, 77, 78, 79, 80, 81, 82, 83, 84, 85, 86, 87, 88, 89, 90, 91, 92, 93, 94, 95, 96, 97, 98, 99, 100, 101, 102, 103, 104, 105, 0, 1, 2, 3, 4, 5, 6, 7, 8, 9, 10, 11, 12, 13, 14, 15, 16, 17, 18, 19, 20, 21, 22] ok_c (wl_c1 _ _ _) (wl_c2 _ _ _) (fun _ => wl_c3 _ _ _) (q0 := 0) rfl rfl rfl hl.1 rfl (Nat.le_of_ble_eq_true rfl) d_Law_law_528 (fun r1 u1 H locs hp1 hP hD hS => ?_)
  have hP : va_P D classes (cW cI cV ba A vf (X.1, X.2.1, fun j => if j = k then u1 else X.2.2 j) ++ (mW cI cZ ma Y ++ oW cL ou f)) H := hP
  have hD : va_D (fun q : Nat => s.heap.size ≤ q) (cW cI cV ba A vf (X.1, X.2.1, fun j => if j = k then u1 else X.2.2 j) ++ (mW cI cZ ma Y ++ oW cL ou f)) := hD
  refine lv_pop hx hb d_Law_law_531 rfl ?_
  refine lv_aload_n hx hb d_Law_law_532 rfl (lv_at hl 2 rfl) ?_
  refine lv_aload_n hx hb d_Law_law_533 rfl (lv_at hl 0 rfl) ?_
  refine lv_iload hx hb d_Law_law_534 (lv_at hl 4 rfl) ?_
  refine lv_iconst (v := nI 1) hx hb d_Law_law_536 (by decide) ?_
  refine nv_iadd hx hb d_Law_law_537 ?_
  refine va_sld hx hb hX hbl hbA hS (vp_in_nI (show 6 * i + 1 < L by omega) (by omega)) d_Law_law_538 ?_
  refine nv_top (y := (nI k)) ((congrArg xs (nI_clamp (by omega))).trans e1) ?_
  refine lv_aload_n hx hb d_Law_law_539 rfl (lv_at hl 0 rfl) ?_
  refine lv_iload hx hb d_Law_law_540 (lv_at hl 4 rfl) ?_
  refine lv_iconst (v := nI 2) hx hb d_Law_law_542 (by decide) ?_
  refine nv_iadd hx hb d_Law_law_543 ?_
  refine va_sld hx hb hX hbl hbA hS (vp_in_nI (show 6 * i + 2 < L by omega) (by omega)) d_Law_law_544 ?_
  refine nv_top (y := (nI x9)) ((congrArg xs (nI_clamp (by omega))).trans e2) ?_
  refine lv_aload_n hx hb d_Law_law_545 rfl (lv_at hl 0 rfl) ?_
  refine lv_iload hx hb d_Law_law_546 (lv_at hl 4 rfl) ?_
  refine lv_iconst (v := nI 3) hx hb d_Law_law_548 (by decide) ?_
  refine nv_iadd hx hb d_Law_law_549 ?_
  refine va_sld hx hb hX hbl hbA hS (vp_in_nI (show 6 * i + 3 < L by omega) (by omega)) d_Law_law_550 ?_
  refine nv_top (y := (nI y9)) ((congrArg xs (nI_clamp (by omega))).trans e3) ?_
  refine kV_i (wc := mW cI cZ ma Y) (wr := cW cI cV ba A vf (X.1, X.2.1, fun j => if j = k then u1 else X.2.2 j) ++ oW cL ou f) (w2 := fun u2 => cW cI cV ba A vf (X.1, X.2.1, fun j => if j = k then u1 else X.2.2 j) ++ (mW cI cZ ma u2 ++ oW cL ou f)) [.int (nI k), .int (nI x9), .int (nI y9)] [] Bd ⟨gi_app (gi_c0 k_861 (gi_c0 k_862 (gi_c0 k_863 (gi_c0 k_10 gi_nil)))) (gi_tb0 k_864), rfl, by decide, by decide⟩ (show (parseMethodDescriptor "(III)I").map (fun d => d.parameters.length) = some 3 by decide +kernel) (m_atV Y k x9 y9 hmY hk hx1 hy1) (by decide +kernel) ⟨by show 106 + i + 0 ≤ 601024; omega, by show 155700 + 6 * i + 0 ≤ 7293034; omega⟩ hG hP hD hS hA [83, 84, 85, 86, 87, 88, 89, 90, 91, 92, 93, 94, 95, 96, 97, 98, 99, 100, 101, 102, 103, 104] [0, 1, 2, 3, 4, 5, 6, 7, 8, 9, 10, 11, 12, 13, 14, 15, 16, 17, 18, 19, 20, 21, 22, 23, 24, 25, 26, 27, 28, 29, 30, 31, 32, 33, 34, 35, 36, 37, 38, 39, 40, 41, 42, 43, 44, 45, 46, 47, 48, 49, 50, 51, 52, 53, 54, 55, 56, 57, 58, 59, 60, 61, 62, 63, 64, 65, 66, 67, 68, 69, 70, 71, 72, 73, 74, 75, 76, 77, 78, 79, 80, 81, 82, 105] [0, 1, 2, 3, 4, 5, 6, 7, 8, 9, 10, 11, 12, 13, 14, 15, 16, 17, 18, 19, 20, 21, 22, 23, 24, 25, 26, 27, 28, 29, 30, 31, 32, 33, 34, 35, 36, 37, 38, 39, 40, 41, 42, 43, 44, 45, 46, 47, 48, 49, 50, 51, 52, 53, 54, 55, 56, 57, 58, 59, 60, 61, 62, 63, 64, 65, 66, 67, 68, 69, 70, 71, 72, 73, 74, 75, 76, 77, 78, 79, 80, 81, 82, 84, 85, 86, 87, 88, 89, 90, 91, 92, 93, 94, 95, 96, 97, 98, 99, 100, 101, 102, 103, 104, 105, 83] ok_m (wl_m1 _ _ _) (wl_m2 _ _ _) (fun _ => wl_m3 _ _ _) (q0 := 0) rfl rfl rfl hl.1 rfl (Nat.le_of_ble_eq_true rfl) d_Law_law_551 (fun r2 u2 H locs hp2 hP hD hS => ?_)
  have hP : va_P D classes (cW cI cV ba A vf (X.1, X.2.1, fun j => if j = k then u1 else X.2.2 j) ++ (mW cI cZ ma u2 ++ oW cL ou f)) H := hP
  have hD : va_D (fun q : Nat => s.heap.size ≤ q) (cW cI cV ba A vf (X.1, X.2.1, fun j => if j = k then u1 else X.2.2 j) ++ (mW cI cZ ma u2 ++ oW cL ou f)) := hD
  refine lv_pop hx hb d_Law_law_554 rfl ?_
  refine lv_goto (tgt := 669) hx hb d_Law_law_555 (by decide) ?_
  refine W.widen (k := 106 + (i + 1)) (n := 155700 + 6 * (i + 1)) (by show 106 + i ≤ 106 + (i + 1); omega) (by show 155700 + 6 * i ≤ 155700 + 6 * (i + 1); omega) ?_
  exact hN (X.1, X.2.1, fun j => if j = k then u1 else X.2.2 j) u2 f H locs _ (cOk.view hcX hp1) (hp2.1) (by omega) (hp2.2.trans hnb) hP hD hS (lv_sub hl [0, 1, 2, 3, 4] rfl)
set_option maxHeartbeats 8000000 in
set_option maxRecDepth 100000 in
theorem lf_atD {p : Program} {l : Launch} {e : Env} {s : State} {m : MethodId} {below : List Frame} {meth : Method} {c : Code} {D : va_G} {cI cZ cL cV : ClassId} {b L : Nat} {xs : Nat → Int32} {H : Heap} {locs : List Loc} {ls : Array Slot} (ba : Nat → Nat) (A : Nat → Nat → Nat) (vf : Nat → Option Nat) (ma : Nat → Nat) (ou : Nat) (X : CS) (Y : MS) (f : Nat → Int64) (i : Nat) (x9 : Nat) (y9 : Nat) (hL : L ≤ 3072) (hi : 6 * i + 6 ≤ L) (C0 : lw_At p s m meth c b L xs) (hst : l.stackTraces = false) (hXo : xOk (fun q : Nat => s.heap.size ≤ q) s s.heap) (hG : gk classes NW D (TYS cI cZ cL cV) s) (hvf9 : ∀ k, k < 3 → vf k = some (A k 0)) (hcX : cOk X) (hmY : mOk Y) (hnX : X.1 ≤ i) (hnb : Y.2.2.2 1 = nI X.1) (e1 : xs (6 * i + 1) = -1) (e2 : xs (6 * i + 2) = nI x9) (e3 : xs (6 * i + 3) = nI y9) (hx1 : x9 < 64) (hy1 : y9 < 48) (hP : va_P D classes (cW cI cV ba A vf X ++ (mW cI cZ ma Y ++ oW cL ou f)) H) (hD : va_D (fun q : Nat => s.heap.size ≤ q) (cW cI cV ba A vf X ++ (mW cI cZ ma Y ++ oW cL ou f))) (hS : va_S (fun q : Nat => s.heap.size ≤ q) s.heap H locs) (hl : lv_has ls 7 [(0, .ref b), (1, .ref (ba 0)), (2, .ref (ma 0)), (3, .ref ou), (4, .int (nI (6 * i)))]) (hN : LN p l e s m below meth c D cI cZ cL cV b ba A vf ma ou i) : W p l e room_1 s m #[Value.ref b] below meth c H locs (106 + i) (155700 + 6 * i) (lw_Z below #[Value.ref b] s) (F0 m 509 ls []) := by
  obtain ⟨hx, hb, hr, hml, hown, hts, hX, hbl, hlocks, hgv⟩ := id C0
  have hA : ∀ q : Nat, s.heap.size ≤ q → (fun q : Nat => s.heap.size ≤ q) q := fun _ h => h
  have hbA : ¬ (fun q : Nat => s.heap.size ≤ q) b := Nat.not_le.mpr hbl
  have htb : ∀ w ∈ TB, w.before #[Value.ref b] s = true := fun w hw => hts w (List.mem_filter.mp hw).1
  have Bd : bd p c code 7 s #[Value.ref b] TB "TileScreenLaw" m := ⟨hx, hb, hml, hown, htb⟩
  refine lv_aload_n hx hb d_Law_law_509 rfl (lv_at hl 1 rfl) ?_
  refine lv_aload_n hx hb d_Law_law_510 rfl (lv_at hl 0 rfl) ?_
  refine lv_iload hx hb d_Law_law_511 (lv_at hl 4 rfl) ?_
  refine lv_iconst (v := nI 1) hx hb d_Law_law_513 (by decide) ?_
  refine nv_iadd hx hb d_Law_law_514 ?_
  refine va_sld hx hb hX hbl hbA hS (vp_in_nI (show 6 * i + 1 < L by omega) (by omega)) d_Law_law_515 ?_
  refine nv_top (y := (-1)) ((congrArg xs (nI_clamp (by omega))).trans e1) ?_
  refine lv_aload_n hx hb d_Law_law_516 rfl (lv_at hl 0 rfl) ?_
  refine lv_iload hx hb d_Law_law_517 (lv_at hl 4 rfl) ?_
  refine lv_iconst (v := nI 2) hx hb d_Law_law_519 (by decide) ?_
  refine nv_iadd hx hb d_Law_law_520 ?_
  refine va_sld hx hb hX hbl hbA hS (vp_in_nI (show 6 * i + 2 < L by omega) (by omega)) d_Law_law_521 ?_
  refine nv_top (y := (nI x9)) ((congrArg xs (nI_clamp (by omega))).trans e2) ?_
  refine lv_aload_n hx hb d_Law_law_522 rfl (lv_at hl 0 rfl) ?_
  refine lv_iload hx hb d_Law_law_523 (lv_at hl 4 rfl) ?_
  refine lv_iconst (v := nI 3) hx hb d_Law_law_525 (by decide) ?_
  refine nv_iadd hx hb d_Law_law_526 ?_
  refine va_sld hx hb hX hbl hbA hS (vp_in_nI (show 6 * i + 3 < L by omega) (by omega)) d_Law_law_527 ?_
  refine nv_top (y := (nI y9)) ((congrArg xs (nI_clamp (by omega))).trans e3) ?_
  refine kV_i (wc := cW cI cV ba A vf X) (wr := mW cI cZ ma Y ++ oW cL ou f) (w2 := fun u1 => cW cI cV ba A vf (X.1, (fun j => [(X.2.1 0), (X.2.1 1), (X.2.1 2)].getD j (fun _ => 0)), X.2.2) ++ (mW cI cZ ma Y ++ oW cL ou f)) [.int (-1), .int (nI x9), .int (nI y9)] [] Bd ⟨gi_app (gi_c0 k_512 (gi_c0 k_513 (gi_c0 k_514 (gi_c0 k_1 gi_nil)))) (gi_tb0 k_515), rfl, by decide, by decide⟩ (show (parseMethodDescriptor "(III)I").map (fun d => d.parameters.length) = some 3 by decide +kernel) (s_atD X x9 y9 hcX hx1 hy1) (by decide +kernel) ⟨by show 106 + i + 0 ≤ 601024; omega, by show 155700 + 6 * i + 0 ≤ 7293034; omega⟩ hG hP hD hS hA [0, 1, 2, 3, 4, 5, 6, 7, 8, 9, 10, 11, 12, 13, 14, 15, 16, 17, 18, 19, 20, 21, 22, 23, 24, 25, 26, 27, 28, 29, 30, 31, 32, 33, 34, 35, 36, 37, 38, 39, 40, 41, 42, 43, 44, 45, 46, 47, 48, 49, 50, 51, 52, 53, 54, 55, 56, 57, 58, 59, 60, 61, 62, 63, 64, 65, 66, 67, 68, 69, 70, 71, 72, 73, 74, 75, 76, 77, 78, 79, 80, 81, 82] [83, 84, 85, 86, 87, 88, 89, 90, 91, 92, 93, 94, 95, 96, 97, 98, 99, 100, 101, 102, 103, 104, 105] [23, 24, 25, 26, 27, 28, 29, 30, 31, 32, 33, 34, 35, 36, 37, 38, 39, 40, 41, 42, 43, 44, 45, 46, 47, 48, 49, 50, 51, 52, 53, 54, 55, 56, 57, 58, 59, 60, 61, 62, 63, 64, 65, 66, 67, 68, 69, 70, 71, 72, 73, 74, 75, 76, 77, 78, 79, 80, 81, 82, 83, 84, 85, 86, 87, 88, 89, 90, 91, 92, 93, 94, 95, 96, 97, 98, 99, 100, 101, 102, 103, 104, 105, 0, 1, 2, 3, 4, 5, 6, 7, 8, 9, 10, 11, 12, 13, 14, 15, 16, 17, 18, 19, 20, 21, 22] ok_c (wl_c1 _ _ _) (wl_c2 _ _ _) (fun _ => wl_c3 _ _ _) (q0 := 0) rfl rfl rfl hl.1 rfl (Nat.le_of_ble_eq_true rfl) d_Law_law_528 (fun r1 u1 H locs hp1 hP hD hS => ?_)
  have hP : va_P D classes (cW cI cV ba A vf (X.1, (fun j => [(X.2.1 0), (X.2.1 1), (X.2.1 2)].getD j (fun _ => 0)), X.2.2) ++ (mW cI cZ ma Y ++ oW cL ou f)) H := hP
  have hD : va_D (fun q : Nat => s.heap.size ≤ q) (cW cI cV ba A vf (X.1, (fun j => [(X.2.1 0), (X.2.1 1), (X.2.1 2)].getD j (fun _ => 0)), X.2.2) ++ (mW cI cZ ma Y ++ oW cL ou f)) := hD
  refine lv_pop hx hb d_Law_law_531 rfl ?_
  refine lv_aload_n hx hb d_Law_law_532 rfl (lv_at hl 2 rfl) ?_
  refine lv_aload_n hx hb d_Law_law_533 rfl (lv_at hl 0 rfl) ?_
  refine lv_iload hx hb d_Law_law_534 (lv_at hl 4 rfl) ?_
  refine lv_iconst (v := nI 1) hx hb d_Law_law_536 (by decide) ?_
  refine nv_iadd hx hb d_Law_law_537 ?_
  refine va_sld hx hb hX hbl hbA hS (vp_in_nI (show 6 * i + 1 < L by omega) (by omega)) d_Law_law_538 ?_
  refine nv_top (y := (-1)) ((congrArg xs (nI_clamp (by omega))).trans e1) ?_
  refine lv_aload_n hx hb d_Law_law_539 rfl (lv_at hl 0 rfl) ?_
  refine lv_iload hx hb d_Law_law_540 (lv_at hl 4 rfl) ?_
  refine lv_iconst (v := nI 2) hx hb d_Law_law_542 (by decide) ?_
  refine nv_iadd hx hb d_Law_law_543 ?_
  refine va_sld hx hb hX hbl hbA hS (vp_in_nI (show 6 * i + 2 < L by omega) (by omega)) d_Law_law_544 ?_
  refine nv_top (y := (nI x9)) ((congrArg xs (nI_clamp (by omega))).trans e2) ?_
  refine lv_aload_n hx hb d_Law_law_545 rfl (lv_at hl 0 rfl) ?_
  refine lv_iload hx hb d_Law_law_546 (lv_at hl 4 rfl) ?_
  refine lv_iconst (v := nI 3) hx hb d_Law_law_548 (by decide) ?_
  refine nv_iadd hx hb d_Law_law_549 ?_
  refine va_sld hx hb hX hbl hbA hS (vp_in_nI (show 6 * i + 3 < L by omega) (by omega)) d_Law_law_550 ?_
  refine nv_top (y := (nI y9)) ((congrArg xs (nI_clamp (by omega))).trans e3) ?_
  refine kV_i (wc := mW cI cZ ma Y) (wr := cW cI cV ba A vf (X.1, (fun j => [(X.2.1 0), (X.2.1 1), (X.2.1 2)].getD j (fun _ => 0)), X.2.2) ++ oW cL ou f) (w2 := fun u2 => cW cI cV ba A vf (X.1, (fun j => [(X.2.1 0), (X.2.1 1), (X.2.1 2)].getD j (fun _ => 0)), X.2.2) ++ (mW cI cZ ma u2 ++ oW cL ou f)) [.int (-1), .int (nI x9), .int (nI y9)] [] Bd ⟨gi_app (gi_c0 k_861 (gi_c0 k_862 (gi_c0 k_863 (gi_c0 k_10 gi_nil)))) (gi_tb0 k_864), rfl, by decide, by decide⟩ (show (parseMethodDescriptor "(III)I").map (fun d => d.parameters.length) = some 3 by decide +kernel) (m_atD Y x9 y9 hmY hx1 hy1) (by decide +kernel) ⟨by show 106 + i + 0 ≤ 601024; omega, by show 155700 + 6 * i + 0 ≤ 7293034; omega⟩ hG hP hD hS hA [83, 84, 85, 86, 87, 88, 89, 90, 91, 92, 93, 94, 95, 96, 97, 98, 99, 100, 101, 102, 103, 104] [0, 1, 2, 3, 4, 5, 6, 7, 8, 9, 10, 11, 12, 13, 14, 15, 16, 17, 18, 19, 20, 21, 22, 23, 24, 25, 26, 27, 28, 29, 30, 31, 32, 33, 34, 35, 36, 37, 38, 39, 40, 41, 42, 43, 44, 45, 46, 47, 48, 49, 50, 51, 52, 53, 54, 55, 56, 57, 58, 59, 60, 61, 62, 63, 64, 65, 66, 67, 68, 69, 70, 71, 72, 73, 74, 75, 76, 77, 78, 79, 80, 81, 82, 105] [0, 1, 2, 3, 4, 5, 6, 7, 8, 9, 10, 11, 12, 13, 14, 15, 16, 17, 18, 19, 20, 21, 22, 23, 24, 25, 26, 27, 28, 29, 30, 31, 32, 33, 34, 35, 36, 37, 38, 39, 40, 41, 42, 43, 44, 45, 46, 47, 48, 49, 50, 51, 52, 53, 54, 55, 56, 57, 58, 59, 60, 61, 62, 63, 64, 65, 66, 67, 68, 69, 70, 71, 72, 73, 74, 75, 76, 77, 78, 79, 80, 81, 82, 84, 85, 86, 87, 88, 89, 90, 91, 92, 93, 94, 95, 96, 97, 98, 99, 100, 101, 102, 103, 104, 105, 83] ok_m (wl_m1 _ _ _) (wl_m2 _ _ _) (fun _ => wl_m3 _ _ _) (q0 := 0) rfl rfl rfl hl.1 rfl (Nat.le_of_ble_eq_true rfl) d_Law_law_551 (fun r2 u2 H locs hp2 hP hD hS => ?_)
  have hP : va_P D classes (cW cI cV ba A vf (X.1, (fun j => [(X.2.1 0), (X.2.1 1), (X.2.1 2)].getD j (fun _ => 0)), X.2.2) ++ (mW cI cZ ma u2 ++ oW cL ou f)) H := hP
  have hD : va_D (fun q : Nat => s.heap.size ≤ q) (cW cI cV ba A vf (X.1, (fun j => [(X.2.1 0), (X.2.1 1), (X.2.1 2)].getD j (fun _ => 0)), X.2.2) ++ (mW cI cZ ma u2 ++ oW cL ou f)) := hD
  refine lv_pop hx hb d_Law_law_554 rfl ?_
  refine lv_goto (tgt := 669) hx hb d_Law_law_555 (by decide) ?_
  refine W.widen (k := 106 + (i + 1)) (n := 155700 + 6 * (i + 1)) (by show 106 + i ≤ 106 + (i + 1); omega) (by show 155700 + 6 * i ≤ 155700 + 6 * (i + 1); omega) ?_
  exact hN (X.1, (fun j => [(X.2.1 0), (X.2.1 1), (X.2.1 2)].getD j (fun _ => 0)), X.2.2) u2 f H locs _ (⟨pic_ok (hcX.1 0) (hcX.1 1) (hcX.1 2) (by decide), hcX.2⟩) (hp2.1) (by omega) (hp2.2.trans hnb) hP hD hS (lv_sub hl [0, 1, 2, 3, 4] rfl)
set_option maxHeartbeats 8000000 in
set_option maxRecDepth 100000 in
theorem lf_atN {p : Program} {l : Launch} {e : Env} {s : State} {m : MethodId} {below : List Frame} {meth : Method} {c : Code} {D : va_G} {cI cZ cL cV : ClassId} {b L : Nat} {xs : Nat → Int32} {H : Heap} {locs : List Loc} {ls : Array Slot} (ba : Nat → Nat) (A : Nat → Nat → Nat) (vf : Nat → Option Nat) (ma : Nat → Nat) (ou : Nat) (X : CS) (Y : MS) (f : Nat → Int64) (i : Nat)  (hL : L ≤ 3072) (hi : 6 * i + 6 ≤ L) (C0 : lw_At p s m meth c b L xs) (hst : l.stackTraces = false) (hXo : xOk (fun q : Nat => s.heap.size ≤ q) s s.heap) (hG : gk classes NW D (TYS cI cZ cL cV) s) (hvf9 : ∀ k, k < 3 → vf k = some (A k 0)) (hcX : cOk X) (hmY : mOk Y) (hnX : X.1 ≤ i) (hnb : Y.2.2.2 1 = nI X.1) (hno : ¬ ((xs (6 * i + 1) = -1 ∨ vwP (xs (6 * i + 1))) ∧ reP (xs (6 * i + 2)) (xs (6 * i + 3)) (nI 1) (nI 1))) (hP : va_P D classes (cW cI cV ba A vf X ++ (mW cI cZ ma Y ++ oW cL ou f)) H) (hD : va_D (fun q : Nat => s.heap.size ≤ q) (cW cI cV ba A vf X ++ (mW cI cZ ma Y ++ oW cL ou f))) (hS : va_S (fun q : Nat => s.heap.size ≤ q) s.heap H locs) (hl : lv_has ls 7 [(0, .ref b), (1, .ref (ba 0)), (2, .ref (ma 0)), (3, .ref ou), (4, .int (nI (6 * i)))]) (hN : LN p l e s m below meth c D cI cZ cL cV b ba A vf ma ou i) : W p l e room_1 s m #[Value.ref b] below meth c H locs (106 + i) (155700 + 6 * i) (lw_Z below #[Value.ref b] s) (F0 m 509 ls []) := by
  obtain ⟨hx, hb, hr, hml, hown, hts, hX, hbl, hlocks, hgv⟩ := id C0
  have hA : ∀ q : Nat, s.heap.size ≤ q → (fun q : Nat => s.heap.size ≤ q) q := fun _ h => h
  have hbA : ¬ (fun q : Nat => s.heap.size ≤ q) b := Nat.not_le.mpr hbl
  have htb : ∀ w ∈ TB, w.before #[Value.ref b] s = true := fun w hw => hts w (List.mem_filter.mp hw).1
  have Bd : bd p c code 7 s #[Value.ref b] TB "TileScreenLaw" m := ⟨hx, hb, hml, hown, htb⟩
  refine lv_aload_n hx hb d_Law_law_509 rfl (lv_at hl 1 rfl) ?_
  refine lv_aload_n hx hb d_Law_law_510 rfl (lv_at hl 0 rfl) ?_
  refine lv_iload hx hb d_Law_law_511 (lv_at hl 4 rfl) ?_
  refine lv_iconst (v := nI 1) hx hb d_Law_law_513 (by decide) ?_
  refine nv_iadd hx hb d_Law_law_514 ?_
  refine va_sld hx hb hX hbl hbA hS (vp_in_nI (show 6 * i + 1 < L by omega) (by omega)) d_Law_law_515 ?_
  refine nv_top (y := (xs (6 * i + 1))) ((congrArg xs (nI_clamp (by omega)))) ?_
  refine lv_aload_n hx hb d_Law_law_516 rfl (lv_at hl 0 rfl) ?_
  refine lv_iload hx hb d_Law_law_517 (lv_at hl 4 rfl) ?_
  refine lv_iconst (v := nI 2) hx hb d_Law_law_519 (by decide) ?_
  refine nv_iadd hx hb d_Law_law_520 ?_
  refine va_sld hx hb hX hbl hbA hS (vp_in_nI (show 6 * i + 2 < L by omega) (by omega)) d_Law_law_521 ?_
  refine nv_top (y := (xs (6 * i + 2))) ((congrArg xs (nI_clamp (by omega)))) ?_
  refine lv_aload_n hx hb d_Law_law_522 rfl (lv_at hl 0 rfl) ?_
  refine lv_iload hx hb d_Law_law_523 (lv_at hl 4 rfl) ?_
  refine lv_iconst (v := nI 3) hx hb d_Law_law_525 (by decide) ?_
  refine nv_iadd hx hb d_Law_law_526 ?_
  refine va_sld hx hb hX hbl hbA hS (vp_in_nI (show 6 * i + 3 < L by omega) (by omega)) d_Law_law_527 ?_
  refine nv_top (y := (xs (6 * i + 3))) ((congrArg xs (nI_clamp (by omega)))) ?_
  refine kV_i (wc := cW cI cV ba A vf X) (wr := mW cI cZ ma Y ++ oW cL ou f) (w2 := fun u1 => cW cI cV ba A vf X ++ (mW cI cZ ma Y ++ oW cL ou f)) [.int (xs (6 * i + 1)), .int (xs (6 * i + 2)), .int (xs (6 * i + 3))] [] Bd ⟨gi_app (gi_c0 k_512 (gi_c0 k_513 (gi_c0 k_514 (gi_c0 k_1 gi_nil)))) (gi_tb0 k_515), rfl, by decide, by decide⟩ (show (parseMethodDescriptor "(III)I").map (fun d => d.parameters.length) = some 3 by decide +kernel) (CI.no (c_Scr_at_no (ba 0) (ba 1) (ba 3) (ba 5) (ba 7) X.1 (xs (6 * i + 1)) (xs (6 * i + 2)) (xs (6 * i + 3)) hno)) (by decide +kernel) ⟨by show 106 + i + 0 ≤ 601024; omega, by show 155700 + 6 * i + 0 ≤ 7293034; omega⟩ hG hP hD hS hA [0, 1, 2, 3, 4, 5, 6, 7, 8, 9, 10, 11, 12, 13, 14, 15, 16, 17, 18, 19, 20, 21, 22, 23, 24, 25, 26, 27, 28, 29, 30, 31, 32, 33, 34, 35, 36, 37, 38, 39, 40, 41, 42, 43, 44, 45, 46, 47, 48, 49, 50, 51, 52, 53, 54, 55, 56, 57, 58, 59, 60, 61, 62, 63, 64, 65, 66, 67, 68, 69, 70, 71, 72, 73, 74, 75, 76, 77, 78, 79, 80, 81, 82] [83, 84, 85, 86, 87, 88, 89, 90, 91, 92, 93, 94, 95, 96, 97, 98, 99, 100, 101, 102, 103, 104, 105] [23, 24, 25, 26, 27, 28, 29, 30, 31, 32, 33, 34, 35, 36, 37, 38, 39, 40, 41, 42, 43, 44, 45, 46, 47, 48, 49, 50, 51, 52, 53, 54, 55, 56, 57, 58, 59, 60, 61, 62, 63, 64, 65, 66, 67, 68, 69, 70, 71, 72, 73, 74, 75, 76, 77, 78, 79, 80, 81, 82, 83, 84, 85, 86, 87, 88, 89, 90, 91, 92, 93, 94, 95, 96, 97, 98, 99, 100, 101, 102, 103, 104, 105, 0, 1, 2, 3, 4, 5, 6, 7, 8, 9, 10, 11, 12, 13, 14, 15, 16, 17, 18, 19, 20, 21, 22] ok_c (wl_c1 _ _ _) (wl_c2 _ _ _) (fun _ => wl_c3 _ _ _) (q0 := 0) rfl rfl rfl hl.1 rfl (Nat.le_of_ble_eq_true rfl) d_Law_law_528 (fun r1 u1 H locs hp1 hP hD hS => ?_)
  have hP : va_P D classes (cW cI cV ba A vf X ++ (mW cI cZ ma Y ++ oW cL ou f)) H := hP
  have hD : va_D (fun q : Nat => s.heap.size ≤ q) (cW cI cV ba A vf X ++ (mW cI cZ ma Y ++ oW cL ou f)) := hD
  refine lv_pop hx hb d_Law_law_531 rfl ?_
  refine lv_aload_n hx hb d_Law_law_532 rfl (lv_at hl 2 rfl) ?_
  refine lv_aload_n hx hb d_Law_law_533 rfl (lv_at hl 0 rfl) ?_
  refine lv_iload hx hb d_Law_law_534 (lv_at hl 4 rfl) ?_
  refine lv_iconst (v := nI 1) hx hb d_Law_law_536 (by decide) ?_
  refine nv_iadd hx hb d_Law_law_537 ?_
  refine va_sld hx hb hX hbl hbA hS (vp_in_nI (show 6 * i + 1 < L by omega) (by omega)) d_Law_law_538 ?_
  refine nv_top (y := (xs (6 * i + 1))) ((congrArg xs (nI_clamp (by omega)))) ?_
  refine lv_aload_n hx hb d_Law_law_539 rfl (lv_at hl 0 rfl) ?_
  refine lv_iload hx hb d_Law_law_540 (lv_at hl 4 rfl) ?_
  refine lv_iconst (v := nI 2) hx hb d_Law_law_542 (by decide) ?_
  refine nv_iadd hx hb d_Law_law_543 ?_
  refine va_sld hx hb hX hbl hbA hS (vp_in_nI (show 6 * i + 2 < L by omega) (by omega)) d_Law_law_544 ?_
  refine nv_top (y := (xs (6 * i + 2))) ((congrArg xs (nI_clamp (by omega)))) ?_
  refine lv_aload_n hx hb d_Law_law_545 rfl (lv_at hl 0 rfl) ?_
  refine lv_iload hx hb d_Law_law_546 (lv_at hl 4 rfl) ?_
  refine lv_iconst (v := nI 3) hx hb d_Law_law_548 (by decide) ?_
  refine nv_iadd hx hb d_Law_law_549 ?_
  refine va_sld hx hb hX hbl hbA hS (vp_in_nI (show 6 * i + 3 < L by omega) (by omega)) d_Law_law_550 ?_
  refine nv_top (y := (xs (6 * i + 3))) ((congrArg xs (nI_clamp (by omega)))) ?_
  refine kV_i (wc := mW cI cZ ma Y) (wr := cW cI cV ba A vf X ++ oW cL ou f) (w2 := fun u2 => cW cI cV ba A vf X ++ (mW cI cZ ma u2 ++ oW cL ou f)) [.int (xs (6 * i + 1)), .int (xs (6 * i + 2)), .int (xs (6 * i + 3))] [] Bd ⟨gi_app (gi_c0 k_861 (gi_c0 k_862 (gi_c0 k_863 (gi_c0 k_10 gi_nil)))) (gi_tb0 k_864), rfl, by decide, by decide⟩ (show (parseMethodDescriptor "(III)I").map (fun d => d.parameters.length) = some 3 by decide +kernel) (m_atN Y (xs (6 * i + 1)) (xs (6 * i + 2)) (xs (6 * i + 3)) hmY hno) (by decide +kernel) ⟨by show 106 + i + 0 ≤ 601024; omega, by show 155700 + 6 * i + 0 ≤ 7293034; omega⟩ hG hP hD hS hA [83, 84, 85, 86, 87, 88, 89, 90, 91, 92, 93, 94, 95, 96, 97, 98, 99, 100, 101, 102, 103, 104] [0, 1, 2, 3, 4, 5, 6, 7, 8, 9, 10, 11, 12, 13, 14, 15, 16, 17, 18, 19, 20, 21, 22, 23, 24, 25, 26, 27, 28, 29, 30, 31, 32, 33, 34, 35, 36, 37, 38, 39, 40, 41, 42, 43, 44, 45, 46, 47, 48, 49, 50, 51, 52, 53, 54, 55, 56, 57, 58, 59, 60, 61, 62, 63, 64, 65, 66, 67, 68, 69, 70, 71, 72, 73, 74, 75, 76, 77, 78, 79, 80, 81, 82, 105] [0, 1, 2, 3, 4, 5, 6, 7, 8, 9, 10, 11, 12, 13, 14, 15, 16, 17, 18, 19, 20, 21, 22, 23, 24, 25, 26, 27, 28, 29, 30, 31, 32, 33, 34, 35, 36, 37, 38, 39, 40, 41, 42, 43, 44, 45, 46, 47, 48, 49, 50, 51, 52, 53, 54, 55, 56, 57, 58, 59, 60, 61, 62, 63, 64, 65, 66, 67, 68, 69, 70, 71, 72, 73, 74, 75, 76, 77, 78, 79, 80, 81, 82, 84, 85, 86, 87, 88, 89, 90, 91, 92, 93, 94, 95, 96, 97, 98, 99, 100, 101, 102, 103, 104, 105, 83] ok_m (wl_m1 _ _ _) (wl_m2 _ _ _) (fun _ => wl_m3 _ _ _) (q0 := 0) rfl rfl rfl hl.1 rfl (Nat.le_of_ble_eq_true rfl) d_Law_law_551 (fun r2 u2 H locs hp2 hP hD hS => ?_)
  have hP : va_P D classes (cW cI cV ba A vf X ++ (mW cI cZ ma u2 ++ oW cL ou f)) H := hP
  have hD : va_D (fun q : Nat => s.heap.size ≤ q) (cW cI cV ba A vf X ++ (mW cI cZ ma u2 ++ oW cL ou f)) := hD
  refine lv_pop hx hb d_Law_law_554 rfl ?_
  refine lv_goto (tgt := 669) hx hb d_Law_law_555 (by decide) ?_
  refine W.widen (k := 106 + (i + 1)) (n := 155700 + 6 * (i + 1)) (by show 106 + i ≤ 106 + (i + 1); omega) (by show 155700 + 6 * i ≤ 155700 + 6 * (i + 1); omega) ?_
  exact hN X u2 f H locs _ (hcX) (hp2.1) (by omega) (hp2.2.trans hnb) hP hD hS (lv_sub hl [0, 1, 2, 3, 4] rfl)
set_option maxHeartbeats 8000000 in
set_option maxRecDepth 100000 in
theorem lf_about0 {p : Program} {l : Launch} {e : Env} {s : State} {m : MethodId} {below : List Frame} {meth : Method} {c : Code} {D : va_G} {cI cZ cL cV : ClassId} {b L : Nat} {xs : Nat → Int32} {H : Heap} {locs : List Loc} {ls : Array Slot} (ba : Nat → Nat) (A : Nat → Nat → Nat) (vf : Nat → Option Nat) (ma : Nat → Nat) (ou : Nat) (X : CS) (Y : MS) (f : Nat → Int64) (i : Nat) (k : Nat) (hL : L ≤ 3072) (hi : 6 * i + 6 ≤ L) (C0 : lw_At p s m meth c b L xs) (hst : l.stackTraces = false) (hXo : xOk (fun q : Nat => s.heap.size ≤ q) s s.heap) (hG : gk classes NW D (TYS cI cZ cL cV) s) (hvf9 : ∀ k, k < 3 → vf k = some (A k 0)) (hcX : cOk X) (hmY : mOk Y) (hnX : X.1 ≤ i) (hnb : Y.2.2.2 1 = nI X.1) (e1 : xs (6 * i + 1) = nI k) (hk : k < 3) (e2 : xs (6 * i + 2) = nI 0) (hP : va_P D classes (cW cI cV ba A vf X ++ (mW cI cZ ma Y ++ oW cL ou f)) H) (hD : va_D (fun q : Nat => s.heap.size ≤ q) (cW cI cV ba A vf X ++ (mW cI cZ ma Y ++ oW cL ou f))) (hS : va_S (fun q : Nat => s.heap.size ≤ q) s.heap H locs) (hl : lv_has ls 7 [(0, .ref b), (1, .ref (ba 0)), (2, .ref (ma 0)), (3, .ref ou), (4, .int (nI (6 * i)))]) (hN : LN p l e s m below meth c D cI cZ cL cV b ba A vf ma ou i) : W p l e room_1 s m #[Value.ref b] below meth c H locs (106 + i) (155700 + 6 * i) (lw_Z below #[Value.ref b] s) (F0 m 558 ls []) := by
  obtain ⟨hx, hb, hr, hml, hown, hts, hX, hbl, hlocks, hgv⟩ := id C0
  have hA : ∀ q : Nat, s.heap.size ≤ q → (fun q : Nat => s.heap.size ≤ q) q := fun _ h => h
  have hbA : ¬ (fun q : Nat => s.heap.size ≤ q) b := Nat.not_le.mpr hbl
  have htb : ∀ w ∈ TB, w.before #[Value.ref b] s = true := fun w hw => hts w (List.mem_filter.mp hw).1
  have Bd : bd p c code 7 s #[Value.ref b] TB "TileScreenLaw" m := ⟨hx, hb, hml, hown, htb⟩
  refine lv_aload_n hx hb d_Law_law_558 rfl (lv_at hl 1 rfl) ?_
  refine lv_aload_n hx hb d_Law_law_559 rfl (lv_at hl 0 rfl) ?_
  refine lv_iload hx hb d_Law_law_560 (lv_at hl 4 rfl) ?_
  refine lv_iconst (v := nI 1) hx hb d_Law_law_562 (by decide) ?_
  refine nv_iadd hx hb d_Law_law_563 ?_
  refine va_sld hx hb hX hbl hbA hS (vp_in_nI (show 6 * i + 1 < L by omega) (by omega)) d_Law_law_564 ?_
  refine nv_top (y := (nI k)) ((congrArg xs (nI_clamp (by omega))).trans e1) ?_
  refine lv_aload_n hx hb d_Law_law_565 rfl (lv_at hl 0 rfl) ?_
  refine lv_iload hx hb d_Law_law_566 (lv_at hl 4 rfl) ?_
  refine lv_iconst (v := nI 2) hx hb d_Law_law_568 (by decide) ?_
  refine nv_iadd hx hb d_Law_law_569 ?_
  refine va_sld hx hb hX hbl hbA hS (vp_in_nI (show 6 * i + 2 < L by omega) (by omega)) d_Law_law_570 ?_
  refine nv_top (y := (nI 0)) ((congrArg xs (nI_clamp (by omega))).trans e2) ?_
  refine kV_i (wc := cW cI cV ba A vf X) (wr := mW cI cZ ma Y ++ oW cL ou f) (w2 := fun u1 => cW cI cV ba A vf (X.1, X.2.1, fun j => if j = k then u1 else X.2.2 j) ++ (mW cI cZ ma Y ++ oW cL ou f)) [.int (nI k), .int (nI 0)] [] Bd ⟨gi_app (gi_c0 k_516 (gi_c0 k_517 (gi_c0 k_518 (gi_c0 k_1 gi_nil)))) (gi_tb0 k_519), rfl, by decide, by decide⟩ (show (parseMethodDescriptor "(II)I").map (fun d => d.parameters.length) = some 2 by decide +kernel) (CI.view k hk (v_about X.1 X.2.1 (A k) (X.2.2 k) k 0 hk (hvf9 k hk) hcX.1 (hcX.2 k) (by decide))) (by decide +kernel) ⟨by show 106 + i + 0 ≤ 601024; omega, by show 155700 + 6 * i + 0 ≤ 7293034; omega⟩ hG hP hD hS hA [0, 1, 2, 3, 4, 5, 6, 7, 8, 9, 10, 11, 12, 13, 14, 15, 16, 17, 18, 19, 20, 21, 22, 23, 24, 25, 26, 27, 28, 29, 30, 31, 32, 33, 34, 35, 36, 37, 38, 39, 40, 41, 42, 43, 44, 45, 46, 47, 48, 49, 50, 51, 52, 53, 54, 55, 56, 57, 58, 59, 60, 61, 62, 63, 64, 65, 66, 67, 68, 69, 70, 71, 72, 73, 74, 75, 76, 77, 78, 79, 80, 81, 82] [83, 84, 85, 86, 87, 88, 89, 90, 91, 92, 93, 94, 95, 96, 97, 98, 99, 100, 101, 102, 103, 104, 105] [23, 24, 25, 26, 27, 28, 29, 30, 31, 32, 33, 34, 35, 36, 37, 38, 39, 40, 41, 42, 43, 44, 45, 46, 47, 48, 49, 50, 51, 52, 53, 54, 55, 56, 57, 58, 59, 60, 61, 62, 63, 64, 65, 66, 67, 68, 69, 70, 71, 72, 73, 74, 75, 76, 77, 78, 79, 80, 81, 82, 83, 84, 85, 86, 87, 88, 89, 90, 91, 92, 93, 94, 95, 96, 97, 98, 99, 100, 101, 102, 103, 104, 105, 0, 1, 2, 3, 4, 5, 6, 7, 8, 9, 10, 11, 12, 13, 14, 15, 16, 17, 18, 19, 20, 21, 22] ok_c (wl_c1 _ _ _) (wl_c2 _ _ _) (fun _ => wl_c3 _ _ _) (q0 := 0) rfl rfl rfl hl.1 rfl (Nat.le_of_ble_eq_true rfl) d_Law_law_571 (fun r1 u1 H locs hp1 hP hD hS => ?_)
  have hP : va_P D classes (cW cI cV ba A vf (X.1, X.2.1, fun j => if j = k then u1 else X.2.2 j) ++ (mW cI cZ ma Y ++ oW cL ou f)) H := hP
  have hD : va_D (fun q : Nat => s.heap.size ≤ q) (cW cI cV ba A vf (X.1, X.2.1, fun j => if j = k then u1 else X.2.2 j) ++ (mW cI cZ ma Y ++ oW cL ou f)) := hD
  refine lv_pop hx hb d_Law_law_574 rfl ?_
  refine lv_aload_n hx hb d_Law_law_575 rfl (lv_at hl 2 rfl) ?_
  refine lv_aload_n hx hb d_Law_law_576 rfl (lv_at hl 0 rfl) ?_
  refine lv_iload hx hb d_Law_law_577 (lv_at hl 4 rfl) ?_
  refine lv_iconst (v := nI 1) hx hb d_Law_law_579 (by decide) ?_
  refine nv_iadd hx hb d_Law_law_580 ?_
  refine va_sld hx hb hX hbl hbA hS (vp_in_nI (show 6 * i + 1 < L by omega) (by omega)) d_Law_law_581 ?_
  refine nv_top (y := (nI k)) ((congrArg xs (nI_clamp (by omega))).trans e1) ?_
  refine lv_aload_n hx hb d_Law_law_582 rfl (lv_at hl 0 rfl) ?_
  refine lv_iload hx hb d_Law_law_583 (lv_at hl 4 rfl) ?_
  refine lv_iconst (v := nI 2) hx hb d_Law_law_585 (by decide) ?_
  refine nv_iadd hx hb d_Law_law_586 ?_
  refine va_sld hx hb hX hbl hbA hS (vp_in_nI (show 6 * i + 2 < L by omega) (by omega)) d_Law_law_587 ?_
  refine nv_top (y := (nI 0)) ((congrArg xs (nI_clamp (by omega))).trans e2) ?_
  refine kV_i (wc := mW cI cZ ma Y) (wr := cW cI cV ba A vf (X.1, X.2.1, fun j => if j = k then u1 else X.2.2 j) ++ oW cL ou f) (w2 := fun u2 => cW cI cV ba A vf (X.1, X.2.1, fun j => if j = k then u1 else X.2.2 j) ++ (mW cI cZ ma u2 ++ oW cL ou f)) [.int (nI k), .int (nI 0)] [] Bd ⟨gi_app (gi_c0 k_865 (gi_c0 k_866 (gi_c0 k_867 (gi_c0 k_10 gi_nil)))) (gi_tb0 k_868), rfl, by decide, by decide⟩ (show (parseMethodDescriptor "(II)I").map (fun d => d.parameters.length) = some 2 by decide +kernel) (m_about0 Y k hmY hk) (by decide +kernel) ⟨by show 106 + i + 0 ≤ 601024; omega, by show 155700 + 6 * i + 0 ≤ 7293034; omega⟩ hG hP hD hS hA [83, 84, 85, 86, 87, 88, 89, 90, 91, 92, 93, 94, 95, 96, 97, 98, 99, 100, 101, 102, 103, 104] [0, 1, 2, 3, 4, 5, 6, 7, 8, 9, 10, 11, 12, 13, 14, 15, 16, 17, 18, 19, 20, 21, 22, 23, 24, 25, 26, 27, 28, 29, 30, 31, 32, 33, 34, 35, 36, 37, 38, 39, 40, 41, 42, 43, 44, 45, 46, 47, 48, 49, 50, 51, 52, 53, 54, 55, 56, 57, 58, 59, 60, 61, 62, 63, 64, 65, 66, 67, 68, 69, 70, 71, 72, 73, 74, 75, 76, 77, 78, 79, 80, 81, 82, 105] [0, 1, 2, 3, 4, 5, 6, 7, 8, 9, 10, 11, 12, 13, 14, 15, 16, 17, 18, 19, 20, 21, 22, 23, 24, 25, 26, 27, 28, 29, 30, 31, 32, 33, 34, 35, 36, 37, 38, 39, 40, 41, 42, 43, 44, 45, 46, 47, 48, 49, 50, 51, 52, 53, 54, 55, 56, 57, 58, 59, 60, 61, 62, 63, 64, 65, 66, 67, 68, 69, 70, 71, 72, 73, 74, 75, 76, 77, 78, 79, 80, 81, 82, 84, 85, 86, 87, 88, 89, 90, 91, 92, 93, 94, 95, 96, 97, 98, 99, 100, 101, 102, 103, 104, 105, 83] ok_m (wl_m1 _ _ _) (wl_m2 _ _ _) (fun _ => wl_m3 _ _ _) (q0 := 0) rfl rfl rfl hl.1 rfl (Nat.le_of_ble_eq_true rfl) d_Law_law_588 (fun r2 u2 H locs hp2 hP hD hS => ?_)
  have hP : va_P D classes (cW cI cV ba A vf (X.1, X.2.1, fun j => if j = k then u1 else X.2.2 j) ++ (mW cI cZ ma u2 ++ oW cL ou f)) H := hP
  have hD : va_D (fun q : Nat => s.heap.size ≤ q) (cW cI cV ba A vf (X.1, X.2.1, fun j => if j = k then u1 else X.2.2 j) ++ (mW cI cZ ma u2 ++ oW cL ou f)) := hD
  refine lv_pop hx hb d_Law_law_591 rfl ?_
  refine lv_goto (tgt := 669) hx hb d_Law_law_592 (by decide) ?_
  refine W.widen (k := 106 + (i + 1)) (n := 155700 + 6 * (i + 1)) (by show 106 + i ≤ 106 + (i + 1); omega) (by show 155700 + 6 * i ≤ 155700 + 6 * (i + 1); omega) ?_
  exact hN (X.1, X.2.1, fun j => if j = k then u1 else X.2.2 j) u2 f H locs _ (cOk.view hcX hp1) (hp2.1) (by omega) (hp2.2.trans hnb) hP hD hS (lv_sub hl [0, 1, 2, 3, 4] rfl)
set_option maxHeartbeats 8000000 in
set_option maxRecDepth 100000 in
theorem lf_about1 {p : Program} {l : Launch} {e : Env} {s : State} {m : MethodId} {below : List Frame} {meth : Method} {c : Code} {D : va_G} {cI cZ cL cV : ClassId} {b L : Nat} {xs : Nat → Int32} {H : Heap} {locs : List Loc} {ls : Array Slot} (ba : Nat → Nat) (A : Nat → Nat → Nat) (vf : Nat → Option Nat) (ma : Nat → Nat) (ou : Nat) (X : CS) (Y : MS) (f : Nat → Int64) (i : Nat) (k : Nat) (hL : L ≤ 3072) (hi : 6 * i + 6 ≤ L) (C0 : lw_At p s m meth c b L xs) (hst : l.stackTraces = false) (hXo : xOk (fun q : Nat => s.heap.size ≤ q) s s.heap) (hG : gk classes NW D (TYS cI cZ cL cV) s) (hvf9 : ∀ k, k < 3 → vf k = some (A k 0)) (hcX : cOk X) (hmY : mOk Y) (hnX : X.1 ≤ i) (hnb : Y.2.2.2 1 = nI X.1) (e1 : xs (6 * i + 1) = nI k) (hk : k < 3) (e2 : xs (6 * i + 2) = nI 1) (hP : va_P D classes (cW cI cV ba A vf X ++ (mW cI cZ ma Y ++ oW cL ou f)) H) (hD : va_D (fun q : Nat => s.heap.size ≤ q) (cW cI cV ba A vf X ++ (mW cI cZ ma Y ++ oW cL ou f))) (hS : va_S (fun q : Nat => s.heap.size ≤ q) s.heap H locs) (hl : lv_has ls 7 [(0, .ref b), (1, .ref (ba 0)), (2, .ref (ma 0)), (3, .ref ou), (4, .int (nI (6 * i)))]) (hN : LN p l e s m below meth c D cI cZ cL cV b ba A vf ma ou i) : W p l e room_1 s m #[Value.ref b] below meth c H locs (106 + i) (155700 + 6 * i) (lw_Z below #[Value.ref b] s) (F0 m 558 ls []) := by
  obtain ⟨hx, hb, hr, hml, hown, hts, hX, hbl, hlocks, hgv⟩ := id C0
  have hA : ∀ q : Nat, s.heap.size ≤ q → (fun q : Nat => s.heap.size ≤ q) q := fun _ h => h
  have hbA : ¬ (fun q : Nat => s.heap.size ≤ q) b := Nat.not_le.mpr hbl
  have htb : ∀ w ∈ TB, w.before #[Value.ref b] s = true := fun w hw => hts w (List.mem_filter.mp hw).1
  have Bd : bd p c code 7 s #[Value.ref b] TB "TileScreenLaw" m := ⟨hx, hb, hml, hown, htb⟩
  refine lv_aload_n hx hb d_Law_law_558 rfl (lv_at hl 1 rfl) ?_
  refine lv_aload_n hx hb d_Law_law_559 rfl (lv_at hl 0 rfl) ?_
  refine lv_iload hx hb d_Law_law_560 (lv_at hl 4 rfl) ?_
  refine lv_iconst (v := nI 1) hx hb d_Law_law_562 (by decide) ?_
  refine nv_iadd hx hb d_Law_law_563 ?_
  refine va_sld hx hb hX hbl hbA hS (vp_in_nI (show 6 * i + 1 < L by omega) (by omega)) d_Law_law_564 ?_
  refine nv_top (y := (nI k)) ((congrArg xs (nI_clamp (by omega))).trans e1) ?_
  refine lv_aload_n hx hb d_Law_law_565 rfl (lv_at hl 0 rfl) ?_
  refine lv_iload hx hb d_Law_law_566 (lv_at hl 4 rfl) ?_
  refine lv_iconst (v := nI 2) hx hb d_Law_law_568 (by decide) ?_
  refine nv_iadd hx hb d_Law_law_569 ?_
  refine va_sld hx hb hX hbl hbA hS (vp_in_nI (show 6 * i + 2 < L by omega) (by omega)) d_Law_law_570 ?_
  refine nv_top (y := (nI 1)) ((congrArg xs (nI_clamp (by omega))).trans e2) ?_
  refine kV_i (wc := cW cI cV ba A vf X) (wr := mW cI cZ ma Y ++ oW cL ou f) (w2 := fun u1 => cW cI cV ba A vf (X.1, X.2.1, fun j => if j = k then u1 else X.2.2 j) ++ (mW cI cZ ma Y ++ oW cL ou f)) [.int (nI k), .int (nI 1)] [] Bd ⟨gi_app (gi_c0 k_516 (gi_c0 k_517 (gi_c0 k_518 (gi_c0 k_1 gi_nil)))) (gi_tb0 k_519), rfl, by decide, by decide⟩ (show (parseMethodDescriptor "(II)I").map (fun d => d.parameters.length) = some 2 by decide +kernel) (CI.view k hk (v_about X.1 X.2.1 (A k) (X.2.2 k) k 1 hk (hvf9 k hk) hcX.1 (hcX.2 k) (by decide))) (by decide +kernel) ⟨by show 106 + i + 0 ≤ 601024; omega, by show 155700 + 6 * i + 0 ≤ 7293034; omega⟩ hG hP hD hS hA [0, 1, 2, 3, 4, 5, 6, 7, 8, 9, 10, 11, 12, 13, 14, 15, 16, 17, 18, 19, 20, 21, 22, 23, 24, 25, 26, 27, 28, 29, 30, 31, 32, 33, 34, 35, 36, 37, 38, 39, 40, 41, 42, 43, 44, 45, 46, 47, 48, 49, 50, 51, 52, 53, 54, 55, 56, 57, 58, 59, 60, 61, 62, 63, 64, 65, 66, 67, 68, 69, 70, 71, 72, 73, 74, 75, 76, 77, 78, 79, 80, 81, 82] [83, 84, 85, 86, 87, 88, 89, 90, 91, 92, 93, 94, 95, 96, 97, 98, 99, 100, 101, 102, 103, 104, 105] [23, 24, 25, 26, 27, 28, 29, 30, 31, 32, 33, 34, 35, 36, 37, 38, 39, 40, 41, 42, 43, 44, 45, 46, 47, 48, 49, 50, 51, 52, 53, 54, 55, 56, 57, 58, 59, 60, 61, 62, 63, 64, 65, 66, 67, 68, 69, 70, 71, 72, 73, 74, 75, 76, 77, 78, 79, 80, 81, 82, 83, 84, 85, 86, 87, 88, 89, 90, 91, 92, 93, 94, 95, 96, 97, 98, 99, 100, 101, 102, 103, 104, 105, 0, 1, 2, 3, 4, 5, 6, 7, 8, 9, 10, 11, 12, 13, 14, 15, 16, 17, 18, 19, 20, 21, 22] ok_c (wl_c1 _ _ _) (wl_c2 _ _ _) (fun _ => wl_c3 _ _ _) (q0 := 0) rfl rfl rfl hl.1 rfl (Nat.le_of_ble_eq_true rfl) d_Law_law_571 (fun r1 u1 H locs hp1 hP hD hS => ?_)
  have hP : va_P D classes (cW cI cV ba A vf (X.1, X.2.1, fun j => if j = k then u1 else X.2.2 j) ++ (mW cI cZ ma Y ++ oW cL ou f)) H := hP
  have hD : va_D (fun q : Nat => s.heap.size ≤ q) (cW cI cV ba A vf (X.1, X.2.1, fun j => if j = k then u1 else X.2.2 j) ++ (mW cI cZ ma Y ++ oW cL ou f)) := hD
  refine lv_pop hx hb d_Law_law_574 rfl ?_
  refine lv_aload_n hx hb d_Law_law_575 rfl (lv_at hl 2 rfl) ?_
  refine lv_aload_n hx hb d_Law_law_576 rfl (lv_at hl 0 rfl) ?_
  refine lv_iload hx hb d_Law_law_577 (lv_at hl 4 rfl) ?_
  refine lv_iconst (v := nI 1) hx hb d_Law_law_579 (by decide) ?_
  refine nv_iadd hx hb d_Law_law_580 ?_
  refine va_sld hx hb hX hbl hbA hS (vp_in_nI (show 6 * i + 1 < L by omega) (by omega)) d_Law_law_581 ?_
  refine nv_top (y := (nI k)) ((congrArg xs (nI_clamp (by omega))).trans e1) ?_
  refine lv_aload_n hx hb d_Law_law_582 rfl (lv_at hl 0 rfl) ?_
  refine lv_iload hx hb d_Law_law_583 (lv_at hl 4 rfl) ?_
  refine lv_iconst (v := nI 2) hx hb d_Law_law_585 (by decide) ?_
  refine nv_iadd hx hb d_Law_law_586 ?_
  refine va_sld hx hb hX hbl hbA hS (vp_in_nI (show 6 * i + 2 < L by omega) (by omega)) d_Law_law_587 ?_
  refine nv_top (y := (nI 1)) ((congrArg xs (nI_clamp (by omega))).trans e2) ?_
  refine kV_i (wc := mW cI cZ ma Y) (wr := cW cI cV ba A vf (X.1, X.2.1, fun j => if j = k then u1 else X.2.2 j) ++ oW cL ou f) (w2 := fun u2 => cW cI cV ba A vf (X.1, X.2.1, fun j => if j = k then u1 else X.2.2 j) ++ (mW cI cZ ma u2 ++ oW cL ou f)) [.int (nI k), .int (nI 1)] [] Bd ⟨gi_app (gi_c0 k_865 (gi_c0 k_866 (gi_c0 k_867 (gi_c0 k_10 gi_nil)))) (gi_tb0 k_868), rfl, by decide, by decide⟩ (show (parseMethodDescriptor "(II)I").map (fun d => d.parameters.length) = some 2 by decide +kernel) (m_about1 Y k hmY hk) (by decide +kernel) ⟨by show 106 + i + 0 ≤ 601024; omega, by show 155700 + 6 * i + 0 ≤ 7293034; omega⟩ hG hP hD hS hA [83, 84, 85, 86, 87, 88, 89, 90, 91, 92, 93, 94, 95, 96, 97, 98, 99, 100, 101, 102, 103, 104] [0, 1, 2, 3, 4, 5, 6, 7, 8, 9, 10, 11, 12, 13, 14, 15, 16, 17, 18, 19, 20, 21, 22, 23, 24, 25, 26, 27, 28, 29, 30, 31, 32, 33, 34, 35, 36, 37, 38, 39, 40, 41, 42, 43, 44, 45, 46, 47, 48, 49, 50, 51, 52, 53, 54, 55, 56, 57, 58, 59, 60, 61, 62, 63, 64, 65, 66, 67, 68, 69, 70, 71, 72, 73, 74, 75, 76, 77, 78, 79, 80, 81, 82, 105] [0, 1, 2, 3, 4, 5, 6, 7, 8, 9, 10, 11, 12, 13, 14, 15, 16, 17, 18, 19, 20, 21, 22, 23, 24, 25, 26, 27, 28, 29, 30, 31, 32, 33, 34, 35, 36, 37, 38, 39, 40, 41, 42, 43, 44, 45, 46, 47, 48, 49, 50, 51, 52, 53, 54, 55, 56, 57, 58, 59, 60, 61, 62, 63, 64, 65, 66, 67, 68, 69, 70, 71, 72, 73, 74, 75, 76, 77, 78, 79, 80, 81, 82, 84, 85, 86, 87, 88, 89, 90, 91, 92, 93, 94, 95, 96, 97, 98, 99, 100, 101, 102, 103, 104, 105, 83] ok_m (wl_m1 _ _ _) (wl_m2 _ _ _) (fun _ => wl_m3 _ _ _) (q0 := 0) rfl rfl rfl hl.1 rfl (Nat.le_of_ble_eq_true rfl) d_Law_law_588 (fun r2 u2 H locs hp2 hP hD hS => ?_)
  have hP : va_P D classes (cW cI cV ba A vf (X.1, X.2.1, fun j => if j = k then u1 else X.2.2 j) ++ (mW cI cZ ma u2 ++ oW cL ou f)) H := hP
  have hD : va_D (fun q : Nat => s.heap.size ≤ q) (cW cI cV ba A vf (X.1, X.2.1, fun j => if j = k then u1 else X.2.2 j) ++ (mW cI cZ ma u2 ++ oW cL ou f)) := hD
  refine lv_pop hx hb d_Law_law_591 rfl ?_
  refine lv_goto (tgt := 669) hx hb d_Law_law_592 (by decide) ?_
  refine W.widen (k := 106 + (i + 1)) (n := 155700 + 6 * (i + 1)) (by show 106 + i ≤ 106 + (i + 1); omega) (by show 155700 + 6 * i ≤ 155700 + 6 * (i + 1); omega) ?_
  exact hN (X.1, X.2.1, fun j => if j = k then u1 else X.2.2 j) u2 f H locs _ (cOk.view hcX hp1) (hp2.1) (by omega) (hp2.2.trans hnb) hP hD hS (lv_sub hl [0, 1, 2, 3, 4] rfl)
end
