section
variable {l : Launch} {D : va_G} {cI cZ cL cV : ClassId}
set_option maxHeartbeats 8000000 in
set_option maxRecDepth 100000 in
theorem lf_creditA {p : Program} {l : Launch} {e : Env} {s : State} {m : MethodId} {below : List Frame} {meth : Method} {c : Code} {D : va_G} {cI cZ cL cV : ClassId} {b L : Nat} {xs : Nat → Int32} {H : Heap} {locs : List Loc} {ls : Array Slot} (ba : Nat → Nat) (A : Nat → Nat → Nat) (vf : Nat → Option Nat) (ma : Nat → Nat) (ou : Nat) (X : CS) (Y : MS) (f : Nat → Int64) (i : Nat)  (hL : L ≤ 3072) (hi : 6 * i + 6 ≤ L) (C0 : lw_At p s m meth c b L xs) (hst : l.stackTraces = false) (hXo : xOk (fun q : Nat => s.heap.size ≤ q) s s.heap) (hG : gk classes NW D (TYS cI cZ cL cV) s) (hvf9 : ∀ k, k < 3 → vf k = some (A k 0)) (hcX : cOk X) (hmY : mOk Y) (hnX : X.1 ≤ i) (hnb : Y.2.2.2 1 = nI X.1) (hno : ¬ (vwP (xs (6 * i + 1)) ∧ ∃ q, 1 ≤ q ∧ q ≤ 1000000 ∧ xs (6 * i + 2) = nI q)) (hP : va_P D classes (cW cI cV ba A vf X ++ (mW cI cZ ma Y ++ oW cL ou f)) H) (hD : va_D (fun q : Nat => s.heap.size ≤ q) (cW cI cV ba A vf X ++ (mW cI cZ ma Y ++ oW cL ou f))) (hS : va_S (fun q : Nat => s.heap.size ≤ q) s.heap H locs) (hl : lv_has ls 7 [(0, .ref b), (1, .ref (ba 0)), (2, .ref (ma 0)), (3, .ref ou), (4, .int (nI (6 * i)))]) (hN : LN p l e s m below meth c D cI cZ cL cV b ba A vf ma ou i) : W p l e room_1 s m #[Value.ref b] below meth c H locs (106 + i) (155700 + 6 * i) (lw_Z below #[Value.ref b] s) (F0 m 370 ls []) := by
  obtain ⟨hx, hb, hr, hml, hown, hts, hX, hbl, hlocks, hgv⟩ := id C0
  have hA : ∀ q : Nat, s.heap.size ≤ q → (fun q : Nat => s.heap.size ≤ q) q := fun _ h => h
  have hbA : ¬ (fun q : Nat => s.heap.size ≤ q) b := Nat.not_le.mpr hbl
  have htb : ∀ w ∈ TB, w.before #[Value.ref b] s = true := fun w hw => hts w (List.mem_filter.mp hw).1
  have Bd : bd p c code 7 s #[Value.ref b] TB "TileScreenLaw" m := ⟨hx, hb, hml, hown, htb⟩
  refine lv_aload_n hx hb d_Law_law_370 rfl (lv_at hl 1 rfl) ?_
  refine lv_aload_n hx hb d_Law_law_371 rfl (lv_at hl 0 rfl) ?_
  refine lv_iload hx hb d_Law_law_372 (lv_at hl 4 rfl) ?_
  refine lv_iconst (v := nI 1) hx hb d_Law_law_374 (by decide) ?_
  refine nv_iadd hx hb d_Law_law_375 ?_
  refine va_sld hx hb hX hbl hbA hS (vp_in_nI (show 6 * i + 1 < L by omega) (by omega)) d_Law_law_376 ?_
  refine nv_top (y := (xs (6 * i + 1))) ((congrArg xs (nI_clamp (by omega)))) ?_
  refine lv_aload_n hx hb d_Law_law_377 rfl (lv_at hl 0 rfl) ?_
  refine lv_iload hx hb d_Law_law_378 (lv_at hl 4 rfl) ?_
  refine lv_iconst (v := nI 2) hx hb d_Law_law_380 (by decide) ?_
  refine nv_iadd hx hb d_Law_law_381 ?_
  refine va_sld hx hb hX hbl hbA hS (vp_in_nI (show 6 * i + 2 < L by omega) (by omega)) d_Law_law_382 ?_
  refine nv_top (y := (xs (6 * i + 2))) ((congrArg xs (nI_clamp (by omega)))) ?_
  refine lv_aload_n hx hb d_Law_law_383 rfl (lv_at hl 3 rfl) ?_
  have hFc := va_free (wc := cW cI cV ba A vf X) hD hS hA [0, 1, 2, 3, 4, 5, 6, 7, 8, 9, 10, 11, 12, 13, 14, 15, 16, 17, 18, 19, 20, 21, 22, 23, 24, 25, 26, 27, 28, 29, 30, 31, 32, 33, 34, 35, 36, 37, 38, 39, 40, 41, 42, 43, 44, 45, 46, 47, 48, 49, 50, 51, 52, 53, 54, 55, 56, 57, 58, 59, 60, 61, 62, 63, 64, 65, 66, 67, 68, 69, 70, 71, 72, 73, 74, 75, 76, 77, 78, 79, 80, 81, 82] (wl_c1 X Y f)
  have hXh := hXo.kept hS.2.1
  refine vx_calli (vx_runSX (As := [.ref (ba 0), .int (xs (6 * i + 1)), .int (xs (6 * i + 2)), .ref ou]) (rest := []) (hh := H_credit) Bd (c_Law_credit_A (CX.no (c_Scr_credit_arg hst (ba 0) (ba 1) (ba 3) (ba 5) (ba 7) X.1 (xs (6 * i + 1)) (xs (6 * i + 2)) hno)) [0, 1, 2, 3, 4, 5, 6, 7, 8, 9, 10, 11, 12, 13, 14, 15, 16, 17, 18, 19, 20, 21, 22, 23, 24, 25, 26, 27, 28, 29, 30, 31, 32, 33, 34, 35, 36, 37, 38, 39, 40, 41, 42, 43, 44, 45, 46, 47, 48, 49, 50, 51, 52, 53, 54, 55, 56, 57, 58, 59, 60, 61, 62, 63, 64, 65, 66, 67, 68, 69, 70, 71, 72, 73, 74, 75, 76, 77, 78, 79, 80, 81, 82] (wl_self _) (okI.ok ok_c).1 rfl H.size) (vx_cwSW 4 htb (gi_app (gi_c0 k_536 (gi_c0 k_537 (gi_c0 k_0 gi_nil))) (gi_tb0 k_538)) rfl rfl rfl ⟨by decide, by decide, by decide +kernel⟩ ⟨by decide +kernel, by decide +kernel⟩) ⟨xPre.blind, fun U hU hW => ⟨k_pre hG hP hD [0, 1, 2, 3, 4, 5, 6, 7, 8, 9, 10, 11, 12, 13, 14, 15, 16, 17, 18, 19, 20, 21, 22, 23, 24, 25, 26, 27, 28, 29, 30, 31, 32, 33, 34, 35, 36, 37, 38, 39, 40, 41, 42, 43, 44, 45, 46, 47, 48, 49, 50, 51, 52, 53, 54, 55, 56, 57, 58, 59, 60, 61, 62, 63, 64, 65, 66, 67, 68, 69, 70, 71, 72, 73, 74, 75, 76, 77, 78, 79, 80, 81, 82] (wl_c1 X Y f) (okI.ok ok_c).1 U hU hW, by rw [hU]; exact (hXh.warm hW).narrow hFc⟩⟩ rfl rfl hl.1 rfl (lv_room (Nat.le_of_ble_eq_true rfl)) d_Law_law_384 ⟨by show 106 + i + 1 ≤ 601024; omega, by show 155700 + 6 * i + 6 ≤ 7293034; omega⟩) hS (fun q _ h => hFc q h) hFc (fun q _ h => hFc q h) (fun E9 ce q9 u t H1 locs1 ht hal hpx => hpx.elim) (fun rc u t H locs ht hal hw hB hz1 hk1 hS => ?_)
  obtain ⟨hP1, hD1⟩ := hB
  rw [ht] at hP1
  obtain ⟨hP, hD⟩ := va_join (wr := mW cI cZ ma Y ++ oW cL ou f) (w1 := cW cI cV ba A vf X) hP hD [0, 1, 2, 3, 4, 5, 6, 7, 8, 9, 10, 11, 12, 13, 14, 15, 16, 17, 18, 19, 20, 21, 22, 23, 24, 25, 26, 27, 28, 29, 30, 31, 32, 33, 34, 35, 36, 37, 38, 39, 40, 41, 42, 43, 44, 45, 46, 47, 48, 49, 50, 51, 52, 53, 54, 55, 56, 57, 58, 59, 60, 61, 62, 63, 64, 65, 66, 67, 68, 69, 70, 71, 72, 73, 74, 75, 76, 77, 78, 79, 80, 81, 82] [83, 84, 85, 86, 87, 88, 89, 90, 91, 92, 93, 94, 95, 96, 97, 98, 99, 100, 101, 102, 103, 104, 105] (wl_c1 X Y f) (wl_c2 X Y f) (okI.ok ok_c).2.1 (okI.ok ok_c).2.2.2 hk1 hFc hP1 hD1
  have hP : va_P D classes (cW cI cV ba A vf X ++ (mW cI cZ ma Y ++ oW cL ou f)) H := hP_in hP [23, 24, 25, 26, 27, 28, 29, 30, 31, 32, 33, 34, 35, 36, 37, 38, 39, 40, 41, 42, 43, 44, 45, 46, 47, 48, 49, 50, 51, 52, 53, 54, 55, 56, 57, 58, 59, 60, 61, 62, 63, 64, 65, 66, 67, 68, 69, 70, 71, 72, 73, 74, 75, 76, 77, 78, 79, 80, 81, 82, 83, 84, 85, 86, 87, 88, 89, 90, 91, 92, 93, 94, 95, 96, 97, 98, 99, 100, 101, 102, 103, 104, 105, 0, 1, 2, 3, 4, 5, 6, 7, 8, 9, 10, 11, 12, 13, 14, 15, 16, 17, 18, 19, 20, 21, 22] (wl_c3 X Y f)
  have hD : va_D (fun q : Nat => s.heap.size ≤ q) (cW cI cV ba A vf X ++ (mW cI cZ ma Y ++ oW cL ou f)) := hD.sub [23, 24, 25, 26, 27, 28, 29, 30, 31, 32, 33, 34, 35, 36, 37, 38, 39, 40, 41, 42, 43, 44, 45, 46, 47, 48, 49, 50, 51, 52, 53, 54, 55, 56, 57, 58, 59, 60, 61, 62, 63, 64, 65, 66, 67, 68, 69, 70, 71, 72, 73, 74, 75, 76, 77, 78, 79, 80, 81, 82, 83, 84, 85, 86, 87, 88, 89, 90, 91, 92, 93, 94, 95, 96, 97, 98, 99, 100, 101, 102, 103, 104, 105, 0, 1, 2, 3, 4, 5, 6, 7, 8, 9, 10, 11, 12, 13, 14, 15, 16, 17, 18, 19, 20, 21, 22] (okI.ok ok_c).2.2.1 (wl_c3 X Y f)
  refine W.widen (k := 106 + i + 1) (n := 155700 + 6 * i + 6) (Nat.le_refl _) (Nat.le_refl _) ?_
  refine lv_istore (lv' := [(5, .int rc), (0, .ref b), (1, .ref (ba 0)), (2, .ref (ma 0)), (3, .ref ou), (4, .int (nI (6 * i)))]) hx hb d_Law_law_387 hl (by decide) rfl (fun ls hl => ?_)
  refine lv_aload_n hx hb d_Law_law_389 rfl (lv_at hl 3 rfl) ?_
  refine lv_aload_n hx hb d_Law_law_390 rfl (lv_at hl 1 rfl) ?_
  refine lv_iload hx hb d_Law_law_391 (lv_at hl 5 rfl) ?_
  refine lv_iconst (v := nI 1) hx hb d_Law_law_393 (by decide) ?_
  refine nv_iadd hx hb d_Law_law_394 ?_
  refine va_sld hx hb hX hbl hbA hS (vp_in_nI (show 6 * i + 1 < L by omega) (by omega)) d_Law_law_395 ?_
  refine nv_top (y := (xs (6 * i + 1))) ((congrArg xs (nI_clamp (by omega)))) ?_
  refine lv_aload_n hx hb d_Law_law_396 rfl (lv_at hl 1 rfl) ?_
  refine lv_iload hx hb d_Law_law_397 (lv_at hl 5 rfl) ?_
  refine lv_iconst (v := nI 2) hx hb d_Law_law_399 (by decide) ?_
  refine nv_iadd hx hb d_Law_law_400 ?_
  refine va_sld hx hb hX hbl hbA hS (vp_in_nI (show 6 * i + 2 < L by omega) (by omega)) d_Law_law_401 ?_
  refine nv_top (y := (xs (6 * i + 2))) ((congrArg xs (nI_clamp (by omega)))) ?_
  refine kV_i (wc := mW cI cZ ma Y) (wr := cW cI cV ba A vf X ++ oW cL ou f) (w2 := fun u1 => cW cI cV ba A vf X ++ (mW cI cZ ma u1 ++ oW cL ou f)) [.int (xs (6 * i + 1)), .int (xs (6 * i + 2))] [] Bd ⟨gi_app (gi_c0 k_764 (gi_c0 k_765 (gi_c0 k_766 (gi_c0 k_10 gi_nil)))) (gi_tb0 k_767), rfl, by decide, by decide⟩ (show (parseMethodDescriptor "(II)I").map (fun d => d.parameters.length) = some 2 by decide +kernel) (m_creditA Y (xs (6 * i + 1)) (xs (6 * i + 2)) hmY hno) (by decide +kernel) ⟨by show 106 + i + 1 + 0 ≤ 601024; omega, by show 155700 + 6 * i + 6 + 0 ≤ 7293034; omega⟩ hG hP hD hS hA [83, 84, 85, 86, 87, 88, 89, 90, 91, 92, 93, 94, 95, 96, 97, 98, 99, 100, 101, 102, 103, 104] [0, 1, 2, 3, 4, 5, 6, 7, 8, 9, 10, 11, 12, 13, 14, 15, 16, 17, 18, 19, 20, 21, 22, 23, 24, 25, 26, 27, 28, 29, 30, 31, 32, 33, 34, 35, 36, 37, 38, 39, 40, 41, 42, 43, 44, 45, 46, 47, 48, 49, 50, 51, 52, 53, 54, 55, 56, 57, 58, 59, 60, 61, 62, 63, 64, 65, 66, 67, 68, 69, 70, 71, 72, 73, 74, 75, 76, 77, 78, 79, 80, 81, 82, 105] [0, 1, 2, 3, 4, 5, 6, 7, 8, 9, 10, 11, 12, 13, 14, 15, 16, 17, 18, 19, 20, 21, 22, 23, 24, 25, 26, 27, 28, 29, 30, 31, 32, 33, 34, 35, 36, 37, 38, 39, 40, 41, 42, 43, 44, 45, 46, 47, 48, 49, 50, 51, 52, 53, 54, 55, 56, 57, 58, 59, 60, 61, 62, 63, 64, 65, 66, 67, 68, 69, 70, 71, 72, 73, 74, 75, 76, 77, 78, 79, 80, 81, 82, 84, 85, 86, 87, 88, 89, 90, 91, 92, 93, 94, 95, 96, 97, 98, 99, 100, 101, 102, 103, 104, 105, 83] ok_m (wl_m1 _ _ _) (wl_m2 _ _ _) (fun _ => wl_m3 _ _ _) (q0 := 0) rfl rfl rfl hl.1 rfl (Nat.le_of_ble_eq_true rfl) d_Law_law_402 (fun r1 u1 H locs hp1 hP hD hS => ?_)
  have hP : va_P D classes (cW cI cV ba A vf X ++ (mW cI cZ ma u1 ++ oW cL ou f)) H := hP
  have hD : va_D (fun q : Nat => s.heap.size ≤ q) (cW cI cV ba A vf X ++ (mW cI cZ ma u1 ++ oW cL ou f)) := hD
  refine lv_istore (lv' := [(6, .int r1), (5, .int rc), (0, .ref b), (1, .ref (ba 0)), (2, .ref (ma 0)), (3, .ref ou), (4, .int (nI (6 * i)))]) hx hb d_Law_law_405 hl (by decide) rfl (fun ls hl => ?_)
  refine lv_goto (tgt := 669) hx hb d_Law_law_407 (by decide) ?_
  refine W.widen (k := 106 + (i + 1)) (n := 155700 + 6 * (i + 1)) (by show 106 + i + 1 ≤ 106 + (i + 1); omega) (by show 155700 + 6 * i + 6 ≤ 155700 + 6 * (i + 1); omega) ?_
  exact hN X u1 f H locs _ (hcX) (hp1.1) (by omega) (hp1.2.trans hnb) hP hD hS (lv_sub hl [2, 3, 4, 5, 6] rfl)
set_option maxHeartbeats 8000000 in
set_option maxRecDepth 100000 in
theorem lf_creditSS {p : Program} {l : Launch} {e : Env} {s : State} {m : MethodId} {below : List Frame} {meth : Method} {c : Code} {D : va_G} {cI cZ cL cV : ClassId} {b L : Nat} {xs : Nat → Int32} {H : Heap} {locs : List Loc} {ls : Array Slot} (ba : Nat → Nat) (A : Nat → Nat → Nat) (vf : Nat → Option Nat) (ma : Nat → Nat) (ou : Nat) (X : CS) (Y : MS) (f : Nat → Int64) (i : Nat) (k : Nat) (n : Nat) (hL : L ≤ 3072) (hi : 6 * i + 6 ≤ L) (C0 : lw_At p s m meth c b L xs) (hst : l.stackTraces = false) (hXo : xOk (fun q : Nat => s.heap.size ≤ q) s s.heap) (hG : gk classes NW D (TYS cI cZ cL cV) s) (hvf9 : ∀ k, k < 3 → vf k = some (A k 0)) (hcX : cOk X) (hmY : mOk Y) (hnX : X.1 ≤ i) (hnb : Y.2.2.2 1 = nI X.1) (e1 : xs (6 * i + 1) = nI k) (e2 : xs (6 * i + 2) = nI n) (hk : k < 3) (hn1 : 1 ≤ n) (hn2 : n ≤ 1000000) (hno : ¬ ((X.2.2 k).1 0 ≠ 0 ∧ (X.2.2 k).1 1 + n ≤ 1000000)) (hnm : ¬ (Y.2.1 10 k ≠ 0 ∧ Y.2.1 11 k + n ≤ 1000000)) (hP : va_P D classes (cW cI cV ba A vf X ++ (mW cI cZ ma Y ++ oW cL ou f)) H) (hD : va_D (fun q : Nat => s.heap.size ≤ q) (cW cI cV ba A vf X ++ (mW cI cZ ma Y ++ oW cL ou f))) (hS : va_S (fun q : Nat => s.heap.size ≤ q) s.heap H locs) (hl : lv_has ls 7 [(0, .ref b), (1, .ref (ba 0)), (2, .ref (ma 0)), (3, .ref ou), (4, .int (nI (6 * i)))]) (hN : LN p l e s m below meth c D cI cZ cL cV b ba A vf ma ou i) : W p l e room_1 s m #[Value.ref b] below meth c H locs (106 + i) (155700 + 6 * i) (lw_Z below #[Value.ref b] s) (F0 m 370 ls []) := by
  obtain ⟨hx, hb, hr, hml, hown, hts, hX, hbl, hlocks, hgv⟩ := id C0
  have hA : ∀ q : Nat, s.heap.size ≤ q → (fun q : Nat => s.heap.size ≤ q) q := fun _ h => h
  have hbA : ¬ (fun q : Nat => s.heap.size ≤ q) b := Nat.not_le.mpr hbl
  have htb : ∀ w ∈ TB, w.before #[Value.ref b] s = true := fun w hw => hts w (List.mem_filter.mp hw).1
  have Bd : bd p c code 7 s #[Value.ref b] TB "TileScreenLaw" m := ⟨hx, hb, hml, hown, htb⟩
  refine lv_aload_n hx hb d_Law_law_370 rfl (lv_at hl 1 rfl) ?_
  refine lv_aload_n hx hb d_Law_law_371 rfl (lv_at hl 0 rfl) ?_
  refine lv_iload hx hb d_Law_law_372 (lv_at hl 4 rfl) ?_
  refine lv_iconst (v := nI 1) hx hb d_Law_law_374 (by decide) ?_
  refine nv_iadd hx hb d_Law_law_375 ?_
  refine va_sld hx hb hX hbl hbA hS (vp_in_nI (show 6 * i + 1 < L by omega) (by omega)) d_Law_law_376 ?_
  refine nv_top (y := (nI k)) ((congrArg xs (nI_clamp (by omega))).trans e1) ?_
  refine lv_aload_n hx hb d_Law_law_377 rfl (lv_at hl 0 rfl) ?_
  refine lv_iload hx hb d_Law_law_378 (lv_at hl 4 rfl) ?_
  refine lv_iconst (v := nI 2) hx hb d_Law_law_380 (by decide) ?_
  refine nv_iadd hx hb d_Law_law_381 ?_
  refine va_sld hx hb hX hbl hbA hS (vp_in_nI (show 6 * i + 2 < L by omega) (by omega)) d_Law_law_382 ?_
  refine nv_top (y := (nI n)) ((congrArg xs (nI_clamp (by omega))).trans e2) ?_
  refine lv_aload_n hx hb d_Law_law_383 rfl (lv_at hl 3 rfl) ?_
  have hFc := va_free (wc := cW cI cV ba A vf X) hD hS hA [0, 1, 2, 3, 4, 5, 6, 7, 8, 9, 10, 11, 12, 13, 14, 15, 16, 17, 18, 19, 20, 21, 22, 23, 24, 25, 26, 27, 28, 29, 30, 31, 32, 33, 34, 35, 36, 37, 38, 39, 40, 41, 42, 43, 44, 45, 46, 47, 48, 49, 50, 51, 52, 53, 54, 55, 56, 57, 58, 59, 60, 61, 62, 63, 64, 65, 66, 67, 68, 69, 70, 71, 72, 73, 74, 75, 76, 77, 78, 79, 80, 81, 82] (wl_c1 X Y f)
  have hXh := hXo.kept hS.2.1
  refine vx_calli (vx_runSX (As := [.ref (ba 0), .int (nI k), .int (nI n), .ref ou]) (rest := []) (hh := H_credit) Bd (c_Law_credit_S (CX.view k hk (v_creditT hst X.1 X.2.1 (A k) (X.2.2 k) k n hk (hvf9 k hk) (hcX.2 k) hn1 hn2 hno)) [0, 1, 2, 3, 4, 5, 6, 7, 8, 9, 10, 11, 12, 13, 14, 15, 16, 17, 18, 19, 20, 21, 22, 23, 24, 25, 26, 27, 28, 29, 30, 31, 32, 33, 34, 35, 36, 37, 38, 39, 40, 41, 42, 43, 44, 45, 46, 47, 48, 49, 50, 51, 52, 53, 54, 55, 56, 57, 58, 59, 60, 61, 62, 63, 64, 65, 66, 67, 68, 69, 70, 71, 72, 73, 74, 75, 76, 77, 78, 79, 80, 81, 82] (wl_self _) (okI.ok ok_c).1 rfl H.size) (vx_cwSW 4 htb (gi_app (gi_c0 k_536 (gi_c0 k_537 (gi_c0 k_0 gi_nil))) (gi_tb0 k_538)) rfl rfl rfl ⟨by decide, by decide, by decide +kernel⟩ ⟨by decide +kernel, by decide +kernel⟩) ⟨xPre.blind, fun U hU hW => ⟨k_pre hG hP hD [0, 1, 2, 3, 4, 5, 6, 7, 8, 9, 10, 11, 12, 13, 14, 15, 16, 17, 18, 19, 20, 21, 22, 23, 24, 25, 26, 27, 28, 29, 30, 31, 32, 33, 34, 35, 36, 37, 38, 39, 40, 41, 42, 43, 44, 45, 46, 47, 48, 49, 50, 51, 52, 53, 54, 55, 56, 57, 58, 59, 60, 61, 62, 63, 64, 65, 66, 67, 68, 69, 70, 71, 72, 73, 74, 75, 76, 77, 78, 79, 80, 81, 82] (wl_c1 X Y f) (okI.ok ok_c).1 U hU hW, by rw [hU]; exact (hXh.warm hW).narrow hFc⟩⟩ rfl rfl hl.1 rfl (lv_room (Nat.le_of_ble_eq_true rfl)) d_Law_law_384 ⟨by show 106 + i + 1 ≤ 601024; omega, by show 155700 + 6 * i + 6 ≤ 7293034; omega⟩) hS (fun q _ h => hFc q h) hFc (fun q _ h => hFc q h) (fun E9 ce q9 u t H1 locs1 ht hal hpx => hpx.elim) (fun rc u t H locs ht hal hw hB hz1 hk1 hS => ?_)
  obtain ⟨hP1, hD1⟩ := hB
  rw [ht] at hP1
  obtain ⟨hP, hD⟩ := va_join (wr := mW cI cZ ma Y ++ oW cL ou f) (w1 := cW cI cV ba A vf X) hP hD [0, 1, 2, 3, 4, 5, 6, 7, 8, 9, 10, 11, 12, 13, 14, 15, 16, 17, 18, 19, 20, 21, 22, 23, 24, 25, 26, 27, 28, 29, 30, 31, 32, 33, 34, 35, 36, 37, 38, 39, 40, 41, 42, 43, 44, 45, 46, 47, 48, 49, 50, 51, 52, 53, 54, 55, 56, 57, 58, 59, 60, 61, 62, 63, 64, 65, 66, 67, 68, 69, 70, 71, 72, 73, 74, 75, 76, 77, 78, 79, 80, 81, 82] [83, 84, 85, 86, 87, 88, 89, 90, 91, 92, 93, 94, 95, 96, 97, 98, 99, 100, 101, 102, 103, 104, 105] (wl_c1 X Y f) (wl_c2 X Y f) (okI.ok ok_c).2.1 (okI.ok ok_c).2.2.2 hk1 hFc hP1 hD1
  have hP : va_P D classes (cW cI cV ba A vf X ++ (mW cI cZ ma Y ++ oW cL ou f)) H := hP_in hP [23, 24, 25, 26, 27, 28, 29, 30, 31, 32, 33, 34, 35, 36, 37, 38, 39, 40, 41, 42, 43, 44, 45, 46, 47, 48, 49, 50, 51, 52, 53, 54, 55, 56, 57, 58, 59, 60, 61, 62, 63, 64, 65, 66, 67, 68, 69, 70, 71, 72, 73, 74, 75, 76, 77, 78, 79, 80, 81, 82, 83, 84, 85, 86, 87, 88, 89, 90, 91, 92, 93, 94, 95, 96, 97, 98, 99, 100, 101, 102, 103, 104, 105, 0, 1, 2, 3, 4, 5, 6, 7, 8, 9, 10, 11, 12, 13, 14, 15, 16, 17, 18, 19, 20, 21, 22] (wl_c3 X Y f)
  have hD : va_D (fun q : Nat => s.heap.size ≤ q) (cW cI cV ba A vf X ++ (mW cI cZ ma Y ++ oW cL ou f)) := hD.sub [23, 24, 25, 26, 27, 28, 29, 30, 31, 32, 33, 34, 35, 36, 37, 38, 39, 40, 41, 42, 43, 44, 45, 46, 47, 48, 49, 50, 51, 52, 53, 54, 55, 56, 57, 58, 59, 60, 61, 62, 63, 64, 65, 66, 67, 68, 69, 70, 71, 72, 73, 74, 75, 76, 77, 78, 79, 80, 81, 82, 83, 84, 85, 86, 87, 88, 89, 90, 91, 92, 93, 94, 95, 96, 97, 98, 99, 100, 101, 102, 103, 104, 105, 0, 1, 2, 3, 4, 5, 6, 7, 8, 9, 10, 11, 12, 13, 14, 15, 16, 17, 18, 19, 20, 21, 22] (okI.ok ok_c).2.2.1 (wl_c3 X Y f)
  refine W.widen (k := 106 + i + 1) (n := 155700 + 6 * i + 6) (Nat.le_refl _) (Nat.le_refl _) ?_
  refine lv_istore (lv' := [(5, .int rc), (0, .ref b), (1, .ref (ba 0)), (2, .ref (ma 0)), (3, .ref ou), (4, .int (nI (6 * i)))]) hx hb d_Law_law_387 hl (by decide) rfl (fun ls hl => ?_)
  refine lv_aload_n hx hb d_Law_law_389 rfl (lv_at hl 3 rfl) ?_
  refine lv_aload_n hx hb d_Law_law_390 rfl (lv_at hl 1 rfl) ?_
  refine lv_iload hx hb d_Law_law_391 (lv_at hl 5 rfl) ?_
  refine lv_iconst (v := nI 1) hx hb d_Law_law_393 (by decide) ?_
  refine nv_iadd hx hb d_Law_law_394 ?_
  refine va_sld hx hb hX hbl hbA hS (vp_in_nI (show 6 * i + 1 < L by omega) (by omega)) d_Law_law_395 ?_
  refine nv_top (y := (nI k)) ((congrArg xs (nI_clamp (by omega))).trans e1) ?_
  refine lv_aload_n hx hb d_Law_law_396 rfl (lv_at hl 1 rfl) ?_
  refine lv_iload hx hb d_Law_law_397 (lv_at hl 5 rfl) ?_
  refine lv_iconst (v := nI 2) hx hb d_Law_law_399 (by decide) ?_
  refine nv_iadd hx hb d_Law_law_400 ?_
  refine va_sld hx hb hX hbl hbA hS (vp_in_nI (show 6 * i + 2 < L by omega) (by omega)) d_Law_law_401 ?_
  refine nv_top (y := (nI n)) ((congrArg xs (nI_clamp (by omega))).trans e2) ?_
  refine kV_i (wc := mW cI cZ ma Y) (wr := cW cI cV ba A vf X ++ oW cL ou f) (w2 := fun u1 => cW cI cV ba A vf X ++ (mW cI cZ ma u1 ++ oW cL ou f)) [.int (nI k), .int (nI n)] [] Bd ⟨gi_app (gi_c0 k_764 (gi_c0 k_765 (gi_c0 k_766 (gi_c0 k_10 gi_nil)))) (gi_tb0 k_767), rfl, by decide, by decide⟩ (show (parseMethodDescriptor "(II)I").map (fun d => d.parameters.length) = some 2 by decide +kernel) (m_creditS Y k n hmY hk hn1 hn2 hnm) (by decide +kernel) ⟨by show 106 + i + 1 + 0 ≤ 601024; omega, by show 155700 + 6 * i + 6 + 0 ≤ 7293034; omega⟩ hG hP hD hS hA [83, 84, 85, 86, 87, 88, 89, 90, 91, 92, 93, 94, 95, 96, 97, 98, 99, 100, 101, 102, 103, 104] [0, 1, 2, 3, 4, 5, 6, 7, 8, 9, 10, 11, 12, 13, 14, 15, 16, 17, 18, 19, 20, 21, 22, 23, 24, 25, 26, 27, 28, 29, 30, 31, 32, 33, 34, 35, 36, 37, 38, 39, 40, 41, 42, 43, 44, 45, 46, 47, 48, 49, 50, 51, 52, 53, 54, 55, 56, 57, 58, 59, 60, 61, 62, 63, 64, 65, 66, 67, 68, 69, 70, 71, 72, 73, 74, 75, 76, 77, 78, 79, 80, 81, 82, 105] [0, 1, 2, 3, 4, 5, 6, 7, 8, 9, 10, 11, 12, 13, 14, 15, 16, 17, 18, 19, 20, 21, 22, 23, 24, 25, 26, 27, 28, 29, 30, 31, 32, 33, 34, 35, 36, 37, 38, 39, 40, 41, 42, 43, 44, 45, 46, 47, 48, 49, 50, 51, 52, 53, 54, 55, 56, 57, 58, 59, 60, 61, 62, 63, 64, 65, 66, 67, 68, 69, 70, 71, 72, 73, 74, 75, 76, 77, 78, 79, 80, 81, 82, 84, 85, 86, 87, 88, 89, 90, 91, 92, 93, 94, 95, 96, 97, 98, 99, 100, 101, 102, 103, 104, 105, 83] ok_m (wl_m1 _ _ _) (wl_m2 _ _ _) (fun _ => wl_m3 _ _ _) (q0 := 0) rfl rfl rfl hl.1 rfl (Nat.le_of_ble_eq_true rfl) d_Law_law_402 (fun r1 u1 H locs hp1 hP hD hS => ?_)
  have hP : va_P D classes (cW cI cV ba A vf X ++ (mW cI cZ ma u1 ++ oW cL ou f)) H := hP
  have hD : va_D (fun q : Nat => s.heap.size ≤ q) (cW cI cV ba A vf X ++ (mW cI cZ ma u1 ++ oW cL ou f)) := hD
  refine lv_istore (lv' := [(6, .int r1), (5, .int rc), (0, .ref b), (1, .ref (ba 0)), (2, .ref (ma 0)), (3, .ref ou), (4, .int (nI (6 * i)))]) hx hb d_Law_law_405 hl (by decide) rfl (fun ls hl => ?_)
  refine lv_goto (tgt := 669) hx hb d_Law_law_407 (by decide) ?_
  refine W.widen (k := 106 + (i + 1)) (n := 155700 + 6 * (i + 1)) (by show 106 + i + 1 ≤ 106 + (i + 1); omega) (by show 155700 + 6 * i + 6 ≤ 155700 + 6 * (i + 1); omega) ?_
  exact hN X u1 f H locs _ (hcX) (hp1.1) (by omega) (hp1.2.trans hnb) hP hD hS (lv_sub hl [2, 3, 4, 5, 6] rfl)
set_option maxHeartbeats 8000000 in
set_option maxRecDepth 100000 in
theorem lf_creditSV {p : Program} {l : Launch} {e : Env} {s : State} {m : MethodId} {below : List Frame} {meth : Method} {c : Code} {D : va_G} {cI cZ cL cV : ClassId} {b L : Nat} {xs : Nat → Int32} {H : Heap} {locs : List Loc} {ls : Array Slot} (ba : Nat → Nat) (A : Nat → Nat → Nat) (vf : Nat → Option Nat) (ma : Nat → Nat) (ou : Nat) (X : CS) (Y : MS) (f : Nat → Int64) (i : Nat) (k : Nat) (n : Nat) (hL : L ≤ 3072) (hi : 6 * i + 6 ≤ L) (C0 : lw_At p s m meth c b L xs) (hst : l.stackTraces = false) (hXo : xOk (fun q : Nat => s.heap.size ≤ q) s s.heap) (hG : gk classes NW D (TYS cI cZ cL cV) s) (hvf9 : ∀ k, k < 3 → vf k = some (A k 0)) (hcX : cOk X) (hmY : mOk Y) (hnX : X.1 ≤ i) (hnb : Y.2.2.2 1 = nI X.1) (e1 : xs (6 * i + 1) = nI k) (e2 : xs (6 * i + 2) = nI n) (hk : k < 3) (hn1 : 1 ≤ n) (hn2 : n ≤ 1000000) (hno : ¬ ((X.2.2 k).1 0 ≠ 0 ∧ (X.2.2 k).1 1 + n ≤ 1000000)) (hcm : Y.2.1 10 k ≠ 0) (hmm : Y.2.1 11 k + n ≤ 1000000) (hP : va_P D classes (cW cI cV ba A vf X ++ (mW cI cZ ma Y ++ oW cL ou f)) H) (hD : va_D (fun q : Nat => s.heap.size ≤ q) (cW cI cV ba A vf X ++ (mW cI cZ ma Y ++ oW cL ou f))) (hS : va_S (fun q : Nat => s.heap.size ≤ q) s.heap H locs) (hl : lv_has ls 7 [(0, .ref b), (1, .ref (ba 0)), (2, .ref (ma 0)), (3, .ref ou), (4, .int (nI (6 * i)))]) (hN : LN p l e s m below meth c D cI cZ cL cV b ba A vf ma ou i) : W p l e room_1 s m #[Value.ref b] below meth c H locs (106 + i) (155700 + 6 * i) (lw_Z below #[Value.ref b] s) (F0 m 370 ls []) := by
  obtain ⟨hx, hb, hr, hml, hown, hts, hX, hbl, hlocks, hgv⟩ := id C0
  have hA : ∀ q : Nat, s.heap.size ≤ q → (fun q : Nat => s.heap.size ≤ q) q := fun _ h => h
  have hbA : ¬ (fun q : Nat => s.heap.size ≤ q) b := Nat.not_le.mpr hbl
  have htb : ∀ w ∈ TB, w.before #[Value.ref b] s = true := fun w hw => hts w (List.mem_filter.mp hw).1
  have Bd : bd p c code 7 s #[Value.ref b] TB "TileScreenLaw" m := ⟨hx, hb, hml, hown, htb⟩
  refine lv_aload_n hx hb d_Law_law_370 rfl (lv_at hl 1 rfl) ?_
  refine lv_aload_n hx hb d_Law_law_371 rfl (lv_at hl 0 rfl) ?_
  refine lv_iload hx hb d_Law_law_372 (lv_at hl 4 rfl) ?_
  refine lv_iconst (v := nI 1) hx hb d_Law_law_374 (by decide) ?_
  refine nv_iadd hx hb d_Law_law_375 ?_
  refine va_sld hx hb hX hbl hbA hS (vp_in_nI (show 6 * i + 1 < L by omega) (by omega)) d_Law_law_376 ?_
  refine nv_top (y := (nI k)) ((congrArg xs (nI_clamp (by omega))).trans e1) ?_
  refine lv_aload_n hx hb d_Law_law_377 rfl (lv_at hl 0 rfl) ?_
  refine lv_iload hx hb d_Law_law_378 (lv_at hl 4 rfl) ?_
  refine lv_iconst (v := nI 2) hx hb d_Law_law_380 (by decide) ?_
  refine nv_iadd hx hb d_Law_law_381 ?_
  refine va_sld hx hb hX hbl hbA hS (vp_in_nI (show 6 * i + 2 < L by omega) (by omega)) d_Law_law_382 ?_
  refine nv_top (y := (nI n)) ((congrArg xs (nI_clamp (by omega))).trans e2) ?_
  refine lv_aload_n hx hb d_Law_law_383 rfl (lv_at hl 3 rfl) ?_
  have hFc := va_free (wc := cW cI cV ba A vf X) hD hS hA [0, 1, 2, 3, 4, 5, 6, 7, 8, 9, 10, 11, 12, 13, 14, 15, 16, 17, 18, 19, 20, 21, 22, 23, 24, 25, 26, 27, 28, 29, 30, 31, 32, 33, 34, 35, 36, 37, 38, 39, 40, 41, 42, 43, 44, 45, 46, 47, 48, 49, 50, 51, 52, 53, 54, 55, 56, 57, 58, 59, 60, 61, 62, 63, 64, 65, 66, 67, 68, 69, 70, 71, 72, 73, 74, 75, 76, 77, 78, 79, 80, 81, 82] (wl_c1 X Y f)
  have hXh := hXo.kept hS.2.1
  refine vx_calli (vx_runSX (As := [.ref (ba 0), .int (nI k), .int (nI n), .ref ou]) (rest := []) (hh := H_credit) Bd (c_Law_credit_S (CX.view k hk (v_creditT hst X.1 X.2.1 (A k) (X.2.2 k) k n hk (hvf9 k hk) (hcX.2 k) hn1 hn2 hno)) [0, 1, 2, 3, 4, 5, 6, 7, 8, 9, 10, 11, 12, 13, 14, 15, 16, 17, 18, 19, 20, 21, 22, 23, 24, 25, 26, 27, 28, 29, 30, 31, 32, 33, 34, 35, 36, 37, 38, 39, 40, 41, 42, 43, 44, 45, 46, 47, 48, 49, 50, 51, 52, 53, 54, 55, 56, 57, 58, 59, 60, 61, 62, 63, 64, 65, 66, 67, 68, 69, 70, 71, 72, 73, 74, 75, 76, 77, 78, 79, 80, 81, 82] (wl_self _) (okI.ok ok_c).1 rfl H.size) (vx_cwSW 4 htb (gi_app (gi_c0 k_536 (gi_c0 k_537 (gi_c0 k_0 gi_nil))) (gi_tb0 k_538)) rfl rfl rfl ⟨by decide, by decide, by decide +kernel⟩ ⟨by decide +kernel, by decide +kernel⟩) ⟨xPre.blind, fun U hU hW => ⟨k_pre hG hP hD [0, 1, 2, 3, 4, 5, 6, 7, 8, 9, 10, 11, 12, 13, 14, 15, 16, 17, 18, 19, 20, 21, 22, 23, 24, 25, 26, 27, 28, 29, 30, 31, 32, 33, 34, 35, 36, 37, 38, 39, 40, 41, 42, 43, 44, 45, 46, 47, 48, 49, 50, 51, 52, 53, 54, 55, 56, 57, 58, 59, 60, 61, 62, 63, 64, 65, 66, 67, 68, 69, 70, 71, 72, 73, 74, 75, 76, 77, 78, 79, 80, 81, 82] (wl_c1 X Y f) (okI.ok ok_c).1 U hU hW, by rw [hU]; exact (hXh.warm hW).narrow hFc⟩⟩ rfl rfl hl.1 rfl (lv_room (Nat.le_of_ble_eq_true rfl)) d_Law_law_384 ⟨by show 106 + i + 1 ≤ 601024; omega, by show 155700 + 6 * i + 6 ≤ 7293034; omega⟩) hS (fun q _ h => hFc q h) hFc (fun q _ h => hFc q h) (fun E9 ce q9 u t H1 locs1 ht hal hpx => hpx.elim) (fun rc u t H locs ht hal hw hB hz1 hk1 hS => ?_)
  obtain ⟨hP1, hD1⟩ := hB
  rw [ht] at hP1
  obtain ⟨hP, hD⟩ := va_join (wr := mW cI cZ ma Y ++ oW cL ou f) (w1 := cW cI cV ba A vf X) hP hD [0, 1, 2, 3, 4, 5, 6, 7, 8, 9, 10, 11, 12, 13, 14, 15, 16, 17, 18, 19, 20, 21, 22, 23, 24, 25, 26, 27, 28, 29, 30, 31, 32, 33, 34, 35, 36, 37, 38, 39, 40, 41, 42, 43, 44, 45, 46, 47, 48, 49, 50, 51, 52, 53, 54, 55, 56, 57, 58, 59, 60, 61, 62, 63, 64, 65, 66, 67, 68, 69, 70, 71, 72, 73, 74, 75, 76, 77, 78, 79, 80, 81, 82] [83, 84, 85, 86, 87, 88, 89, 90, 91, 92, 93, 94, 95, 96, 97, 98, 99, 100, 101, 102, 103, 104, 105] (wl_c1 X Y f) (wl_c2 X Y f) (okI.ok ok_c).2.1 (okI.ok ok_c).2.2.2 hk1 hFc hP1 hD1
  have hP : va_P D classes (cW cI cV ba A vf X ++ (mW cI cZ ma Y ++ oW cL ou f)) H := hP_in hP [23, 24, 25, 26, 27, 28, 29, 30, 31, 32, 33, 34, 35, 36, 37, 38, 39, 40, 41, 42, 43, 44, 45, 46, 47, 48, 49, 50, 51, 52, 53, 54, 55, 56, 57, 58, 59, 60, 61, 62, 63, 64, 65, 66, 67, 68, 69, 70, 71, 72, 73, 74, 75, 76, 77, 78, 79, 80, 81, 82, 83, 84, 85, 86, 87, 88, 89, 90, 91, 92, 93, 94, 95, 96, 97, 98, 99, 100, 101, 102, 103, 104, 105, 0, 1, 2, 3, 4, 5, 6, 7, 8, 9, 10, 11, 12, 13, 14, 15, 16, 17, 18, 19, 20, 21, 22] (wl_c3 X Y f)
  have hD : va_D (fun q : Nat => s.heap.size ≤ q) (cW cI cV ba A vf X ++ (mW cI cZ ma Y ++ oW cL ou f)) := hD.sub [23, 24, 25, 26, 27, 28, 29, 30, 31, 32, 33, 34, 35, 36, 37, 38, 39, 40, 41, 42, 43, 44, 45, 46, 47, 48, 49, 50, 51, 52, 53, 54, 55, 56, 57, 58, 59, 60, 61, 62, 63, 64, 65, 66, 67, 68, 69, 70, 71, 72, 73, 74, 75, 76, 77, 78, 79, 80, 81, 82, 83, 84, 85, 86, 87, 88, 89, 90, 91, 92, 93, 94, 95, 96, 97, 98, 99, 100, 101, 102, 103, 104, 105, 0, 1, 2, 3, 4, 5, 6, 7, 8, 9, 10, 11, 12, 13, 14, 15, 16, 17, 18, 19, 20, 21, 22] (okI.ok ok_c).2.2.1 (wl_c3 X Y f)
  refine W.widen (k := 106 + i + 1) (n := 155700 + 6 * i + 6) (Nat.le_refl _) (Nat.le_refl _) ?_
  refine lv_istore (lv' := [(5, .int rc), (0, .ref b), (1, .ref (ba 0)), (2, .ref (ma 0)), (3, .ref ou), (4, .int (nI (6 * i)))]) hx hb d_Law_law_387 hl (by decide) rfl (fun ls hl => ?_)
  refine lv_aload_n hx hb d_Law_law_389 rfl (lv_at hl 3 rfl) ?_
  refine lv_aload_n hx hb d_Law_law_390 rfl (lv_at hl 1 rfl) ?_
  refine lv_iload hx hb d_Law_law_391 (lv_at hl 5 rfl) ?_
  refine lv_iconst (v := nI 1) hx hb d_Law_law_393 (by decide) ?_
  refine nv_iadd hx hb d_Law_law_394 ?_
  refine va_sld hx hb hX hbl hbA hS (vp_in_nI (show 6 * i + 1 < L by omega) (by omega)) d_Law_law_395 ?_
  refine nv_top (y := (nI k)) ((congrArg xs (nI_clamp (by omega))).trans e1) ?_
  refine lv_aload_n hx hb d_Law_law_396 rfl (lv_at hl 1 rfl) ?_
  refine lv_iload hx hb d_Law_law_397 (lv_at hl 5 rfl) ?_
  refine lv_iconst (v := nI 2) hx hb d_Law_law_399 (by decide) ?_
  refine nv_iadd hx hb d_Law_law_400 ?_
  refine va_sld hx hb hX hbl hbA hS (vp_in_nI (show 6 * i + 2 < L by omega) (by omega)) d_Law_law_401 ?_
  refine nv_top (y := (nI n)) ((congrArg xs (nI_clamp (by omega))).trans e2) ?_
  refine kV_i (wc := mW cI cZ ma Y) (wr := cW cI cV ba A vf X ++ oW cL ou f) (w2 := fun u1 => cW cI cV ba A vf X ++ (mW cI cZ ma u1 ++ oW cL ou f)) [.int (nI k), .int (nI n)] [] Bd ⟨gi_app (gi_c0 k_764 (gi_c0 k_765 (gi_c0 k_766 (gi_c0 k_10 gi_nil)))) (gi_tb0 k_767), rfl, by decide, by decide⟩ (show (parseMethodDescriptor "(II)I").map (fun d => d.parameters.length) = some 2 by decide +kernel) (m_credit Y k n hmY hk hn1 hn2 hcm hmm) (by decide +kernel) ⟨by show 106 + i + 1 + 0 ≤ 601024; omega, by show 155700 + 6 * i + 6 + 0 ≤ 7293034; omega⟩ hG hP hD hS hA [83, 84, 85, 86, 87, 88, 89, 90, 91, 92, 93, 94, 95, 96, 97, 98, 99, 100, 101, 102, 103, 104] [0, 1, 2, 3, 4, 5, 6, 7, 8, 9, 10, 11, 12, 13, 14, 15, 16, 17, 18, 19, 20, 21, 22, 23, 24, 25, 26, 27, 28, 29, 30, 31, 32, 33, 34, 35, 36, 37, 38, 39, 40, 41, 42, 43, 44, 45, 46, 47, 48, 49, 50, 51, 52, 53, 54, 55, 56, 57, 58, 59, 60, 61, 62, 63, 64, 65, 66, 67, 68, 69, 70, 71, 72, 73, 74, 75, 76, 77, 78, 79, 80, 81, 82, 105] [0, 1, 2, 3, 4, 5, 6, 7, 8, 9, 10, 11, 12, 13, 14, 15, 16, 17, 18, 19, 20, 21, 22, 23, 24, 25, 26, 27, 28, 29, 30, 31, 32, 33, 34, 35, 36, 37, 38, 39, 40, 41, 42, 43, 44, 45, 46, 47, 48, 49, 50, 51, 52, 53, 54, 55, 56, 57, 58, 59, 60, 61, 62, 63, 64, 65, 66, 67, 68, 69, 70, 71, 72, 73, 74, 75, 76, 77, 78, 79, 80, 81, 82, 84, 85, 86, 87, 88, 89, 90, 91, 92, 93, 94, 95, 96, 97, 98, 99, 100, 101, 102, 103, 104, 105, 83] ok_m (wl_m1 _ _ _) (wl_m2 _ _ _) (fun _ => wl_m3 _ _ _) (q0 := 0) rfl rfl rfl hl.1 rfl (Nat.le_of_ble_eq_true rfl) d_Law_law_402 (fun r1 u1 H locs hp1 hP hD hS => ?_)
  have hP : va_P D classes (cW cI cV ba A vf X ++ (mW cI cZ ma u1 ++ oW cL ou f)) H := hP
  have hD : va_D (fun q : Nat => s.heap.size ≤ q) (cW cI cV ba A vf X ++ (mW cI cZ ma u1 ++ oW cL ou f)) := hD
  refine lv_istore (lv' := [(6, .int r1), (5, .int rc), (0, .ref b), (1, .ref (ba 0)), (2, .ref (ma 0)), (3, .ref ou), (4, .int (nI (6 * i)))]) hx hb d_Law_law_405 hl (by decide) rfl (fun ls hl => ?_)
  refine lv_goto (tgt := 669) hx hb d_Law_law_407 (by decide) ?_
  refine W.widen (k := 106 + (i + 1)) (n := 155700 + 6 * (i + 1)) (by show 106 + i + 1 ≤ 106 + (i + 1); omega) (by show 155700 + 6 * i + 6 ≤ 155700 + 6 * (i + 1); omega) ?_
  exact hN X u1 f H locs _ (hcX) (hp1.1) (by omega) (hp1.2.trans hnb) hP hD hS (lv_sub hl [2, 3, 4, 5, 6] rfl)
set_option maxHeartbeats 8000000 in
set_option maxRecDepth 100000 in
theorem lf_creditVS {p : Program} {l : Launch} {e : Env} {s : State} {m : MethodId} {below : List Frame} {meth : Method} {c : Code} {D : va_G} {cI cZ cL cV : ClassId} {b L : Nat} {xs : Nat → Int32} {H : Heap} {locs : List Loc} {ls : Array Slot} (ba : Nat → Nat) (A : Nat → Nat → Nat) (vf : Nat → Option Nat) (ma : Nat → Nat) (ou : Nat) (X : CS) (Y : MS) (f : Nat → Int64) (i : Nat) (k : Nat) (n : Nat) (hL : L ≤ 3072) (hi : 6 * i + 6 ≤ L) (C0 : lw_At p s m meth c b L xs) (hst : l.stackTraces = false) (hXo : xOk (fun q : Nat => s.heap.size ≤ q) s s.heap) (hG : gk classes NW D (TYS cI cZ cL cV) s) (hvf9 : ∀ k, k < 3 → vf k = some (A k 0)) (hcX : cOk X) (hmY : mOk Y) (hnX : X.1 ≤ i) (hnb : Y.2.2.2 1 = nI X.1) (e1 : xs (6 * i + 1) = nI k) (e2 : xs (6 * i + 2) = nI n) (hk : k < 3) (hn1 : 1 ≤ n) (hn2 : n ≤ 1000000) (hc : (X.2.2 k).1 0 ≠ 0) (hm : (X.2.2 k).1 1 + n ≤ 1000000) (hnm : ¬ (Y.2.1 10 k ≠ 0 ∧ Y.2.1 11 k + n ≤ 1000000)) (hP : va_P D classes (cW cI cV ba A vf X ++ (mW cI cZ ma Y ++ oW cL ou f)) H) (hD : va_D (fun q : Nat => s.heap.size ≤ q) (cW cI cV ba A vf X ++ (mW cI cZ ma Y ++ oW cL ou f))) (hS : va_S (fun q : Nat => s.heap.size ≤ q) s.heap H locs) (hl : lv_has ls 7 [(0, .ref b), (1, .ref (ba 0)), (2, .ref (ma 0)), (3, .ref ou), (4, .int (nI (6 * i)))]) (hN : LN p l e s m below meth c D cI cZ cL cV b ba A vf ma ou i) : W p l e room_1 s m #[Value.ref b] below meth c H locs (106 + i) (155700 + 6 * i) (lw_Z below #[Value.ref b] s) (F0 m 370 ls []) := by
  obtain ⟨hx, hb, hr, hml, hown, hts, hX, hbl, hlocks, hgv⟩ := id C0
  have hA : ∀ q : Nat, s.heap.size ≤ q → (fun q : Nat => s.heap.size ≤ q) q := fun _ h => h
  have hbA : ¬ (fun q : Nat => s.heap.size ≤ q) b := Nat.not_le.mpr hbl
  have htb : ∀ w ∈ TB, w.before #[Value.ref b] s = true := fun w hw => hts w (List.mem_filter.mp hw).1
  have Bd : bd p c code 7 s #[Value.ref b] TB "TileScreenLaw" m := ⟨hx, hb, hml, hown, htb⟩
  refine lv_aload_n hx hb d_Law_law_370 rfl (lv_at hl 1 rfl) ?_
  refine lv_aload_n hx hb d_Law_law_371 rfl (lv_at hl 0 rfl) ?_
  refine lv_iload hx hb d_Law_law_372 (lv_at hl 4 rfl) ?_
  refine lv_iconst (v := nI 1) hx hb d_Law_law_374 (by decide) ?_
  refine nv_iadd hx hb d_Law_law_375 ?_
  refine va_sld hx hb hX hbl hbA hS (vp_in_nI (show 6 * i + 1 < L by omega) (by omega)) d_Law_law_376 ?_
  refine nv_top (y := (nI k)) ((congrArg xs (nI_clamp (by omega))).trans e1) ?_
  refine lv_aload_n hx hb d_Law_law_377 rfl (lv_at hl 0 rfl) ?_
  refine lv_iload hx hb d_Law_law_378 (lv_at hl 4 rfl) ?_
  refine lv_iconst (v := nI 2) hx hb d_Law_law_380 (by decide) ?_
  refine nv_iadd hx hb d_Law_law_381 ?_
  refine va_sld hx hb hX hbl hbA hS (vp_in_nI (show 6 * i + 2 < L by omega) (by omega)) d_Law_law_382 ?_
  refine nv_top (y := (nI n)) ((congrArg xs (nI_clamp (by omega))).trans e2) ?_
  refine lv_aload_n hx hb d_Law_law_383 rfl (lv_at hl 3 rfl) ?_
  have hFc := va_free (wc := cW cI cV ba A vf X ++ oW cL ou f) hD hS hA [0, 1, 2, 3, 4, 5, 6, 7, 8, 9, 10, 11, 12, 13, 14, 15, 16, 17, 18, 19, 20, 21, 22, 23, 24, 25, 26, 27, 28, 29, 30, 31, 32, 33, 34, 35, 36, 37, 38, 39, 40, 41, 42, 43, 44, 45, 46, 47, 48, 49, 50, 51, 52, 53, 54, 55, 56, 57, 58, 59, 60, 61, 62, 63, 64, 65, 66, 67, 68, 69, 70, 71, 72, 73, 74, 75, 76, 77, 78, 79, 80, 81, 82, 105] (wl_v1 X Y f)
  refine vx_calli (vx_runSX (As := [.ref (ba 0), .int (nI k), .int (nI n), .ref ou]) (rest := []) (hh := H_credit) Bd (c_Law_credit_V ba A vf ou X f k n hk (hvf9 k hk) hcX hn1 hn2 hc hm H.size) (vx_cwSW 4 htb (gi_app (gi_c0 k_536 (gi_c0 k_537 (gi_c0 k_0 gi_nil))) (gi_tb0 k_538)) rfl rfl rfl ⟨by decide, by decide, by decide +kernel⟩ ⟨by decide +kernel, by decide +kernel⟩) ⟨cPre.blind, k_pre hG hP hD [0, 1, 2, 3, 4, 5, 6, 7, 8, 9, 10, 11, 12, 13, 14, 15, 16, 17, 18, 19, 20, 21, 22, 23, 24, 25, 26, 27, 28, 29, 30, 31, 32, 33, 34, 35, 36, 37, 38, 39, 40, 41, 42, 43, 44, 45, 46, 47, 48, 49, 50, 51, 52, 53, 54, 55, 56, 57, 58, 59, 60, 61, 62, 63, 64, 65, 66, 67, 68, 69, 70, 71, 72, 73, 74, 75, 76, 77, 78, 79, 80, 81, 82, 105] (wl_v1 X Y f) (okI.ok ok_v).1⟩ rfl rfl hl.1 rfl (lv_room (Nat.le_of_ble_eq_true rfl)) d_Law_law_384 ⟨by show 106 + i + 0 ≤ 601024; omega, by show 155700 + 6 * i + 0 ≤ 7293034; omega⟩) hS (fun q _ h => hFc q h) hFc (fun q _ h => hFc q h) (fun E9 ce q9 u t H1 locs1 ht hal hpx => hpx.elim) (fun rc u9 t H locs ht hal hw hB hz1 hk1 hS => ?_)
  obtain ⟨hP1, hD1⟩ := hB
  rw [ht] at hP1
  obtain ⟨hP, hD⟩ := va_join (wr := mW cI cZ ma Y) (w1 := cW cI cV ba A vf (X.1, X.2.1, fun j => if j = k then u9.1 else X.2.2 j) ++ oW cL ou u9.2) hP hD [0, 1, 2, 3, 4, 5, 6, 7, 8, 9, 10, 11, 12, 13, 14, 15, 16, 17, 18, 19, 20, 21, 22, 23, 24, 25, 26, 27, 28, 29, 30, 31, 32, 33, 34, 35, 36, 37, 38, 39, 40, 41, 42, 43, 44, 45, 46, 47, 48, 49, 50, 51, 52, 53, 54, 55, 56, 57, 58, 59, 60, 61, 62, 63, 64, 65, 66, 67, 68, 69, 70, 71, 72, 73, 74, 75, 76, 77, 78, 79, 80, 81, 82, 105] [83, 84, 85, 86, 87, 88, 89, 90, 91, 92, 93, 94, 95, 96, 97, 98, 99, 100, 101, 102, 103, 104] (wl_v1 X Y f) (wl_v2 X Y f) (okI.ok ok_v).2.1 (okI.ok ok_v).2.2.2 hk1 hFc hP1 hD1
  have hP : va_P D classes (cW cI cV ba A vf (X.1, X.2.1, fun j => if j = k then u9.1 else X.2.2 j) ++ (mW cI cZ ma Y ++ oW cL ou u9.2)) H := hP_in hP [22, 23, 24, 25, 26, 27, 28, 29, 30, 31, 32, 33, 34, 35, 36, 37, 38, 39, 40, 41, 42, 43, 44, 45, 46, 47, 48, 49, 50, 51, 52, 53, 54, 55, 56, 57, 58, 59, 60, 61, 62, 63, 64, 65, 66, 67, 68, 69, 70, 71, 72, 73, 74, 75, 76, 77, 78, 79, 80, 81, 82, 83, 84, 85, 86, 87, 88, 89, 90, 91, 92, 93, 94, 95, 96, 97, 98, 99, 100, 101, 102, 103, 104, 0, 1, 2, 3, 4, 5, 6, 7, 8, 9, 10, 11, 12, 13, 14, 15, 16, 17, 18, 19, 20, 21, 105] (wl_v3 (X.1, X.2.1, fun j => if j = k then u9.1 else X.2.2 j) Y u9.2)
  have hD : va_D (fun q : Nat => s.heap.size ≤ q) (cW cI cV ba A vf (X.1, X.2.1, fun j => if j = k then u9.1 else X.2.2 j) ++ (mW cI cZ ma Y ++ oW cL ou u9.2)) := hD.sub [22, 23, 24, 25, 26, 27, 28, 29, 30, 31, 32, 33, 34, 35, 36, 37, 38, 39, 40, 41, 42, 43, 44, 45, 46, 47, 48, 49, 50, 51, 52, 53, 54, 55, 56, 57, 58, 59, 60, 61, 62, 63, 64, 65, 66, 67, 68, 69, 70, 71, 72, 73, 74, 75, 76, 77, 78, 79, 80, 81, 82, 83, 84, 85, 86, 87, 88, 89, 90, 91, 92, 93, 94, 95, 96, 97, 98, 99, 100, 101, 102, 103, 104, 0, 1, 2, 3, 4, 5, 6, 7, 8, 9, 10, 11, 12, 13, 14, 15, 16, 17, 18, 19, 20, 21, 105] (okI.ok ok_v).2.2.1 (wl_v3 (X.1, X.2.1, fun j => if j = k then u9.1 else X.2.2 j) Y u9.2)
  refine lv_istore (lv' := [(5, .int rc), (0, .ref b), (1, .ref (ba 0)), (2, .ref (ma 0)), (3, .ref ou), (4, .int (nI (6 * i)))]) hx hb d_Law_law_387 hl (by decide) rfl (fun ls hl => ?_)
  refine lv_aload_n hx hb d_Law_law_389 rfl (lv_at hl 3 rfl) ?_
  refine lv_aload_n hx hb d_Law_law_390 rfl (lv_at hl 1 rfl) ?_
  refine lv_iload hx hb d_Law_law_391 (lv_at hl 5 rfl) ?_
  refine lv_iconst (v := nI 1) hx hb d_Law_law_393 (by decide) ?_
  refine nv_iadd hx hb d_Law_law_394 ?_
  refine va_sld hx hb hX hbl hbA hS (vp_in_nI (show 6 * i + 1 < L by omega) (by omega)) d_Law_law_395 ?_
  refine nv_top (y := (nI k)) ((congrArg xs (nI_clamp (by omega))).trans e1) ?_
  refine lv_aload_n hx hb d_Law_law_396 rfl (lv_at hl 1 rfl) ?_
  refine lv_iload hx hb d_Law_law_397 (lv_at hl 5 rfl) ?_
  refine lv_iconst (v := nI 2) hx hb d_Law_law_399 (by decide) ?_
  refine nv_iadd hx hb d_Law_law_400 ?_
  refine va_sld hx hb hX hbl hbA hS (vp_in_nI (show 6 * i + 2 < L by omega) (by omega)) d_Law_law_401 ?_
  refine nv_top (y := (nI n)) ((congrArg xs (nI_clamp (by omega))).trans e2) ?_
  refine kV_i (wc := mW cI cZ ma Y) (wr := cW cI cV ba A vf (X.1, X.2.1, fun j => if j = k then u9.1 else X.2.2 j) ++ oW cL ou u9.2) (w2 := fun u1 => cW cI cV ba A vf (X.1, X.2.1, fun j => if j = k then u9.1 else X.2.2 j) ++ (mW cI cZ ma u1 ++ oW cL ou u9.2)) [.int (nI k), .int (nI n)] [] Bd ⟨gi_app (gi_c0 k_764 (gi_c0 k_765 (gi_c0 k_766 (gi_c0 k_10 gi_nil)))) (gi_tb0 k_767), rfl, by decide, by decide⟩ (show (parseMethodDescriptor "(II)I").map (fun d => d.parameters.length) = some 2 by decide +kernel) (m_creditS Y k n hmY hk hn1 hn2 hnm) (by decide +kernel) ⟨by show 106 + i + 0 ≤ 601024; omega, by show 155700 + 6 * i + 0 ≤ 7293034; omega⟩ hG hP hD hS hA [83, 84, 85, 86, 87, 88, 89, 90, 91, 92, 93, 94, 95, 96, 97, 98, 99, 100, 101, 102, 103, 104] [0, 1, 2, 3, 4, 5, 6, 7, 8, 9, 10, 11, 12, 13, 14, 15, 16, 17, 18, 19, 20, 21, 22, 23, 24, 25, 26, 27, 28, 29, 30, 31, 32, 33, 34, 35, 36, 37, 38, 39, 40, 41, 42, 43, 44, 45, 46, 47, 48, 49, 50, 51, 52, 53, 54, 55, 56, 57, 58, 59, 60, 61, 62, 63, 64, 65, 66, 67, 68, 69, 70, 71, 72, 73, 74, 75, 76, 77, 78, 79, 80, 81, 82, 105] [0, 1, 2, 3, 4, 5, 6, 7, 8, 9, 10, 11, 12, 13, 14, 15, 16, 17, 18, 19, 20, 21, 22, 23, 24, 25, 26, 27, 28, 29, 30, 31, 32, 33, 34, 35, 36, 37, 38, 39, 40, 41, 42, 43, 44, 45, 46, 47, 48, 49, 50, 51, 52, 53, 54, 55, 56, 57, 58, 59, 60, 61, 62, 63, 64, 65, 66, 67, 68, 69, 70, 71, 72, 73, 74, 75, 76, 77, 78, 79, 80, 81, 82, 84, 85, 86, 87, 88, 89, 90, 91, 92, 93, 94, 95, 96, 97, 98, 99, 100, 101, 102, 103, 104, 105, 83] ok_m (wl_m1 _ _ _) (wl_m2 _ _ _) (fun _ => wl_m3 _ _ _) (q0 := 0) rfl rfl rfl hl.1 rfl (Nat.le_of_ble_eq_true rfl) d_Law_law_402 (fun r1 u1 H locs hp1 hP hD hS => ?_)
  have hP : va_P D classes (cW cI cV ba A vf (X.1, X.2.1, fun j => if j = k then u9.1 else X.2.2 j) ++ (mW cI cZ ma u1 ++ oW cL ou u9.2)) H := hP
  have hD : va_D (fun q : Nat => s.heap.size ≤ q) (cW cI cV ba A vf (X.1, X.2.1, fun j => if j = k then u9.1 else X.2.2 j) ++ (mW cI cZ ma u1 ++ oW cL ou u9.2)) := hD
  refine lv_istore (lv' := [(6, .int r1), (5, .int rc), (0, .ref b), (1, .ref (ba 0)), (2, .ref (ma 0)), (3, .ref ou), (4, .int (nI (6 * i)))]) hx hb d_Law_law_405 hl (by decide) rfl (fun ls hl => ?_)
  refine lv_goto (tgt := 669) hx hb d_Law_law_407 (by decide) ?_
  refine W.widen (k := 106 + (i + 1)) (n := 155700 + 6 * (i + 1)) (by show 106 + i ≤ 106 + (i + 1); omega) (by show 155700 + 6 * i ≤ 155700 + 6 * (i + 1); omega) ?_
  exact hN (X.1, X.2.1, fun j => if j = k then u9.1 else X.2.2 j) u1 u9.2 H locs _ (cOk.view hcX hw) (hp1.1) (by omega) (hp1.2.trans hnb) hP hD hS (lv_sub hl [2, 3, 4, 5, 6] rfl)
set_option maxHeartbeats 8000000 in
set_option maxRecDepth 100000 in
theorem lf_creditVV {p : Program} {l : Launch} {e : Env} {s : State} {m : MethodId} {below : List Frame} {meth : Method} {c : Code} {D : va_G} {cI cZ cL cV : ClassId} {b L : Nat} {xs : Nat → Int32} {H : Heap} {locs : List Loc} {ls : Array Slot} (ba : Nat → Nat) (A : Nat → Nat → Nat) (vf : Nat → Option Nat) (ma : Nat → Nat) (ou : Nat) (X : CS) (Y : MS) (f : Nat → Int64) (i : Nat) (k : Nat) (n : Nat) (hL : L ≤ 3072) (hi : 6 * i + 6 ≤ L) (C0 : lw_At p s m meth c b L xs) (hst : l.stackTraces = false) (hXo : xOk (fun q : Nat => s.heap.size ≤ q) s s.heap) (hG : gk classes NW D (TYS cI cZ cL cV) s) (hvf9 : ∀ k, k < 3 → vf k = some (A k 0)) (hcX : cOk X) (hmY : mOk Y) (hnX : X.1 ≤ i) (hnb : Y.2.2.2 1 = nI X.1) (e1 : xs (6 * i + 1) = nI k) (e2 : xs (6 * i + 2) = nI n) (hk : k < 3) (hn1 : 1 ≤ n) (hn2 : n ≤ 1000000) (hc : (X.2.2 k).1 0 ≠ 0) (hm : (X.2.2 k).1 1 + n ≤ 1000000) (hcm : Y.2.1 10 k ≠ 0) (hmm : Y.2.1 11 k + n ≤ 1000000) (hP : va_P D classes (cW cI cV ba A vf X ++ (mW cI cZ ma Y ++ oW cL ou f)) H) (hD : va_D (fun q : Nat => s.heap.size ≤ q) (cW cI cV ba A vf X ++ (mW cI cZ ma Y ++ oW cL ou f))) (hS : va_S (fun q : Nat => s.heap.size ≤ q) s.heap H locs) (hl : lv_has ls 7 [(0, .ref b), (1, .ref (ba 0)), (2, .ref (ma 0)), (3, .ref ou), (4, .int (nI (6 * i)))]) (hN : LN p l e s m below meth c D cI cZ cL cV b ba A vf ma ou i) : W p l e room_1 s m #[Value.ref b] below meth c H locs (106 + i) (155700 + 6 * i) (lw_Z below #[Value.ref b] s) (F0 m 370 ls []) := by
  obtain ⟨hx, hb, hr, hml, hown, hts, hX, hbl, hlocks, hgv⟩ := id C0
  have hA : ∀ q : Nat, s.heap.size ≤ q → (fun q : Nat => s.heap.size ≤ q) q := fun _ h => h
  have hbA : ¬ (fun q : Nat => s.heap.size ≤ q) b := Nat.not_le.mpr hbl
  have htb : ∀ w ∈ TB, w.before #[Value.ref b] s = true := fun w hw => hts w (List.mem_filter.mp hw).1
  have Bd : bd p c code 7 s #[Value.ref b] TB "TileScreenLaw" m := ⟨hx, hb, hml, hown, htb⟩
  refine lv_aload_n hx hb d_Law_law_370 rfl (lv_at hl 1 rfl) ?_
  refine lv_aload_n hx hb d_Law_law_371 rfl (lv_at hl 0 rfl) ?_
  refine lv_iload hx hb d_Law_law_372 (lv_at hl 4 rfl) ?_
  refine lv_iconst (v := nI 1) hx hb d_Law_law_374 (by decide) ?_
  refine nv_iadd hx hb d_Law_law_375 ?_
  refine va_sld hx hb hX hbl hbA hS (vp_in_nI (show 6 * i + 1 < L by omega) (by omega)) d_Law_law_376 ?_
  refine nv_top (y := (nI k)) ((congrArg xs (nI_clamp (by omega))).trans e1) ?_
  refine lv_aload_n hx hb d_Law_law_377 rfl (lv_at hl 0 rfl) ?_
  refine lv_iload hx hb d_Law_law_378 (lv_at hl 4 rfl) ?_
  refine lv_iconst (v := nI 2) hx hb d_Law_law_380 (by decide) ?_
  refine nv_iadd hx hb d_Law_law_381 ?_
  refine va_sld hx hb hX hbl hbA hS (vp_in_nI (show 6 * i + 2 < L by omega) (by omega)) d_Law_law_382 ?_
  refine nv_top (y := (nI n)) ((congrArg xs (nI_clamp (by omega))).trans e2) ?_
  refine lv_aload_n hx hb d_Law_law_383 rfl (lv_at hl 3 rfl) ?_
  have hFc := va_free (wc := cW cI cV ba A vf X ++ oW cL ou f) hD hS hA [0, 1, 2, 3, 4, 5, 6, 7, 8, 9, 10, 11, 12, 13, 14, 15, 16, 17, 18, 19, 20, 21, 22, 23, 24, 25, 26, 27, 28, 29, 30, 31, 32, 33, 34, 35, 36, 37, 38, 39, 40, 41, 42, 43, 44, 45, 46, 47, 48, 49, 50, 51, 52, 53, 54, 55, 56, 57, 58, 59, 60, 61, 62, 63, 64, 65, 66, 67, 68, 69, 70, 71, 72, 73, 74, 75, 76, 77, 78, 79, 80, 81, 82, 105] (wl_v1 X Y f)
  refine vx_calli (vx_runSX (As := [.ref (ba 0), .int (nI k), .int (nI n), .ref ou]) (rest := []) (hh := H_credit) Bd (c_Law_credit_V ba A vf ou X f k n hk (hvf9 k hk) hcX hn1 hn2 hc hm H.size) (vx_cwSW 4 htb (gi_app (gi_c0 k_536 (gi_c0 k_537 (gi_c0 k_0 gi_nil))) (gi_tb0 k_538)) rfl rfl rfl ⟨by decide, by decide, by decide +kernel⟩ ⟨by decide +kernel, by decide +kernel⟩) ⟨cPre.blind, k_pre hG hP hD [0, 1, 2, 3, 4, 5, 6, 7, 8, 9, 10, 11, 12, 13, 14, 15, 16, 17, 18, 19, 20, 21, 22, 23, 24, 25, 26, 27, 28, 29, 30, 31, 32, 33, 34, 35, 36, 37, 38, 39, 40, 41, 42, 43, 44, 45, 46, 47, 48, 49, 50, 51, 52, 53, 54, 55, 56, 57, 58, 59, 60, 61, 62, 63, 64, 65, 66, 67, 68, 69, 70, 71, 72, 73, 74, 75, 76, 77, 78, 79, 80, 81, 82, 105] (wl_v1 X Y f) (okI.ok ok_v).1⟩ rfl rfl hl.1 rfl (lv_room (Nat.le_of_ble_eq_true rfl)) d_Law_law_384 ⟨by show 106 + i + 0 ≤ 601024; omega, by show 155700 + 6 * i + 0 ≤ 7293034; omega⟩) hS (fun q _ h => hFc q h) hFc (fun q _ h => hFc q h) (fun E9 ce q9 u t H1 locs1 ht hal hpx => hpx.elim) (fun rc u9 t H locs ht hal hw hB hz1 hk1 hS => ?_)
  obtain ⟨hP1, hD1⟩ := hB
  rw [ht] at hP1
  obtain ⟨hP, hD⟩ := va_join (wr := mW cI cZ ma Y) (w1 := cW cI cV ba A vf (X.1, X.2.1, fun j => if j = k then u9.1 else X.2.2 j) ++ oW cL ou u9.2) hP hD [0, 1, 2, 3, 4, 5, 6, 7, 8, 9, 10, 11, 12, 13, 14, 15, 16, 17, 18, 19, 20, 21, 22, 23, 24, 25, 26, 27, 28, 29, 30, 31, 32, 33, 34, 35, 36, 37, 38, 39, 40, 41, 42, 43, 44, 45, 46, 47, 48, 49, 50, 51, 52, 53, 54, 55, 56, 57, 58, 59, 60, 61, 62, 63, 64, 65, 66, 67, 68, 69, 70, 71, 72, 73, 74, 75, 76, 77, 78, 79, 80, 81, 82, 105] [83, 84, 85, 86, 87, 88, 89, 90, 91, 92, 93, 94, 95, 96, 97, 98, 99, 100, 101, 102, 103, 104] (wl_v1 X Y f) (wl_v2 X Y f) (okI.ok ok_v).2.1 (okI.ok ok_v).2.2.2 hk1 hFc hP1 hD1
  have hP : va_P D classes (cW cI cV ba A vf (X.1, X.2.1, fun j => if j = k then u9.1 else X.2.2 j) ++ (mW cI cZ ma Y ++ oW cL ou u9.2)) H := hP_in hP [22, 23, 24, 25, 26, 27, 28, 29, 30, 31, 32, 33, 34, 35, 36, 37, 38, 39, 40, 41, 42, 43, 44, 45, 46, 47, 48, 49, 50, 51, 52, 53, 54, 55, 56, 57, 58, 59, 60, 61, 62, 63, 64, 65, 66, 67, 68, 69, 70, 71, 72, 73, 74, 75, 76, 77, 78, 79, 80, 81, 82, 83, 84, 85, 86, 87, 88, 89, 90, 91, 92, 93, 94, 95, 96, 97, 98, 99, 100, 101, 102, 103, 104, 0, 1, 2, 3, 4, 5, 6, 7, 8, 9, 10, 11, 12, 13, 14, 15, 16, 17, 18, 19, 20, 21, 105] (wl_v3 (X.1, X.2.1, fun j => if j = k then u9.1 else X.2.2 j) Y u9.2)
  have hD : va_D (fun q : Nat => s.heap.size ≤ q) (cW cI cV ba A vf (X.1, X.2.1, fun j => if j = k then u9.1 else X.2.2 j) ++ (mW cI cZ ma Y ++ oW cL ou u9.2)) := hD.sub [22, 23, 24, 25, 26, 27, 28, 29, 30, 31, 32, 33, 34, 35, 36, 37, 38, 39, 40, 41, 42, 43, 44, 45, 46, 47, 48, 49, 50, 51, 52, 53, 54, 55, 56, 57, 58, 59, 60, 61, 62, 63, 64, 65, 66, 67, 68, 69, 70, 71, 72, 73, 74, 75, 76, 77, 78, 79, 80, 81, 82, 83, 84, 85, 86, 87, 88, 89, 90, 91, 92, 93, 94, 95, 96, 97, 98, 99, 100, 101, 102, 103, 104, 0, 1, 2, 3, 4, 5, 6, 7, 8, 9, 10, 11, 12, 13, 14, 15, 16, 17, 18, 19, 20, 21, 105] (okI.ok ok_v).2.2.1 (wl_v3 (X.1, X.2.1, fun j => if j = k then u9.1 else X.2.2 j) Y u9.2)
  refine lv_istore (lv' := [(5, .int rc), (0, .ref b), (1, .ref (ba 0)), (2, .ref (ma 0)), (3, .ref ou), (4, .int (nI (6 * i)))]) hx hb d_Law_law_387 hl (by decide) rfl (fun ls hl => ?_)
  refine lv_aload_n hx hb d_Law_law_389 rfl (lv_at hl 3 rfl) ?_
  refine lv_aload_n hx hb d_Law_law_390 rfl (lv_at hl 1 rfl) ?_
  refine lv_iload hx hb d_Law_law_391 (lv_at hl 5 rfl) ?_
  refine lv_iconst (v := nI 1) hx hb d_Law_law_393 (by decide) ?_
  refine nv_iadd hx hb d_Law_law_394 ?_
  refine va_sld hx hb hX hbl hbA hS (vp_in_nI (show 6 * i + 1 < L by omega) (by omega)) d_Law_law_395 ?_
  refine nv_top (y := (nI k)) ((congrArg xs (nI_clamp (by omega))).trans e1) ?_
  refine lv_aload_n hx hb d_Law_law_396 rfl (lv_at hl 1 rfl) ?_
  refine lv_iload hx hb d_Law_law_397 (lv_at hl 5 rfl) ?_
  refine lv_iconst (v := nI 2) hx hb d_Law_law_399 (by decide) ?_
  refine nv_iadd hx hb d_Law_law_400 ?_
  refine va_sld hx hb hX hbl hbA hS (vp_in_nI (show 6 * i + 2 < L by omega) (by omega)) d_Law_law_401 ?_
  refine nv_top (y := (nI n)) ((congrArg xs (nI_clamp (by omega))).trans e2) ?_
  refine kV_i (wc := mW cI cZ ma Y) (wr := cW cI cV ba A vf (X.1, X.2.1, fun j => if j = k then u9.1 else X.2.2 j) ++ oW cL ou u9.2) (w2 := fun u1 => cW cI cV ba A vf (X.1, X.2.1, fun j => if j = k then u9.1 else X.2.2 j) ++ (mW cI cZ ma u1 ++ oW cL ou u9.2)) [.int (nI k), .int (nI n)] [] Bd ⟨gi_app (gi_c0 k_764 (gi_c0 k_765 (gi_c0 k_766 (gi_c0 k_10 gi_nil)))) (gi_tb0 k_767), rfl, by decide, by decide⟩ (show (parseMethodDescriptor "(II)I").map (fun d => d.parameters.length) = some 2 by decide +kernel) (m_credit Y k n hmY hk hn1 hn2 hcm hmm) (by decide +kernel) ⟨by show 106 + i + 0 ≤ 601024; omega, by show 155700 + 6 * i + 0 ≤ 7293034; omega⟩ hG hP hD hS hA [83, 84, 85, 86, 87, 88, 89, 90, 91, 92, 93, 94, 95, 96, 97, 98, 99, 100, 101, 102, 103, 104] [0, 1, 2, 3, 4, 5, 6, 7, 8, 9, 10, 11, 12, 13, 14, 15, 16, 17, 18, 19, 20, 21, 22, 23, 24, 25, 26, 27, 28, 29, 30, 31, 32, 33, 34, 35, 36, 37, 38, 39, 40, 41, 42, 43, 44, 45, 46, 47, 48, 49, 50, 51, 52, 53, 54, 55, 56, 57, 58, 59, 60, 61, 62, 63, 64, 65, 66, 67, 68, 69, 70, 71, 72, 73, 74, 75, 76, 77, 78, 79, 80, 81, 82, 105] [0, 1, 2, 3, 4, 5, 6, 7, 8, 9, 10, 11, 12, 13, 14, 15, 16, 17, 18, 19, 20, 21, 22, 23, 24, 25, 26, 27, 28, 29, 30, 31, 32, 33, 34, 35, 36, 37, 38, 39, 40, 41, 42, 43, 44, 45, 46, 47, 48, 49, 50, 51, 52, 53, 54, 55, 56, 57, 58, 59, 60, 61, 62, 63, 64, 65, 66, 67, 68, 69, 70, 71, 72, 73, 74, 75, 76, 77, 78, 79, 80, 81, 82, 84, 85, 86, 87, 88, 89, 90, 91, 92, 93, 94, 95, 96, 97, 98, 99, 100, 101, 102, 103, 104, 105, 83] ok_m (wl_m1 _ _ _) (wl_m2 _ _ _) (fun _ => wl_m3 _ _ _) (q0 := 0) rfl rfl rfl hl.1 rfl (Nat.le_of_ble_eq_true rfl) d_Law_law_402 (fun r1 u1 H locs hp1 hP hD hS => ?_)
  have hP : va_P D classes (cW cI cV ba A vf (X.1, X.2.1, fun j => if j = k then u9.1 else X.2.2 j) ++ (mW cI cZ ma u1 ++ oW cL ou u9.2)) H := hP
  have hD : va_D (fun q : Nat => s.heap.size ≤ q) (cW cI cV ba A vf (X.1, X.2.1, fun j => if j = k then u9.1 else X.2.2 j) ++ (mW cI cZ ma u1 ++ oW cL ou u9.2)) := hD
  refine lv_istore (lv' := [(6, .int r1), (5, .int rc), (0, .ref b), (1, .ref (ba 0)), (2, .ref (ma 0)), (3, .ref ou), (4, .int (nI (6 * i)))]) hx hb d_Law_law_405 hl (by decide) rfl (fun ls hl => ?_)
  refine lv_goto (tgt := 669) hx hb d_Law_law_407 (by decide) ?_
  refine W.widen (k := 106 + (i + 1)) (n := 155700 + 6 * (i + 1)) (by show 106 + i ≤ 106 + (i + 1); omega) (by show 155700 + 6 * i ≤ 155700 + 6 * (i + 1); omega) ?_
  exact hN (X.1, X.2.1, fun j => if j = k then u9.1 else X.2.2 j) u1 u9.2 H locs _ (cOk.view hcX hw) (hp1.1) (by omega) (hp1.2.trans hnb) hP hD hS (lv_sub hl [2, 3, 4, 5, 6] rfl)
end
