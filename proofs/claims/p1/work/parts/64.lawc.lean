section
variable {l : Launch} {D : va_G} {cI cZ cL cV : ClassId}
set_option maxHeartbeats 1000000 in
theorem law_endX {p : Program} {l : Launch} {e : Env} {s : State} {m : MethodId} {below : List Frame} {meth : Method} {c : Code} {b L : Nat} {xs : Nat → Int32} {H : Heap} {locs : List Loc} {ls : Array Slot} (hL : L ≤ 6) (C0 : lw_At p s m meth c b L xs) (hS : va_S (fun q : Nat => s.heap.size ≤ q) s.heap H locs) (hl : lv_has ls 7 [(0, .ref b), (4, .int (nI 0))]) : W p l e room_1 s m #[Value.ref b] below meth c H locs 107 155706 (lw_Z below #[Value.ref b] s) (F0 m 697 ls []) := by
  obtain ⟨hx, hb, hr, hml, hown, hts, hX, hbl, hlocks, hgv⟩ := id C0
  have hbA : ¬ (fun q : Nat => s.heap.size ≤ q) b := Nat.not_le.mpr hbl
  refine lv_iinc (v := nI 6) (lv' := [(4, .int (nI 6)), (0, .ref b)]) hx hb d_Law_law_697 hl (k := 1) rfl rfl (by decide) rfl (fun ls hl => ?_)
  refine lv_goto (tgt := 23) hx hb d_Law_law_700 (by decide) ?_
  refine lv_iload hx hb d_Law_law_23 (lv_at hl 0 rfl) ?_
  refine lv_aload_n hx hb d_Law_law_25 rfl (lv_at hl 1 rfl) ?_
  refine va_slen hx hb hX hbl hbA hS d_Law_law_26 ?_
  refine lv_bipush (v := nI 6) hx hb d_Law_law_27 (by decide) ?_
  refine lv_isub hx hb d_Law_law_29 ?_
  refine lv_icmp_gt (tgt := 703) hx hb d_Law_law_30 (by decide) (fun _ => ?_) (fun h9 => absurd (lt_sub6 hL) h9)
  refine lv_iconst (v := 1) hx hb d_Law_law_703 (by decide) ?_
  refine va_forget (fun q hq => hS.2.2 q hq) ?_
  refine W.widen (k := 600002) (n := 7302232) (Nat.le_of_ble_eq_true rfl) (Nat.le_of_ble_eq_true rfl) ?_
  exact lw_ret hx hb hr hlocks d_Law_law_704
set_option maxHeartbeats 1000000 in
set_option maxRecDepth 100000 in
theorem law_credit_arg {p : Program} {l : Launch} {e : Env} {s : State} {m : MethodId} {below : List Frame} {meth : Method} {c : Code} {D : va_G} {cI cZ cL cV : ClassId} {b L : Nat} {xs : Nat → Int32} {H : Heap} {locs : List Loc} {ls : Array Slot} (ou : Nat) (ts : Nat) (dr : Nat) (cl : Nat) (cp : Nat) (vs : Nat) (mo : Nat) (rpx : Nat) (rca : Nat) (rpl : Nat) (rth : Nat) (rco : Nat) (rsh : Nat) (rsf : Nat) (rcr : Nat) (rep : Nat) (rby : Nat) (rli : Nat) (rls : Nat) (rla : Nat) (rcm : Nat) (rcs : Nat) (rpa : Nat) (rpm : Nat) (rpo : Nat) (rti : Nat) (rre : Nat) (rcl : Nat) (hno : ¬ (vwP (xs 1) ∧ ∃ q, 1 ≤ q ∧ q ≤ 1000000 ∧ xs 2 = nI q)) (hst : l.stackTraces = false) (hXo : xOk (fun q : Nat => s.heap.size ≤ q) s s.heap) (hL : L ≤ 6) (hL6 : 6 ≤ L) (C0 : lw_At p s m meth c b L xs) (hG : gk classes NW D (TYS cI cZ cL cV) s) (hP : va_P D classes [(ts, .inr (8, [.ref dr, .ref cl, .ref cp, .ref vs, .int (nI 0)])), (mo, .inr (9, [.int (nI 0), .ref rpx, .int (nI 0), .ref rca, .ref rpl, .ref rth, .ref rco, .ref rsh, .ref rsf, .ref rcr, .ref rep, .ref rby, .ref rli, .ref rls, .ref rla, .ref rcm, .ref rcs, .ref rpa, .ref rpm, .ref rpo, .ref rti, .ref rre, .ref rcl, .int (nI 0), .int (nI 0), .int (nI 0), .int (nI 0)]))] H) (hD : va_D (fun q : Nat => s.heap.size ≤ q) [(ts, .inr (8, [.ref dr, .ref cl, .ref cp, .ref vs, .int (nI 0)])), (mo, .inr (9, [.int (nI 0), .ref rpx, .int (nI 0), .ref rca, .ref rpl, .ref rth, .ref rco, .ref rsh, .ref rsf, .ref rcr, .ref rep, .ref rby, .ref rli, .ref rls, .ref rla, .ref rcm, .ref rcs, .ref rpa, .ref rpm, .ref rpo, .ref rti, .ref rre, .ref rcl, .int (nI 0), .int (nI 0), .int (nI 0), .int (nI 0)]))]) (hS : va_S (fun q : Nat => s.heap.size ≤ q) s.heap H locs) (hl : lv_has ls 7 [(0, .ref b), (1, .ref ts), (2, .ref mo), (3, .ref ou), (4, .int (nI 0))]) : W p l e room_1 s m #[Value.ref b] below meth c H locs 106 155700 (lw_Z below #[Value.ref b] s) (F0 m 370 ls []) := by
  obtain ⟨hx, hb, hr, hml, hown, hts, hX, hbl, hlocks, hgv⟩ := id C0
  have hA : ∀ q : Nat, s.heap.size ≤ q → (fun q : Nat => s.heap.size ≤ q) q := fun _ h => h
  have hbA : ¬ (fun q : Nat => s.heap.size ≤ q) b := Nat.not_le.mpr hbl
  have htb : ∀ w ∈ TB, w.before #[Value.ref b] s = true := fun w hw => hts w (List.mem_filter.mp hw).1
  have Bd : bd p c code 7 s #[Value.ref b] TB "TileScreenLaw" m := ⟨hx, hb, hml, hown, htb⟩
  refine lv_aload_n hx hb d_Law_law_370 rfl (lv_at hl 1 rfl) ?_
  refine lv_aload_n hx hb d_Law_law_371 rfl (lv_at hl 0 rfl) ?_
  refine lv_iload hx hb d_Law_law_372 (lv_at hl 4 rfl) ?_
  refine lv_iconst (v := nI 1) hx hb d_Law_law_374 (by decide) ?_
  refine nv_iadd hx hb d_Law_law_375 ?_
  refine nv_top (y := nI 1) rfl ?_
  refine va_sld hx hb hX hbl hbA hS (vp_in_nI (show 1 < L by omega) (by omega)) d_Law_law_376 ?_
  refine nv_top (y := (xs 1)) ((congrArg xs (nI_clamp (by decide)))) ?_
  refine lv_aload_n hx hb d_Law_law_377 rfl (lv_at hl 0 rfl) ?_
  refine lv_iload hx hb d_Law_law_378 (lv_at hl 4 rfl) ?_
  refine lv_iconst (v := nI 2) hx hb d_Law_law_380 (by decide) ?_
  refine nv_iadd hx hb d_Law_law_381 ?_
  refine nv_top (y := nI 2) rfl ?_
  refine va_sld hx hb hX hbl hbA hS (vp_in_nI (show 2 < L by omega) (by omega)) d_Law_law_382 ?_
  refine nv_top (y := (xs 2)) ((congrArg xs (nI_clamp (by decide)))) ?_
  refine lv_aload_n hx hb d_Law_law_383 rfl (lv_at hl 3 rfl) ?_
  have hFc := va_free (wc := [(ts, .inr (8, [.ref dr, .ref cl, .ref cp, .ref vs, .int (nI 0)]))]) hD hS hA [0] rfl
  have hXh := hXo.kept hS.2.1
  refine vx_calli (vx_runSX (As := [.ref ts, .int (xs 1), .int (xs 2), .ref ou]) (rest := []) (hh := H_credit) Bd ((c_Law_credit_A (c_Scr_credit_arg hst ts dr cl cp vs 0 (xs 1) (xs 2) hno) [0] rfl (by decide) rfl) H.size) (vx_cwSW 4 htb (gi_app (gi_c0 k_536 (gi_c0 k_537 (gi_c0 k_0 gi_nil))) (gi_tb0 k_538)) rfl rfl rfl ⟨by decide, by decide, by decide +kernel⟩ ⟨by decide +kernel, by decide +kernel⟩) ⟨xPre.blind, fun U hU hW => ⟨k_pre hG hP hD [0] rfl (by decide) U hU hW, by rw [hU]; exact (hXh.warm hW).narrow hFc⟩⟩ rfl rfl hl.1 rfl (lv_room (Nat.le_of_ble_eq_true rfl)) d_Law_law_384 ⟨by decide +kernel, by decide +kernel⟩) hS (fun q _ h => hFc q h) hFc (fun q _ h => hFc q h) (fun E9 ce q9 u t H1 locs1 ht hal hpx => hpx.elim) (fun r u t H locs ht hal hw hB hz1 hk1 hS => ?_)
  obtain ⟨hP1, hD1⟩ := hB
  rw [ht] at hP1
  obtain ⟨hP, hD⟩ := va_join (wr := [(mo, .inr (9, [.int (nI 0), .ref rpx, .int (nI 0), .ref rca, .ref rpl, .ref rth, .ref rco, .ref rsh, .ref rsf, .ref rcr, .ref rep, .ref rby, .ref rli, .ref rls, .ref rla, .ref rcm, .ref rcs, .ref rpa, .ref rpm, .ref rpo, .ref rti, .ref rre, .ref rcl, .int (nI 0), .int (nI 0), .int (nI 0), .int (nI 0)]))]) (w1 := [(ts, .inr (8, [.ref dr, .ref cl, .ref cp, .ref vs, .int (nI 0)]))]) hP hD [0] [1] rfl rfl (by decide) (by decide) hk1 hFc hP1 hD1
  subst hw
  have hP : va_P D classes [(mo, .inr (9, [.int (nI 0), .ref rpx, .int (nI 0), .ref rca, .ref rpl, .ref rth, .ref rco, .ref rsh, .ref rsf, .ref rcr, .ref rep, .ref rby, .ref rli, .ref rls, .ref rla, .ref rcm, .ref rcs, .ref rpa, .ref rpm, .ref rpo, .ref rti, .ref rre, .ref rcl, .int (nI 0), .int (nI 0), .int (nI 0), .int (nI 0)])), (ts, .inr (8, [.ref dr, .ref cl, .ref cp, .ref vs, .int (nI 0)]))] H := hP
  have hD : va_D (fun q : Nat => s.heap.size ≤ q) [(mo, .inr (9, [.int (nI 0), .ref rpx, .int (nI 0), .ref rca, .ref rpl, .ref rth, .ref rco, .ref rsh, .ref rsf, .ref rcr, .ref rep, .ref rby, .ref rli, .ref rls, .ref rla, .ref rcm, .ref rcs, .ref rpa, .ref rpm, .ref rpo, .ref rti, .ref rre, .ref rcl, .int (nI 0), .int (nI 0), .int (nI 0), .int (nI 0)])), (ts, .inr (8, [.ref dr, .ref cl, .ref cp, .ref vs, .int (nI 0)]))] := hD
  refine W.widen (k := 107) (n := 155706) (Nat.le_of_ble_eq_true rfl) (Nat.le_of_ble_eq_true rfl) ?_
  refine lv_istore (lv' := [(5, .int (nI 1)), (0, .ref b), (1, .ref ts), (2, .ref mo), (3, .ref ou), (4, .int (nI 0))]) hx hb d_Law_law_387 hl (by decide) rfl (fun ls hl => ?_)
  refine lv_aload_n hx hb d_Law_law_389 rfl (lv_at hl 3 rfl) ?_
  refine lv_aload_n hx hb d_Law_law_390 rfl (lv_at hl 1 rfl) ?_
  refine lv_iload hx hb d_Law_law_391 (lv_at hl 5 rfl) ?_
  refine lv_iconst (v := nI 1) hx hb d_Law_law_393 (by decide) ?_
  refine nv_iadd hx hb d_Law_law_394 ?_
  refine nv_top (y := nI 1) rfl ?_
  refine va_sld hx hb hX hbl hbA hS (vp_in_nI (show 1 < L by omega) (by omega)) d_Law_law_395 ?_
  refine nv_top (y := (xs 1)) ((congrArg xs (nI_clamp (by decide)))) ?_
  refine lv_aload_n hx hb d_Law_law_396 rfl (lv_at hl 1 rfl) ?_
  refine lv_iload hx hb d_Law_law_397 (lv_at hl 5 rfl) ?_
  refine lv_iconst (v := nI 2) hx hb d_Law_law_399 (by decide) ?_
  refine nv_iadd hx hb d_Law_law_400 ?_
  refine nv_top (y := nI 2) rfl ?_
  refine va_sld hx hb hX hbl hbA hS (vp_in_nI (show 2 < L by omega) (by omega)) d_Law_law_401 ?_
  refine nv_top (y := (xs 2)) ((congrArg xs (nI_clamp (by decide)))) ?_
  refine kV_i (wc := [(mo, .inr (9, [.int (nI 0), .ref rpx, .int (nI 0), .ref rca, .ref rpl, .ref rth, .ref rco, .ref rsh, .ref rsf, .ref rcr, .ref rep, .ref rby, .ref rli, .ref rls, .ref rla, .ref rcm, .ref rcs, .ref rpa, .ref rpm, .ref rpo, .ref rti, .ref rre, .ref rcl, .int (nI 0), .int (nI 0), .int (nI 0), .int (nI 0)]))]) (wr := [(ts, .inr (8, [.ref dr, .ref cl, .ref cp, .ref vs, .int (nI 0)]))]) (w2 := fun _ => [(mo, .inr (9, [.int (nI 1), .ref rpx, .int (nI 0), .ref rca, .ref rpl, .ref rth, .ref rco, .ref rsh, .ref rsf, .ref rcr, .ref rep, .ref rby, .ref rli, .ref rls, .ref rla, .ref rcm, .ref rcs, .ref rpa, .ref rpm, .ref rpo, .ref rti, .ref rre, .ref rcl, .int (nI 0), .int (nI 0), .int (nI 0), .int (nI 0)])), (ts, .inr (8, [.ref dr, .ref cl, .ref cp, .ref vs, .int (nI 0)]))]) [.int (xs 1), .int (xs 2)] [] Bd ⟨gi_app (gi_c0 k_768 (gi_c0 k_769 (gi_c0 k_770 (gi_c0 k_10 gi_nil)))) (gi_tb0 k_771), rfl, by decide, by decide⟩ (show (parseMethodDescriptor "(II)I").map (fun d => d.parameters.length) = some 2 by decide +kernel) (c_Mod_credit_arg mo (nI 0) rpx (nI 0) rca rpl rth rco rsh rsf rcr rep rby rli rls rla rcm rcs rpa rpm rpo rti rre rcl 0 0 0 0 (xs 1) (xs 2) (hno)) (by decide +kernel) ⟨Nat.le_of_ble_eq_true rfl, Nat.le_of_ble_eq_true rfl⟩ hG hP hD hS hA [0] [1] [1, 0] (by decide) rfl rfl (fun _ => rfl) (q0 := 0) rfl rfl rfl hl.1 rfl (Nat.le_of_ble_eq_true rfl) d_Law_law_402 (fun r1 u3 H locs hp2 hP hD hS => ?_)
  have hP : va_P D classes [(mo, .inr (9, [.int (nI 1), .ref rpx, .int (nI 0), .ref rca, .ref rpl, .ref rth, .ref rco, .ref rsh, .ref rsf, .ref rcr, .ref rep, .ref rby, .ref rli, .ref rls, .ref rla, .ref rcm, .ref rcs, .ref rpa, .ref rpm, .ref rpo, .ref rti, .ref rre, .ref rcl, .int (nI 0), .int (nI 0), .int (nI 0), .int (nI 0)])), (ts, .inr (8, [.ref dr, .ref cl, .ref cp, .ref vs, .int (nI 0)]))] H := hP
  have hD : va_D (fun q : Nat => s.heap.size ≤ q) [(mo, .inr (9, [.int (nI 1), .ref rpx, .int (nI 0), .ref rca, .ref rpl, .ref rth, .ref rco, .ref rsh, .ref rsf, .ref rcr, .ref rep, .ref rby, .ref rli, .ref rls, .ref rla, .ref rcm, .ref rcs, .ref rpa, .ref rpm, .ref rpo, .ref rti, .ref rre, .ref rcl, .int (nI 0), .int (nI 0), .int (nI 0), .int (nI 0)])), (ts, .inr (8, [.ref dr, .ref cl, .ref cp, .ref vs, .int (nI 0)]))] := hD
  subst hp2
  refine lv_istore (lv' := [(6, .int (nI 0)), (5, .int (nI 1)), (0, .ref b), (1, .ref ts), (2, .ref mo), (3, .ref ou), (4, .int (nI 0))]) hx hb d_Law_law_405 hl (by decide) rfl (fun ls hl => ?_)
  refine lv_aload_n hx hb d_Law_law_407 rfl (lv_at hl 4 rfl) ?_
  refine kV_i (wc := [(mo, .inr (9, [.int (nI 1), .ref rpx, .int (nI 0), .ref rca, .ref rpl, .ref rth, .ref rco, .ref rsh, .ref rsf, .ref rcr, .ref rep, .ref rby, .ref rli, .ref rls, .ref rla, .ref rcm, .ref rcs, .ref rpa, .ref rpm, .ref rpo, .ref rti, .ref rre, .ref rcl, .int (nI 0), .int (nI 0), .int (nI 0), .int (nI 0)]))]) (wr := [(ts, .inr (8, [.ref dr, .ref cl, .ref cp, .ref vs, .int (nI 0)]))]) (w2 := fun _ => [(mo, .inr (9, [.int (nI 1), .ref rpx, .int (nI 0), .ref rca, .ref rpl, .ref rth, .ref rco, .ref rsh, .ref rsf, .ref rcr, .ref rep, .ref rby, .ref rli, .ref rls, .ref rla, .ref rcm, .ref rcs, .ref rpa, .ref rpm, .ref rpo, .ref rti, .ref rre, .ref rcl, .int (nI 0), .int (nI 0), .int (nI 0), .int (nI 0)])), (ts, .inr (8, [.ref dr, .ref cl, .ref cp, .ref vs, .int (nI 0)]))]) [] [] Bd ⟨gi_app (gi_c0 k_718 (gi_c0 k_719 (gi_c0 k_720 (gi_c0 k_10 gi_nil)))) (gi_tb0 k_721), rfl, by decide, by decide⟩ (show (parseMethodDescriptor "()I").map (fun d => d.parameters.length) = some 0 by decide +kernel) (c_Mod_thrown mo (nI 1) rpx (nI 0) rca rpl rth rco rsh rsf rcr rep rby rli rls rla rcm rcs rpa rpm rpo rti rre rcl 0 0 0 0 ) (by decide +kernel) ⟨Nat.le_of_ble_eq_true rfl, Nat.le_of_ble_eq_true rfl⟩ hG hP hD hS hA [0] [1] [1, 0] (by decide) rfl rfl (fun _ => rfl) (q0 := 0) rfl rfl rfl hl.1 rfl (Nat.le_of_ble_eq_true rfl) d_Law_law_408 (fun r4 u6 H locs hp5 hP hD hS => ?_)
  have hP : va_P D classes [(mo, .inr (9, [.int (nI 1), .ref rpx, .int (nI 0), .ref rca, .ref rpl, .ref rth, .ref rco, .ref rsh, .ref rsf, .ref rcr, .ref rep, .ref rby, .ref rli, .ref rls, .ref rla, .ref rcm, .ref rcs, .ref rpa, .ref rpm, .ref rpo, .ref rti, .ref rre, .ref rcl, .int (nI 0), .int (nI 0), .int (nI 0), .int (nI 0)])), (ts, .inr (8, [.ref dr, .ref cl, .ref cp, .ref vs, .int (nI 0)]))] H := hP
  have hD : va_D (fun q : Nat => s.heap.size ≤ q) [(mo, .inr (9, [.int (nI 1), .ref rpx, .int (nI 0), .ref rca, .ref rpl, .ref rth, .ref rco, .ref rsh, .ref rsf, .ref rcr, .ref rep, .ref rby, .ref rli, .ref rls, .ref rla, .ref rcm, .ref rcs, .ref rpa, .ref rpm, .ref rpo, .ref rti, .ref rre, .ref rcl, .int (nI 0), .int (nI 0), .int (nI 0), .int (nI 0)])), (ts, .inr (8, [.ref dr, .ref cl, .ref cp, .ref vs, .int (nI 0)]))] := hD
  subst hp5
  refine lv_iload hx hb d_Law_law_411 (lv_at hl 1 rfl) ?_
  refine lv_icmp_eq (tgt := 418) hx hb d_Law_law_413 (by decide) (fun c_413 => ?_) (fun c_413 => ?_)
  · refine lv_iload hx hb d_Law_law_418 (lv_at hl 1 rfl) ?_
    refine nv_if_ne (tgt := 435) hx hb d_Law_law_420 (by decide) (by decide) (fun _ => ?_) (fun h9 => absurd h9 (by decide))
    refine lv_goto (tgt := 697) hx hb d_Law_law_435 (by decide) ?_
    exact law_endX hL C0 hS (lv_sub hl [2, 6] rfl)
  · exact absurd rfl c_413
set_option maxHeartbeats 1000000 in
set_option maxRecDepth 100000 in
theorem law_credit_st {p : Program} {l : Launch} {e : Env} {s : State} {m : MethodId} {below : List Frame} {meth : Method} {c : Code} {D : va_G} {cI cZ cL cV : ClassId} {b L : Nat} {xs : Nat → Int32} {H : Heap} {locs : List Loc} {ls : Array Slot} (ou : Nat) (ts : Nat) (dr : Nat) (cl : Nat) (cp : Nat) (vs : Nat) (vf : Nat → Option Nat) (vw : Nat) (fd : Nat) (ds : Nat) (po : Nat) (mo : Nat) (rpx : Nat) (rca : Nat) (rpl : Nat) (rth : Nat) (rco : Nat) (rsh : Nat) (rsf : Nat) (rcr : Nat) (rep : Nat) (rby : Nat) (rli : Nat) (rls : Nat) (rla : Nat) (rcm : Nat) (rcs : Nat) (rpa : Nat) (rpm : Nat) (rpo : Nat) (rti : Nat) (rre : Nat) (rcl : Nat) (k : Nat) (n : Nat) (e1 : xs 1 = nI k) (e2 : xs 2 = nI n) (hk : k < 3) (hvf : vf k = some vw) (hn1 : 1 ≤ n) (hn2 : n ≤ 1000000) (hst : l.stackTraces = false) (hXo : xOk (fun q : Nat => s.heap.size ≤ q) s s.heap) (hL : L ≤ 6) (hL6 : 6 ≤ L) (C0 : lw_At p s m meth c b L xs) (hG : gk classes NW D (TYS cI cZ cL cV) s) (hP : va_P D classes [(ts, .inr (8, [.ref dr, .ref cl, .ref cp, .ref vs, .int (nI 0)])), (vs, .inl (cV, 3, .inr (.inr (.inr (.inr vf))))), (vw, .inr (7, [.ref fd, .ref ds, .ref po, .int (nI 0), .int (nI 0), .int (nI 0)])), (mo, .inr (9, [.int (nI 0), .ref rpx, .int (nI 0), .ref rca, .ref rpl, .ref rth, .ref rco, .ref rsh, .ref rsf, .ref rcr, .ref rep, .ref rby, .ref rli, .ref rls, .ref rla, .ref rcm, .ref rcs, .ref rpa, .ref rpm, .ref rpo, .ref rti, .ref rre, .ref rcl, .int (nI 0), .int (nI 0), .int (nI 0), .int (nI 0)])), (rco, .inl (cZ, 3, .inl (nF (fun _ => 0)))), (rcr, .inl (cI, 3, .inl (nF (fun _ => 0))))] H) (hD : va_D (fun q : Nat => s.heap.size ≤ q) [(ts, .inr (8, [.ref dr, .ref cl, .ref cp, .ref vs, .int (nI 0)])), (vs, .inl (cV, 3, .inr (.inr (.inr (.inr vf))))), (vw, .inr (7, [.ref fd, .ref ds, .ref po, .int (nI 0), .int (nI 0), .int (nI 0)])), (mo, .inr (9, [.int (nI 0), .ref rpx, .int (nI 0), .ref rca, .ref rpl, .ref rth, .ref rco, .ref rsh, .ref rsf, .ref rcr, .ref rep, .ref rby, .ref rli, .ref rls, .ref rla, .ref rcm, .ref rcs, .ref rpa, .ref rpm, .ref rpo, .ref rti, .ref rre, .ref rcl, .int (nI 0), .int (nI 0), .int (nI 0), .int (nI 0)])), (rco, .inl (cZ, 3, .inl (nF (fun _ => 0)))), (rcr, .inl (cI, 3, .inl (nF (fun _ => 0))))]) (hS : va_S (fun q : Nat => s.heap.size ≤ q) s.heap H locs) (hl : lv_has ls 7 [(0, .ref b), (1, .ref ts), (2, .ref mo), (3, .ref ou), (4, .int (nI 0))]) : W p l e room_1 s m #[Value.ref b] below meth c H locs 106 155700 (lw_Z below #[Value.ref b] s) (F0 m 370 ls []) := by
  obtain ⟨hx, hb, hr, hml, hown, hts, hX, hbl, hlocks, hgv⟩ := id C0
  have hA : ∀ q : Nat, s.heap.size ≤ q → (fun q : Nat => s.heap.size ≤ q) q := fun _ h => h
  have hbA : ¬ (fun q : Nat => s.heap.size ≤ q) b := Nat.not_le.mpr hbl
  have htb : ∀ w ∈ TB, w.before #[Value.ref b] s = true := fun w hw => hts w (List.mem_filter.mp hw).1
  have Bd : bd p c code 7 s #[Value.ref b] TB "TileScreenLaw" m := ⟨hx, hb, hml, hown, htb⟩
  refine lv_aload_n hx hb d_Law_law_370 rfl (lv_at hl 1 rfl) ?_
  refine lv_aload_n hx hb d_Law_law_371 rfl (lv_at hl 0 rfl) ?_
  refine lv_iload hx hb d_Law_law_372 (lv_at hl 4 rfl) ?_
  refine lv_iconst (v := nI 1) hx hb d_Law_law_374 (by decide) ?_
  refine nv_iadd hx hb d_Law_law_375 ?_
  refine nv_top (y := nI 1) rfl ?_
  refine va_sld hx hb hX hbl hbA hS (vp_in_nI (show 1 < L by omega) (by omega)) d_Law_law_376 ?_
  refine nv_top (y := (nI k)) ((congrArg xs (nI_clamp (by decide))).trans e1) ?_
  refine lv_aload_n hx hb d_Law_law_377 rfl (lv_at hl 0 rfl) ?_
  refine lv_iload hx hb d_Law_law_378 (lv_at hl 4 rfl) ?_
  refine lv_iconst (v := nI 2) hx hb d_Law_law_380 (by decide) ?_
  refine nv_iadd hx hb d_Law_law_381 ?_
  refine nv_top (y := nI 2) rfl ?_
  refine va_sld hx hb hX hbl hbA hS (vp_in_nI (show 2 < L by omega) (by omega)) d_Law_law_382 ?_
  refine nv_top (y := (nI n)) ((congrArg xs (nI_clamp (by decide))).trans e2) ?_
  refine lv_aload_n hx hb d_Law_law_383 rfl (lv_at hl 3 rfl) ?_
  have hFc := va_free (wc := [(ts, .inr (8, [.ref dr, .ref cl, .ref cp, .ref vs, .int (nI 0)])), (vs, .inl (cV, 3, .inr (.inr (.inr (.inr vf))))), (vw, .inr (7, [.ref fd, .ref ds, .ref po, .int (nI 0), .int (nI 0), .int (nI 0)]))]) hD hS hA [0, 1, 2] rfl
  have hXh := hXo.kept hS.2.1
  refine vx_calli (vx_runSX (As := [.ref ts, .int (nI k), .int (nI n), .ref ou]) (rest := []) (hh := H_credit) Bd ((c_Law_credit_S (c_Scr_credit_st hst ts dr cl cp vs 0 vf k vw fd ds po 0 0 0 n hk hvf hn1 hn2 (by decide) (by decide) (fun h => h.1 rfl)) [0, 1, 2] rfl (by decide) rfl) H.size) (vx_cwSW 4 htb (gi_app (gi_c0 k_536 (gi_c0 k_537 (gi_c0 k_0 gi_nil))) (gi_tb0 k_538)) rfl rfl rfl ⟨by decide, by decide, by decide +kernel⟩ ⟨by decide +kernel, by decide +kernel⟩) ⟨xPre.blind, fun U hU hW => ⟨k_pre hG hP hD [0, 1, 2] rfl (by decide) U hU hW, by rw [hU]; exact (hXh.warm hW).narrow hFc⟩⟩ rfl rfl hl.1 rfl (lv_room (Nat.le_of_ble_eq_true rfl)) d_Law_law_384 ⟨by decide +kernel, by decide +kernel⟩) hS (fun q _ h => hFc q h) hFc (fun q _ h => hFc q h) (fun E9 ce q9 u t H1 locs1 ht hal hpx => hpx.elim) (fun r u t H locs ht hal hw hB hz1 hk1 hS => ?_)
  obtain ⟨hP1, hD1⟩ := hB
  rw [ht] at hP1
  obtain ⟨hP, hD⟩ := va_join (wr := [(mo, .inr (9, [.int (nI 0), .ref rpx, .int (nI 0), .ref rca, .ref rpl, .ref rth, .ref rco, .ref rsh, .ref rsf, .ref rcr, .ref rep, .ref rby, .ref rli, .ref rls, .ref rla, .ref rcm, .ref rcs, .ref rpa, .ref rpm, .ref rpo, .ref rti, .ref rre, .ref rcl, .int (nI 0), .int (nI 0), .int (nI 0), .int (nI 0)])), (rco, .inl (cZ, 3, .inl (nF (fun _ => 0)))), (rcr, .inl (cI, 3, .inl (nF (fun _ => 0))))]) (w1 := [(ts, .inr (8, [.ref dr, .ref cl, .ref cp, .ref vs, .int (nI 0)])), (vs, .inl (cV, 3, .inr (.inr (.inr (.inr vf))))), (vw, .inr (7, [.ref fd, .ref ds, .ref po, .int (nI 0), .int (nI 0), .int (nI 0)]))]) hP hD [0, 1, 2] [3, 4, 5] rfl rfl (by decide) (by decide) hk1 hFc hP1 hD1
  subst hw
  have hP : va_P D classes [(mo, .inr (9, [.int (nI 0), .ref rpx, .int (nI 0), .ref rca, .ref rpl, .ref rth, .ref rco, .ref rsh, .ref rsf, .ref rcr, .ref rep, .ref rby, .ref rli, .ref rls, .ref rla, .ref rcm, .ref rcs, .ref rpa, .ref rpm, .ref rpo, .ref rti, .ref rre, .ref rcl, .int (nI 0), .int (nI 0), .int (nI 0), .int (nI 0)])), (rco, .inl (cZ, 3, .inl (nF (fun _ => 0)))), (rcr, .inl (cI, 3, .inl (nF (fun _ => 0)))), (ts, .inr (8, [.ref dr, .ref cl, .ref cp, .ref vs, .int (nI 0)])), (vs, .inl (cV, 3, .inr (.inr (.inr (.inr vf))))), (vw, .inr (7, [.ref fd, .ref ds, .ref po, .int (nI 0), .int (nI 0), .int (nI 0)]))] H := hP
  have hD : va_D (fun q : Nat => s.heap.size ≤ q) [(mo, .inr (9, [.int (nI 0), .ref rpx, .int (nI 0), .ref rca, .ref rpl, .ref rth, .ref rco, .ref rsh, .ref rsf, .ref rcr, .ref rep, .ref rby, .ref rli, .ref rls, .ref rla, .ref rcm, .ref rcs, .ref rpa, .ref rpm, .ref rpo, .ref rti, .ref rre, .ref rcl, .int (nI 0), .int (nI 0), .int (nI 0), .int (nI 0)])), (rco, .inl (cZ, 3, .inl (nF (fun _ => 0)))), (rcr, .inl (cI, 3, .inl (nF (fun _ => 0)))), (ts, .inr (8, [.ref dr, .ref cl, .ref cp, .ref vs, .int (nI 0)])), (vs, .inl (cV, 3, .inr (.inr (.inr (.inr vf))))), (vw, .inr (7, [.ref fd, .ref ds, .ref po, .int (nI 0), .int (nI 0), .int (nI 0)]))] := hD
  refine W.widen (k := 107) (n := 155706) (Nat.le_of_ble_eq_true rfl) (Nat.le_of_ble_eq_true rfl) ?_
  refine lv_istore (lv' := [(5, .int (nI 2)), (0, .ref b), (1, .ref ts), (2, .ref mo), (3, .ref ou), (4, .int (nI 0))]) hx hb d_Law_law_387 hl (by decide) rfl (fun ls hl => ?_)
  refine lv_aload_n hx hb d_Law_law_389 rfl (lv_at hl 3 rfl) ?_
  refine lv_aload_n hx hb d_Law_law_390 rfl (lv_at hl 1 rfl) ?_
  refine lv_iload hx hb d_Law_law_391 (lv_at hl 5 rfl) ?_
  refine lv_iconst (v := nI 1) hx hb d_Law_law_393 (by decide) ?_
  refine nv_iadd hx hb d_Law_law_394 ?_
  refine nv_top (y := nI 1) rfl ?_
  refine va_sld hx hb hX hbl hbA hS (vp_in_nI (show 1 < L by omega) (by omega)) d_Law_law_395 ?_
  refine nv_top (y := (nI k)) ((congrArg xs (nI_clamp (by decide))).trans e1) ?_
  refine lv_aload_n hx hb d_Law_law_396 rfl (lv_at hl 1 rfl) ?_
  refine lv_iload hx hb d_Law_law_397 (lv_at hl 5 rfl) ?_
  refine lv_iconst (v := nI 2) hx hb d_Law_law_399 (by decide) ?_
  refine nv_iadd hx hb d_Law_law_400 ?_
  refine nv_top (y := nI 2) rfl ?_
  refine va_sld hx hb hX hbl hbA hS (vp_in_nI (show 2 < L by omega) (by omega)) d_Law_law_401 ?_
  refine nv_top (y := (nI n)) ((congrArg xs (nI_clamp (by decide))).trans e2) ?_
  refine kV_i (wc := [(mo, .inr (9, [.int (nI 0), .ref rpx, .int (nI 0), .ref rca, .ref rpl, .ref rth, .ref rco, .ref rsh, .ref rsf, .ref rcr, .ref rep, .ref rby, .ref rli, .ref rls, .ref rla, .ref rcm, .ref rcs, .ref rpa, .ref rpm, .ref rpo, .ref rti, .ref rre, .ref rcl, .int (nI 0), .int (nI 0), .int (nI 0), .int (nI 0)])), (rco, .inl (cZ, 3, .inl (nF (fun _ => 0)))), (rcr, .inl (cI, 3, .inl (nF (fun _ => 0))))]) (wr := [(ts, .inr (8, [.ref dr, .ref cl, .ref cp, .ref vs, .int (nI 0)])), (vs, .inl (cV, 3, .inr (.inr (.inr (.inr vf))))), (vw, .inr (7, [.ref fd, .ref ds, .ref po, .int (nI 0), .int (nI 0), .int (nI 0)]))]) (w2 := fun _ => [(mo, .inr (9, [.int (nI 2), .ref rpx, .int (nI 0), .ref rca, .ref rpl, .ref rth, .ref rco, .ref rsh, .ref rsf, .ref rcr, .ref rep, .ref rby, .ref rli, .ref rls, .ref rla, .ref rcm, .ref rcs, .ref rpa, .ref rpm, .ref rpo, .ref rti, .ref rre, .ref rcl, .int (nI 0), .int (nI 0), .int (nI 0), .int (nI 0)])), (rco, .inl (cZ, 3, .inl (nF (fun _ => 0)))), (rcr, .inl (cI, 3, .inl (nF (fun _ => 0)))), (ts, .inr (8, [.ref dr, .ref cl, .ref cp, .ref vs, .int (nI 0)])), (vs, .inl (cV, 3, .inr (.inr (.inr (.inr vf))))), (vw, .inr (7, [.ref fd, .ref ds, .ref po, .int (nI 0), .int (nI 0), .int (nI 0)]))]) [.int (nI k), .int (nI n)] [] Bd ⟨gi_app (gi_c0 k_768 (gi_c0 k_769 (gi_c0 k_770 (gi_c0 k_10 gi_nil)))) (gi_tb0 k_771), rfl, by decide, by decide⟩ (show (parseMethodDescriptor "(II)I").map (fun d => d.parameters.length) = some 2 by decide +kernel) (c_Mod_credit_st mo (nI 0) rpx (nI 0) rca rpl rth rco rsh rsf rcr rep rby rli rls rla rcm rcs rpa rpm rpo rti rre rcl 0 0 0 0 (fun _ => 0) (fun _ => 0) k n (hk) (zlt (by decide)) (zle) (by omega) (by omega) (fun h => h.1 rfl)) (by decide +kernel) ⟨Nat.le_of_ble_eq_true rfl, Nat.le_of_ble_eq_true rfl⟩ hG hP hD hS hA [0, 1, 2] [3, 4, 5] [3, 4, 5, 0, 1, 2] (by decide) rfl rfl (fun _ => rfl) (q0 := 0) rfl rfl rfl hl.1 rfl (Nat.le_of_ble_eq_true rfl) d_Law_law_402 (fun r1 u3 H locs hp2 hP hD hS => ?_)
  have hP : va_P D classes [(mo, .inr (9, [.int (nI 2), .ref rpx, .int (nI 0), .ref rca, .ref rpl, .ref rth, .ref rco, .ref rsh, .ref rsf, .ref rcr, .ref rep, .ref rby, .ref rli, .ref rls, .ref rla, .ref rcm, .ref rcs, .ref rpa, .ref rpm, .ref rpo, .ref rti, .ref rre, .ref rcl, .int (nI 0), .int (nI 0), .int (nI 0), .int (nI 0)])), (rco, .inl (cZ, 3, .inl (nF (fun _ => 0)))), (rcr, .inl (cI, 3, .inl (nF (fun _ => 0)))), (ts, .inr (8, [.ref dr, .ref cl, .ref cp, .ref vs, .int (nI 0)])), (vs, .inl (cV, 3, .inr (.inr (.inr (.inr vf))))), (vw, .inr (7, [.ref fd, .ref ds, .ref po, .int (nI 0), .int (nI 0), .int (nI 0)]))] H := hP
  have hD : va_D (fun q : Nat => s.heap.size ≤ q) [(mo, .inr (9, [.int (nI 2), .ref rpx, .int (nI 0), .ref rca, .ref rpl, .ref rth, .ref rco, .ref rsh, .ref rsf, .ref rcr, .ref rep, .ref rby, .ref rli, .ref rls, .ref rla, .ref rcm, .ref rcs, .ref rpa, .ref rpm, .ref rpo, .ref rti, .ref rre, .ref rcl, .int (nI 0), .int (nI 0), .int (nI 0), .int (nI 0)])), (rco, .inl (cZ, 3, .inl (nF (fun _ => 0)))), (rcr, .inl (cI, 3, .inl (nF (fun _ => 0)))), (ts, .inr (8, [.ref dr, .ref cl, .ref cp, .ref vs, .int (nI 0)])), (vs, .inl (cV, 3, .inr (.inr (.inr (.inr vf))))), (vw, .inr (7, [.ref fd, .ref ds, .ref po, .int (nI 0), .int (nI 0), .int (nI 0)]))] := hD
  subst hp2
  refine lv_istore (lv' := [(6, .int (nI 0)), (5, .int (nI 2)), (0, .ref b), (1, .ref ts), (2, .ref mo), (3, .ref ou), (4, .int (nI 0))]) hx hb d_Law_law_405 hl (by decide) rfl (fun ls hl => ?_)
  refine lv_aload_n hx hb d_Law_law_407 rfl (lv_at hl 4 rfl) ?_
  refine kV_i (wc := [(mo, .inr (9, [.int (nI 2), .ref rpx, .int (nI 0), .ref rca, .ref rpl, .ref rth, .ref rco, .ref rsh, .ref rsf, .ref rcr, .ref rep, .ref rby, .ref rli, .ref rls, .ref rla, .ref rcm, .ref rcs, .ref rpa, .ref rpm, .ref rpo, .ref rti, .ref rre, .ref rcl, .int (nI 0), .int (nI 0), .int (nI 0), .int (nI 0)]))]) (wr := [(rco, .inl (cZ, 3, .inl (nF (fun _ => 0)))), (rcr, .inl (cI, 3, .inl (nF (fun _ => 0)))), (ts, .inr (8, [.ref dr, .ref cl, .ref cp, .ref vs, .int (nI 0)])), (vs, .inl (cV, 3, .inr (.inr (.inr (.inr vf))))), (vw, .inr (7, [.ref fd, .ref ds, .ref po, .int (nI 0), .int (nI 0), .int (nI 0)]))]) (w2 := fun _ => [(mo, .inr (9, [.int (nI 2), .ref rpx, .int (nI 0), .ref rca, .ref rpl, .ref rth, .ref rco, .ref rsh, .ref rsf, .ref rcr, .ref rep, .ref rby, .ref rli, .ref rls, .ref rla, .ref rcm, .ref rcs, .ref rpa, .ref rpm, .ref rpo, .ref rti, .ref rre, .ref rcl, .int (nI 0), .int (nI 0), .int (nI 0), .int (nI 0)])), (rco, .inl (cZ, 3, .inl (nF (fun _ => 0)))), (rcr, .inl (cI, 3, .inl (nF (fun _ => 0)))), (ts, .inr (8, [.ref dr, .ref cl, .ref cp, .ref vs, .int (nI 0)])), (vs, .inl (cV, 3, .inr (.inr (.inr (.inr vf))))), (vw, .inr (7, [.ref fd, .ref ds, .ref po, .int (nI 0), .int (nI 0), .int (nI 0)]))]) [] [] Bd ⟨gi_app (gi_c0 k_718 (gi_c0 k_719 (gi_c0 k_720 (gi_c0 k_10 gi_nil)))) (gi_tb0 k_721), rfl, by decide, by decide⟩ (show (parseMethodDescriptor "()I").map (fun d => d.parameters.length) = some 0 by decide +kernel) (c_Mod_thrown mo (nI 2) rpx (nI 0) rca rpl rth rco rsh rsf rcr rep rby rli rls rla rcm rcs rpa rpm rpo rti rre rcl 0 0 0 0 ) (by decide +kernel) ⟨Nat.le_of_ble_eq_true rfl, Nat.le_of_ble_eq_true rfl⟩ hG hP hD hS hA [0] [1, 2, 3, 4, 5] [5, 0, 1, 2, 3, 4] (by decide) rfl rfl (fun _ => rfl) (q0 := 0) rfl rfl rfl hl.1 rfl (Nat.le_of_ble_eq_true rfl) d_Law_law_408 (fun r4 u6 H locs hp5 hP hD hS => ?_)
  have hP : va_P D classes [(mo, .inr (9, [.int (nI 2), .ref rpx, .int (nI 0), .ref rca, .ref rpl, .ref rth, .ref rco, .ref rsh, .ref rsf, .ref rcr, .ref rep, .ref rby, .ref rli, .ref rls, .ref rla, .ref rcm, .ref rcs, .ref rpa, .ref rpm, .ref rpo, .ref rti, .ref rre, .ref rcl, .int (nI 0), .int (nI 0), .int (nI 0), .int (nI 0)])), (rco, .inl (cZ, 3, .inl (nF (fun _ => 0)))), (rcr, .inl (cI, 3, .inl (nF (fun _ => 0)))), (ts, .inr (8, [.ref dr, .ref cl, .ref cp, .ref vs, .int (nI 0)])), (vs, .inl (cV, 3, .inr (.inr (.inr (.inr vf))))), (vw, .inr (7, [.ref fd, .ref ds, .ref po, .int (nI 0), .int (nI 0), .int (nI 0)]))] H := hP
  have hD : va_D (fun q : Nat => s.heap.size ≤ q) [(mo, .inr (9, [.int (nI 2), .ref rpx, .int (nI 0), .ref rca, .ref rpl, .ref rth, .ref rco, .ref rsh, .ref rsf, .ref rcr, .ref rep, .ref rby, .ref rli, .ref rls, .ref rla, .ref rcm, .ref rcs, .ref rpa, .ref rpm, .ref rpo, .ref rti, .ref rre, .ref rcl, .int (nI 0), .int (nI 0), .int (nI 0), .int (nI 0)])), (rco, .inl (cZ, 3, .inl (nF (fun _ => 0)))), (rcr, .inl (cI, 3, .inl (nF (fun _ => 0)))), (ts, .inr (8, [.ref dr, .ref cl, .ref cp, .ref vs, .int (nI 0)])), (vs, .inl (cV, 3, .inr (.inr (.inr (.inr vf))))), (vw, .inr (7, [.ref fd, .ref ds, .ref po, .int (nI 0), .int (nI 0), .int (nI 0)]))] := hD
  subst hp5
  refine lv_iload hx hb d_Law_law_411 (lv_at hl 1 rfl) ?_
  refine lv_icmp_eq (tgt := 418) hx hb d_Law_law_413 (by decide) (fun c_413 => ?_) (fun c_413 => ?_)
  · refine lv_iload hx hb d_Law_law_418 (lv_at hl 1 rfl) ?_
    refine nv_if_ne (tgt := 435) hx hb d_Law_law_420 (by decide) (by decide) (fun _ => ?_) (fun h9 => absurd h9 (by decide))
    refine lv_goto (tgt := 697) hx hb d_Law_law_435 (by decide) ?_
    exact law_endX hL C0 hS (lv_sub hl [2, 6] rfl)
  · exact absurd rfl c_413
end
